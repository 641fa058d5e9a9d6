/-! least lengths -/
def rkn (n : Nat) (R : Nat → Nat) (t : Nat) : Nat := sumN (fun u => if R u < R t then 1 else 0) n
theorem rkn_lt {n : Nat} {R : Nat → Nat} {p t : Nat} (hp : p < n) (h : R p < R t) : rkn n R p < rkn n R t := by
  refine sum_lt (q := p) n hp (fun u _ => ?_) ?_
  · show (if R u < R p then 1 else 0) ≤ (if R u < R t then 1 else 0)
    split <;> split <;> omega
  · show (if R p < R p then 1 else 0) < (if R p < R t then 1 else 0)
    rw [if_pos h, if_neg (Nat.lt_irrefl _)]
    exact Nat.one_pos
theorem sum_1 : ∀ n, sumN (fun _ => 1) n = n := by
  intro n
  induction n with
  | zero => rfl
  | succ n ih => show sumN (fun _ => 1) n + 1 = n + 1; rw [ih]
theorem rkn_n {n : Nat} {R : Nat → Nat} {t : Nat} (ht : t < n) : rkn n R t < n := by
  have h := sum_lt (G := fun _ => 1) (G' := fun u => if R u < R t then 1 else 0) (q := t) n ht (fun u _ => by show (if R u < R t then 1 else 0) ≤ 1; split <;> omega) (by show (if R t < R t then 1 else 0) < 1; rw [if_neg (Nat.lt_irrefl _)]; exact Nat.one_pos)
  rw [sum_1] at h
  exact h
/-- lengths between n places, K where they are apart, steps of L at most -/
def Mt (n K L : Nat) (D : Nat → Nat → Nat) : Prop := (∀ i j, i < n → j < n → D i j = D j i) ∧ (∀ i, i < n → D i i = 0) ∧ (∀ i j k, i < n → j < n → k < n → D i k ≤ D i j + D j k) ∧ (∀ i j, i < n → j < n → D i j ≤ K) ∧ ∀ p q, p < n → q < n → p ≠ q → D p q < K → ∃ u, u < n ∧ D p u < D p q ∧ D u q ≤ L
theorem mt_bd {n K L : Nat} {D : Nat → Nat → Nat} (h : Mt n K L D) {p : Nat} (hp : p < n) : ∀ m q, q < n → rkn n (D p) q < m → D p q < K → D p q ≤ L * rkn n (D p) q := by
  intro m
  induction m with
  | zero => intro q _ h; omega
  | succ m ih =>
    intro q hq hm hK
    by_cases c : p = q
    · subst c
      rw [h.2.1 p hp]; exact Nat.zero_le _
    · obtain ⟨u, hu, h1, h2⟩ := h.2.2.2.2 p q hp hq c hK
      have h3 := rkn_lt (n := n) (R := D p) hu h1
      have h4 := ih u hu (by omega) (by omega)
      have h5 := h.2.2.1 p u q hp hu hq
      have h6 : L * (rkn n (D p) u + 1) ≤ L * rkn n (D p) q := Nat.mul_le_mul_left L (by omega)
      rw [Nat.mul_succ] at h6
      omega
theorem mt_b {n K L : Nat} {D : Nat → Nat → Nat} (h : Mt n K L D) {p q : Nat} (hp : p < n) (hq : q < n) (hK : D p q < K) : D p q ≤ L * n := by
  have h1 := mt_bd h hp (rkn n (D p) q + 1) q hq (Nat.lt_succ_self _) hK
  have h2 := Nat.mul_le_mul_left L (Nat.le_of_lt (rkn_n (R := D p) hq))
  omega
def jnD (D : Nat → Nat → Nat) (a b l i j : Nat) : Nat := min (D i j) (min (D i a + l + D b j) (D i b + l + D a j))
theorem jn_mt {n K L a b l : Nat} {D : Nat → Nat → Nat} (h : Mt n K L D) (ha : a < n) (hb : b < n) (hab : a ≠ b) (h1 : 1 ≤ l) (hl : l ≤ L) : Mt n K L (jnD D a b l) := by
  obtain ⟨s, z, t, k, u⟩ := h
  refine ⟨fun i j hi hj => ?_, fun i hi => ?_, fun i j m hi hj hm => ?_, fun i j hi hj => ?_, fun p q hp hq hpq hK => ?_⟩
  · have e1 := s i j hi hj
    have e2 := s i a hi ha
    have e3 := s b j hb hj
    have e4 := s i b hi hb
    have e5 := s a j ha hj
    unfold jnD
    omega
  · have e1 := z i hi
    unfold jnD
    omega
  · have e1 := t i j m hi hj hm
    have e2 := t i a m hi ha hm
    have e3 := t i b m hi hb hm
    have e4 := t i j a hi hj ha
    have e5 := t i j b hi hj hb
    have e6 := t b j m hb hj hm
    have e7 := t a j m ha hj hm
    have e8 := s a j ha hj
    have e9 := s b j hb hj
    unfold jnD
    omega
  · have e1 := k i j hi hj
    unfold jnD
    omega
  · have z1 := z a ha
    have z2 := z b hb
    have z3 := z p hp
    by_cases c : jnD D a b l p q = D p q
    · rw [c] at hK ⊢
      obtain ⟨v, hv, q1, q2⟩ := u p q hp hq hpq hK
      refine ⟨v, hv, ?_, ?_⟩
      · unfold jnD; omega
      · unfold jnD; omega
    · have hc : jnD D a b l p q = D p a + l + D b q ∨ jnD D a b l p q = D p b + l + D a q := by
        unfold jnD at c ⊢
        omega
      have hk := k p q hp hq
      have hlt : jnD D a b l p q < D p q := by
        unfold jnD at c ⊢
        omega
      rcases hc with hc | hc
      · by_cases e : b = q
        · refine ⟨a, ha, ?_, ?_⟩
          · rw [hc]; unfold jnD; omega
          · rw [← e]; unfold jnD; omega
        · obtain ⟨v, hv, q1, q2⟩ := u b q hb hq e (by omega)
          refine ⟨v, hv, ?_, ?_⟩
          · rw [hc]; unfold jnD; omega
          · unfold jnD; omega
      · by_cases e : a = q
        · refine ⟨b, hb, ?_, ?_⟩
          · rw [hc]; unfold jnD; omega
          · rw [← e]; unfold jnD; omega
        · obtain ⟨v, hv, q1, q2⟩ := u a q ha hq e (by omega)
          refine ⟨v, hv, ?_, ?_⟩
          · rw [hc]; unfold jnD; omega
          · unfold jnD; omega
/-- on the way from the lengths to the joined ones, place by place -/
def JI (D : Nat → Nat → Nat) (a b l n i j : Nat) (E : Nat → Nat → Nat) : Prop := (∀ p q, p < n → q < n → jnD D a b l p q ≤ E p q ∧ E p q ≤ D p q) ∧ ∀ p q, p < n → q < n → (p < i ∨ p = i ∧ q < j) → E p q = jnD D a b l p q
def updE (E : Nat → Nat → Nat) (i j v : Nat) : Nat → Nat → Nat := fun p q => if p = i ∧ q = j then v else E p q
theorem ji_0 {D : Nat → Nat → Nat} {a b l n : Nat} : JI D a b l n 0 0 D := ⟨fun p q _ _ => ⟨by unfold jnD; omega, Nat.le_refl _⟩, fun p q _ _ h => by omega⟩
theorem ji_row {D : Nat → Nat → Nat} {a b l n i : Nat} {E : Nat → Nat → Nat} (h : JI D a b l n i n E) : JI D a b l n (i + 1) 0 E := ⟨h.1, fun p q hp hq c => h.2 p q hp hq (by omega)⟩
theorem ji_end {D : Nat → Nat → Nat} {a b l n : Nat} {E : Nat → Nat → Nat} (h : JI D a b l n n 0 E) {p q : Nat} (hp : p < n) (hq : q < n) : E p q = jnD D a b l p q := h.2 p q hp hq (Or.inl hp)
theorem ji_v {n K L a b l i j : Nat} {D E : Nat → Nat → Nat} (h : Mt n K L D) (ha : a < n) (hb : b < n) (hab : a ≠ b) (h1 : 1 ≤ l) (hl : l ≤ L) (hi : i < n) (hj : j < n) (hE : JI D a b l n i j E) : min (E i j) (min (E i a + l + E b j) (E i b + l + E a j)) = jnD D a b l i j := by
  have hm := jn_mt h ha hb hab h1 hl
  have t1 := hm.2.2.1 i a j hi ha hj
  have t2 := hm.2.2.1 a b j ha hb hj
  have t3 := hm.2.2.1 i b j hi hb hj
  have t4 := hm.2.2.1 b a j hb ha hj
  have s1 := hm.1 a b ha hb
  have z1 := h.2.1 a ha
  have z2 := h.2.1 b hb
  have l1 : jnD D a b l a b ≤ l := by unfold jnD; omega
  have e1 := hE.1 i j hi hj
  have e2 := hE.1 i a hi ha
  have e3 := hE.1 b j hb hj
  have e4 := hE.1 i b hi hb
  have e5 := hE.1 a j ha hj
  have u1 : jnD D a b l i j = min (D i j) (min (D i a + l + D b j) (D i b + l + D a j)) := rfl
  omega
theorem ji_s {n a b l i j v : Nat} {D E : Nat → Nat → Nat} (hv : v = jnD D a b l i j) (hE : JI D a b l n i j E) : JI D a b l n i (j + 1) (updE E i j v) := by
  refine ⟨fun p q hp hq => ?_, fun p q hp hq c => ?_⟩
  · have h1 := hE.1 p q hp hq
    unfold updE
    split
    · rename_i e
      rw [hv, e.1, e.2]
      rw [e.1, e.2] at h1
      omega
    · exact h1
  · unfold updE
    split
    · rename_i e
      rw [hv, e.1, e.2]
    · exact hE.2 p q hp hq (by omega)
theorem imin_N {a b : Nat} (ha : a < 2 ^ 31) (hb : b < 2 ^ 31) : imin (nI a) (nI b) = nI (min a b) := by
  unfold imin
  by_cases h : a < b
  · rw [if_pos ((nI_ltI ha hb).mpr h)]; congr 1; omega
  · rw [if_neg (fun q => h ((nI_ltI ha hb).mp q))]; congr 1; omega
theorem imax_N {a b : Nat} (ha : a < 2 ^ 31) (hb : b < 2 ^ 31) : imax (nI a) (nI b) = nI (max a b) := by
  unfold imax
  by_cases h : b < a
  · rw [if_pos ((nI_ltI hb ha).mpr h)]; congr 1; omega
  · rw [if_neg (fun q => h ((nI_ltI hb ha).mp q))]; congr 1; omega
def dJ (x : Nat) : Int32 := if 100000000 ≤ x then -1 else nI x
theorem lp_joinInL {f : HI} {D : Nat → Nat → Nat} {a b l : Nat} (hsz : f 3 0 = 10) (hD : Mt 10 100000000 200 D) (ha : a < 10) (hb : b < 10) (hab : a ≠ b) (h1 : 1 ≤ l) (hl : l ≤ 200) {i : Nat} (hi : i < 10) (K : ∀ (g : Nat → Int32) (E : Nat → Nat → Nat), (∀ p q, p < 10 → q < 10 → g (p * 10 + q) = nI (E p q)) → JI D a b l 10 (i + 1) 0 E → wq 2 11 (fun v f' => ∃ g, v = none ∧ f' = up1 f 4 g ∧ ∀ p q, p < 10 → q < 10 → g (p * 10 + q) = nI (jnD D a b l p q)) 3 [(0, .ref 3), (1, .int (nI a)), (2, .int (nI b)), (3, .int (nI l)), (4, .int (nI (i + 1)))] [] (up1 f 4 g)) : ∀ (m9 : Nat) (j : Nat) (g : Nat → Int32) (E : Nat → Nat → Nat), (j ≤ 10) → (∀ p q, p < 10 → q < 10 → g (p * 10 + q) = nI (E p q)) → (JI D a b l 10 i j E) → 10 - j < m9 → wq 2 11 (fun v f' => ∃ g, v = none ∧ f' = up1 f 4 g ∧ ∀ p q, p < 10 → q < 10 → g (p * 10 + q) = nI (jnD D a b l p q)) 15 [(0, .ref 3), (1, .int (nI a)), (2, .int (nI b)), (3, .int (nI l)), (4, .int (nI i)), (5, .int (nI j))] [] (up1 f 4 g) := by
  intro m9
  induction m9 with
  | zero => intro j g E hj hg hE hn; exact absurd hn (Nat.not_lt_zero _)
  | succ m9 ih =>
    intro j g E hj hg hE hn
    refine wq_run3 (pc' := 21) (L' := [(0, .ref 3), (1, .int (nI a)), (2, .int (nI b)), (3, .int (nI l)), (4, .int (nI i)), (5, .int (nI j))]) (S' := [.int (f 3 0), .int (nI j)]) (f' := (up1 f 4 g)) rfl ?_
    refine wq_v (y := 10) (hsz) ?_
    refine wq_if (c := 10 ≤ (nI j)) (p1 := 136) (L1 := [(0, .ref 3), (1, .int (nI a)), (2, .int (nI b)), (3, .int (nI l)), (4, .int (nI i)), (5, .int (nI j))]) (S1 := []) (p2 := 24) (L2 := [(0, .ref 3), (1, .int (nI a)), (2, .int (nI b)), (3, .int (nI l)), (4, .int (nI i)), (5, .int (nI j))]) (S2 := []) rfl (fun c_21 => ?_) (fun c_21 => ?_)
    · have k_21 : 10 ≤ j := (nI_leI (a := 10) (b := j) (by omega) (by omega)).mp c_21
      refine wq_run1 (pc' := 139) (L' := [(0, .ref 3), (1, .int (nI a)), (2, .int (nI b)), (3, .int (nI l)), (4, .int ((nI i) + 1)), (5, .int (nI j))]) (S' := []) (f' := (up1 f 4 g)) rfl ?_
      refine wq_L (L' := [(0, .ref 3), (1, .int (nI a)), (2, .int (nI b)), (3, .int (nI l)), (4, .int (nI (i + 1))), (5, .int (nI j))]) (by rw [show nI i + 1 = nI (i + 1) from nI_add _ _]) ?_
      refine wq_run1 (pc' := 3) (L' := [(0, .ref 3), (1, .int (nI a)), (2, .int (nI b)), (3, .int (nI l)), (4, .int (nI (i + 1)))]) (S' := []) (f' := (up1 f 4 g)) rfl ?_
      have e : j = 10 := by omega
      rw [e] at hE
      exact K g E hg (ji_row hE)
    · have k_21 : ¬ 10 ≤ j := fun q => c_21 ((nI_leI (a := 10) (b := j) (by omega) (by omega)).mpr q)
      refine wq_run5 (pc' := 34) (L' := [(0, .ref 3), (1, .int (nI a)), (2, .int (nI b)), (3, .int (nI l)), (4, .int (nI i)), (5, .int (nI j))]) (S' := [.int (f 3 0), .int (nI i), .ref 4]) (f' := (up1 f 4 g)) rfl ?_
      refine wq_v (y := 10) (hsz) ?_
      refine wq_run1 (pc' := 35) (L' := [(0, .ref 3), (1, .int (nI a)), (2, .int (nI b)), (3, .int (nI l)), (4, .int (nI i)), (5, .int (nI j))]) (S' := [.int ((nI i) * 10), .ref 4]) (f' := (up1 f 4 g)) rfl ?_
      refine wq_v (y := (nI (i * 10))) (pk_mul i 10) ?_
      refine wq_run2 (pc' := 37) (L' := [(0, .ref 3), (1, .int (nI a)), (2, .int (nI b)), (3, .int (nI l)), (4, .int (nI i)), (5, .int (nI j))]) (S' := [.int ((nI (i * 10)) + (nI a)), .ref 4]) (f' := (up1 f 4 g)) rfl ?_
      refine wq_v (y := (nI ((i * 10) + a))) (nI_add (i * 10) a) ?_
      have hb_ := (hE.1 i a (by omega) (by omega)).2
      have hk_ := hD.2.2.2.1 i a (by omega) (by omega)
      refine wq_ald (j := ((i * 10) + a)) (n := 100) (v := (nI (E i a))) rfl rfl rfl rfl (by omega) (Nat.le_of_ble_eq_true rfl) (hg i a (by omega) (by omega)) ?_
      refine wq_run2 (pc' := 40) (L' := [(0, .ref 3), (1, .int (nI a)), (2, .int (nI b)), (3, .int (nI l)), (4, .int (nI i)), (5, .int (nI j))]) (S' := [.int ((nI (E i a)) + (nI l))]) (f' := (up1 f 4 g)) rfl ?_
      refine wq_v (y := (nI ((E i a) + l))) (nI_add (E i a) l) ?_
      refine wq_run5 (pc' := 49) (L' := [(0, .ref 3), (1, .int (nI a)), (2, .int (nI b)), (3, .int (nI l)), (4, .int (nI i)), (5, .int (nI j))]) (S' := [.int (f 3 0), .int (nI b), .ref 4, .int (nI ((E i a) + l))]) (f' := (up1 f 4 g)) rfl ?_
      refine wq_v (y := 10) (hsz) ?_
      refine wq_run1 (pc' := 50) (L' := [(0, .ref 3), (1, .int (nI a)), (2, .int (nI b)), (3, .int (nI l)), (4, .int (nI i)), (5, .int (nI j))]) (S' := [.int ((nI b) * 10), .ref 4, .int (nI ((E i a) + l))]) (f' := (up1 f 4 g)) rfl ?_
      refine wq_v (y := (nI (b * 10))) (pk_mul b 10) ?_
      refine wq_run2 (pc' := 53) (L' := [(0, .ref 3), (1, .int (nI a)), (2, .int (nI b)), (3, .int (nI l)), (4, .int (nI i)), (5, .int (nI j))]) (S' := [.int ((nI (b * 10)) + (nI j)), .ref 4, .int (nI ((E i a) + l))]) (f' := (up1 f 4 g)) rfl ?_
      refine wq_v (y := (nI ((b * 10) + j))) (nI_add (b * 10) j) ?_
      have hb_ := (hE.1 b j (by omega) (by omega)).2
      have hk_ := hD.2.2.2.1 b j (by omega) (by omega)
      refine wq_ald (j := ((b * 10) + j)) (n := 100) (v := (nI (E b j))) rfl rfl rfl rfl (by omega) (Nat.le_of_ble_eq_true rfl) (hg b j (by omega) (by omega)) ?_
      refine wq_run1 (pc' := 55) (L' := [(0, .ref 3), (1, .int (nI a)), (2, .int (nI b)), (3, .int (nI l)), (4, .int (nI i)), (5, .int (nI j))]) (S' := [.int ((nI ((E i a) + l)) + (nI (E b j)))]) (f' := (up1 f 4 g)) rfl ?_
      refine wq_v (y := (nI (((E i a) + l) + (E b j)))) (nI_add ((E i a) + l) (E b j)) ?_
      refine wq_run6 (pc' := 67) (L' := [(0, .ref 3), (1, .int (nI a)), (2, .int (nI b)), (3, .int (nI l)), (4, .int (nI i)), (5, .int (nI j)), (6, .int (nI (((E i a) + l) + (E b j))))]) (S' := [.int (f 3 0), .int (nI i), .ref 4]) (f' := (up1 f 4 g)) rfl ?_
      refine wq_v (y := 10) (hsz) ?_
      refine wq_run1 (pc' := 68) (L' := [(0, .ref 3), (1, .int (nI a)), (2, .int (nI b)), (3, .int (nI l)), (4, .int (nI i)), (5, .int (nI j)), (6, .int (nI (((E i a) + l) + (E b j))))]) (S' := [.int ((nI i) * 10), .ref 4]) (f' := (up1 f 4 g)) rfl ?_
      refine wq_v (y := (nI (i * 10))) (pk_mul i 10) ?_
      refine wq_run2 (pc' := 70) (L' := [(0, .ref 3), (1, .int (nI a)), (2, .int (nI b)), (3, .int (nI l)), (4, .int (nI i)), (5, .int (nI j)), (6, .int (nI (((E i a) + l) + (E b j))))]) (S' := [.int ((nI (i * 10)) + (nI b)), .ref 4]) (f' := (up1 f 4 g)) rfl ?_
      refine wq_v (y := (nI ((i * 10) + b))) (nI_add (i * 10) b) ?_
      have hb_ := (hE.1 i b (by omega) (by omega)).2
      have hk_ := hD.2.2.2.1 i b (by omega) (by omega)
      refine wq_ald (j := ((i * 10) + b)) (n := 100) (v := (nI (E i b))) rfl rfl rfl rfl (by omega) (Nat.le_of_ble_eq_true rfl) (hg i b (by omega) (by omega)) ?_
      refine wq_run2 (pc' := 73) (L' := [(0, .ref 3), (1, .int (nI a)), (2, .int (nI b)), (3, .int (nI l)), (4, .int (nI i)), (5, .int (nI j)), (6, .int (nI (((E i a) + l) + (E b j))))]) (S' := [.int ((nI (E i b)) + (nI l))]) (f' := (up1 f 4 g)) rfl ?_
      refine wq_v (y := (nI ((E i b) + l))) (nI_add (E i b) l) ?_
      refine wq_run5 (pc' := 82) (L' := [(0, .ref 3), (1, .int (nI a)), (2, .int (nI b)), (3, .int (nI l)), (4, .int (nI i)), (5, .int (nI j)), (6, .int (nI (((E i a) + l) + (E b j))))]) (S' := [.int (f 3 0), .int (nI a), .ref 4, .int (nI ((E i b) + l))]) (f' := (up1 f 4 g)) rfl ?_
      refine wq_v (y := 10) (hsz) ?_
      refine wq_run1 (pc' := 83) (L' := [(0, .ref 3), (1, .int (nI a)), (2, .int (nI b)), (3, .int (nI l)), (4, .int (nI i)), (5, .int (nI j)), (6, .int (nI (((E i a) + l) + (E b j))))]) (S' := [.int ((nI a) * 10), .ref 4, .int (nI ((E i b) + l))]) (f' := (up1 f 4 g)) rfl ?_
      refine wq_v (y := (nI (a * 10))) (pk_mul a 10) ?_
      refine wq_run2 (pc' := 86) (L' := [(0, .ref 3), (1, .int (nI a)), (2, .int (nI b)), (3, .int (nI l)), (4, .int (nI i)), (5, .int (nI j)), (6, .int (nI (((E i a) + l) + (E b j))))]) (S' := [.int ((nI (a * 10)) + (nI j)), .ref 4, .int (nI ((E i b) + l))]) (f' := (up1 f 4 g)) rfl ?_
      refine wq_v (y := (nI ((a * 10) + j))) (nI_add (a * 10) j) ?_
      have hb_ := (hE.1 a j (by omega) (by omega)).2
      have hk_ := hD.2.2.2.1 a j (by omega) (by omega)
      refine wq_ald (j := ((a * 10) + j)) (n := 100) (v := (nI (E a j))) rfl rfl rfl rfl (by omega) (Nat.le_of_ble_eq_true rfl) (hg a j (by omega) (by omega)) ?_
      refine wq_run1 (pc' := 88) (L' := [(0, .ref 3), (1, .int (nI a)), (2, .int (nI b)), (3, .int (nI l)), (4, .int (nI i)), (5, .int (nI j)), (6, .int (nI (((E i a) + l) + (E b j))))]) (S' := [.int ((nI ((E i b) + l)) + (nI (E a j)))]) (f' := (up1 f 4 g)) rfl ?_
      refine wq_v (y := (nI (((E i b) + l) + (E a j)))) (nI_add ((E i b) + l) (E a j)) ?_
      refine wq_run6 (pc' := 100) (L' := [(0, .ref 3), (1, .int (nI a)), (2, .int (nI b)), (3, .int (nI l)), (4, .int (nI i)), (5, .int (nI j)), (6, .int (nI (((E i a) + l) + (E b j)))), (7, .int (nI (((E i b) + l) + (E a j))))]) (S' := [.int (f 3 0), .int (nI i), .ref 4]) (f' := (up1 f 4 g)) rfl ?_
      refine wq_v (y := 10) (hsz) ?_
      refine wq_run1 (pc' := 101) (L' := [(0, .ref 3), (1, .int (nI a)), (2, .int (nI b)), (3, .int (nI l)), (4, .int (nI i)), (5, .int (nI j)), (6, .int (nI (((E i a) + l) + (E b j)))), (7, .int (nI (((E i b) + l) + (E a j))))]) (S' := [.int ((nI i) * 10), .ref 4]) (f' := (up1 f 4 g)) rfl ?_
      refine wq_v (y := (nI (i * 10))) (pk_mul i 10) ?_
      refine wq_run2 (pc' := 104) (L' := [(0, .ref 3), (1, .int (nI a)), (2, .int (nI b)), (3, .int (nI l)), (4, .int (nI i)), (5, .int (nI j)), (6, .int (nI (((E i a) + l) + (E b j)))), (7, .int (nI (((E i b) + l) + (E a j))))]) (S' := [.int ((nI (i * 10)) + (nI j)), .ref 4]) (f' := (up1 f 4 g)) rfl ?_
      refine wq_v (y := (nI ((i * 10) + j))) (nI_add (i * 10) j) ?_
      refine wq_run5 (pc' := 114) (L' := [(0, .ref 3), (1, .int (nI a)), (2, .int (nI b)), (3, .int (nI l)), (4, .int (nI i)), (5, .int (nI j)), (6, .int (nI (((E i a) + l) + (E b j)))), (7, .int (nI (((E i b) + l) + (E a j))))]) (S' := [.int (f 3 0), .int (nI i), .ref 4, .int (nI ((i * 10) + j)), .ref 4]) (f' := (up1 f 4 g)) rfl ?_
      refine wq_v (y := 10) (hsz) ?_
      refine wq_run1 (pc' := 115) (L' := [(0, .ref 3), (1, .int (nI a)), (2, .int (nI b)), (3, .int (nI l)), (4, .int (nI i)), (5, .int (nI j)), (6, .int (nI (((E i a) + l) + (E b j)))), (7, .int (nI (((E i b) + l) + (E a j))))]) (S' := [.int ((nI i) * 10), .ref 4, .int (nI ((i * 10) + j)), .ref 4]) (f' := (up1 f 4 g)) rfl ?_
      refine wq_v (y := (nI (i * 10))) (pk_mul i 10) ?_
      refine wq_run2 (pc' := 118) (L' := [(0, .ref 3), (1, .int (nI a)), (2, .int (nI b)), (3, .int (nI l)), (4, .int (nI i)), (5, .int (nI j)), (6, .int (nI (((E i a) + l) + (E b j)))), (7, .int (nI (((E i b) + l) + (E a j))))]) (S' := [.int ((nI (i * 10)) + (nI j)), .ref 4, .int (nI ((i * 10) + j)), .ref 4]) (f' := (up1 f 4 g)) rfl ?_
      refine wq_v (y := (nI ((i * 10) + j))) (nI_add (i * 10) j) ?_
      have hb_ := (hE.1 i j (by omega) (by omega)).2
      have hk_ := hD.2.2.2.1 i j (by omega) (by omega)
      refine wq_ald (j := ((i * 10) + j)) (n := 100) (v := (nI (E i j))) rfl rfl rfl rfl (by omega) (Nat.le_of_ble_eq_true rfl) (hg i j (by omega) (by omega)) ?_
      refine wq_run2 (pc' := 123) (L' := [(0, .ref 3), (1, .int (nI a)), (2, .int (nI b)), (3, .int (nI l)), (4, .int (nI i)), (5, .int (nI j)), (6, .int (nI (((E i a) + l) + (E b j)))), (7, .int (nI (((E i b) + l) + (E a j))))]) (S' := [.int (nI (((E i b) + l) + (E a j))), .int (nI (((E i a) + l) + (E b j))), .int (nI (E i j)), .int (nI ((i * 10) + j)), .ref 4]) (f' := (up1 f 4 g)) rfl ?_
      refine wq_callI (r := (nI (min (((E i a) + l) + (E b j)) (((E i b) + l) + (E a j))))) ((show Sp 1 217 [.int (nI (((E i a) + l) + (E b j))), .int (nI (((E i b) + l) + (E a j)))] (up1 f 4 g) (Ret (nI (min (((E i a) + l) + (E b j)) (((E i b) + l) + (E a j)))) (up1 f 4 g)) by have h := jp_min (up1 f 4 g) (nI (((E i a) + l) + (E b j))) (nI (((E i b) + l) + (E a j))); rw [imin_N (by omega) (by omega)] at h; exact h)) (Nat.le_of_ble_eq_true rfl) (pc' := 126) (L' := [(0, .ref 3), (1, .int (nI a)), (2, .int (nI b)), (3, .int (nI l)), (4, .int (nI i)), (5, .int (nI j)), (6, .int (nI (((E i a) + l) + (E b j)))), (7, .int (nI (((E i b) + l) + (E a j))))]) (S' := [.int (nI (E i j)), .int (nI ((i * 10) + j)), .ref 4]) rfl (Nat.le_of_ble_eq_true rfl) rfl rfl (Nat.le_of_ble_eq_true rfl) (Nat.le_of_ble_eq_true rfl) ?_
      refine wq_callI (r := (nI (min (E i j) (min (((E i a) + l) + (E b j)) (((E i b) + l) + (E a j)))))) ((show Sp 1 217 [.int (nI (E i j)), .int (nI (min (((E i a) + l) + (E b j)) (((E i b) + l) + (E a j))))] (up1 f 4 g) (Ret (nI (min (E i j) (min (((E i a) + l) + (E b j)) (((E i b) + l) + (E a j))))) (up1 f 4 g)) by have h := jp_min (up1 f 4 g) (nI (E i j)) (nI (min (((E i a) + l) + (E b j)) (((E i b) + l) + (E a j)))); rw [imin_N (by omega) (by omega)] at h; exact h)) (Nat.le_of_ble_eq_true rfl) (pc' := 129) (L' := [(0, .ref 3), (1, .int (nI a)), (2, .int (nI b)), (3, .int (nI l)), (4, .int (nI i)), (5, .int (nI j)), (6, .int (nI (((E i a) + l) + (E b j)))), (7, .int (nI (((E i b) + l) + (E a j))))]) (S' := [.int (nI ((i * 10) + j)), .ref 4]) rfl (Nat.le_of_ble_eq_true rfl) rfl rfl (Nat.le_of_ble_eq_true rfl) (Nat.le_of_ble_eq_true rfl) ?_
      refine wq_ist (j := ((i * 10) + j)) (n := 100) rfl rfl rfl rfl (by omega) (Nat.le_of_ble_eq_true rfl) ?_
      refine wq_h (f' := (up1 f 4 (upd g ((i * 10) + j) (nI (min (E i j) (min (((E i a) + l) + (E b j)) (((E i b) + l) + (E a j)))))))) ((up2_up1_eq f 4 g ((i * 10) + j) (nI (min (E i j) (min (((E i a) + l) + (E b j)) (((E i b) + l) + (E a j)))))).trans (congrArg (fun z => up1 f 4 z) (rfl))) ?_
      refine wq_run1 (pc' := 133) (L' := [(0, .ref 3), (1, .int (nI a)), (2, .int (nI b)), (3, .int (nI l)), (4, .int (nI i)), (5, .int ((nI j) + 1)), (6, .int (nI (((E i a) + l) + (E b j)))), (7, .int (nI (((E i b) + l) + (E a j))))]) (S' := []) (f' := (up1 f 4 (upd g ((i * 10) + j) (nI (min (E i j) (min (((E i a) + l) + (E b j)) (((E i b) + l) + (E a j)))))))) rfl ?_
      refine wq_L (L' := [(0, .ref 3), (1, .int (nI a)), (2, .int (nI b)), (3, .int (nI l)), (4, .int (nI i)), (5, .int (nI (j + 1))), (6, .int (nI (((E i a) + l) + (E b j)))), (7, .int (nI (((E i b) + l) + (E a j))))]) (by rw [show nI j + 1 = nI (j + 1) from nI_add _ _]) ?_
      refine wq_run1 (pc' := 15) (L' := [(0, .ref 3), (1, .int (nI a)), (2, .int (nI b)), (3, .int (nI l)), (4, .int (nI i)), (5, .int (nI (j + 1)))]) (S' := []) (f' := (up1 f 4 (upd g ((i * 10) + j) (nI (min (E i j) (min (((E i a) + l) + (E b j)) (((E i b) + l) + (E a j)))))))) rfl ?_
      have hv := ji_v hD ha hb hab h1 hl (show i < 10 by omega) (show j < 10 by omega) hE
      refine ih (j + 1) _ (updE E i j (min (E i j) (min (E i a + l + E b j) (E i b + l + E a j)))) (by omega) (fun p q hp hq => ?_) (ji_s hv hE) (by omega)
      unfold upd updE
      by_cases c : p = i ∧ q = j
      · rw [if_pos c, c.1, c.2]; exact if_pos rfl
      · rw [if_neg c, if_neg (by omega)]; exact hg p q hp hq
theorem lp_joinOutL {f : HI} {D : Nat → Nat → Nat} {a b l : Nat} (hsz : f 3 0 = 10) (hD : Mt 10 100000000 200 D) (ha : a < 10) (hb : b < 10) (hab : a ≠ b) (h1 : 1 ≤ l) (hl : l ≤ 200) : ∀ (m9 : Nat) (i : Nat) (g : Nat → Int32) (E : Nat → Nat → Nat), (i ≤ 10) → (∀ p q, p < 10 → q < 10 → g (p * 10 + q) = nI (E p q)) → (JI D a b l 10 i 0 E) → 10 - i < m9 → wq 2 11 (fun v f' => ∃ g, v = none ∧ f' = up1 f 4 g ∧ ∀ p q, p < 10 → q < 10 → g (p * 10 + q) = nI (jnD D a b l p q)) 3 [(0, .ref 3), (1, .int (nI a)), (2, .int (nI b)), (3, .int (nI l)), (4, .int (nI i))] [] (up1 f 4 g) := by
  intro m9
  induction m9 with
  | zero => intro i g E hi hg hE hn; exact absurd hn (Nat.not_lt_zero _)
  | succ m9 ih =>
    intro i g E hi hg hE hn
    refine wq_run3 (pc' := 9) (L' := [(0, .ref 3), (1, .int (nI a)), (2, .int (nI b)), (3, .int (nI l)), (4, .int (nI i))]) (S' := [.int (f 3 0), .int (nI i)]) (f' := (up1 f 4 g)) rfl ?_
    refine wq_v (y := 10) (hsz) ?_
    refine wq_if (c := 10 ≤ (nI i)) (p1 := 142) (L1 := [(0, .ref 3), (1, .int (nI a)), (2, .int (nI b)), (3, .int (nI l)), (4, .int (nI i))]) (S1 := []) (p2 := 12) (L2 := [(0, .ref 3), (1, .int (nI a)), (2, .int (nI b)), (3, .int (nI l)), (4, .int (nI i))]) (S2 := []) rfl (fun c_9 => ?_) (fun c_9 => ?_)
    · have k_9 : 10 ≤ i := (nI_leI (a := 10) (b := i) (by omega) (by omega)).mp c_9
      have e : i = 10 := by omega
      rw [e] at hE
      exact wq_ret rfl ⟨g, rfl, rfl, fun p q hp hq => by rw [hg p q hp hq, ji_end hE hp hq]⟩
    · have k_9 : ¬ 10 ≤ i := fun q => c_9 ((nI_leI (a := 10) (b := i) (by omega) (by omega)).mpr q)
      refine wq_run2 (pc' := 15) (L' := [(0, .ref 3), (1, .int (nI a)), (2, .int (nI b)), (3, .int (nI l)), (4, .int (nI i)), (5, .int 0)]) (S' := []) (f' := (up1 f 4 g)) rfl ?_
      exact lp_joinInL hsz hD ha hb hab h1 hl (i := i) (by omega) (fun g E h1 h2 => ih (i + 1) g E (by omega) h1 h2 (by omega)) (10 - 0 + 1) 0 g E (Nat.zero_le _) hg hE (Nat.lt_succ_self _)
theorem sp_joinL {f : HI} {D : Nat → Nat → Nat} {a b l : Nat} (hsz : f 3 0 = 10) (hD : Mt 10 100000000 200 D) (ha : a < 10) (hb : b < 10) (hab : a ≠ b) (h1 : 1 ≤ l) (hl : l ≤ 200) (hr : ∀ p q, p < 10 → q < 10 → f 4 (p * 10 + q) = nI (D p q)) : Sp 2 11 [.ref 3, .int (nI a), .int (nI b), .int (nI l)] f (fun v f' => ∃ g, v = none ∧ f' = up1 f 4 g ∧ ∀ p q, p < 10 → q < 10 → g (p * 10 + q) = nI (jnD D a b l p q)) := by
  show wq 2 11 (fun v f' => ∃ g, v = none ∧ f' = up1 f 4 g ∧ ∀ p q, p < 10 → q < 10 → g (p * 10 + q) = nI (jnD D a b l p q)) 0 [(0, .ref 3), (1, .int (nI a)), (2, .int (nI b)), (3, .int (nI l))] [] f
  refine wq_run2 (pc' := 3) (L' := [(0, .ref 3), (1, .int (nI a)), (2, .int (nI b)), (3, .int (nI l)), (4, .int 0)]) (S' := []) (f' := f) rfl ?_
  have h9 := lp_joinOutL hsz hD ha hb hab h1 hl (10 - 0 + 1) 0 (f 4) D (Nat.zero_le _) hr ji_0 (Nat.lt_succ_self _)
  rw [up1_id] at h9
  exact h9
theorem sp_betweenL {f : HI} {D : Nat → Nat → Nat} {a b : Nat} (hsz : f 3 0 = 10) (hD : Mt 10 100000000 200 D) (ha : a < 10) (hb : b < 10) (hr : ∀ p q, p < 10 → q < 10 → f 4 (p * 10 + q) = nI (D p q)) : Sp 1 12 [.ref 3, .int (nI a), .int (nI b)] f (Ret (dJ (D a b)) f) := by
  show wq 1 12 (Ret (dJ (D a b)) f) 0 [(0, .ref 3), (1, .int (nI a)), (2, .int (nI b))] [] f
  refine wq_run5 (pc' := 9) (L' := [(0, .ref 3), (1, .int (nI a)), (2, .int (nI b))]) (S' := [.int (f 3 0), .int (nI a), .ref 4]) (f' := f) rfl ?_
  refine wq_v (y := 10) (hsz) ?_
  refine wq_run1 (pc' := 10) (L' := [(0, .ref 3), (1, .int (nI a)), (2, .int (nI b))]) (S' := [.int ((nI a) * 10), .ref 4]) (f' := f) rfl ?_
  refine wq_v (y := (nI (a * 10))) (pk_mul a 10) ?_
  refine wq_run2 (pc' := 12) (L' := [(0, .ref 3), (1, .int (nI a)), (2, .int (nI b))]) (S' := [.int ((nI (a * 10)) + (nI b)), .ref 4]) (f' := f) rfl ?_
  refine wq_v (y := (nI ((a * 10) + b))) (nI_add (a * 10) b) ?_
  have hk_ := hD.2.2.2.1 a b (by omega) (by omega)
  refine wq_ald (j := ((a * 10) + b)) (n := 100) (v := (nI (D a b))) rfl rfl rfl rfl (by omega) (Nat.le_of_ble_eq_true rfl) (hr a b (by omega) (by omega)) ?_
  refine wq_run3 (pc' := 17) (L' := [(0, .ref 3), (1, .int (nI a)), (2, .int (nI b)), (3, .int (nI (D a b)))]) (S' := [.int 100000000, .int (nI (D a b))]) (f' := f) rfl ?_
  refine wq_if (c := (nI (D a b)) < 100000000) (p1 := 24) (L1 := [(0, .ref 3), (1, .int (nI a)), (2, .int (nI b)), (3, .int (nI (D a b)))]) (S1 := []) (p2 := 20) (L2 := [(0, .ref 3), (1, .int (nI a)), (2, .int (nI b)), (3, .int (nI (D a b)))]) (S2 := []) rfl (fun c_17 => ?_) (fun c_17 => ?_)
  · have k_17 : (D a b) < 100000000 := (nI_ltI (a := (D a b)) (b := 100000000) (by omega) (by omega)).mp c_17
    refine wq_run1 (pc' := 25) (L' := [(0, .ref 3), (1, .int (nI a)), (2, .int (nI b)), (3, .int (nI (D a b)))]) (S' := [.int (nI (D a b))]) (f' := f) rfl ?_
    exact wq_ret rfl (Ret.of (if_neg (by omega)).symm rfl)
  · have k_17 : ¬ (D a b) < 100000000 := fun q => c_17 ((nI_ltI (a := (D a b)) (b := 100000000) (by omega) (by omega)).mpr q)
    refine wq_run2 (pc' := 25) (L' := [(0, .ref 3), (1, .int (nI a)), (2, .int (nI b)), (3, .int (nI (D a b)))]) (S' := [.int (-1)]) (f' := f) rfl ?_
    exact wq_ret rfl (Ret.of (if_pos (by omega)).symm rfl)
theorem lp_joinInS {f : HI} {D : Nat → Nat → Nat} {a b l : Nat} (hsz : f 78 0 = 12) (hD : Mt 12 100000000 30 D) (ha : a < 12) (hb : b < 12) (hab : a ≠ b) (h1 : 1 ≤ l) (hl : l ≤ 30) {i : Nat} (hi : i < 12) (K : ∀ (g : Nat → Int32) (E : Nat → Nat → Nat), (∀ p q, p < 12 → q < 12 → g (p * 12 + q) = nI (E p q)) → JI D a b l 12 (i + 1) 0 E → wq 2 11 (fun v f' => ∃ g, v = none ∧ f' = up1 f 79 g ∧ ∀ p q, p < 12 → q < 12 → g (p * 12 + q) = nI (jnD D a b l p q)) 3 [(0, .ref 78), (1, .int (nI a)), (2, .int (nI b)), (3, .int (nI l)), (4, .int (nI (i + 1)))] [] (up1 f 79 g)) : ∀ (m9 : Nat) (j : Nat) (g : Nat → Int32) (E : Nat → Nat → Nat), (j ≤ 12) → (∀ p q, p < 12 → q < 12 → g (p * 12 + q) = nI (E p q)) → (JI D a b l 12 i j E) → 12 - j < m9 → wq 2 11 (fun v f' => ∃ g, v = none ∧ f' = up1 f 79 g ∧ ∀ p q, p < 12 → q < 12 → g (p * 12 + q) = nI (jnD D a b l p q)) 15 [(0, .ref 78), (1, .int (nI a)), (2, .int (nI b)), (3, .int (nI l)), (4, .int (nI i)), (5, .int (nI j))] [] (up1 f 79 g) := by
  intro m9
  induction m9 with
  | zero => intro j g E hj hg hE hn; exact absurd hn (Nat.not_lt_zero _)
  | succ m9 ih =>
    intro j g E hj hg hE hn
    refine wq_run3 (pc' := 21) (L' := [(0, .ref 78), (1, .int (nI a)), (2, .int (nI b)), (3, .int (nI l)), (4, .int (nI i)), (5, .int (nI j))]) (S' := [.int (f 78 0), .int (nI j)]) (f' := (up1 f 79 g)) rfl ?_
    refine wq_v (y := 12) (hsz) ?_
    refine wq_if (c := 12 ≤ (nI j)) (p1 := 136) (L1 := [(0, .ref 78), (1, .int (nI a)), (2, .int (nI b)), (3, .int (nI l)), (4, .int (nI i)), (5, .int (nI j))]) (S1 := []) (p2 := 24) (L2 := [(0, .ref 78), (1, .int (nI a)), (2, .int (nI b)), (3, .int (nI l)), (4, .int (nI i)), (5, .int (nI j))]) (S2 := []) rfl (fun c_21 => ?_) (fun c_21 => ?_)
    · have k_21 : 12 ≤ j := (nI_leI (a := 12) (b := j) (by omega) (by omega)).mp c_21
      refine wq_run1 (pc' := 139) (L' := [(0, .ref 78), (1, .int (nI a)), (2, .int (nI b)), (3, .int (nI l)), (4, .int ((nI i) + 1)), (5, .int (nI j))]) (S' := []) (f' := (up1 f 79 g)) rfl ?_
      refine wq_L (L' := [(0, .ref 78), (1, .int (nI a)), (2, .int (nI b)), (3, .int (nI l)), (4, .int (nI (i + 1))), (5, .int (nI j))]) (by rw [show nI i + 1 = nI (i + 1) from nI_add _ _]) ?_
      refine wq_run1 (pc' := 3) (L' := [(0, .ref 78), (1, .int (nI a)), (2, .int (nI b)), (3, .int (nI l)), (4, .int (nI (i + 1)))]) (S' := []) (f' := (up1 f 79 g)) rfl ?_
      have e : j = 12 := by omega
      rw [e] at hE
      exact K g E hg (ji_row hE)
    · have k_21 : ¬ 12 ≤ j := fun q => c_21 ((nI_leI (a := 12) (b := j) (by omega) (by omega)).mpr q)
      refine wq_run5 (pc' := 34) (L' := [(0, .ref 78), (1, .int (nI a)), (2, .int (nI b)), (3, .int (nI l)), (4, .int (nI i)), (5, .int (nI j))]) (S' := [.int (f 78 0), .int (nI i), .ref 79]) (f' := (up1 f 79 g)) rfl ?_
      refine wq_v (y := 12) (hsz) ?_
      refine wq_run1 (pc' := 35) (L' := [(0, .ref 78), (1, .int (nI a)), (2, .int (nI b)), (3, .int (nI l)), (4, .int (nI i)), (5, .int (nI j))]) (S' := [.int ((nI i) * 12), .ref 79]) (f' := (up1 f 79 g)) rfl ?_
      refine wq_v (y := (nI (i * 12))) (pk_mul i 12) ?_
      refine wq_run2 (pc' := 37) (L' := [(0, .ref 78), (1, .int (nI a)), (2, .int (nI b)), (3, .int (nI l)), (4, .int (nI i)), (5, .int (nI j))]) (S' := [.int ((nI (i * 12)) + (nI a)), .ref 79]) (f' := (up1 f 79 g)) rfl ?_
      refine wq_v (y := (nI ((i * 12) + a))) (nI_add (i * 12) a) ?_
      have hb_ := (hE.1 i a (by omega) (by omega)).2
      have hk_ := hD.2.2.2.1 i a (by omega) (by omega)
      refine wq_ald (j := ((i * 12) + a)) (n := 144) (v := (nI (E i a))) rfl rfl rfl rfl (by omega) (Nat.le_of_ble_eq_true rfl) (hg i a (by omega) (by omega)) ?_
      refine wq_run2 (pc' := 40) (L' := [(0, .ref 78), (1, .int (nI a)), (2, .int (nI b)), (3, .int (nI l)), (4, .int (nI i)), (5, .int (nI j))]) (S' := [.int ((nI (E i a)) + (nI l))]) (f' := (up1 f 79 g)) rfl ?_
      refine wq_v (y := (nI ((E i a) + l))) (nI_add (E i a) l) ?_
      refine wq_run5 (pc' := 49) (L' := [(0, .ref 78), (1, .int (nI a)), (2, .int (nI b)), (3, .int (nI l)), (4, .int (nI i)), (5, .int (nI j))]) (S' := [.int (f 78 0), .int (nI b), .ref 79, .int (nI ((E i a) + l))]) (f' := (up1 f 79 g)) rfl ?_
      refine wq_v (y := 12) (hsz) ?_
      refine wq_run1 (pc' := 50) (L' := [(0, .ref 78), (1, .int (nI a)), (2, .int (nI b)), (3, .int (nI l)), (4, .int (nI i)), (5, .int (nI j))]) (S' := [.int ((nI b) * 12), .ref 79, .int (nI ((E i a) + l))]) (f' := (up1 f 79 g)) rfl ?_
      refine wq_v (y := (nI (b * 12))) (pk_mul b 12) ?_
      refine wq_run2 (pc' := 53) (L' := [(0, .ref 78), (1, .int (nI a)), (2, .int (nI b)), (3, .int (nI l)), (4, .int (nI i)), (5, .int (nI j))]) (S' := [.int ((nI (b * 12)) + (nI j)), .ref 79, .int (nI ((E i a) + l))]) (f' := (up1 f 79 g)) rfl ?_
      refine wq_v (y := (nI ((b * 12) + j))) (nI_add (b * 12) j) ?_
      have hb_ := (hE.1 b j (by omega) (by omega)).2
      have hk_ := hD.2.2.2.1 b j (by omega) (by omega)
      refine wq_ald (j := ((b * 12) + j)) (n := 144) (v := (nI (E b j))) rfl rfl rfl rfl (by omega) (Nat.le_of_ble_eq_true rfl) (hg b j (by omega) (by omega)) ?_
      refine wq_run1 (pc' := 55) (L' := [(0, .ref 78), (1, .int (nI a)), (2, .int (nI b)), (3, .int (nI l)), (4, .int (nI i)), (5, .int (nI j))]) (S' := [.int ((nI ((E i a) + l)) + (nI (E b j)))]) (f' := (up1 f 79 g)) rfl ?_
      refine wq_v (y := (nI (((E i a) + l) + (E b j)))) (nI_add ((E i a) + l) (E b j)) ?_
      refine wq_run6 (pc' := 67) (L' := [(0, .ref 78), (1, .int (nI a)), (2, .int (nI b)), (3, .int (nI l)), (4, .int (nI i)), (5, .int (nI j)), (6, .int (nI (((E i a) + l) + (E b j))))]) (S' := [.int (f 78 0), .int (nI i), .ref 79]) (f' := (up1 f 79 g)) rfl ?_
      refine wq_v (y := 12) (hsz) ?_
      refine wq_run1 (pc' := 68) (L' := [(0, .ref 78), (1, .int (nI a)), (2, .int (nI b)), (3, .int (nI l)), (4, .int (nI i)), (5, .int (nI j)), (6, .int (nI (((E i a) + l) + (E b j))))]) (S' := [.int ((nI i) * 12), .ref 79]) (f' := (up1 f 79 g)) rfl ?_
      refine wq_v (y := (nI (i * 12))) (pk_mul i 12) ?_
      refine wq_run2 (pc' := 70) (L' := [(0, .ref 78), (1, .int (nI a)), (2, .int (nI b)), (3, .int (nI l)), (4, .int (nI i)), (5, .int (nI j)), (6, .int (nI (((E i a) + l) + (E b j))))]) (S' := [.int ((nI (i * 12)) + (nI b)), .ref 79]) (f' := (up1 f 79 g)) rfl ?_
      refine wq_v (y := (nI ((i * 12) + b))) (nI_add (i * 12) b) ?_
      have hb_ := (hE.1 i b (by omega) (by omega)).2
      have hk_ := hD.2.2.2.1 i b (by omega) (by omega)
      refine wq_ald (j := ((i * 12) + b)) (n := 144) (v := (nI (E i b))) rfl rfl rfl rfl (by omega) (Nat.le_of_ble_eq_true rfl) (hg i b (by omega) (by omega)) ?_
      refine wq_run2 (pc' := 73) (L' := [(0, .ref 78), (1, .int (nI a)), (2, .int (nI b)), (3, .int (nI l)), (4, .int (nI i)), (5, .int (nI j)), (6, .int (nI (((E i a) + l) + (E b j))))]) (S' := [.int ((nI (E i b)) + (nI l))]) (f' := (up1 f 79 g)) rfl ?_
      refine wq_v (y := (nI ((E i b) + l))) (nI_add (E i b) l) ?_
      refine wq_run5 (pc' := 82) (L' := [(0, .ref 78), (1, .int (nI a)), (2, .int (nI b)), (3, .int (nI l)), (4, .int (nI i)), (5, .int (nI j)), (6, .int (nI (((E i a) + l) + (E b j))))]) (S' := [.int (f 78 0), .int (nI a), .ref 79, .int (nI ((E i b) + l))]) (f' := (up1 f 79 g)) rfl ?_
      refine wq_v (y := 12) (hsz) ?_
      refine wq_run1 (pc' := 83) (L' := [(0, .ref 78), (1, .int (nI a)), (2, .int (nI b)), (3, .int (nI l)), (4, .int (nI i)), (5, .int (nI j)), (6, .int (nI (((E i a) + l) + (E b j))))]) (S' := [.int ((nI a) * 12), .ref 79, .int (nI ((E i b) + l))]) (f' := (up1 f 79 g)) rfl ?_
      refine wq_v (y := (nI (a * 12))) (pk_mul a 12) ?_
      refine wq_run2 (pc' := 86) (L' := [(0, .ref 78), (1, .int (nI a)), (2, .int (nI b)), (3, .int (nI l)), (4, .int (nI i)), (5, .int (nI j)), (6, .int (nI (((E i a) + l) + (E b j))))]) (S' := [.int ((nI (a * 12)) + (nI j)), .ref 79, .int (nI ((E i b) + l))]) (f' := (up1 f 79 g)) rfl ?_
      refine wq_v (y := (nI ((a * 12) + j))) (nI_add (a * 12) j) ?_
      have hb_ := (hE.1 a j (by omega) (by omega)).2
      have hk_ := hD.2.2.2.1 a j (by omega) (by omega)
      refine wq_ald (j := ((a * 12) + j)) (n := 144) (v := (nI (E a j))) rfl rfl rfl rfl (by omega) (Nat.le_of_ble_eq_true rfl) (hg a j (by omega) (by omega)) ?_
      refine wq_run1 (pc' := 88) (L' := [(0, .ref 78), (1, .int (nI a)), (2, .int (nI b)), (3, .int (nI l)), (4, .int (nI i)), (5, .int (nI j)), (6, .int (nI (((E i a) + l) + (E b j))))]) (S' := [.int ((nI ((E i b) + l)) + (nI (E a j)))]) (f' := (up1 f 79 g)) rfl ?_
      refine wq_v (y := (nI (((E i b) + l) + (E a j)))) (nI_add ((E i b) + l) (E a j)) ?_
      refine wq_run6 (pc' := 100) (L' := [(0, .ref 78), (1, .int (nI a)), (2, .int (nI b)), (3, .int (nI l)), (4, .int (nI i)), (5, .int (nI j)), (6, .int (nI (((E i a) + l) + (E b j)))), (7, .int (nI (((E i b) + l) + (E a j))))]) (S' := [.int (f 78 0), .int (nI i), .ref 79]) (f' := (up1 f 79 g)) rfl ?_
      refine wq_v (y := 12) (hsz) ?_
      refine wq_run1 (pc' := 101) (L' := [(0, .ref 78), (1, .int (nI a)), (2, .int (nI b)), (3, .int (nI l)), (4, .int (nI i)), (5, .int (nI j)), (6, .int (nI (((E i a) + l) + (E b j)))), (7, .int (nI (((E i b) + l) + (E a j))))]) (S' := [.int ((nI i) * 12), .ref 79]) (f' := (up1 f 79 g)) rfl ?_
      refine wq_v (y := (nI (i * 12))) (pk_mul i 12) ?_
      refine wq_run2 (pc' := 104) (L' := [(0, .ref 78), (1, .int (nI a)), (2, .int (nI b)), (3, .int (nI l)), (4, .int (nI i)), (5, .int (nI j)), (6, .int (nI (((E i a) + l) + (E b j)))), (7, .int (nI (((E i b) + l) + (E a j))))]) (S' := [.int ((nI (i * 12)) + (nI j)), .ref 79]) (f' := (up1 f 79 g)) rfl ?_
      refine wq_v (y := (nI ((i * 12) + j))) (nI_add (i * 12) j) ?_
      refine wq_run5 (pc' := 114) (L' := [(0, .ref 78), (1, .int (nI a)), (2, .int (nI b)), (3, .int (nI l)), (4, .int (nI i)), (5, .int (nI j)), (6, .int (nI (((E i a) + l) + (E b j)))), (7, .int (nI (((E i b) + l) + (E a j))))]) (S' := [.int (f 78 0), .int (nI i), .ref 79, .int (nI ((i * 12) + j)), .ref 79]) (f' := (up1 f 79 g)) rfl ?_
      refine wq_v (y := 12) (hsz) ?_
      refine wq_run1 (pc' := 115) (L' := [(0, .ref 78), (1, .int (nI a)), (2, .int (nI b)), (3, .int (nI l)), (4, .int (nI i)), (5, .int (nI j)), (6, .int (nI (((E i a) + l) + (E b j)))), (7, .int (nI (((E i b) + l) + (E a j))))]) (S' := [.int ((nI i) * 12), .ref 79, .int (nI ((i * 12) + j)), .ref 79]) (f' := (up1 f 79 g)) rfl ?_
      refine wq_v (y := (nI (i * 12))) (pk_mul i 12) ?_
      refine wq_run2 (pc' := 118) (L' := [(0, .ref 78), (1, .int (nI a)), (2, .int (nI b)), (3, .int (nI l)), (4, .int (nI i)), (5, .int (nI j)), (6, .int (nI (((E i a) + l) + (E b j)))), (7, .int (nI (((E i b) + l) + (E a j))))]) (S' := [.int ((nI (i * 12)) + (nI j)), .ref 79, .int (nI ((i * 12) + j)), .ref 79]) (f' := (up1 f 79 g)) rfl ?_
      refine wq_v (y := (nI ((i * 12) + j))) (nI_add (i * 12) j) ?_
      have hb_ := (hE.1 i j (by omega) (by omega)).2
      have hk_ := hD.2.2.2.1 i j (by omega) (by omega)
      refine wq_ald (j := ((i * 12) + j)) (n := 144) (v := (nI (E i j))) rfl rfl rfl rfl (by omega) (Nat.le_of_ble_eq_true rfl) (hg i j (by omega) (by omega)) ?_
      refine wq_run2 (pc' := 123) (L' := [(0, .ref 78), (1, .int (nI a)), (2, .int (nI b)), (3, .int (nI l)), (4, .int (nI i)), (5, .int (nI j)), (6, .int (nI (((E i a) + l) + (E b j)))), (7, .int (nI (((E i b) + l) + (E a j))))]) (S' := [.int (nI (((E i b) + l) + (E a j))), .int (nI (((E i a) + l) + (E b j))), .int (nI (E i j)), .int (nI ((i * 12) + j)), .ref 79]) (f' := (up1 f 79 g)) rfl ?_
      refine wq_callI (r := (nI (min (((E i a) + l) + (E b j)) (((E i b) + l) + (E a j))))) ((show Sp 1 217 [.int (nI (((E i a) + l) + (E b j))), .int (nI (((E i b) + l) + (E a j)))] (up1 f 79 g) (Ret (nI (min (((E i a) + l) + (E b j)) (((E i b) + l) + (E a j)))) (up1 f 79 g)) by have h := jp_min (up1 f 79 g) (nI (((E i a) + l) + (E b j))) (nI (((E i b) + l) + (E a j))); rw [imin_N (by omega) (by omega)] at h; exact h)) (Nat.le_of_ble_eq_true rfl) (pc' := 126) (L' := [(0, .ref 78), (1, .int (nI a)), (2, .int (nI b)), (3, .int (nI l)), (4, .int (nI i)), (5, .int (nI j)), (6, .int (nI (((E i a) + l) + (E b j)))), (7, .int (nI (((E i b) + l) + (E a j))))]) (S' := [.int (nI (E i j)), .int (nI ((i * 12) + j)), .ref 79]) rfl (Nat.le_of_ble_eq_true rfl) rfl rfl (Nat.le_of_ble_eq_true rfl) (Nat.le_of_ble_eq_true rfl) ?_
      refine wq_callI (r := (nI (min (E i j) (min (((E i a) + l) + (E b j)) (((E i b) + l) + (E a j)))))) ((show Sp 1 217 [.int (nI (E i j)), .int (nI (min (((E i a) + l) + (E b j)) (((E i b) + l) + (E a j))))] (up1 f 79 g) (Ret (nI (min (E i j) (min (((E i a) + l) + (E b j)) (((E i b) + l) + (E a j))))) (up1 f 79 g)) by have h := jp_min (up1 f 79 g) (nI (E i j)) (nI (min (((E i a) + l) + (E b j)) (((E i b) + l) + (E a j)))); rw [imin_N (by omega) (by omega)] at h; exact h)) (Nat.le_of_ble_eq_true rfl) (pc' := 129) (L' := [(0, .ref 78), (1, .int (nI a)), (2, .int (nI b)), (3, .int (nI l)), (4, .int (nI i)), (5, .int (nI j)), (6, .int (nI (((E i a) + l) + (E b j)))), (7, .int (nI (((E i b) + l) + (E a j))))]) (S' := [.int (nI ((i * 12) + j)), .ref 79]) rfl (Nat.le_of_ble_eq_true rfl) rfl rfl (Nat.le_of_ble_eq_true rfl) (Nat.le_of_ble_eq_true rfl) ?_
      refine wq_ist (j := ((i * 12) + j)) (n := 144) rfl rfl rfl rfl (by omega) (Nat.le_of_ble_eq_true rfl) ?_
      refine wq_h (f' := (up1 f 79 (upd g ((i * 12) + j) (nI (min (E i j) (min (((E i a) + l) + (E b j)) (((E i b) + l) + (E a j)))))))) ((up2_up1_eq f 79 g ((i * 12) + j) (nI (min (E i j) (min (((E i a) + l) + (E b j)) (((E i b) + l) + (E a j)))))).trans (congrArg (fun z => up1 f 79 z) (rfl))) ?_
      refine wq_run1 (pc' := 133) (L' := [(0, .ref 78), (1, .int (nI a)), (2, .int (nI b)), (3, .int (nI l)), (4, .int (nI i)), (5, .int ((nI j) + 1)), (6, .int (nI (((E i a) + l) + (E b j)))), (7, .int (nI (((E i b) + l) + (E a j))))]) (S' := []) (f' := (up1 f 79 (upd g ((i * 12) + j) (nI (min (E i j) (min (((E i a) + l) + (E b j)) (((E i b) + l) + (E a j)))))))) rfl ?_
      refine wq_L (L' := [(0, .ref 78), (1, .int (nI a)), (2, .int (nI b)), (3, .int (nI l)), (4, .int (nI i)), (5, .int (nI (j + 1))), (6, .int (nI (((E i a) + l) + (E b j)))), (7, .int (nI (((E i b) + l) + (E a j))))]) (by rw [show nI j + 1 = nI (j + 1) from nI_add _ _]) ?_
      refine wq_run1 (pc' := 15) (L' := [(0, .ref 78), (1, .int (nI a)), (2, .int (nI b)), (3, .int (nI l)), (4, .int (nI i)), (5, .int (nI (j + 1)))]) (S' := []) (f' := (up1 f 79 (upd g ((i * 12) + j) (nI (min (E i j) (min (((E i a) + l) + (E b j)) (((E i b) + l) + (E a j)))))))) rfl ?_
      have hv := ji_v hD ha hb hab h1 hl (show i < 12 by omega) (show j < 12 by omega) hE
      refine ih (j + 1) _ (updE E i j (min (E i j) (min (E i a + l + E b j) (E i b + l + E a j)))) (by omega) (fun p q hp hq => ?_) (ji_s hv hE) (by omega)
      unfold upd updE
      by_cases c : p = i ∧ q = j
      · rw [if_pos c, c.1, c.2]; exact if_pos rfl
      · rw [if_neg c, if_neg (by omega)]; exact hg p q hp hq
theorem lp_joinOutS {f : HI} {D : Nat → Nat → Nat} {a b l : Nat} (hsz : f 78 0 = 12) (hD : Mt 12 100000000 30 D) (ha : a < 12) (hb : b < 12) (hab : a ≠ b) (h1 : 1 ≤ l) (hl : l ≤ 30) : ∀ (m9 : Nat) (i : Nat) (g : Nat → Int32) (E : Nat → Nat → Nat), (i ≤ 12) → (∀ p q, p < 12 → q < 12 → g (p * 12 + q) = nI (E p q)) → (JI D a b l 12 i 0 E) → 12 - i < m9 → wq 2 11 (fun v f' => ∃ g, v = none ∧ f' = up1 f 79 g ∧ ∀ p q, p < 12 → q < 12 → g (p * 12 + q) = nI (jnD D a b l p q)) 3 [(0, .ref 78), (1, .int (nI a)), (2, .int (nI b)), (3, .int (nI l)), (4, .int (nI i))] [] (up1 f 79 g) := by
  intro m9
  induction m9 with
  | zero => intro i g E hi hg hE hn; exact absurd hn (Nat.not_lt_zero _)
  | succ m9 ih =>
    intro i g E hi hg hE hn
    refine wq_run3 (pc' := 9) (L' := [(0, .ref 78), (1, .int (nI a)), (2, .int (nI b)), (3, .int (nI l)), (4, .int (nI i))]) (S' := [.int (f 78 0), .int (nI i)]) (f' := (up1 f 79 g)) rfl ?_
    refine wq_v (y := 12) (hsz) ?_
    refine wq_if (c := 12 ≤ (nI i)) (p1 := 142) (L1 := [(0, .ref 78), (1, .int (nI a)), (2, .int (nI b)), (3, .int (nI l)), (4, .int (nI i))]) (S1 := []) (p2 := 12) (L2 := [(0, .ref 78), (1, .int (nI a)), (2, .int (nI b)), (3, .int (nI l)), (4, .int (nI i))]) (S2 := []) rfl (fun c_9 => ?_) (fun c_9 => ?_)
    · have k_9 : 12 ≤ i := (nI_leI (a := 12) (b := i) (by omega) (by omega)).mp c_9
      have e : i = 12 := by omega
      rw [e] at hE
      exact wq_ret rfl ⟨g, rfl, rfl, fun p q hp hq => by rw [hg p q hp hq, ji_end hE hp hq]⟩
    · have k_9 : ¬ 12 ≤ i := fun q => c_9 ((nI_leI (a := 12) (b := i) (by omega) (by omega)).mpr q)
      refine wq_run2 (pc' := 15) (L' := [(0, .ref 78), (1, .int (nI a)), (2, .int (nI b)), (3, .int (nI l)), (4, .int (nI i)), (5, .int 0)]) (S' := []) (f' := (up1 f 79 g)) rfl ?_
      exact lp_joinInS hsz hD ha hb hab h1 hl (i := i) (by omega) (fun g E h1 h2 => ih (i + 1) g E (by omega) h1 h2 (by omega)) (12 - 0 + 1) 0 g E (Nat.zero_le _) hg hE (Nat.lt_succ_self _)
theorem sp_joinS {f : HI} {D : Nat → Nat → Nat} {a b l : Nat} (hsz : f 78 0 = 12) (hD : Mt 12 100000000 30 D) (ha : a < 12) (hb : b < 12) (hab : a ≠ b) (h1 : 1 ≤ l) (hl : l ≤ 30) (hr : ∀ p q, p < 12 → q < 12 → f 79 (p * 12 + q) = nI (D p q)) : Sp 2 11 [.ref 78, .int (nI a), .int (nI b), .int (nI l)] f (fun v f' => ∃ g, v = none ∧ f' = up1 f 79 g ∧ ∀ p q, p < 12 → q < 12 → g (p * 12 + q) = nI (jnD D a b l p q)) := by
  show wq 2 11 (fun v f' => ∃ g, v = none ∧ f' = up1 f 79 g ∧ ∀ p q, p < 12 → q < 12 → g (p * 12 + q) = nI (jnD D a b l p q)) 0 [(0, .ref 78), (1, .int (nI a)), (2, .int (nI b)), (3, .int (nI l))] [] f
  refine wq_run2 (pc' := 3) (L' := [(0, .ref 78), (1, .int (nI a)), (2, .int (nI b)), (3, .int (nI l)), (4, .int 0)]) (S' := []) (f' := f) rfl ?_
  have h9 := lp_joinOutS hsz hD ha hb hab h1 hl (12 - 0 + 1) 0 (f 79) D (Nat.zero_le _) hr ji_0 (Nat.lt_succ_self _)
  rw [up1_id] at h9
  exact h9
theorem sp_betweenS {f : HI} {D : Nat → Nat → Nat} {a b : Nat} (hsz : f 78 0 = 12) (hD : Mt 12 100000000 30 D) (ha : a < 12) (hb : b < 12) (hr : ∀ p q, p < 12 → q < 12 → f 79 (p * 12 + q) = nI (D p q)) : Sp 1 12 [.ref 78, .int (nI a), .int (nI b)] f (Ret (dJ (D a b)) f) := by
  show wq 1 12 (Ret (dJ (D a b)) f) 0 [(0, .ref 78), (1, .int (nI a)), (2, .int (nI b))] [] f
  refine wq_run5 (pc' := 9) (L' := [(0, .ref 78), (1, .int (nI a)), (2, .int (nI b))]) (S' := [.int (f 78 0), .int (nI a), .ref 79]) (f' := f) rfl ?_
  refine wq_v (y := 12) (hsz) ?_
  refine wq_run1 (pc' := 10) (L' := [(0, .ref 78), (1, .int (nI a)), (2, .int (nI b))]) (S' := [.int ((nI a) * 12), .ref 79]) (f' := f) rfl ?_
  refine wq_v (y := (nI (a * 12))) (pk_mul a 12) ?_
  refine wq_run2 (pc' := 12) (L' := [(0, .ref 78), (1, .int (nI a)), (2, .int (nI b))]) (S' := [.int ((nI (a * 12)) + (nI b)), .ref 79]) (f' := f) rfl ?_
  refine wq_v (y := (nI ((a * 12) + b))) (nI_add (a * 12) b) ?_
  have hk_ := hD.2.2.2.1 a b (by omega) (by omega)
  refine wq_ald (j := ((a * 12) + b)) (n := 144) (v := (nI (D a b))) rfl rfl rfl rfl (by omega) (Nat.le_of_ble_eq_true rfl) (hr a b (by omega) (by omega)) ?_
  refine wq_run3 (pc' := 17) (L' := [(0, .ref 78), (1, .int (nI a)), (2, .int (nI b)), (3, .int (nI (D a b)))]) (S' := [.int 100000000, .int (nI (D a b))]) (f' := f) rfl ?_
  refine wq_if (c := (nI (D a b)) < 100000000) (p1 := 24) (L1 := [(0, .ref 78), (1, .int (nI a)), (2, .int (nI b)), (3, .int (nI (D a b)))]) (S1 := []) (p2 := 20) (L2 := [(0, .ref 78), (1, .int (nI a)), (2, .int (nI b)), (3, .int (nI (D a b)))]) (S2 := []) rfl (fun c_17 => ?_) (fun c_17 => ?_)
  · have k_17 : (D a b) < 100000000 := (nI_ltI (a := (D a b)) (b := 100000000) (by omega) (by omega)).mp c_17
    refine wq_run1 (pc' := 25) (L' := [(0, .ref 78), (1, .int (nI a)), (2, .int (nI b)), (3, .int (nI (D a b)))]) (S' := [.int (nI (D a b))]) (f' := f) rfl ?_
    exact wq_ret rfl (Ret.of (if_neg (by omega)).symm rfl)
  · have k_17 : ¬ (D a b) < 100000000 := fun q => c_17 ((nI_ltI (a := (D a b)) (b := 100000000) (by omega) (by omega)).mpr q)
    refine wq_run2 (pc' := 25) (L' := [(0, .ref 78), (1, .int (nI a)), (2, .int (nI b)), (3, .int (nI (D a b)))]) (S' := [.int (-1)]) (f' := f) rfl ?_
    exact wq_ret rfl (Ret.of (if_pos (by omega)).symm rfl)
