/-! stamps: forgeries (class) -/
def NeA (A : Nat → Nat) (n p q : Nat) : Prop := p < n ∧ q < n ∧ bN (A p) q = 1
def MaA (am : Nat → Nat) (n p q : Nat) : Prop := q < n ∧ am q = p ∧ p < n
def KwP (A : Nat → Nat) (n i : Nat) (am : Nat → Nat) : Prop := (∃ R, KuI (NeA A n) (MaA am n) R n i) ∧ (∀ p, p < n → cnA am p n ≤ 1) ∧ (∀ p, i ≤ p → p < n → cnA am p n = 0) ∧ ∀ q, am q < n ∨ 32 ≤ am q
def mtC (am : Nat → Nat) (n : Nat) : Nat := huC (fun p => decide (1 ≤ cnA am p n)) n
theorem hu_c {B B' : Nat → Bool} : ∀ n, (∀ p, p < n → B' p = B p) → huC B' n = huC B n
  | 0, _ => rfl
  | n + 1, h => by rw [huC, huC, h n (Nat.lt_succ_self _), hu_c n (fun p q => h p (by omega))]
theorem hu_one {B B' : Nat → Bool} {i : Nat} : ∀ n, i < n → (∀ p, p < n → p ≠ i → B' p = B p) → ¬ B i = true → B' i = true → huC B' n = huC B n + 1
  | 0, h, _, _, _ => absurd h (Nat.not_lt_zero _)
  | n + 1, h, h1, h2, h3 => by
    rw [huC, huC]
    by_cases c : i = n
    · rw [← c, if_pos h3, if_neg h2, hu_c i (fun p q => h1 p (by omega) (by omega))]
    · rw [h1 n (Nat.lt_succ_self _) (fun q => c q.symm), hu_one n (by omega) (fun p q => h1 p (by omega)) h2 h3]
      split <;> omega
section P84
variable {A : Nat → Nat} {n i : Nat} {am am2 : Nat → Nat} {s2 : Nat} {r : Int32}
theorem kw_skip (h : KwP A n i am) (hA : A i = 0) : KwP A n (i + 1) am := by
  obtain ⟨⟨R, k1, k2, k3, k4, k5⟩, h1, h2, h3⟩ := h
  refine ⟨⟨R, k1, k2, k3, k4, fun p hp => ?_⟩, h1, fun p q => h2 p (by omega), h3⟩
  by_cases c : p = i
  · right
    intro q hq
    rw [c] at hq
    have := hq.2.2
    rw [hA] at this
    exact absurd this (bN_zero q)
  · exact k5 p (by omega)
theorem kw_fail (h : KwP A n i am) (hF : FnP A n i am 0 r am2 s2) (hr : r = 0) : am2 = am ∧ KwP A n (i + 1) am := by
  obtain ⟨f1, f2, f3⟩ := hF
  obtain ⟨_, e1, e2, e3⟩ := f3.resolve_right (fun q => absurd (hr.symm.trans q.1) (by decide))
  obtain ⟨⟨R, k1, k2, k3, k4, k5⟩, h1, h2, h3⟩ := h
  refine ⟨e1, ⟨fun q => R q ∨ bN s2 q = 1, k1, k2, k3, fun q hq => ?_, fun p hp => ?_⟩, h1, fun p q => h2 p (by omega), h3⟩
  · rcases hq with hq | hq
    · obtain ⟨p, z1, z2⟩ := k4 q hq
      exact ⟨p, z1, fun q' z => Or.inl (z2 q' z)⟩
    · rcases e3 q hq with z | ⟨z1, z2, z3⟩
      · exact absurd z (bN_zero q)
      · exact ⟨am q, ⟨z1, rfl, z2⟩, fun q' z => Or.inr (z3 q' z.2.2)⟩
  · by_cases c : p = i
    · right
      intro q hq
      rw [c] at hq
      exact Or.inr (e2 q hq.2.2)
    · rcases k5 p (by omega) with z | z
      · exact Or.inl z
      · exact Or.inr (fun q hq => Or.inl (z q hq))
theorem kw_succ (hlt : ∀ p, p < n → A p < 2 ^ n) (hi : i < n) (h : KwP A n i am) (hF : FnP A n i am 0 r am2 s2) (hr : ¬ r = 0) : KwP A n (i + 1) am2 ∧ mtC am2 n = mtC am n + 1 := by
  obtain ⟨f1, f2, f3⟩ := hF
  obtain ⟨_, e1, e2, e3⟩ := f3.resolve_left (fun q => hr q.1)
  obtain ⟨⟨R, k1, k2, k3, k4, k5⟩, h1, h2, h3⟩ := h
  have hz := h2 i (Nat.le_refl _) hi
  have h1' : ∀ p, p < n → cnA am2 p n ≤ 1 := by
    intro p hp
    rw [e2 p hp]
    by_cases c : p = i
    · rw [if_pos c, c, hz]; exact Nat.le_refl _
    · rw [if_neg c]; exact h1 p hp
  have hR : ∀ q, R q → am q < n ∧ ∀ q', bN (A (am q)) q' = 1 → R q' := by
    intro q hq
    obtain ⟨p, z1, z2⟩ := k4 q hq
    rw [z1.2.1]
    refine ⟨z1.2.2, fun q' hq' => ?_⟩
    exact z2 q' ⟨z1.2.2, bN_bd (hlt p z1.2.2) hq', hq'⟩
  obtain ⟨_, e5⟩ := e3 R hR
  refine ⟨⟨⟨R, fun p q hm => ?_, fun p p' q z z' => z.2.1.symm.trans z'.2.1, fun p q q' z z' => ca_in (h1' p z.2.2) z.2.1 z'.2.1 z.1 z'.1, fun q hq => ?_, fun p hp => ?_⟩, h1', fun p hp1 hp2 => ?_, fun q => ?_⟩, ?_⟩
  · rcases e1 q with z | ⟨z1, z2, z3, z4⟩
    · exact k1 p q ⟨hm.1, z.symm.trans hm.2.1, hm.2.2⟩
    · exact ⟨hm.2.2, hm.1, hm.2.2, hm.1, by rw [← hm.2.1]; exact z4⟩
  · obtain ⟨p, z1, z2⟩ := k4 q hq
    exact ⟨p, ⟨z1.1, (e5 q hq).trans z1.2.1, z1.2.2⟩, z2⟩
  · by_cases c : p = i
    · left
      have : 1 ≤ cnA am2 i n := by rw [e2 i hi, if_pos rfl]; omega
      obtain ⟨j, j1, j2⟩ := ca_ex n this
      exact ⟨j, j1, j2.trans c.symm, by omega⟩
    · rcases k5 p (by omega) with ⟨q, z⟩ | z
      · left
        have : 1 ≤ cnA am2 p n := by
          rw [e2 p z.2.2]
          have := ca_ge z.2.1 n z.1
          omega
        obtain ⟨j, j1, j2⟩ := ca_ex n this
        exact ⟨j, j1, j2, z.2.2⟩
      · exact Or.inr z
  · rw [e2 p hp2, if_neg (by omega)]
    exact h2 p (by omega) hp2
  · rcases e1 q with z | ⟨z1, z2, z3, z4⟩
    · rw [z]; exact h3 q
    · exact Or.inl z3
  · refine hu_one n hi (fun p hp hne => ?_) (fun q => ?_) (decide_eq_true ?_)
    · show decide (1 ≤ cnA am2 p n) = decide (1 ≤ cnA am p n)
      rw [e2 p hp, if_neg hne, Nat.add_zero]
    · have := of_decide_eq_true q
      omega
    · rw [e2 i hi, if_pos rfl]
      omega
theorem kw_0 : KwP A n 0 (fun _ => 999) ∧ mtC (fun _ => 999) n = 0 ∨ 999 < n := by
  by_cases c : 999 < n
  · exact Or.inr c
  · left
    have z : ∀ p, p < n → cnA (fun _ => 999) p n = 0 := by
      intro p hp
      apply Nat.le_antisymm _ (Nat.zero_le _)
      apply Nat.le_of_not_lt
      intro q
      obtain ⟨j, _, j2⟩ := ca_ex n q
      have j2 : 999 = p := j2
      omega
    have zm : ∀ p q, ¬ MaA (fun _ => 999) n p q := by
      intro p q h
      have h2 : 999 = p := h.2.1
      have := h.2.2
      omega
    refine ⟨⟨⟨fun _ => False, fun p q h => absurd h (zm p q), fun p p' q h _ => absurd h (zm p q), fun p q q' h _ => absurd h (zm p q), fun q h => h.elim, fun p h => absurd h (Nat.not_lt_zero _)⟩, fun p hp => by rw [z p hp]; exact Nat.zero_le _, fun p _ hp => z p hp, fun _ => Or.inr (show 32 ≤ 999 by decide)⟩, ?_⟩
    have zz : ∀ k, k ≤ n → huC (fun p => decide (1 ≤ cnA (fun _ => 999) p n)) k = 0 := by
      intro k
      induction k with
      | zero => intro _; rfl
      | succ k ih =>
        intro hk
        rw [huC, if_neg (by rw [z k (by omega)]; decide)]
        exact ih (by omega)
    exact zz n (Nat.le_refl _)
end P84
theorem lp_rows {f : HI} {n : Nat} {A : Nat → Nat} {X : Int32} (hK : KfC f n A) : ∀ (m9 : Nat) (i : Nat) (g : Nat → Int32) (am : Nat → Nat) (s : Int32), (i ≤ n) → (∀ k, k < n → g k = rI (am k)) → (KwP A n i am) → n - i < m9 → wq 26 77 (fun v f' => ∃ am g' s', v = some (.int (X - nI (mtC am n) - 1)) ∧ f' = (up1 (up1 f 76 g') 71 (upd (f 71) 9 s')) ∧ KwP A n n am) 25 [(0, .ref 71), (3, .int (X - nI (mtC am n))), (4, .int (nI i))] [] (up1 (up1 f 76 g) 71 (upd (f 71) 9 s)) := by
  intro m9
  induction m9 with
  | zero => intro i g am s hi hg hW hn; exact absurd hn (Nat.not_lt_zero _)
  | succ m9 ih =>
    intro i g am s hi hg hW hn
    have hn24 := hK.2.1
    refine wq_run4 (pc' := 34) (L' := [(0, .ref 71), (3, .int (X - nI (mtC am n))), (4, .int (nI i))]) (S' := [.int (f 43 6), .int (nI i)]) (f' := (up1 (up1 f 76 g) 71 (upd (f 71) 9 s))) rfl ?_
    refine wq_v (y := (nI n)) (hK.1) ?_
    refine wq_if (c := (nI n) ≤ (nI i)) (p1 := 71) (L1 := [(0, .ref 71), (3, .int (X - nI (mtC am n))), (4, .int (nI i))]) (S1 := []) (p2 := 37) (L2 := [(0, .ref 71), (3, .int (X - nI (mtC am n))), (4, .int (nI i))]) (S2 := []) rfl (fun c_34 => ?_) (fun c_34 => ?_)
    · have k_34 : n ≤ i := (nI_leI (a := n) (b := i) (by omega) (by omega)).mp c_34
      refine wq_run3 (pc' := 74) (L' := [(0, .ref 71), (3, .int (X - nI (mtC am n))), (4, .int (nI i))]) (S' := [.int ((X - nI (mtC am n)) - 1)]) (f' := (up1 (up1 f 76 g) 71 (upd (f 71) 9 s))) rfl ?_
      have e : i = n := by omega
      rw [e] at hW
      exact wq_ret rfl ⟨am, g, s, rfl, rfl, hW⟩
    · have k_34 : ¬ n ≤ i := fun q => c_34 ((nI_leI (a := n) (b := i) (by omega) (by omega)).mpr q)
      have hin : i < n := by omega
      have hAi : A i < 2 ^ 24 := Nat.lt_of_lt_of_le (hK.2.2 i hin).2 (Nat.pow_le_pow_right (by decide) hn24)
      refine wq_run2 (pc' := 39) (L' := [(0, .ref 71), (3, .int (X - nI (mtC am n))), (4, .int (nI i))]) (S' := [.int 0, .ref 71]) (f' := (up1 (up1 f 76 g) 71 (upd (f 71) 9 s))) rfl ?_
      refine wq_putI rfl rfl ?_
      refine wq_h (f' := (up1 (up1 f 76 g) 71 (upd (f 71) 9 0))) ((up2_up1_eq (up1 f 76 g) 71 (upd (f 71) 9 s) 9 0).trans (congrArg (fun z => up1 (up1 f 76 g) 71 z) (upd_upd (f 71) 9 s 0))) ?_
      refine wq_run3 (pc' := 48) (L' := [(0, .ref 71), (3, .int (X - nI (mtC am n))), (4, .int (nI i))]) (S' := [.int (nI i), .ref 75]) (f' := (up1 (up1 f 76 g) 71 (upd (f 71) 9 0))) rfl ?_
      refine wq_ald (j := i) (n := 24) (v := (nI (A i))) rfl rfl rfl rfl (by omega) (Nat.le_of_ble_eq_true rfl) ((hK.2.2 i hin).1) ?_
      refine wq_if (c := (nI (A i)) = 0) (p1 := 65) (L1 := [(0, .ref 71), (3, .int (X - nI (mtC am n))), (4, .int (nI i))]) (S1 := []) (p2 := 52) (L2 := [(0, .ref 71), (3, .int (X - nI (mtC am n))), (4, .int (nI i))]) (S2 := []) rfl (fun c_49 => ?_) (fun c_49 => ?_)
      · have k_49 : (A i) = 0 := (nI_eq (a := (A i)) (b := 0) (by omega) (by omega)).mp c_49
        refine wq_run1 (pc' := 68) (L' := [(0, .ref 71), (3, .int (X - nI (mtC am n))), (4, .int ((nI i) + 1))]) (S' := []) (f' := (up1 (up1 f 76 g) 71 (upd (f 71) 9 0))) rfl ?_
        refine wq_L (L' := [(0, .ref 71), (3, .int (X - nI (mtC am n))), (4, .int (nI (i + 1)))]) (by rw [show nI i + 1 = nI (i + 1) from nI_add _ _]) ?_
        refine wq_run1 (pc' := 25) (L' := [(0, .ref 71), (3, .int (X - nI (mtC am n))), (4, .int (nI (i + 1)))]) (S' := []) (f' := (up1 (up1 f 76 g) 71 (upd (f 71) 9 0))) rfl ?_
        exact ih (i + 1) g am 0 (by omega) hg (kw_skip hW k_49) (by omega)
      · have k_49 : ¬ (A i) = 0 := fun q => c_49 ((nI_eq (a := (A i)) (b := 0) (by omega) (by omega)).mpr q)
        refine wq_run3 (pc' := 56) (L' := [(0, .ref 71), (3, .int (X - nI (mtC am n))), (4, .int (nI i))]) (S' := [.int 0, .int (nI i), .ref 71]) (f' := (up1 (up1 f 76 g) 71 (upd (f 71) 9 0))) rfl ?_
        refine wq_call ((show Sp 25 80 [.ref 71, .int (nI i), .int 0] (up1 (up1 f 76 g) 71 (upd (f 71) 9 0)) (fun v f' => ∃ r g' am' sn', v = some (.int r) ∧ f' = up1 (up1 (up1 (up1 f 76 g) 71 (upd (f 71) 9 0)) 76 g') 71 (upd ((up1 (up1 f 76 g) 71 (upd (f 71) 9 0)) 71) 9 (nI sn')) ∧ (∀ k, k < n → g' k = rI (am' k)) ∧ FnP A n i am 0 r am' sn') from sp_find 24 (up1 (up1 f 76 g) 71 (upd (f 71) 9 0)) am i 0 0 hK rfl hin hg hW.2.2.2 (upd_s _ _ _) (Nat.two_pow_pos n) (Nat.zero_le _))) (Nat.le_of_ble_eq_true rfl) (pc' := 59) (L' := [(0, .ref 71), (3, .int (X - nI (mtC am n))), (4, .int (nI i))]) (S' := []) rfl (Nat.le_of_ble_eq_true rfl) rfl rfl (Nat.le_of_ble_eq_true rfl) (Nat.le_of_ble_eq_true rfl) ?_
        rintro v f9 ⟨r, g2, am2, s2, e0, ef, hg2, hF2⟩
        rw [hq_76] at ef
        subst e0
        subst ef
        refine wq_if (c := r = 0) (p1 := 65) (L1 := [(0, .ref 71), (3, .int (X - nI (mtC am n))), (4, .int (nI i))]) (S1 := []) (p2 := 62) (L2 := [(0, .ref 71), (3, .int (X - nI (mtC am n))), (4, .int (nI i))]) (S2 := []) rfl (fun c_59 => ?_) (fun c_59 => ?_)
        · refine wq_run1 (pc' := 68) (L' := [(0, .ref 71), (3, .int (X - nI (mtC am n))), (4, .int ((nI i) + 1))]) (S' := []) (f' := (up1 (up1 f 76 g2) 71 (upd (f 71) 9 (nI s2)))) rfl ?_
          refine wq_L (L' := [(0, .ref 71), (3, .int (X - nI (mtC am n))), (4, .int (nI (i + 1)))]) (by rw [show nI i + 1 = nI (i + 1) from nI_add _ _]) ?_
          refine wq_run1 (pc' := 25) (L' := [(0, .ref 71), (3, .int (X - nI (mtC am n))), (4, .int (nI (i + 1)))]) (S' := []) (f' := (up1 (up1 f 76 g2) 71 (upd (f 71) 9 (nI s2)))) rfl ?_
          obtain ⟨ea, hW2⟩ := kw_fail hW hF2 c_59
          exact ih (i + 1) g2 am (nI s2) (by omega) (by rw [ea] at hg2; exact hg2) hW2 (by omega)
        · refine wq_run2 (pc' := 68) (L' := [(0, .ref 71), (3, .int ((X - nI (mtC am n)) + (-1))), (4, .int ((nI i) + 1))]) (S' := []) (f' := (up1 (up1 f 76 g2) 71 (upd (f 71) 9 (nI s2)))) rfl ?_
          refine wq_L (L' := [(0, .ref 71), (3, .int ((X - nI (mtC am n)) + (-1))), (4, .int (nI (i + 1)))]) (by rw [show nI i + 1 = nI (i + 1) from nI_add _ _]) ?_
          refine wq_run1 (pc' := 25) (L' := [(0, .ref 71), (3, .int ((X - nI (mtC am n)) + (-1))), (4, .int (nI (i + 1)))]) (S' := []) (f' := (up1 (up1 f 76 g2) 71 (upd (f 71) 9 (nI s2)))) rfl ?_
          obtain ⟨hW2, em⟩ := kw_succ (fun p hp => (hK.2.2 p hp).2) hin hW hF2 c_59
          have h9 := ih (i + 1) g2 am2 (nI s2) (by omega) hg2 hW2 (by omega)
          rw [em, show X - nI (mtC am n + 1) = X - nI (mtC am n) + (-1) from by rw [← nI_1, ← Int32.sub_sub, Int32.sub_eq_add_neg]] at h9
          exact h9
def FrW (f f' : HI) : Prop := (∀ r, r ≠ 10 → r ≠ 71 → r ≠ 75 → r ≠ 76 → f' r = f r) ∧ ∀ k, k ≠ 9 → f' 71 k = f 71 k
def NeD (W : Nat → Nat → Nat) (w : Nat) (to fr en wr : Nat → Nat) (sa : Nat → Int32) (wa S n : Nat) (p q : Nat) : Prop := p < n ∧ q < n ∧ edB W w to fr en wr sa wa S p q = true
def FoP (N : Nat → Nat → Prop) (S n : Nat) (r : Int32) : Prop := (S = 0 → r = 0) ∧ (¬ S = 0 → ∃ M R B, KuI N M R n n ∧ (∀ l, B l = true ↔ ∃ j, M l j) ∧ r = nI (pcN 24 S) - nI (huC B n) - 1)
theorem ne_eq (W : Nat → Nat → Nat) (w : Nat) (to fr en wr : Nat → Nat) (sa : Nat → Int32) (wa S n : Nat) : NeA (fun l => mkM (edB W w to fr en wr sa wa S l) n) n = NeD W w to fr en wr sa wa S n := by
  funext p q
  apply propext
  unfold NeA NeD
  rw [mk_b]
  exact ⟨fun h => ⟨h.1, h.2.1, h.2.2.2⟩, fun h => ⟨h.1, h.2.1, h.2.1, h.2.2⟩⟩
theorem kw_B {n : Nat} {am : Nat → Nat} (l : Nat) : (decide (l < n ∧ 1 ≤ cnA am l n) = true) ↔ ∃ j, MaA am n l j := by
  rw [decide_eq_true_iff]
  constructor
  · rintro ⟨h1, h2⟩
    obtain ⟨j, j1, j2⟩ := ca_ex n h2
    exact ⟨j, j1, j2, h1⟩
  · rintro ⟨j, j1, j2, j3⟩
    exact ⟨j3, ca_ge j2 n j1⟩
theorem mt_B {n : Nat} {am : Nat → Nat} : mtC am n = huC (fun l => decide (l < n ∧ 1 ≤ cnA am l n)) n := (hu_c n (fun p hp => by
  show decide (p < n ∧ 1 ≤ cnA am p n) = decide (1 ≤ cnA am p n)
  rw [decide_eq_decide]
  exact ⟨fun q => q.2, fun q => ⟨hp, q⟩⟩)).symm
theorem sp_forgeries {f : HI} {W : Nat → Nat → Nat} {w n wa : Nat} {to fr en wr : Nat → Nat} {sa : Nat → Int32} {kk ww : Nat → Int32} (hL : LaC f W w) (hF : LfC f n wa to fr en wr sa) (hl : LtC f n kk ww) (st : Int32) : Sp 26 77 [.ref 71, .int st] f (fun v f' => ∃ r, v = some (.int r) ∧ FrW f f' ∧ FoP (NeD W w to fr en wr sa wa (akN kk ww st n) n) (akN kk ww st n) n r) := by
  show wq 26 77 (fun v f' => ∃ r, v = some (.int r) ∧ FrW f f' ∧ FoP (NeD W w to fr en wr sa wa (akN kk ww st n) n) (akN kk ww st n) n r) 0 [(0, .ref 71), (1, .int st)] [] f
  have hS24 : (akN kk ww st n) < 2 ^ 24 := Nat.lt_of_lt_of_le (ak_lt kk ww st n) (Nat.pow_le_pow_right (by decide) hF.2.1)
  have hn24 := hF.2.1
  refine wq_run2 (pc' := 2) (L' := [(0, .ref 71), (1, .int st)]) (S' := [.int st, .ref 71]) (f' := f) rfl ?_
  refine wq_callI (r := (nI (akN kk ww st n))) (sp_lettersWith hl st) (Nat.le_of_ble_eq_true rfl) (pc' := 5) (L' := [(0, .ref 71), (1, .int st)]) (S' := []) rfl (Nat.le_of_ble_eq_true rfl) rfl rfl (Nat.le_of_ble_eq_true rfl) (Nat.le_of_ble_eq_true rfl) ?_
  refine wq_run2 (pc' := 7) (L' := [(0, .ref 71), (1, .int st), (2, .int (nI (akN kk ww st n)))]) (S' := [.int (nI (akN kk ww st n))]) (f' := f) rfl ?_
  refine wq_if (c := (nI (akN kk ww st n)) = 0) (p1 := 10) (L1 := [(0, .ref 71), (1, .int st), (2, .int (nI (akN kk ww st n)))]) (S1 := []) (p2 := 12) (L2 := [(0, .ref 71), (1, .int st), (2, .int (nI (akN kk ww st n)))]) (S2 := []) rfl (fun c_7 => ?_) (fun c_7 => ?_)
  · have k_7 : (akN kk ww st n) = 0 := (nI_eq (a := (akN kk ww st n)) (b := 0) (by omega) (by omega)).mp c_7
    refine wq_run1 (pc' := 11) (L' := [(0, .ref 71), (1, .int st), (2, .int (nI (akN kk ww st n)))]) (S' := [.int 0]) (f' := f) rfl ?_
    exact wq_ret rfl ⟨0, rfl, ⟨fun _ _ _ _ _ => rfl, fun _ _ => rfl⟩, fun _ => rfl, fun q => absurd k_7 q⟩
  · have k_7 : ¬ (akN kk ww st n) = 0 := fun q => c_7 ((nI_eq (a := (akN kk ww st n)) (b := 0) (by omega) (by omega)).mpr q)
    refine wq_run2 (pc' := 14) (L' := [(0, .ref 71), (1, .int st), (2, .int (nI (akN kk ww st n)))]) (S' := [.int (nI (akN kk ww st n)), .ref 71]) (f' := f) rfl ?_
    refine wq_call (sp_findWashable hL hF (ak_lt kk ww st n)) (Nat.le_of_ble_eq_true rfl) (pc' := 17) (L' := [(0, .ref 71), (1, .int st), (2, .int (nI (akN kk ww st n)))]) (S' := []) rfl (Nat.le_of_ble_eq_true rfl) rfl rfl (Nat.le_of_ble_eq_true rfl) (Nat.le_of_ble_eq_true rfl) ?_
    rintro v f9 ⟨e0, g5, g6, gt, ef, h6, h5⟩
    subst e0
    subst ef
    refine wq_run1 (pc' := 18) (L' := [(0, .ref 71), (1, .int st), (2, .int (nI (akN kk ww st n)))]) (S' := [.int (nI (akN kk ww st n))]) (f' := (up1 (up1 (up1 f 75 g5) 76 g6) 10 gt)) rfl ?_
    refine wq_callI (r := (nI (pcN 24 (akN kk ww st n)))) (jp_bc24 (up1 (up1 (up1 f 75 g5) 76 g6) 10 gt) hS24) (Nat.le_of_ble_eq_true rfl) (pc' := 21) (L' := [(0, .ref 71), (1, .int st), (2, .int (nI (akN kk ww st n)))]) (S' := []) rfl (Nat.le_of_ble_eq_true rfl) rfl rfl (Nat.le_of_ble_eq_true rfl) (Nat.le_of_ble_eq_true rfl) ?_
    refine wq_run3 (pc' := 25) (L' := [(0, .ref 71), (3, .int (nI (pcN 24 (akN kk ww st n)))), (4, .int 0)]) (S' := []) (f' := (up1 (up1 (up1 f 75 g5) 76 g6) 10 gt)) rfl ?_
    have h9 := lp_rows (f := (up1 (up1 (up1 f 75 g5) 76 g6) 10 gt)) (n := n) (A := fun l => mkM (edB W w to fr en wr sa wa (akN kk ww st n) l) n) (X := nI (pcN 24 (akN kk ww st n))) ⟨hF.1, hF.2.1, fun l q => ⟨h5 l q, mk_lt _ n⟩⟩ (n - 0 + 1) 0 g6 (fun _ => 999) (f 71 9) (Nat.zero_le _) (fun k q => (h6 k q).trans (rI_n (by decide)).symm) (kw_0.resolve_right (by omega)).1 (Nat.lt_succ_self _)
    rw [show up1 (up1 (up1 (up1 (up1 f 75 g5) 76 g6) 10 gt) 76 g6) 71 (upd ((up1 (up1 (up1 f 75 g5) 76 g6) 10 gt) 71) 9 (f 71 9)) = (up1 (up1 (up1 f 75 g5) 76 g6) 10 gt) from by
      rw [show upd ((up1 (up1 (up1 f 75 g5) 76 g6) 10 gt) 71) 9 (f 71 9) = (up1 (up1 (up1 f 75 g5) 76 g6) 10 gt) 71 from upd_id (f 71) 9, show (up1 (up1 (up1 (up1 f 75 g5) 76 g6) 10 gt) 76 g6) = (up1 (up1 (up1 f 75 g5) 76 g6) 10 gt) from up1_id (up1 (up1 (up1 f 75 g5) 76 g6) 10 gt) 76, up1_id], (kw_0 (A := fun l => mkM (edB W w to fr en wr sa wa (akN kk ww st n) l) n) (n := n).resolve_right (by omega)).2, nI_0, Int32.sub_zero] at h9
    refine wpS_mono (fun v h q => ⟨q.1, ?_⟩) h9
    obtain ⟨am, g', s', q1, q2, q3⟩ := q.2
    refine ⟨_, q1, ⟨fun r a b c d => by rw [q2, up1_f b, up1_f d, up1_f a, up1_f d, up1_f c], fun k hk => by rw [q2, up1_s]; exact upd_n hk⟩, fun z => absurd z k_7, fun _ => ?_⟩
    obtain ⟨⟨R, q4⟩, _⟩ := q3
    rw [ne_eq] at q4
    exact ⟨_, R, _, q4, kw_B, by rw [mt_B]⟩
theorem sp_forged1 (f : HI) {st : Int32} (h1 : ¬ inR st 0 2399) : Sp 3 104 [.ref 0, .int st] f (Ret (-3) f) := by
  show wq 3 104 (Ret (-3) f) 0 [(0, .ref 0), (1, .int st)] [] f
  refine wq_run1 (pc' := 1) (L' := [(0, .ref 0), (1, .int st)]) (S' := [.int st]) (f' := f) rfl ?_
  refine wq_callI (r := (b2i (inR st 0 2399))) (sp_isStamp f st) (Nat.le_of_ble_eq_true rfl) (pc' := 4) (L' := [(0, .ref 0), (1, .int st)]) (S' := []) rfl (Nat.le_of_ble_eq_true rfl) rfl rfl (Nat.le_of_ble_eq_true rfl) (Nat.le_of_ble_eq_true rfl) ?_
  refine wq_if (c := (b2i (inR st 0 2399)) = 0) (p1 := 7) (L1 := [(0, .ref 0), (1, .int st)]) (S1 := []) (p2 := 10) (L2 := [(0, .ref 0), (1, .int st)]) (S2 := []) rfl (fun _ => ?_) (fun q => absurd (b2i_0.mpr h1) q)
  refine wq_run1 (pc' := 9) (L' := [(0, .ref 0), (1, .int st)]) (S' := [.int (-3)]) (f' := f) rfl ?_
  exact wq_ret rfl ⟨rfl, rfl⟩
theorem sp_forged2 {f : HI} {W : Nat → Nat → Nat} {w n wa : Nat} {to fr en wr : Nat → Nat} {sa : Nat → Int32} {kk ww : Nat → Int32} (hL : LaC f W w) (hF : LfC f n wa to fr en wr sa) (hl : LtC f n kk ww) (st : Int32) (h1 : inR st 0 2399) : Sp 27 104 [.ref 0, .int st] f (fun v f' => ∃ r, v = some (.int r) ∧ FrW f f' ∧ FoP (NeD W w to fr en wr sa wa (akN kk ww st n) n) (akN kk ww st n) n r) := by
  show wq 27 104 (fun v f' => ∃ r, v = some (.int r) ∧ FrW f f' ∧ FoP (NeD W w to fr en wr sa wa (akN kk ww st n) n) (akN kk ww st n) n r) 0 [(0, .ref 0), (1, .int st)] [] f
  refine wq_run1 (pc' := 1) (L' := [(0, .ref 0), (1, .int st)]) (S' := [.int st]) (f' := f) rfl ?_
  refine wq_callI (r := (b2i (inR st 0 2399))) (sp_isStamp f st) (Nat.le_of_ble_eq_true rfl) (pc' := 4) (L' := [(0, .ref 0), (1, .int st)]) (S' := []) rfl (Nat.le_of_ble_eq_true rfl) rfl rfl (Nat.le_of_ble_eq_true rfl) (Nat.le_of_ble_eq_true rfl) ?_
  refine wq_if (c := (b2i (inR st 0 2399)) = 0) (p1 := 7) (L1 := [(0, .ref 0), (1, .int st)]) (S1 := []) (p2 := 10) (L2 := [(0, .ref 0), (1, .int st)]) (S2 := []) rfl (fun q => absurd q (b2i_n0.mpr h1)) (fun _ => ?_)
  refine wq_run3 (pc' := 15) (L' := [(0, .ref 0), (1, .int st)]) (S' := [.int st, .ref 71]) (f' := f) rfl ?_
  refine wq_call (sp_forgeries hL hF hl st) (Nat.le_of_ble_eq_true rfl) (pc' := 18) (L' := [(0, .ref 0), (1, .int st)]) (S' := []) rfl (Nat.le_of_ble_eq_true rfl) rfl rfl (Nat.le_of_ble_eq_true rfl) (Nat.le_of_ble_eq_true rfl) ?_
  rintro v f9 ⟨r, e0, q1, q2⟩
  subst e0
  exact wq_ret rfl ⟨r, rfl, q1, q2⟩
