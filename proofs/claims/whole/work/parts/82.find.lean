/-! stamps: a letter is put behind another one (class) -/
theorem bN_bd {x n q : Nat} (hx : x < 2 ^ n) (h : bN x q = 1) : q < n := by
  apply Nat.lt_of_not_le
  intro c
  rw [bN_tb, Nat.testBit_lt_two_pow (Nat.lt_of_lt_of_le hx (Nat.pow_le_pow_right (by decide) c))] at h
  cases h
theorem pcq_mono {x y : Nat} (h : ∀ i, bN x i = 1 → bN y i = 1) : ∀ k, pcN k x ≤ pcN k y
  | 0 => Nat.le_refl _
  | k + 1 => by
    have h1 := pcq_mono h k
    have h2 := bN_lt x k
    have h3 := h k
    rw [pcN, pcN]
    omega
theorem bor_lt {x n j : Nat} (hx : x < 2 ^ n) (hj : j < n) : x ||| 2 ^ j < 2 ^ n := Nat.or_lt_two_pow hx (Nat.pow_lt_pow_right (by decide) hj)
def KfC (f : HI) (n : Nat) (A : Nat → Nat) : Prop := f 43 6 = nI n ∧ n ≤ 24 ∧ ∀ l, l < n → f 75 l = nI (A l) ∧ A l < 2 ^ n
def FnP (A : Nat → Nat) (n l : Nat) (am : Nat → Nat) (sn : Nat) (r : Int32) (am' : Nat → Nat) (sn' : Nat) : Prop := sn' < 2 ^ n ∧ (∀ i, bN sn i = 1 → bN sn' i = 1) ∧ ((r = 0 ∧ am' = am ∧ (∀ q, bN (A l) q = 1 → bN sn' q = 1) ∧ ∀ i, bN sn' i = 1 → bN sn i = 1 ∨ (i < n ∧ am i < n ∧ ∀ q, bN (A (am i)) q = 1 → bN sn' q = 1)) ∨ (r = 1 ∧ (∀ i, am' i = am i ∨ (bN sn i = 0 ∧ i < n ∧ am' i < n ∧ bN (A (am' i)) i = 1)) ∧ (∀ p, p < n → cnA am' p n = cnA am p n + if p = l then 1 else 0) ∧ ∀ Rc : Nat → Prop, (∀ i, Rc i → am i < n ∧ ∀ q, bN (A (am i)) q = 1 → Rc q) → (∃ q, bN (A l) q = 1 ∧ ¬ Rc q) ∧ ∀ i, Rc i → am' i = am i))
def FlP (A : Nat → Nat) (n l : Nat) (am : Nat → Nat) (sn j s : Nat) : Prop := s < 2 ^ n ∧ (∀ i, bN sn i = 1 → bN s i = 1) ∧ (∀ i, i < j → bN (A l) i = 1 → bN s i = 1) ∧ ∀ i, bN s i = 1 → bN sn i = 1 ∨ (i < n ∧ am i < n ∧ ∀ q, bN (A (am i)) q = 1 → bN s q = 1)
section P82
variable {A : Nat → Nat} {n l : Nat} {am am2 : Nat → Nat} {sn s s2 j : Nat}
theorem bo_n {x j i : Nat} (h : ¬ bN x i = 1) (hi : i ≠ j) : ¬ bN (x ||| 2 ^ j) i = 1 := fun q => (bN_or.mp q).elim h hi
theorem upN_s (a : Nat → Nat) (j v : Nat) : updN a j v j = v := if_pos rfl
theorem upN_n {a : Nat → Nat} {j v i : Nat} (h : i ≠ j) : updN a j v i = a i := if_neg h
theorem fn_free (hF : FlP A n l am sn j s) (hj : j < n) (hl : l < n) (h1 : bN (A l) j = 1) (h2 : bN s j = 0) (h3 : 32 ≤ am j) (hn : n ≤ 24) : FnP A n l am sn 1 (updN am j l) (s ||| 2 ^ j) := by
  have h4 : bN sn j = 0 := bN_0.mpr (fun q => by rw [hF.2.1 j q] at h2; exact absurd h2 (by decide))
  refine ⟨bor_lt hF.1 hj, fun i q => bN_or.mpr (Or.inl (hF.2.1 i q)), Or.inr ⟨rfl, fun i => ?_, fun p hp => ?_, fun Rc hR => ⟨⟨j, h1, fun q => by have := (hR j q).1; omega⟩, fun i q => upN_n (fun e => by have := (hR i q).1; rw [e] at this; omega)⟩⟩⟩
  · by_cases c : i = j
    · right
      rw [c, upN_s]
      exact ⟨h4, hj, hl, h1⟩
    · left
      exact upN_n c
  · have h5 := ca_upd (a := am) (j := j) (v := l) (p := p) n
    rw [if_neg (fun q => by omega)] at h5
    rw [show cnA (updN am j l) p n = _ from h5]
    exact congrArg (fun z => cnA am p n + z) (hu_ite ⟨fun q => q.2.symm, fun q => ⟨hj, q.symm⟩⟩)
theorem fn_rec1 (hF : FlP A n l am sn j s) (hj : j < n) (hl : l < n) (h1 : bN (A l) j = 1) (h2 : bN s j = 0) (h3 : am j < n) {r : Int32} (h : FnP A n (am j) am (s ||| 2 ^ j) r am2 s2) (hr : ¬ r = 0) : FnP A n l am sn 1 (updN am2 j l) s2 := by
  have h4 : bN sn j = 0 := bN_0.mpr (fun q => by rw [hF.2.1 j q] at h2; exact absurd h2 (by decide))
  obtain ⟨k1, k2, k3⟩ := h
  obtain ⟨_, e1, e2, e3⟩ := k3.resolve_left (fun q => hr q.1)
  have e4 : am2 j = am j := (e1 j).resolve_right (fun q => by
    have := bN_or (m := s) (i := j) (j := j) |>.mpr (Or.inr rfl)
    omega)
  refine ⟨k1, fun i q => k2 i (bN_or.mpr (Or.inl (hF.2.1 i q))), Or.inr ⟨rfl, fun i => ?_, fun p hp => ?_, fun Rc hR => ?_⟩⟩
  · by_cases c : i = j
    · right
      rw [c, upN_s]
      exact ⟨h4, hj, hl, h1⟩
    · rw [upN_n c]
      rcases e1 i with q | ⟨q1, q2⟩
      · exact Or.inl q
      · refine Or.inr ⟨bN_0.mpr (fun z => ?_), q2⟩
        have := bN_or (m := s) (i := j) (j := i) |>.mpr (Or.inl (hF.2.1 i z))
        omega
  · have h5 := ca_upd (a := am2) (j := j) (v := l) (p := p) n
    rw [e2 p hp, e4] at h5
    have h6 : (if j < n ∧ am j = p then 1 else 0) = (if p = am j then 1 else 0) := hu_ite ⟨fun q => q.2.symm, fun q => ⟨hj, q.symm⟩⟩
    have h7 : (if j < n ∧ l = p then 1 else 0) = (if p = l then 1 else 0) := hu_ite ⟨fun q => q.2.symm, fun q => ⟨hj, q.symm⟩⟩
    omega
  · obtain ⟨⟨q, q1, q2⟩, q3⟩ := e3 Rc hR
    have hjn : ¬ Rc j := fun z => q2 ((hR j z).2 q q1)
    exact ⟨⟨j, h1, hjn⟩, fun i z => by rw [upN_n (show i ≠ j from fun e => hjn (e ▸ z))]; exact q3 i z⟩
theorem fl_rec0 (hF : FlP A n l am sn j s) (hj : j < n) (h3 : am j < n) {r : Int32} (h : FnP A n (am j) am (s ||| 2 ^ j) r am2 s2) (hr : r = 0) : am2 = am ∧ FlP A n l am sn (j + 1) s2 := by
  obtain ⟨k1, k2, k3⟩ := h
  obtain ⟨_, e1, e2, e3⟩ := k3.resolve_right (fun q => absurd (hr.symm.trans q.1) (by decide))
  have up : ∀ i, bN s i = 1 → bN s2 i = 1 := fun i q => k2 i (bN_or.mpr (Or.inl q))
  refine ⟨e1, k1, fun i q => up i (hF.2.1 i q), fun i hi q => ?_, fun i q => ?_⟩
  · by_cases c : i = j
    · exact k2 i (bN_or.mpr (Or.inr c))
    · exact up i (hF.2.2.1 i (by omega) q)
  · rcases e3 i q with z | z
    · rcases bN_or.mp z with z | z
      · rcases hF.2.2.2 i z with y | ⟨y1, y2, y3⟩
        · exact Or.inl y
        · exact Or.inr ⟨y1, y2, fun q hq => up q (y3 q hq)⟩
      · rw [z]
        exact Or.inr ⟨hj, h3, e2⟩
    · exact Or.inr z
theorem fl_skip (hF : FlP A n l am sn j s) (h : ¬ (bN (A l) j = 1 ∧ bN s j = 0)) : FlP A n l am sn (j + 1) s := by
  refine ⟨hF.1, hF.2.1, fun i hi q => ?_, hF.2.2.2⟩
  by_cases c : i = j
  · rw [c] at q ⊢
    have := bN_lt s j
    have : ¬ bN s j = 0 := fun z => h ⟨q, z⟩
    omega
  · exact hF.2.2.1 i (by omega) q
theorem fn_end (hA : A l < 2 ^ n) (hF : FlP A n l am sn n s) : FnP A n l am sn 0 am s := ⟨hF.1, hF.2.1, Or.inl ⟨rfl, rfl, fun q hq => hF.2.2.1 q (bN_bd hA hq) hq, hF.2.2.2⟩⟩
theorem flp_0 (hs : sn < 2 ^ n) : FlP A n l am sn 0 sn := ⟨hs, fun _ q => q, fun i hi => absurd hi (Nat.not_lt_zero _), fun _ q => Or.inl q⟩
theorem fn_full (hn : n ≤ 24) (hA : A l < 2 ^ n) (hs : sn < 2 ^ n) (h : 24 ≤ pcN 24 sn) : FnP A n l am sn 0 am sn := ⟨hs, fun _ q => q, Or.inl ⟨rfl, rfl, fun q hq => pcq_full 24 sn h q (by have := bN_bd hA hq; omega), fun _ q => Or.inl q⟩⟩
end P82
theorem hq_76 {f : HI} {g g' : Nat → Int32} {a b : Int32} : up1 (up1 (up1 (up1 f 76 g) 71 (upd (f 71) 9 a)) 76 g') 71 (upd ((up1 (up1 f 76 g) 71 (upd (f 71) 9 a)) 71) 9 b) = up1 (up1 f 76 g') 71 (upd (f 71) 9 b) := by
  show up1 (up1 (up1 (up1 f 76 g) 71 (upd (f 71) 9 a)) 76 g') 71 (upd (upd (f 71) 9 a) 9 b) = _
  rw [up1_sw (a := 76) (b := 71) (by decide), up1_up1, up1_up1, upd_upd]
theorem up_rI {n : Nat} {g : Nat → Int32} {am : Nat → Nat} {j v : Nat} (hg : ∀ i, i < n → g i = rI (am i)) (hv : v < 32) : ∀ i, i < n → upd g j (nI v) i = rI (updN am j v i) := by
  intro i hi
  by_cases c : i = j
  · rw [c, upd_s, upN_s, rI_y hv]
  · rw [upd_n c, upN_n c]; exact hg i hi
theorem lp_find {n : Nat} {A : Nat → Nat} {k : Nat} (IH : ∀ (f : HI) (am : Nat → Nat) (l d sn : Nat), KfC f n A → d + k = 24 → l < n → (∀ i, i < n → f 76 i = rI (am i)) → (∀ i, am i < n ∨ 32 ≤ am i) → f 71 9 = nI sn → sn < 2 ^ n → d ≤ pcN 24 sn → Sp (k + 1) 80 [.ref 71, .int (nI l), .int (nI d)] f (fun v f' => ∃ r g' am' sn', v = some (.int r) ∧ f' = up1 (up1 f 76 g') 71 (upd (f 71) 9 (nI sn')) ∧ (∀ i, i < n → g' i = rI (am' i)) ∧ FnP A n l am sn r am' sn')) {f : HI} {am : Nat → Nat} {l d sn : Nat} (hK : KfC f n A) (hd : d + (k + 1) = 24) (hl : l < n) (hr : ∀ i, am i < n ∨ 32 ≤ am i) (hpc : d ≤ pcN 24 sn) : ∀ (m9 : Nat) (j : Nat) (g : Nat → Int32) (s : Nat), (j ≤ n) → (∀ i, i < n → g i = rI (am i)) → (FlP A n l am sn j s) → n - j < m9 → wq (k + 2) 80 (fun v f' => ∃ r g' am' sn', v = some (.int r) ∧ f' = up1 (up1 f 76 g') 71 (upd (f 71) 9 (nI sn')) ∧ (∀ i, i < n → g' i = rI (am' i)) ∧ FnP A n l am sn r am' sn') 10 [(0, .ref 71), (1, .int (nI l)), (2, .int (nI d)), (3, .int (nI j))] [] (up1 (up1 f 76 g) 71 (upd (f 71) 9 (nI s))) := by
  intro m9
  induction m9 with
  | zero => intro j g s hj hg hF hn; exact absurd hn (Nat.not_lt_zero _)
  | succ m9 ih =>
    intro j g s hj hg hF hn
    have hn24 := hK.2.1
    have hA24 : A l < 2 ^ 24 := Nat.lt_of_lt_of_le (hK.2.2 l hl).2 (Nat.pow_le_pow_right (by decide) hn24)
    refine wq_run4 (pc' := 18) (L' := [(0, .ref 71), (1, .int (nI l)), (2, .int (nI d)), (3, .int (nI j))]) (S' := [.int (f 43 6), .int (nI j)]) (f' := (up1 (up1 f 76 g) 71 (upd (f 71) 9 (nI s)))) rfl ?_
    refine wq_v (y := (nI n)) (hK.1) ?_
    refine wq_if (c := (nI n) ≤ (nI j)) (p1 := 97) (L1 := [(0, .ref 71), (1, .int (nI l)), (2, .int (nI d)), (3, .int (nI j))]) (S1 := []) (p2 := 21) (L2 := [(0, .ref 71), (1, .int (nI l)), (2, .int (nI d)), (3, .int (nI j))]) (S2 := []) rfl (fun c_18 => ?_) (fun c_18 => ?_)
    · have k_18 : n ≤ j := (nI_leI (a := n) (b := j) (by omega) (by omega)).mp c_18
      refine wq_run1 (pc' := 98) (L' := [(0, .ref 71), (1, .int (nI l)), (2, .int (nI d)), (3, .int (nI j))]) (S' := [.int 0]) (f' := (up1 (up1 f 76 g) 71 (upd (f 71) 9 (nI s)))) rfl ?_
      have e : j = n := by omega
      rw [e] at hF
      exact wq_retZ rfl (Or.inl rfl) ⟨0, g, am, s, rfl, rfl, hg, fn_end (hK.2.2 l hl).2 hF⟩
    · have k_18 : ¬ n ≤ j := fun q => c_18 ((nI_leI (a := n) (b := j) (by omega) (by omega)).mpr q)
      have hjn : j < n := by omega
      have hj24 : j < 24 := by omega
      refine wq_run3 (pc' := 26) (L' := [(0, .ref 71), (1, .int (nI l)), (2, .int (nI d)), (3, .int (nI j))]) (S' := [.int (nI l), .ref 75]) (f' := (up1 (up1 f 76 g) 71 (upd (f 71) 9 (nI s)))) rfl ?_
      refine wq_ald (j := l) (n := 24) (v := (nI (A l))) rfl rfl rfl rfl (by omega) (Nat.le_of_ble_eq_true rfl) ((hK.2.2 l hl).1) ?_
      refine wq_run8 (pc' := 37) (L' := [(0, .ref 71), (1, .int (nI l)), (2, .int (nI d)), (3, .int (nI j))]) (S' := [.int ((1 : Int32) <<< ((nI j) &&& 31)), .int ((nI (A l)) &&& ((nI s) ^^^ (-1)))]) (f' := (up1 (up1 f 76 g) 71 (upd (f 71) 9 (nI s)))) rfl ?_
      refine wq_v (y := (nI (2 ^ j))) (shl1 (n := j) (by omega)) ?_
      refine wq_run1 (pc' := 38) (L' := [(0, .ref 71), (1, .int (nI l)), (2, .int (nI d)), (3, .int (nI j))]) (S' := [.int (((nI (A l)) &&& ((nI s) ^^^ (-1))) &&& (nI (2 ^ j)))]) (f' := (up1 (up1 f 76 g) 71 (upd (f 71) 9 (nI s)))) rfl ?_
      refine wq_if (c := (((nI (A l)) &&& ((nI s) ^^^ (-1))) &&& (nI (2 ^ j))) = 0) (p1 := 41) (L1 := [(0, .ref 71), (1, .int (nI l)), (2, .int (nI d)), (3, .int (nI j))]) (S1 := []) (p2 := 44) (L2 := [(0, .ref 71), (1, .int (nI l)), (2, .int (nI d)), (3, .int (nI j))]) (S2 := []) rfl (fun c_38 => ?_) (fun c_38 => ?_)
      · have h_38 := (un_0 hA24 hj24).mp c_38
        refine wq_run2 (pc' := 94) (L' := [(0, .ref 71), (1, .int (nI l)), (2, .int (nI d)), (3, .int ((nI j) + 1))]) (S' := []) (f' := (up1 (up1 f 76 g) 71 (upd (f 71) 9 (nI s)))) rfl ?_
        refine wq_L (L' := [(0, .ref 71), (1, .int (nI l)), (2, .int (nI d)), (3, .int (nI (j + 1)))]) (by rw [show nI j + 1 = nI (j + 1) from nI_add _ _]) ?_
        refine wq_run1 (pc' := 10) (L' := [(0, .ref 71), (1, .int (nI l)), (2, .int (nI d)), (3, .int (nI (j + 1)))]) (S' := []) (f' := (up1 (up1 f 76 g) 71 (upd (f 71) 9 (nI s)))) rfl ?_
        exact ih (j + 1) g s (by omega) hg (fl_skip hF h_38) (by omega)
      · have h_38 := Decidable.not_not.mp (fun q => c_38 ((un_0 hA24 hj24).mpr q))
        have hfr : rI (am j) = -1 → 32 ≤ am j := fun q => (hr j).resolve_left (fun z => by rw [rI_y (by omega)] at q; exact nI_nm (by omega) q)
        refine wq_run6 (pc' := 52) (L' := [(0, .ref 71), (1, .int (nI l)), (2, .int (nI d)), (3, .int (nI j))]) (S' := [.int ((1 : Int32) <<< ((nI j) &&& 31)), .int (nI s), .ref 71]) (f' := (up1 (up1 f 76 g) 71 (upd (f 71) 9 (nI s)))) rfl ?_
        refine wq_v (y := (nI (2 ^ j))) (shl1 (n := j) (by omega)) ?_
        refine wq_run1 (pc' := 53) (L' := [(0, .ref 71), (1, .int (nI l)), (2, .int (nI d)), (3, .int (nI j))]) (S' := [.int ((nI s) ||| (nI (2 ^ j))), .ref 71]) (f' := (up1 (up1 f 76 g) 71 (upd (f 71) 9 (nI s)))) rfl ?_
        refine wq_v (y := (nI (s ||| (2 ^ j)))) (nx_or s (2 ^ j)) ?_
        refine wq_putI rfl rfl ?_
        refine wq_h (f' := (up1 (up1 f 76 g) 71 (upd (f 71) 9 (nI (s ||| (2 ^ j)))))) ((up2_up1_eq (up1 f 76 g) 71 (upd (f 71) 9 (nI s)) 9 (nI (s ||| (2 ^ j)))).trans (congrArg (fun z => up1 (up1 f 76 g) 71 z) (upd_upd (f 71) 9 (nI s) (nI (s ||| (2 ^ j)))))) ?_
        refine wq_run3 (pc' := 61) (L' := [(0, .ref 71), (1, .int (nI l)), (2, .int (nI d)), (3, .int (nI j))]) (S' := [.int (nI j), .ref 76]) (f' := (up1 (up1 f 76 g) 71 (upd (f 71) 9 (nI (s ||| (2 ^ j)))))) rfl ?_
        refine wq_ald (j := j) (n := 24) (v := (rI (am j))) rfl rfl rfl rfl (by omega) (Nat.le_of_ble_eq_true rfl) (hg j hjn) ?_
        refine wq_run1 (pc' := 63) (L' := [(0, .ref 71), (1, .int (nI l)), (2, .int (nI d)), (3, .int (nI j))]) (S' := [.int (-1), .int (rI (am j))]) (f' := (up1 (up1 f 76 g) 71 (upd (f 71) 9 (nI (s ||| (2 ^ j)))))) rfl ?_
        refine wq_if (c := (rI (am j)) = (-1)) (p1 := 82) (L1 := [(0, .ref 71), (1, .int (nI l)), (2, .int (nI d)), (3, .int (nI j))]) (S1 := []) (p2 := 66) (L2 := [(0, .ref 71), (1, .int (nI l)), (2, .int (nI d)), (3, .int (nI j))]) (S2 := []) rfl (fun c_63 => ?_) (fun c_63 => ?_)
        · refine wq_run4 (pc' := 88) (L' := [(0, .ref 71), (1, .int (nI l)), (2, .int (nI d)), (3, .int (nI j))]) (S' := [.int (nI l), .int (nI j), .ref 76]) (f' := (up1 (up1 f 76 g) 71 (upd (f 71) 9 (nI (s ||| (2 ^ j)))))) rfl ?_
          refine wq_ist (j := j) (n := 24) rfl rfl rfl rfl (by omega) (Nat.le_of_ble_eq_true rfl) ?_
          refine wq_h (f' := (up1 (up1 f 76 (upd g j (nI l))) 71 (upd (f 71) 9 (nI (s ||| (2 ^ j)))))) ((up2_up1_ne (f := (up1 f 76 g)) (g := (upd (f 71) 9 (nI (s ||| (2 ^ j))))) (k := j) (v := (nI l)) (show (76 : Nat) ≠ 71 by decide)).trans (congrArg (fun z => up1 z 71 (upd (f 71) 9 (nI (s ||| (2 ^ j))))) ((up2_up1_eq f 76 g j (nI l)).trans (congrArg (fun z => up1 f 76 z) (rfl))))) ?_
          refine wq_run1 (pc' := 90) (L' := [(0, .ref 71), (1, .int (nI l)), (2, .int (nI d)), (3, .int (nI j))]) (S' := [.int 1]) (f' := (up1 (up1 f 76 (upd g j (nI l))) 71 (upd (f 71) 9 (nI (s ||| (2 ^ j)))))) rfl ?_
          exact wq_retZ rfl (Or.inr rfl) ⟨1, _, updN am j l, s ||| 2 ^ j, rfl, rfl, up_rI hg (by omega), fn_free hF hjn hl h_38.1 h_38.2 (hfr c_63) hK.2.1⟩
        · have hlj : am j < n := (hr j).resolve_right (fun q => c_63 (rI_n q))
          refine wq_run4 (pc' := 72) (L' := [(0, .ref 71), (1, .int (nI l)), (2, .int (nI d)), (3, .int (nI j))]) (S' := [.int (nI j), .ref 76, .ref 71]) (f' := (up1 (up1 f 76 g) 71 (upd (f 71) 9 (nI (s ||| (2 ^ j)))))) rfl ?_
          refine wq_ald (j := j) (n := 24) (v := (nI (am j))) rfl rfl rfl rfl (by omega) (Nat.le_of_ble_eq_true rfl) ((hg j hjn).trans (rI_y (by omega))) ?_
          refine wq_run3 (pc' := 76) (L' := [(0, .ref 71), (1, .int (nI l)), (2, .int (nI d)), (3, .int (nI j))]) (S' := [.int ((nI d) + 1), .int (nI (am j)), .ref 71]) (f' := (up1 (up1 f 76 g) 71 (upd (f 71) 9 (nI (s ||| (2 ^ j)))))) rfl ?_
          refine wq_v (y := (nI (d + 1))) (nI_add d 1) ?_
          refine wq_call ((IH (up1 (up1 f 76 g) 71 (upd (f 71) 9 (nI (s ||| (2 ^ j))))) am (am j) (d + 1) (s ||| 2 ^ j) hK (by omega) hlj (fun i hi => hg i hi) hr (upd_s _ _ _) (bor_lt hF.1 hjn) (by have z1 := pcq_mono hF.2.1 24; have z2 := pc_or (s := s) (j := j) h_38.2 24; rw [if_pos hj24] at z2; omega))) (Nat.le_refl _) (pc' := 79) (L' := [(0, .ref 71), (1, .int (nI l)), (2, .int (nI d)), (3, .int (nI j))]) (S' := []) rfl (Nat.le_of_ble_eq_true rfl) rfl rfl (Nat.le_of_ble_eq_true rfl) (Nat.le_of_ble_eq_true rfl) ?_
          rintro v f9 ⟨r, g2, am2, s2, e0, ef, hg2, hF2⟩
          rw [hq_76] at ef
          subst e0
          subst ef
          refine wq_if (c := r = 0) (p1 := 91) (L1 := [(0, .ref 71), (1, .int (nI l)), (2, .int (nI d)), (3, .int (nI j))]) (S1 := []) (p2 := 82) (L2 := [(0, .ref 71), (1, .int (nI l)), (2, .int (nI d)), (3, .int (nI j))]) (S2 := []) rfl (fun c_79 => ?_) (fun c_79 => ?_)
          · refine wq_run1 (pc' := 94) (L' := [(0, .ref 71), (1, .int (nI l)), (2, .int (nI d)), (3, .int ((nI j) + 1))]) (S' := []) (f' := (up1 (up1 f 76 g2) 71 (upd (f 71) 9 (nI s2)))) rfl ?_
            refine wq_L (L' := [(0, .ref 71), (1, .int (nI l)), (2, .int (nI d)), (3, .int (nI (j + 1)))]) (by rw [show nI j + 1 = nI (j + 1) from nI_add _ _]) ?_
            refine wq_run1 (pc' := 10) (L' := [(0, .ref 71), (1, .int (nI l)), (2, .int (nI d)), (3, .int (nI (j + 1)))]) (S' := []) (f' := (up1 (up1 f 76 g2) 71 (upd (f 71) 9 (nI s2)))) rfl ?_
            obtain ⟨ea, hF3⟩ := fl_rec0 hF hjn hlj hF2 c_79
            exact ih (j + 1) g2 s2 (by omega) (by rw [ea] at hg2; exact hg2) hF3 (by omega)
          · refine wq_run4 (pc' := 88) (L' := [(0, .ref 71), (1, .int (nI l)), (2, .int (nI d)), (3, .int (nI j))]) (S' := [.int (nI l), .int (nI j), .ref 76]) (f' := (up1 (up1 f 76 g2) 71 (upd (f 71) 9 (nI s2)))) rfl ?_
            refine wq_ist (j := j) (n := 24) rfl rfl rfl rfl (by omega) (Nat.le_of_ble_eq_true rfl) ?_
            refine wq_h (f' := (up1 (up1 f 76 (upd g2 j (nI l))) 71 (upd (f 71) 9 (nI s2)))) ((up2_up1_ne (f := (up1 f 76 g2)) (g := (upd (f 71) 9 (nI s2))) (k := j) (v := (nI l)) (show (76 : Nat) ≠ 71 by decide)).trans (congrArg (fun z => up1 z 71 (upd (f 71) 9 (nI s2))) ((up2_up1_eq f 76 g2 j (nI l)).trans (congrArg (fun z => up1 f 76 z) (rfl))))) ?_
            refine wq_run1 (pc' := 90) (L' := [(0, .ref 71), (1, .int (nI l)), (2, .int (nI d)), (3, .int (nI j))]) (S' := [.int 1]) (f' := (up1 (up1 f 76 (upd g2 j (nI l))) 71 (upd (f 71) 9 (nI s2)))) rfl ?_
            exact wq_retZ rfl (Or.inr rfl) ⟨1, _, updN am2 j l, s2, rfl, rfl, up_rI hg2 (by omega), fn_rec1 hF hjn hl h_38.1 h_38.2 hlj hF2 c_79⟩
theorem sp_find {n : Nat} {A : Nat → Nat} : ∀ (m : Nat) (f : HI) (am : Nat → Nat) (l d sn : Nat), KfC f n A → d + m = 24 → l < n → (∀ i, i < n → f 76 i = rI (am i)) → (∀ i, am i < n ∨ 32 ≤ am i) → f 71 9 = nI sn → sn < 2 ^ n → d ≤ pcN 24 sn → Sp (m + 1) 80 [.ref 71, .int (nI l), .int (nI d)] f (fun v f' => ∃ r g' am' sn', v = some (.int r) ∧ f' = up1 (up1 f 76 g') 71 (upd (f 71) 9 (nI sn')) ∧ (∀ i, i < n → g' i = rI (am' i)) ∧ FnP A n l am sn r am' sn') := by
  intro m
  induction m with
  | zero =>
    intro f am l d sn hK hd hl hg hr hsn hs hpc
    show wq 1 80 (fun v f' => ∃ r g' am' sn', v = some (.int r) ∧ f' = up1 (up1 f 76 g') 71 (upd (f 71) 9 (nI sn')) ∧ (∀ i, i < n → g' i = rI (am' i)) ∧ FnP A n l am sn r am' sn') 0 [(0, .ref 71), (1, .int (nI l)), (2, .int (nI d))] [] f
    refine wq_run2 (pc' := 3) (L' := [(0, .ref 71), (1, .int (nI l)), (2, .int (nI d))]) (S' := [.int 24, .int (nI d)]) (f' := f) rfl ?_
    refine wq_if (c := (nI d) < 24) (p1 := 8) (L1 := [(0, .ref 71), (1, .int (nI l)), (2, .int (nI d))]) (S1 := []) (p2 := 6) (L2 := [(0, .ref 71), (1, .int (nI l)), (2, .int (nI d))]) (S2 := []) rfl (fun q => absurd q (fun q => absurd ((nI_ltI (a := d) (b := 24) (by omega) (by omega)).mp q) (by omega))) (fun _ => ?_)
    refine wq_run1 (pc' := 7) (L' := [(0, .ref 71), (1, .int (nI l)), (2, .int (nI d))]) (S' := [.int 0]) (f' := f) rfl ?_
    exact wq_retZ rfl (Or.inl rfl) ⟨0, f 76, am, sn, rfl, by rw [up1_id f 76, ← hsn, upd_id, up1_id], hg, fn_full hK.2.1 (hK.2.2 l hl).2 hs (by omega)⟩
  | succ k IH =>
    intro f am l d sn hK hd hl hg hr hsn hs hpc
    show wq (k + 2) 80 (fun v f' => ∃ r g' am' sn', v = some (.int r) ∧ f' = up1 (up1 f 76 g') 71 (upd (f 71) 9 (nI sn')) ∧ (∀ i, i < n → g' i = rI (am' i)) ∧ FnP A n l am sn r am' sn') 0 [(0, .ref 71), (1, .int (nI l)), (2, .int (nI d))] [] f
    refine wq_run2 (pc' := 3) (L' := [(0, .ref 71), (1, .int (nI l)), (2, .int (nI d))]) (S' := [.int 24, .int (nI d)]) (f' := f) rfl ?_
    refine wq_if (c := (nI d) < 24) (p1 := 8) (L1 := [(0, .ref 71), (1, .int (nI l)), (2, .int (nI d))]) (S1 := []) (p2 := 6) (L2 := [(0, .ref 71), (1, .int (nI l)), (2, .int (nI d))]) (S2 := []) rfl (fun _ => ?_) (fun q => absurd ((nI_ltI (a := d) (b := 24) (by omega) (by omega)).mpr (by omega)) q)
    refine wq_run2 (pc' := 10) (L' := [(0, .ref 71), (1, .int (nI l)), (2, .int (nI d)), (3, .int 0)]) (S' := []) (f' := f) rfl ?_
    have h9 := lp_find IH hK hd hl hr hpc (n - 0 + 1) 0 (f 76) sn (Nat.zero_le _) hg (flp_0 hs) (Nat.lt_succ_self _)
    rw [up1_id f 76, ← hsn, upd_id, up1_id] at h9
    exact h9
