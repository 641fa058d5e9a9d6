/-! acts of the reference, told by kinds, numbers and pence -/
theorem bTo_k {K M : Nat → Int32} {x : Int32} : ∀ {c b : Nat}, bTo K M x c = some b → K b = 0 := by
  intro c
  induction c with
  | zero => intro b h; cases h
  | succ c ih =>
    intro b h
    rw [bTo] at h
    split at h
    · rename_i q; cases h; exact q.1
    · exact ih h
theorem fOv_k {q : Int32} {K : Nat → Int32} : ∀ {c b : Nat}, fOv q K c = some b → K b = q := by
  intro c
  induction c with
  | zero => intro b h; cases h
  | succ c ih =>
    intro b h
    rw [fOv] at h
    split at h
    · rename_i q; cases h; exact q.1
    · exact ih h
theorem wTo_k {K M : Nat → Int32} : ∀ {c b : Nat}, wTo K M c = some b → K b = 0 := by
  intro c
  induction c with
  | zero => intro b h; cases h
  | succ c ih =>
    intro b h
    rw [wTo] at h
    split at h
    · rename_i q; cases h; exact q.1
    · exact ih h
theorem clA_k {K M : Nat → Int32} {x : Int32} {n b : Nat} (h : clA K M x n = some b) : K b = 0 ∨ K b = 1 := by
  unfold clA at h
  split at h
  · exact Or.inr (fOv_k h)
  · exact Or.inl (bTo_k h)
/-- an act in the rows of the reference -/
abbrev AcM (f : HI) (a n : Nat) (K N P : Nat → Int32) : Prop := ∀ c, c < n → f 102 (8 * a + c) = K c ∧ (K c = 0 ∨ K c = 1 → f 103 (8 * a + c) = N c ∧ f 104 (8 * a + c) = P c) ∧ (¬ K c = 0 → ¬ K c = 1 → f 104 (8 * a + c) = N c) ∧ (K c = 1 ∨ K c = 2 → ¬ N c < 1)
def lsS (K N : Nat → Int32) : Nat → Int32
  | 0 => 0
  | c + 1 => if K c = 4 then lsS K N c + N c else lsS K N c
theorem aS_ls (K N : Nat → Int32) (h s : Int32) : ∀ n, aS K N h s n = s - (if h = 0 then 0 else lsS K N n) := by
  intro n
  induction n with
  | zero =>
    show s = s - (if h = 0 then 0 else 0)
    rw [ite_self, Int32.sub_zero]
  | succ n ih =>
    unfold aS lsS
    by_cases c : K n = 4
    · by_cases c2 : h = 0
      · rw [if_neg (fun q => q.2 c2), ih, if_pos c2, if_pos c2]
      · rw [if_pos ⟨c, c2⟩, ih, if_neg c2, if_neg c2, if_pos c, Int32.sub_sub]
    · rw [if_neg (fun q => c q.1), ih]
      by_cases c2 : h = 0
      · rw [if_pos c2, if_pos c2]
      · rw [if_neg c2, if_neg c2, if_neg c]
theorem lS_nn (K N : Nat → Int32) : ∀ n, 0 ≤ lS K N n := by
  intro n
  induction n with
  | zero => show (0 : Int32) ≤ 0; decide
  | succ n ih =>
    unfold lS
    split
    · unfold imax
      split
      · exact ih
      · rename_i q; exact Int32.le_trans ih (Int32.not_lt.mp q)
    · exact ih
theorem imax_0 {v F : Int32} (h : 0 ≤ F) : imax (imax v 0) F = imax v F := by
  unfold imax
  by_cases c : 0 < v
  · rw [if_pos c]
  · rw [if_neg c, if_neg (Int32.not_lt.mpr h), if_neg (Int32.not_lt.mpr (Int32.le_trans (Int32.not_lt.mp c) h))]
def wgI (K : Nat → Int32) (c : Nat) : Int32 := if fOv 2 K c = none then 0 else 1
theorem upA_y {v b : Int32} (h : ¬ b < 1) : upA v b = (v + b - 1) / b := if_neg h
theorem ng_0 {b : Int32} (h : ¬ b < 1) : ¬ b = 0 := fun q => h (by rw [q]; decide)
theorem mlp_clauseOf2 (f : HI) {a n : Nat} {K N P : Nat → Int32} (ha : a < 5) (hn2 : f 101 a = nI n) (hn8 : n ≤ 8) (hA : AcM f a n K N P) (x : Int32) : ∀ (m9 : Nat) (c : Nat), (c ≤ n) → n - c < m9 → wq 1 157 (Ret (obJ a (clA K N x n)) f) 11 [(0, .ref 92), (1, .int (nI a)), (2, .int x), (3, .int (obJ a (bTo K N x c))), (4, .int (obJ a (fOv 1 K c))), (5, .int (nI (8 * a + c)))] [] f := by
  intro m9
  induction m9 with
  | zero => intro c hc0 hn; exact absurd hn (Nat.not_lt_zero _)
  | succ m9 ih =>
    intro c hc0 hn
    refine wq_run4 (pc' := 17) (L' := [(0, .ref 92), (1, .int (nI a)), (2, .int x), (3, .int (obJ a (bTo K N x c))), (4, .int (obJ a (fOv 1 K c))), (5, .int (nI (8 * a + c)))]) (S' := [.int (8 * (nI a)), .int (nI (8 * a + c))]) (f' := f) rfl ?_
    refine wq_v (y := (nI (8 * a))) (pk_mul 8 a) ?_
    refine wq_run3 (pc' := 22) (L' := [(0, .ref 92), (1, .int (nI a)), (2, .int x), (3, .int (obJ a (bTo K N x c))), (4, .int (obJ a (fOv 1 K c))), (5, .int (nI (8 * a + c)))]) (S' := [.int (nI a), .ref 101, .int (nI (8 * a)), .int (nI (8 * a + c))]) (f' := f) rfl ?_
    refine wq_ald (j := a) (n := 6) (v := (nI n)) rfl rfl rfl rfl (by omega) (Nat.le_of_ble_eq_true rfl) hn2 ?_
    refine wq_run1 (pc' := 24) (L' := [(0, .ref 92), (1, .int (nI a)), (2, .int x), (3, .int (obJ a (bTo K N x c))), (4, .int (obJ a (fOv 1 K c))), (5, .int (nI (8 * a + c)))]) (S' := [.int ((nI (8 * a)) + (nI n)), .int (nI (8 * a + c))]) (f' := f) rfl ?_
    refine wq_v (y := (nI ((8 * a) + n))) (nI_add (8 * a) n) ?_
    refine wq_if (c := (nI ((8 * a) + n)) ≤ (nI (8 * a + c))) (p1 := 104) (L1 := [(0, .ref 92), (1, .int (nI a)), (2, .int x), (3, .int (obJ a (bTo K N x c))), (4, .int (obJ a (fOv 1 K c))), (5, .int (nI (8 * a + c)))]) (S1 := []) (p2 := 27) (L2 := [(0, .ref 92), (1, .int (nI a)), (2, .int x), (3, .int (obJ a (bTo K N x c))), (4, .int (obJ a (fOv 1 K c))), (5, .int (nI (8 * a + c)))]) (S2 := []) rfl (fun c_24 => ?_) (fun c_24 => ?_)
    · have k_24 : ((8 * a) + n) ≤ (8 * a + c) := (nI_leI (a := ((8 * a) + n)) (b := (8 * a + c)) (by omega) (by omega)).mp c_24
      refine wq_run2 (pc' := 106) (L' := [(0, .ref 92), (1, .int (nI a)), (2, .int x), (3, .int (obJ a (bTo K N x c))), (4, .int (obJ a (fOv 1 K c))), (5, .int (nI (8 * a + c)))]) (S' := [.int (-1), .int (obJ a (bTo K N x c))]) (f' := f) rfl ?_
      refine wq_if (c := (obJ a (bTo K N x c)) = (-1)) (p1 := 109) (L1 := [(0, .ref 92), (1, .int (nI a)), (2, .int x), (3, .int (obJ a (bTo K N x c))), (4, .int (obJ a (fOv 1 K c))), (5, .int (nI (8 * a + c)))]) (S1 := []) (p2 := 114) (L2 := [(0, .ref 92), (1, .int (nI a)), (2, .int x), (3, .int (obJ a (bTo K N x c))), (4, .int (obJ a (fOv 1 K c))), (5, .int (nI (8 * a + c)))]) (S2 := []) rfl (fun c_106 => ?_) (fun c_106 => ?_)
      · refine wq_run2 (pc' := 115) (L' := [(0, .ref 92), (1, .int (nI a)), (2, .int x), (3, .int (obJ a (bTo K N x c))), (4, .int (obJ a (fOv 1 K c))), (5, .int (nI (8 * a + c)))]) (S' := [.int (obJ a (fOv 1 K c))]) (f' := f) rfl ?_
        have e : c = n := by omega
        rw [e] at c_106 ⊢
        exact wq_ret rfl ⟨by rw [clA, if_pos ((obJ_0 (a := a) (n := n) (by omega) (fun _ h => bTo_lt h)).mp c_106)], rfl⟩
      · refine wq_run1 (pc' := 115) (L' := [(0, .ref 92), (1, .int (nI a)), (2, .int x), (3, .int (obJ a (bTo K N x c))), (4, .int (obJ a (fOv 1 K c))), (5, .int (nI (8 * a + c)))]) (S' := [.int (obJ a (bTo K N x c))]) (f' := f) rfl ?_
        have e : c = n := by omega
        rw [e] at c_106 ⊢
        exact wq_ret rfl ⟨by rw [clA, if_neg (fun q => c_106 ((obJ_0 (a := a) (n := n) (by omega) (fun _ h => bTo_lt h)).mpr q))], rfl⟩
    · have k_24 : ¬ ((8 * a) + n) ≤ (8 * a + c) := fun q => c_24 ((nI_leI (a := ((8 * a) + n)) (b := (8 * a + c)) (by omega) (by omega)).mpr q)
      refine wq_run3 (pc' := 33) (L' := [(0, .ref 92), (1, .int (nI a)), (2, .int x), (3, .int (obJ a (bTo K N x c))), (4, .int (obJ a (fOv 1 K c))), (5, .int (nI (8 * a + c)))]) (S' := [.int (nI (8 * a + c)), .ref 102]) (f' := f) rfl ?_
      refine wq_ald (j := (8 * a + c)) (n := 48) (v := (K c)) rfl rfl rfl rfl (by omega) (Nat.le_of_ble_eq_true rfl) (hA c (by omega)).1 ?_
      refine wq_if (c := (K c) = 0) (p1 := 37) (L1 := [(0, .ref 92), (1, .int (nI a)), (2, .int x), (3, .int (obJ a (bTo K N x c))), (4, .int (obJ a (fOv 1 K c))), (5, .int (nI (8 * a + c)))]) (S1 := []) (p2 := 72) (L2 := [(0, .ref 92), (1, .int (nI a)), (2, .int x), (3, .int (obJ a (bTo K N x c))), (4, .int (obJ a (fOv 1 K c))), (5, .int (nI (8 * a + c)))]) (S2 := []) rfl (fun c_34 => ?_) (fun c_34 => ?_)
      · refine wq_run3 (pc' := 43) (L' := [(0, .ref 92), (1, .int (nI a)), (2, .int x), (3, .int (obJ a (bTo K N x c))), (4, .int (obJ a (fOv 1 K c))), (5, .int (nI (8 * a + c)))]) (S' := [.int (nI (8 * a + c)), .ref 103]) (f' := f) rfl ?_
        refine wq_ald (j := (8 * a + c)) (n := 48) (v := (N c)) rfl rfl rfl rfl (by omega) (Nat.le_of_ble_eq_true rfl) ((hA c (by omega)).2.1 (Or.inl c_34)).1 ?_
        refine wq_run1 (pc' := 45) (L' := [(0, .ref 92), (1, .int (nI a)), (2, .int x), (3, .int (obJ a (bTo K N x c))), (4, .int (obJ a (fOv 1 K c))), (5, .int (nI (8 * a + c)))]) (S' := [.int x, .int (N c)]) (f' := f) rfl ?_
        refine wq_if (c := (N c) < x) (p1 := 72) (L1 := [(0, .ref 92), (1, .int (nI a)), (2, .int x), (3, .int (obJ a (bTo K N x c))), (4, .int (obJ a (fOv 1 K c))), (5, .int (nI (8 * a + c)))]) (S1 := []) (p2 := 48) (L2 := [(0, .ref 92), (1, .int (nI a)), (2, .int x), (3, .int (obJ a (bTo K N x c))), (4, .int (obJ a (fOv 1 K c))), (5, .int (nI (8 * a + c)))]) (S2 := []) rfl (fun c_45 => ?_) (fun c_45 => ?_)
        · refine wq_run2 (pc' := 75) (L' := [(0, .ref 92), (1, .int (nI a)), (2, .int x), (3, .int (obJ a (bTo K N x c))), (4, .int (obJ a (fOv 1 K c))), (5, .int (nI (8 * a + c)))]) (S' := [.int (-1), .int (obJ a (fOv 1 K c))]) (f' := f) rfl ?_
          refine wq_if (c := (obJ a (fOv 1 K c)) = (-1)) (p1 := 78) (L1 := [(0, .ref 92), (1, .int (nI a)), (2, .int x), (3, .int (obJ a (bTo K N x c))), (4, .int (obJ a (fOv 1 K c))), (5, .int (nI (8 * a + c)))]) (S1 := []) (p2 := 94) (L2 := [(0, .ref 92), (1, .int (nI a)), (2, .int x), (3, .int (obJ a (bTo K N x c))), (4, .int (obJ a (fOv 1 K c))), (5, .int (nI (8 * a + c)))]) (S2 := []) rfl (fun c_75 => ?_) (fun c_75 => ?_)
          · refine wq_run3 (pc' := 84) (L' := [(0, .ref 92), (1, .int (nI a)), (2, .int x), (3, .int (obJ a (bTo K N x c))), (4, .int (obJ a (fOv 1 K c))), (5, .int (nI (8 * a + c)))]) (S' := [.int (nI (8 * a + c)), .ref 102]) (f' := f) rfl ?_
            refine wq_ald (j := (8 * a + c)) (n := 48) (v := (K c)) rfl rfl rfl rfl (by omega) (Nat.le_of_ble_eq_true rfl) (hA c (by omega)).1 ?_
            refine wq_run1 (pc' := 86) (L' := [(0, .ref 92), (1, .int (nI a)), (2, .int x), (3, .int (obJ a (bTo K N x c))), (4, .int (obJ a (fOv 1 K c))), (5, .int (nI (8 * a + c)))]) (S' := [.int 1, .int (K c)]) (f' := f) rfl ?_
            refine wq_if (c := (K c) = 1) (p1 := 89) (L1 := [(0, .ref 92), (1, .int (nI a)), (2, .int x), (3, .int (obJ a (bTo K N x c))), (4, .int (obJ a (fOv 1 K c))), (5, .int (nI (8 * a + c)))]) (S1 := []) (p2 := 94) (L2 := [(0, .ref 92), (1, .int (nI a)), (2, .int x), (3, .int (obJ a (bTo K N x c))), (4, .int (obJ a (fOv 1 K c))), (5, .int (nI (8 * a + c)))]) (S2 := []) rfl (fun c_86 => ?_) (fun c_86 => ?_)
            · refine wq_run4 (pc' := 101) (L' := [(0, .ref 92), (1, .int (nI a)), (2, .int x), (3, .int (obJ a (bTo K N x c))), (4, .int (nI (8 * a + c))), (5, .int ((nI (8 * a + c)) + 1))]) (S' := []) (f' := f) rfl ?_
              refine wq_L (L' := [(0, .ref 92), (1, .int (nI a)), (2, .int x), (3, .int (obJ a (bTo K N x c))), (4, .int (nI (8 * a + c))), (5, .int (nI ((8 * a + c) + 1)))]) (by rw [show nI (8 * a + c) + 1 = nI ((8 * a + c) + 1) from nI_add _ _]) ?_
              refine wq_run1 (pc' := 11) (L' := [(0, .ref 92), (1, .int (nI a)), (2, .int x), (3, .int (obJ a (bTo K N x c))), (4, .int (nI (8 * a + c))), (5, .int (nI ((8 * a + c) + 1)))]) (S' := []) (f' := f) rfl ?_
              have e1 : (bTo K N x (c + 1)) = (bTo K N x c) := bTo_z (fun q => absurd q.2.1 (Int32.not_le.mpr c_45))
              have e2 : (fOv 1 K (c + 1)) = some c := fOv_y ⟨c_86, (obJ_0 (n := c) (by omega) (fun _ h => fOv_lt h)).mp c_75⟩
              have h9 := ih (c + 1) (by omega) (by omega)
              rw [e1, e2] at h9
              exact h9
            · refine wq_run3 (pc' := 101) (L' := [(0, .ref 92), (1, .int (nI a)), (2, .int x), (3, .int (obJ a (bTo K N x c))), (4, .int (obJ a (fOv 1 K c))), (5, .int ((nI (8 * a + c)) + 1))]) (S' := []) (f' := f) rfl ?_
              refine wq_L (L' := [(0, .ref 92), (1, .int (nI a)), (2, .int x), (3, .int (obJ a (bTo K N x c))), (4, .int (obJ a (fOv 1 K c))), (5, .int (nI ((8 * a + c) + 1)))]) (by rw [show nI (8 * a + c) + 1 = nI ((8 * a + c) + 1) from nI_add _ _]) ?_
              refine wq_run1 (pc' := 11) (L' := [(0, .ref 92), (1, .int (nI a)), (2, .int x), (3, .int (obJ a (bTo K N x c))), (4, .int (obJ a (fOv 1 K c))), (5, .int (nI ((8 * a + c) + 1)))]) (S' := []) (f' := f) rfl ?_
              have e1 : (bTo K N x (c + 1)) = (bTo K N x c) := bTo_z (fun q => absurd q.2.1 (Int32.not_le.mpr c_45))
              have e2 : (fOv 1 K (c + 1)) = (fOv 1 K c) := fOv_z (fun q => c_86 q.1)
              have h9 := ih (c + 1) (by omega) (by omega)
              rw [e1, e2] at h9
              exact h9
          · refine wq_run3 (pc' := 101) (L' := [(0, .ref 92), (1, .int (nI a)), (2, .int x), (3, .int (obJ a (bTo K N x c))), (4, .int (obJ a (fOv 1 K c))), (5, .int ((nI (8 * a + c)) + 1))]) (S' := []) (f' := f) rfl ?_
            refine wq_L (L' := [(0, .ref 92), (1, .int (nI a)), (2, .int x), (3, .int (obJ a (bTo K N x c))), (4, .int (obJ a (fOv 1 K c))), (5, .int (nI ((8 * a + c) + 1)))]) (by rw [show nI (8 * a + c) + 1 = nI ((8 * a + c) + 1) from nI_add _ _]) ?_
            refine wq_run1 (pc' := 11) (L' := [(0, .ref 92), (1, .int (nI a)), (2, .int x), (3, .int (obJ a (bTo K N x c))), (4, .int (obJ a (fOv 1 K c))), (5, .int (nI ((8 * a + c) + 1)))]) (S' := []) (f' := f) rfl ?_
            have e1 : (bTo K N x (c + 1)) = (bTo K N x c) := bTo_z (fun q => absurd q.2.1 (Int32.not_le.mpr c_45))
            have e2 : (fOv 1 K (c + 1)) = (fOv 1 K c) := fOv_z (fun q => c_75 ((obJ_0 (n := c) (by omega) (fun _ h => fOv_lt h)).mpr q.2))
            have h9 := ih (c + 1) (by omega) (by omega)
            rw [e1, e2] at h9
            exact h9
        · refine wq_run2 (pc' := 50) (L' := [(0, .ref 92), (1, .int (nI a)), (2, .int x), (3, .int (obJ a (bTo K N x c))), (4, .int (obJ a (fOv 1 K c))), (5, .int (nI (8 * a + c)))]) (S' := [.int (-1), .int (obJ a (bTo K N x c))]) (f' := f) rfl ?_
          refine wq_if (c := (obJ a (bTo K N x c)) = (-1)) (p1 := 69) (L1 := [(0, .ref 92), (1, .int (nI a)), (2, .int x), (3, .int (obJ a (bTo K N x c))), (4, .int (obJ a (fOv 1 K c))), (5, .int (nI (8 * a + c)))]) (S1 := []) (p2 := 53) (L2 := [(0, .ref 92), (1, .int (nI a)), (2, .int x), (3, .int (obJ a (bTo K N x c))), (4, .int (obJ a (fOv 1 K c))), (5, .int (nI (8 * a + c)))]) (S2 := []) rfl (fun c_50 => ?_) (fun c_50 => ?_)
          · refine wq_run4 (pc' := 75) (L' := [(0, .ref 92), (1, .int (nI a)), (2, .int x), (3, .int (nI (8 * a + c))), (4, .int (obJ a (fOv 1 K c))), (5, .int (nI (8 * a + c)))]) (S' := [.int (-1), .int (obJ a (fOv 1 K c))]) (f' := f) rfl ?_
            refine wq_if (c := (obJ a (fOv 1 K c)) = (-1)) (p1 := 78) (L1 := [(0, .ref 92), (1, .int (nI a)), (2, .int x), (3, .int (nI (8 * a + c))), (4, .int (obJ a (fOv 1 K c))), (5, .int (nI (8 * a + c)))]) (S1 := []) (p2 := 94) (L2 := [(0, .ref 92), (1, .int (nI a)), (2, .int x), (3, .int (nI (8 * a + c))), (4, .int (obJ a (fOv 1 K c))), (5, .int (nI (8 * a + c)))]) (S2 := []) rfl (fun c_75 => ?_) (fun c_75 => ?_)
            · refine wq_run3 (pc' := 84) (L' := [(0, .ref 92), (1, .int (nI a)), (2, .int x), (3, .int (nI (8 * a + c))), (4, .int (obJ a (fOv 1 K c))), (5, .int (nI (8 * a + c)))]) (S' := [.int (nI (8 * a + c)), .ref 102]) (f' := f) rfl ?_
              refine wq_ald (j := (8 * a + c)) (n := 48) (v := (K c)) rfl rfl rfl rfl (by omega) (Nat.le_of_ble_eq_true rfl) (hA c (by omega)).1 ?_
              refine wq_run1 (pc' := 86) (L' := [(0, .ref 92), (1, .int (nI a)), (2, .int x), (3, .int (nI (8 * a + c))), (4, .int (obJ a (fOv 1 K c))), (5, .int (nI (8 * a + c)))]) (S' := [.int 1, .int (K c)]) (f' := f) rfl ?_
              refine wq_if (c := (K c) = 1) (p1 := 89) (L1 := [(0, .ref 92), (1, .int (nI a)), (2, .int x), (3, .int (nI (8 * a + c))), (4, .int (obJ a (fOv 1 K c))), (5, .int (nI (8 * a + c)))]) (S1 := []) (p2 := 94) (L2 := [(0, .ref 92), (1, .int (nI a)), (2, .int x), (3, .int (nI (8 * a + c))), (4, .int (obJ a (fOv 1 K c))), (5, .int (nI (8 * a + c)))]) (S2 := []) rfl (fun c_86 => ?_) (fun c_86 => ?_)
              · refine wq_run4 (pc' := 101) (L' := [(0, .ref 92), (1, .int (nI a)), (2, .int x), (3, .int (nI (8 * a + c))), (4, .int (nI (8 * a + c))), (5, .int ((nI (8 * a + c)) + 1))]) (S' := []) (f' := f) rfl ?_
                refine wq_L (L' := [(0, .ref 92), (1, .int (nI a)), (2, .int x), (3, .int (nI (8 * a + c))), (4, .int (nI (8 * a + c))), (5, .int (nI ((8 * a + c) + 1)))]) (by rw [show nI (8 * a + c) + 1 = nI ((8 * a + c) + 1) from nI_add _ _]) ?_
                refine wq_run1 (pc' := 11) (L' := [(0, .ref 92), (1, .int (nI a)), (2, .int x), (3, .int (nI (8 * a + c))), (4, .int (nI (8 * a + c))), (5, .int (nI ((8 * a + c) + 1)))]) (S' := []) (f' := f) rfl ?_
                have e1 : (bTo K N x (c + 1)) = some c := bTo_y ⟨c_34, Int32.not_lt.mp c_45, by rw [(obJ_0 (n := c) (by omega) (fun _ h => bTo_lt h)).mp c_50]; rfl⟩
                have e2 : (fOv 1 K (c + 1)) = some c := fOv_y ⟨c_86, (obJ_0 (n := c) (by omega) (fun _ h => fOv_lt h)).mp c_75⟩
                have h9 := ih (c + 1) (by omega) (by omega)
                rw [e1, e2] at h9
                exact h9
              · refine wq_run3 (pc' := 101) (L' := [(0, .ref 92), (1, .int (nI a)), (2, .int x), (3, .int (nI (8 * a + c))), (4, .int (obJ a (fOv 1 K c))), (5, .int ((nI (8 * a + c)) + 1))]) (S' := []) (f' := f) rfl ?_
                refine wq_L (L' := [(0, .ref 92), (1, .int (nI a)), (2, .int x), (3, .int (nI (8 * a + c))), (4, .int (obJ a (fOv 1 K c))), (5, .int (nI ((8 * a + c) + 1)))]) (by rw [show nI (8 * a + c) + 1 = nI ((8 * a + c) + 1) from nI_add _ _]) ?_
                refine wq_run1 (pc' := 11) (L' := [(0, .ref 92), (1, .int (nI a)), (2, .int x), (3, .int (nI (8 * a + c))), (4, .int (obJ a (fOv 1 K c))), (5, .int (nI ((8 * a + c) + 1)))]) (S' := []) (f' := f) rfl ?_
                have e1 : (bTo K N x (c + 1)) = some c := bTo_y ⟨c_34, Int32.not_lt.mp c_45, by rw [(obJ_0 (n := c) (by omega) (fun _ h => bTo_lt h)).mp c_50]; rfl⟩
                have e2 : (fOv 1 K (c + 1)) = (fOv 1 K c) := fOv_z (fun q => c_86 q.1)
                have h9 := ih (c + 1) (by omega) (by omega)
                rw [e1, e2] at h9
                exact h9
            · refine wq_run3 (pc' := 101) (L' := [(0, .ref 92), (1, .int (nI a)), (2, .int x), (3, .int (nI (8 * a + c))), (4, .int (obJ a (fOv 1 K c))), (5, .int ((nI (8 * a + c)) + 1))]) (S' := []) (f' := f) rfl ?_
              refine wq_L (L' := [(0, .ref 92), (1, .int (nI a)), (2, .int x), (3, .int (nI (8 * a + c))), (4, .int (obJ a (fOv 1 K c))), (5, .int (nI ((8 * a + c) + 1)))]) (by rw [show nI (8 * a + c) + 1 = nI ((8 * a + c) + 1) from nI_add _ _]) ?_
              refine wq_run1 (pc' := 11) (L' := [(0, .ref 92), (1, .int (nI a)), (2, .int x), (3, .int (nI (8 * a + c))), (4, .int (obJ a (fOv 1 K c))), (5, .int (nI ((8 * a + c) + 1)))]) (S' := []) (f' := f) rfl ?_
              have e1 : (bTo K N x (c + 1)) = some c := bTo_y ⟨c_34, Int32.not_lt.mp c_45, by rw [(obJ_0 (n := c) (by omega) (fun _ h => bTo_lt h)).mp c_50]; rfl⟩
              have e2 : (fOv 1 K (c + 1)) = (fOv 1 K c) := fOv_z (fun q => c_75 ((obJ_0 (n := c) (by omega) (fun _ h => fOv_lt h)).mpr q.2))
              have h9 := ih (c + 1) (by omega) (by omega)
              rw [e1, e2] at h9
              exact h9
          · obtain ⟨b, hb⟩ := obJ_y c_50
            have hb8 := bTo_lt hb
            refine wq_run3 (pc' := 59) (L' := [(0, .ref 92), (1, .int (nI a)), (2, .int x), (3, .int (obJ a (bTo K N x c))), (4, .int (obJ a (fOv 1 K c))), (5, .int (nI (8 * a + c)))]) (S' := [.int (nI (8 * a + c)), .ref 103]) (f' := f) rfl ?_
            refine wq_ald (j := (8 * a + c)) (n := 48) (v := (N c)) rfl rfl rfl rfl (by omega) (Nat.le_of_ble_eq_true rfl) ((hA c (by omega)).2.1 (Or.inl c_34)).1 ?_
            refine wq_run3 (pc' := 65) (L' := [(0, .ref 92), (1, .int (nI a)), (2, .int x), (3, .int (obJ a (bTo K N x c))), (4, .int (obJ a (fOv 1 K c))), (5, .int (nI (8 * a + c)))]) (S' := [.int (obJ a (bTo K N x c)), .ref 103, .int (N c)]) (f' := f) rfl ?_
            refine wq_ald (j := (8 * a + b)) (n := 48) (v := (N b)) rfl rfl rfl (by rw [hb]; rfl) (by omega) (Nat.le_of_ble_eq_true rfl) ((hA b (by omega)).2.1 (Or.inl (bTo_k hb))).1 ?_
            refine wq_if (c := (N b) ≤ (N c)) (p1 := 72) (L1 := [(0, .ref 92), (1, .int (nI a)), (2, .int x), (3, .int (obJ a (bTo K N x c))), (4, .int (obJ a (fOv 1 K c))), (5, .int (nI (8 * a + c)))]) (S1 := []) (p2 := 69) (L2 := [(0, .ref 92), (1, .int (nI a)), (2, .int x), (3, .int (obJ a (bTo K N x c))), (4, .int (obJ a (fOv 1 K c))), (5, .int (nI (8 * a + c)))]) (S2 := []) rfl (fun c_66 => ?_) (fun c_66 => ?_)
            · refine wq_run2 (pc' := 75) (L' := [(0, .ref 92), (1, .int (nI a)), (2, .int x), (3, .int (obJ a (bTo K N x c))), (4, .int (obJ a (fOv 1 K c))), (5, .int (nI (8 * a + c)))]) (S' := [.int (-1), .int (obJ a (fOv 1 K c))]) (f' := f) rfl ?_
              refine wq_if (c := (obJ a (fOv 1 K c)) = (-1)) (p1 := 78) (L1 := [(0, .ref 92), (1, .int (nI a)), (2, .int x), (3, .int (obJ a (bTo K N x c))), (4, .int (obJ a (fOv 1 K c))), (5, .int (nI (8 * a + c)))]) (S1 := []) (p2 := 94) (L2 := [(0, .ref 92), (1, .int (nI a)), (2, .int x), (3, .int (obJ a (bTo K N x c))), (4, .int (obJ a (fOv 1 K c))), (5, .int (nI (8 * a + c)))]) (S2 := []) rfl (fun c_75 => ?_) (fun c_75 => ?_)
              · refine wq_run3 (pc' := 84) (L' := [(0, .ref 92), (1, .int (nI a)), (2, .int x), (3, .int (obJ a (bTo K N x c))), (4, .int (obJ a (fOv 1 K c))), (5, .int (nI (8 * a + c)))]) (S' := [.int (nI (8 * a + c)), .ref 102]) (f' := f) rfl ?_
                refine wq_ald (j := (8 * a + c)) (n := 48) (v := (K c)) rfl rfl rfl rfl (by omega) (Nat.le_of_ble_eq_true rfl) (hA c (by omega)).1 ?_
                refine wq_run1 (pc' := 86) (L' := [(0, .ref 92), (1, .int (nI a)), (2, .int x), (3, .int (obJ a (bTo K N x c))), (4, .int (obJ a (fOv 1 K c))), (5, .int (nI (8 * a + c)))]) (S' := [.int 1, .int (K c)]) (f' := f) rfl ?_
                refine wq_if (c := (K c) = 1) (p1 := 89) (L1 := [(0, .ref 92), (1, .int (nI a)), (2, .int x), (3, .int (obJ a (bTo K N x c))), (4, .int (obJ a (fOv 1 K c))), (5, .int (nI (8 * a + c)))]) (S1 := []) (p2 := 94) (L2 := [(0, .ref 92), (1, .int (nI a)), (2, .int x), (3, .int (obJ a (bTo K N x c))), (4, .int (obJ a (fOv 1 K c))), (5, .int (nI (8 * a + c)))]) (S2 := []) rfl (fun c_86 => ?_) (fun c_86 => ?_)
                · refine wq_run4 (pc' := 101) (L' := [(0, .ref 92), (1, .int (nI a)), (2, .int x), (3, .int (obJ a (bTo K N x c))), (4, .int (nI (8 * a + c))), (5, .int ((nI (8 * a + c)) + 1))]) (S' := []) (f' := f) rfl ?_
                  refine wq_L (L' := [(0, .ref 92), (1, .int (nI a)), (2, .int x), (3, .int (obJ a (bTo K N x c))), (4, .int (nI (8 * a + c))), (5, .int (nI ((8 * a + c) + 1)))]) (by rw [show nI (8 * a + c) + 1 = nI ((8 * a + c) + 1) from nI_add _ _]) ?_
                  refine wq_run1 (pc' := 11) (L' := [(0, .ref 92), (1, .int (nI a)), (2, .int x), (3, .int (obJ a (bTo K N x c))), (4, .int (nI (8 * a + c))), (5, .int (nI ((8 * a + c) + 1)))]) (S' := []) (f' := f) rfl ?_
                  have e1 : (bTo K N x (c + 1)) = (bTo K N x c) := bTo_z (fun q => absurd (show N c < N b by have q := q.2.2; rw [hb] at q; exact of_decide_eq_true q) (Int32.not_lt.mpr c_66))
                  have e2 : (fOv 1 K (c + 1)) = some c := fOv_y ⟨c_86, (obJ_0 (n := c) (by omega) (fun _ h => fOv_lt h)).mp c_75⟩
                  have h9 := ih (c + 1) (by omega) (by omega)
                  rw [e1, e2] at h9
                  exact h9
                · refine wq_run3 (pc' := 101) (L' := [(0, .ref 92), (1, .int (nI a)), (2, .int x), (3, .int (obJ a (bTo K N x c))), (4, .int (obJ a (fOv 1 K c))), (5, .int ((nI (8 * a + c)) + 1))]) (S' := []) (f' := f) rfl ?_
                  refine wq_L (L' := [(0, .ref 92), (1, .int (nI a)), (2, .int x), (3, .int (obJ a (bTo K N x c))), (4, .int (obJ a (fOv 1 K c))), (5, .int (nI ((8 * a + c) + 1)))]) (by rw [show nI (8 * a + c) + 1 = nI ((8 * a + c) + 1) from nI_add _ _]) ?_
                  refine wq_run1 (pc' := 11) (L' := [(0, .ref 92), (1, .int (nI a)), (2, .int x), (3, .int (obJ a (bTo K N x c))), (4, .int (obJ a (fOv 1 K c))), (5, .int (nI ((8 * a + c) + 1)))]) (S' := []) (f' := f) rfl ?_
                  have e1 : (bTo K N x (c + 1)) = (bTo K N x c) := bTo_z (fun q => absurd (show N c < N b by have q := q.2.2; rw [hb] at q; exact of_decide_eq_true q) (Int32.not_lt.mpr c_66))
                  have e2 : (fOv 1 K (c + 1)) = (fOv 1 K c) := fOv_z (fun q => c_86 q.1)
                  have h9 := ih (c + 1) (by omega) (by omega)
                  rw [e1, e2] at h9
                  exact h9
              · refine wq_run3 (pc' := 101) (L' := [(0, .ref 92), (1, .int (nI a)), (2, .int x), (3, .int (obJ a (bTo K N x c))), (4, .int (obJ a (fOv 1 K c))), (5, .int ((nI (8 * a + c)) + 1))]) (S' := []) (f' := f) rfl ?_
                refine wq_L (L' := [(0, .ref 92), (1, .int (nI a)), (2, .int x), (3, .int (obJ a (bTo K N x c))), (4, .int (obJ a (fOv 1 K c))), (5, .int (nI ((8 * a + c) + 1)))]) (by rw [show nI (8 * a + c) + 1 = nI ((8 * a + c) + 1) from nI_add _ _]) ?_
                refine wq_run1 (pc' := 11) (L' := [(0, .ref 92), (1, .int (nI a)), (2, .int x), (3, .int (obJ a (bTo K N x c))), (4, .int (obJ a (fOv 1 K c))), (5, .int (nI ((8 * a + c) + 1)))]) (S' := []) (f' := f) rfl ?_
                have e1 : (bTo K N x (c + 1)) = (bTo K N x c) := bTo_z (fun q => absurd (show N c < N b by have q := q.2.2; rw [hb] at q; exact of_decide_eq_true q) (Int32.not_lt.mpr c_66))
                have e2 : (fOv 1 K (c + 1)) = (fOv 1 K c) := fOv_z (fun q => c_75 ((obJ_0 (n := c) (by omega) (fun _ h => fOv_lt h)).mpr q.2))
                have h9 := ih (c + 1) (by omega) (by omega)
                rw [e1, e2] at h9
                exact h9
            · refine wq_run4 (pc' := 75) (L' := [(0, .ref 92), (1, .int (nI a)), (2, .int x), (3, .int (nI (8 * a + c))), (4, .int (obJ a (fOv 1 K c))), (5, .int (nI (8 * a + c)))]) (S' := [.int (-1), .int (obJ a (fOv 1 K c))]) (f' := f) rfl ?_
              refine wq_if (c := (obJ a (fOv 1 K c)) = (-1)) (p1 := 78) (L1 := [(0, .ref 92), (1, .int (nI a)), (2, .int x), (3, .int (nI (8 * a + c))), (4, .int (obJ a (fOv 1 K c))), (5, .int (nI (8 * a + c)))]) (S1 := []) (p2 := 94) (L2 := [(0, .ref 92), (1, .int (nI a)), (2, .int x), (3, .int (nI (8 * a + c))), (4, .int (obJ a (fOv 1 K c))), (5, .int (nI (8 * a + c)))]) (S2 := []) rfl (fun c_75 => ?_) (fun c_75 => ?_)
              · refine wq_run3 (pc' := 84) (L' := [(0, .ref 92), (1, .int (nI a)), (2, .int x), (3, .int (nI (8 * a + c))), (4, .int (obJ a (fOv 1 K c))), (5, .int (nI (8 * a + c)))]) (S' := [.int (nI (8 * a + c)), .ref 102]) (f' := f) rfl ?_
                refine wq_ald (j := (8 * a + c)) (n := 48) (v := (K c)) rfl rfl rfl rfl (by omega) (Nat.le_of_ble_eq_true rfl) (hA c (by omega)).1 ?_
                refine wq_run1 (pc' := 86) (L' := [(0, .ref 92), (1, .int (nI a)), (2, .int x), (3, .int (nI (8 * a + c))), (4, .int (obJ a (fOv 1 K c))), (5, .int (nI (8 * a + c)))]) (S' := [.int 1, .int (K c)]) (f' := f) rfl ?_
                refine wq_if (c := (K c) = 1) (p1 := 89) (L1 := [(0, .ref 92), (1, .int (nI a)), (2, .int x), (3, .int (nI (8 * a + c))), (4, .int (obJ a (fOv 1 K c))), (5, .int (nI (8 * a + c)))]) (S1 := []) (p2 := 94) (L2 := [(0, .ref 92), (1, .int (nI a)), (2, .int x), (3, .int (nI (8 * a + c))), (4, .int (obJ a (fOv 1 K c))), (5, .int (nI (8 * a + c)))]) (S2 := []) rfl (fun c_86 => ?_) (fun c_86 => ?_)
                · refine wq_run4 (pc' := 101) (L' := [(0, .ref 92), (1, .int (nI a)), (2, .int x), (3, .int (nI (8 * a + c))), (4, .int (nI (8 * a + c))), (5, .int ((nI (8 * a + c)) + 1))]) (S' := []) (f' := f) rfl ?_
                  refine wq_L (L' := [(0, .ref 92), (1, .int (nI a)), (2, .int x), (3, .int (nI (8 * a + c))), (4, .int (nI (8 * a + c))), (5, .int (nI ((8 * a + c) + 1)))]) (by rw [show nI (8 * a + c) + 1 = nI ((8 * a + c) + 1) from nI_add _ _]) ?_
                  refine wq_run1 (pc' := 11) (L' := [(0, .ref 92), (1, .int (nI a)), (2, .int x), (3, .int (nI (8 * a + c))), (4, .int (nI (8 * a + c))), (5, .int (nI ((8 * a + c) + 1)))]) (S' := []) (f' := f) rfl ?_
                  have e1 : (bTo K N x (c + 1)) = some c := bTo_y ⟨c_34, Int32.not_lt.mp c_45, by rw [hb]; exact decide_eq_true (Int32.not_le.mp c_66)⟩
                  have e2 : (fOv 1 K (c + 1)) = some c := fOv_y ⟨c_86, (obJ_0 (n := c) (by omega) (fun _ h => fOv_lt h)).mp c_75⟩
                  have h9 := ih (c + 1) (by omega) (by omega)
                  rw [e1, e2] at h9
                  exact h9
                · refine wq_run3 (pc' := 101) (L' := [(0, .ref 92), (1, .int (nI a)), (2, .int x), (3, .int (nI (8 * a + c))), (4, .int (obJ a (fOv 1 K c))), (5, .int ((nI (8 * a + c)) + 1))]) (S' := []) (f' := f) rfl ?_
                  refine wq_L (L' := [(0, .ref 92), (1, .int (nI a)), (2, .int x), (3, .int (nI (8 * a + c))), (4, .int (obJ a (fOv 1 K c))), (5, .int (nI ((8 * a + c) + 1)))]) (by rw [show nI (8 * a + c) + 1 = nI ((8 * a + c) + 1) from nI_add _ _]) ?_
                  refine wq_run1 (pc' := 11) (L' := [(0, .ref 92), (1, .int (nI a)), (2, .int x), (3, .int (nI (8 * a + c))), (4, .int (obJ a (fOv 1 K c))), (5, .int (nI ((8 * a + c) + 1)))]) (S' := []) (f' := f) rfl ?_
                  have e1 : (bTo K N x (c + 1)) = some c := bTo_y ⟨c_34, Int32.not_lt.mp c_45, by rw [hb]; exact decide_eq_true (Int32.not_le.mp c_66)⟩
                  have e2 : (fOv 1 K (c + 1)) = (fOv 1 K c) := fOv_z (fun q => c_86 q.1)
                  have h9 := ih (c + 1) (by omega) (by omega)
                  rw [e1, e2] at h9
                  exact h9
              · refine wq_run3 (pc' := 101) (L' := [(0, .ref 92), (1, .int (nI a)), (2, .int x), (3, .int (nI (8 * a + c))), (4, .int (obJ a (fOv 1 K c))), (5, .int ((nI (8 * a + c)) + 1))]) (S' := []) (f' := f) rfl ?_
                refine wq_L (L' := [(0, .ref 92), (1, .int (nI a)), (2, .int x), (3, .int (nI (8 * a + c))), (4, .int (obJ a (fOv 1 K c))), (5, .int (nI ((8 * a + c) + 1)))]) (by rw [show nI (8 * a + c) + 1 = nI ((8 * a + c) + 1) from nI_add _ _]) ?_
                refine wq_run1 (pc' := 11) (L' := [(0, .ref 92), (1, .int (nI a)), (2, .int x), (3, .int (nI (8 * a + c))), (4, .int (obJ a (fOv 1 K c))), (5, .int (nI ((8 * a + c) + 1)))]) (S' := []) (f' := f) rfl ?_
                have e1 : (bTo K N x (c + 1)) = some c := bTo_y ⟨c_34, Int32.not_lt.mp c_45, by rw [hb]; exact decide_eq_true (Int32.not_le.mp c_66)⟩
                have e2 : (fOv 1 K (c + 1)) = (fOv 1 K c) := fOv_z (fun q => c_75 ((obJ_0 (n := c) (by omega) (fun _ h => fOv_lt h)).mpr q.2))
                have h9 := ih (c + 1) (by omega) (by omega)
                rw [e1, e2] at h9
                exact h9
      · refine wq_run2 (pc' := 75) (L' := [(0, .ref 92), (1, .int (nI a)), (2, .int x), (3, .int (obJ a (bTo K N x c))), (4, .int (obJ a (fOv 1 K c))), (5, .int (nI (8 * a + c)))]) (S' := [.int (-1), .int (obJ a (fOv 1 K c))]) (f' := f) rfl ?_
        refine wq_if (c := (obJ a (fOv 1 K c)) = (-1)) (p1 := 78) (L1 := [(0, .ref 92), (1, .int (nI a)), (2, .int x), (3, .int (obJ a (bTo K N x c))), (4, .int (obJ a (fOv 1 K c))), (5, .int (nI (8 * a + c)))]) (S1 := []) (p2 := 94) (L2 := [(0, .ref 92), (1, .int (nI a)), (2, .int x), (3, .int (obJ a (bTo K N x c))), (4, .int (obJ a (fOv 1 K c))), (5, .int (nI (8 * a + c)))]) (S2 := []) rfl (fun c_75 => ?_) (fun c_75 => ?_)
        · refine wq_run3 (pc' := 84) (L' := [(0, .ref 92), (1, .int (nI a)), (2, .int x), (3, .int (obJ a (bTo K N x c))), (4, .int (obJ a (fOv 1 K c))), (5, .int (nI (8 * a + c)))]) (S' := [.int (nI (8 * a + c)), .ref 102]) (f' := f) rfl ?_
          refine wq_ald (j := (8 * a + c)) (n := 48) (v := (K c)) rfl rfl rfl rfl (by omega) (Nat.le_of_ble_eq_true rfl) (hA c (by omega)).1 ?_
          refine wq_run1 (pc' := 86) (L' := [(0, .ref 92), (1, .int (nI a)), (2, .int x), (3, .int (obJ a (bTo K N x c))), (4, .int (obJ a (fOv 1 K c))), (5, .int (nI (8 * a + c)))]) (S' := [.int 1, .int (K c)]) (f' := f) rfl ?_
          refine wq_if (c := (K c) = 1) (p1 := 89) (L1 := [(0, .ref 92), (1, .int (nI a)), (2, .int x), (3, .int (obJ a (bTo K N x c))), (4, .int (obJ a (fOv 1 K c))), (5, .int (nI (8 * a + c)))]) (S1 := []) (p2 := 94) (L2 := [(0, .ref 92), (1, .int (nI a)), (2, .int x), (3, .int (obJ a (bTo K N x c))), (4, .int (obJ a (fOv 1 K c))), (5, .int (nI (8 * a + c)))]) (S2 := []) rfl (fun c_86 => ?_) (fun c_86 => ?_)
          · refine wq_run4 (pc' := 101) (L' := [(0, .ref 92), (1, .int (nI a)), (2, .int x), (3, .int (obJ a (bTo K N x c))), (4, .int (nI (8 * a + c))), (5, .int ((nI (8 * a + c)) + 1))]) (S' := []) (f' := f) rfl ?_
            refine wq_L (L' := [(0, .ref 92), (1, .int (nI a)), (2, .int x), (3, .int (obJ a (bTo K N x c))), (4, .int (nI (8 * a + c))), (5, .int (nI ((8 * a + c) + 1)))]) (by rw [show nI (8 * a + c) + 1 = nI ((8 * a + c) + 1) from nI_add _ _]) ?_
            refine wq_run1 (pc' := 11) (L' := [(0, .ref 92), (1, .int (nI a)), (2, .int x), (3, .int (obJ a (bTo K N x c))), (4, .int (nI (8 * a + c))), (5, .int (nI ((8 * a + c) + 1)))]) (S' := []) (f' := f) rfl ?_
            have e1 : (bTo K N x (c + 1)) = (bTo K N x c) := bTo_z (fun q => c_34 q.1)
            have e2 : (fOv 1 K (c + 1)) = some c := fOv_y ⟨c_86, (obJ_0 (n := c) (by omega) (fun _ h => fOv_lt h)).mp c_75⟩
            have h9 := ih (c + 1) (by omega) (by omega)
            rw [e1, e2] at h9
            exact h9
          · refine wq_run3 (pc' := 101) (L' := [(0, .ref 92), (1, .int (nI a)), (2, .int x), (3, .int (obJ a (bTo K N x c))), (4, .int (obJ a (fOv 1 K c))), (5, .int ((nI (8 * a + c)) + 1))]) (S' := []) (f' := f) rfl ?_
            refine wq_L (L' := [(0, .ref 92), (1, .int (nI a)), (2, .int x), (3, .int (obJ a (bTo K N x c))), (4, .int (obJ a (fOv 1 K c))), (5, .int (nI ((8 * a + c) + 1)))]) (by rw [show nI (8 * a + c) + 1 = nI ((8 * a + c) + 1) from nI_add _ _]) ?_
            refine wq_run1 (pc' := 11) (L' := [(0, .ref 92), (1, .int (nI a)), (2, .int x), (3, .int (obJ a (bTo K N x c))), (4, .int (obJ a (fOv 1 K c))), (5, .int (nI ((8 * a + c) + 1)))]) (S' := []) (f' := f) rfl ?_
            have e1 : (bTo K N x (c + 1)) = (bTo K N x c) := bTo_z (fun q => c_34 q.1)
            have e2 : (fOv 1 K (c + 1)) = (fOv 1 K c) := fOv_z (fun q => c_86 q.1)
            have h9 := ih (c + 1) (by omega) (by omega)
            rw [e1, e2] at h9
            exact h9
        · refine wq_run3 (pc' := 101) (L' := [(0, .ref 92), (1, .int (nI a)), (2, .int x), (3, .int (obJ a (bTo K N x c))), (4, .int (obJ a (fOv 1 K c))), (5, .int ((nI (8 * a + c)) + 1))]) (S' := []) (f' := f) rfl ?_
          refine wq_L (L' := [(0, .ref 92), (1, .int (nI a)), (2, .int x), (3, .int (obJ a (bTo K N x c))), (4, .int (obJ a (fOv 1 K c))), (5, .int (nI ((8 * a + c) + 1)))]) (by rw [show nI (8 * a + c) + 1 = nI ((8 * a + c) + 1) from nI_add _ _]) ?_
          refine wq_run1 (pc' := 11) (L' := [(0, .ref 92), (1, .int (nI a)), (2, .int x), (3, .int (obJ a (bTo K N x c))), (4, .int (obJ a (fOv 1 K c))), (5, .int (nI ((8 * a + c) + 1)))]) (S' := []) (f' := f) rfl ?_
          have e1 : (bTo K N x (c + 1)) = (bTo K N x c) := bTo_z (fun q => c_34 q.1)
          have e2 : (fOv 1 K (c + 1)) = (fOv 1 K c) := fOv_z (fun q => c_75 ((obJ_0 (n := c) (by omega) (fun _ h => fOv_lt h)).mpr q.2))
          have h9 := ih (c + 1) (by omega) (by omega)
          rw [e1, e2] at h9
          exact h9
theorem mp_clauseOf2 (f : HI) {a n : Nat} {K N P : Nat → Int32} (ha : a < 5) (hn2 : f 101 a = nI n) (hn8 : n ≤ 8) (hA : AcM f a n K N P) (x : Int32) : Sp 1 157 [.ref 92, .int (nI a), .int x] f (Ret (obJ a (clA K N x n)) f) := by
  show wq 1 157 (Ret (obJ a (clA K N x n)) f) 0 [(0, .ref 92), (1, .int (nI a)), (2, .int x)] [] f
  refine wq_run7 (pc' := 9) (L' := [(0, .ref 92), (1, .int (nI a)), (2, .int x), (3, .int (-1)), (4, .int (-1))]) (S' := [.int (8 * (nI a))]) (f' := f) rfl ?_
  refine wq_v (y := (nI (8 * a))) (pk_mul 8 a) ?_
  refine wq_run1 (pc' := 11) (L' := [(0, .ref 92), (1, .int (nI a)), (2, .int x), (3, .int (-1)), (4, .int (-1)), (5, .int (nI (8 * a)))]) (S' := []) (f' := f) rfl ?_
  exact mlp_clauseOf2 f ha hn2 hn8 hA x (n - 0 + 1) 0 (Nat.zero_le _) (Nat.lt_succ_self _)
theorem mlp_penceOf2 (f : HI) {a n : Nat} {K N P : Nat → Int32} (ha : a < 5) (hn2 : f 101 a = nI n) (hn8 : n ≤ 8) (hA : AcM f a n K N P) (x : Int32) {b : Nat} (hb : clA K N x n = some b) (hk : ¬ K b = 0) : ∀ (m9 : Nat) (c : Nat), (c ≤ n) → n - c < m9 → wq 2 158 (Ret (pcA K N P x n) f) 46 [(0, .ref 92), (1, .int (nI a)), (2, .int x), (3, .int (nI (8 * a + b))), (4, .int (obJ a (wTo K N c))), (5, .int (nI (8 * a + c)))] [] f := by
  intro m9
  induction m9 with
  | zero => intro c hc0 hn; exact absurd hn (Nat.not_lt_zero _)
  | succ m9 ih =>
    intro c hc0 hn
    have hb8 := clA_lt hb
    have hk1 : K b = 1 := (clA_k hb).resolve_left hk
    have hb1 := (hA b hb8).2.2.2 (Or.inl hk1)
    refine wq_run4 (pc' := 52) (L' := [(0, .ref 92), (1, .int (nI a)), (2, .int x), (3, .int (nI (8 * a + b))), (4, .int (obJ a (wTo K N c))), (5, .int (nI (8 * a + c)))]) (S' := [.int (8 * (nI a)), .int (nI (8 * a + c))]) (f' := f) rfl ?_
    refine wq_v (y := (nI (8 * a))) (pk_mul 8 a) ?_
    refine wq_run3 (pc' := 57) (L' := [(0, .ref 92), (1, .int (nI a)), (2, .int x), (3, .int (nI (8 * a + b))), (4, .int (obJ a (wTo K N c))), (5, .int (nI (8 * a + c)))]) (S' := [.int (nI a), .ref 101, .int (nI (8 * a)), .int (nI (8 * a + c))]) (f' := f) rfl ?_
    refine wq_ald (j := a) (n := 6) (v := (nI n)) rfl rfl rfl rfl (by omega) (Nat.le_of_ble_eq_true rfl) hn2 ?_
    refine wq_run1 (pc' := 59) (L' := [(0, .ref 92), (1, .int (nI a)), (2, .int x), (3, .int (nI (8 * a + b))), (4, .int (obJ a (wTo K N c))), (5, .int (nI (8 * a + c)))]) (S' := [.int ((nI (8 * a)) + (nI n)), .int (nI (8 * a + c))]) (f' := f) rfl ?_
    refine wq_v (y := (nI ((8 * a) + n))) (nI_add (8 * a) n) ?_
    refine wq_if (c := (nI ((8 * a) + n)) ≤ (nI (8 * a + c))) (p1 := 110) (L1 := [(0, .ref 92), (1, .int (nI a)), (2, .int x), (3, .int (nI (8 * a + b))), (4, .int (obJ a (wTo K N c))), (5, .int (nI (8 * a + c)))]) (S1 := []) (p2 := 62) (L2 := [(0, .ref 92), (1, .int (nI a)), (2, .int x), (3, .int (nI (8 * a + b))), (4, .int (obJ a (wTo K N c))), (5, .int (nI (8 * a + c)))]) (S2 := []) rfl (fun c_59 => ?_) (fun c_59 => ?_)
    · have k_59 : ((8 * a) + n) ≤ (8 * a + c) := (nI_leI (a := ((8 * a) + n)) (b := (8 * a + c)) (by omega) (by omega)).mp c_59
      have e : c = n := by omega
      refine wq_run3 (pc' := 114) (L' := [(0, .ref 92), (1, .int (nI a)), (2, .int x), (3, .int (nI (8 * a + b))), (4, .int (obJ a (wTo K N c))), (5, .int (nI (8 * a + c)))]) (S' := [.int (-1), .int (obJ a (wTo K N c)), .int x]) (f' := f) rfl ?_
      refine wq_if (c := (obJ a (wTo K N c)) = (-1)) (p1 := 117) (L1 := [(0, .ref 92), (1, .int (nI a)), (2, .int x), (3, .int (nI (8 * a + b))), (4, .int (obJ a (wTo K N c))), (5, .int (nI (8 * a + c)))]) (S1 := [.int x]) (p2 := 121) (L2 := [(0, .ref 92), (1, .int (nI a)), (2, .int x), (3, .int (nI (8 * a + b))), (4, .int (obJ a (wTo K N c))), (5, .int (nI (8 * a + c)))]) (S2 := [.int x]) rfl (fun c_114 => ?_) (fun c_114 => ?_)
      · refine wq_run6 (pc' := 134) (L' := [(0, .ref 92), (1, .int (nI a)), (2, .int x), (3, .int (nI (8 * a + b))), (4, .int (obJ a (wTo K N c))), (5, .int (x - 0))]) (S' := [.int (-1), .int (obJ a (wTo K N c))]) (f' := f) rfl ?_
        refine wq_if (c := (obJ a (wTo K N c)) = (-1)) (p1 := 137) (L1 := [(0, .ref 92), (1, .int (nI a)), (2, .int x), (3, .int (nI (8 * a + b))), (4, .int (obJ a (wTo K N c))), (5, .int (x - 0))]) (S1 := []) (p2 := 141) (L2 := [(0, .ref 92), (1, .int (nI a)), (2, .int x), (3, .int (nI (8 * a + b))), (4, .int (obJ a (wTo K N c))), (5, .int (x - 0))]) (S2 := []) rfl (fun _ => ?_) (fun q => absurd c_114 q)
        refine wq_run5 (pc' := 153) (L' := [(0, .ref 92), (1, .int (nI a)), (2, .int x), (3, .int (nI (8 * a + b))), (4, .int (obJ a (wTo K N c))), (5, .int (x - 0))]) (S' := [.int (nI (8 * a + b)), .ref 104, .int 0]) (f' := f) rfl ?_
        refine wq_ald (j := (8 * a + b)) (n := 48) (v := (P b)) rfl rfl rfl rfl (by omega) (Nat.le_of_ble_eq_true rfl) ((hA b (by omega)).2.1 (Or.inr hk1)).2 ?_
        refine wq_run4 (pc' := 161) (L' := [(0, .ref 92), (1, .int (nI a)), (2, .int x), (3, .int (nI (8 * a + b))), (4, .int (obJ a (wTo K N c))), (5, .int (x - 0))]) (S' := [.int (nI (8 * a + b)), .ref 103, .int (x - 0), .int (P b), .int 0]) (f' := f) rfl ?_
        refine wq_ald (j := (8 * a + b)) (n := 48) (v := (N b)) rfl rfl rfl rfl (by omega) (Nat.le_of_ble_eq_true rfl) ((hA b (by omega)).2.1 (Or.inr hk1)).1 ?_
        refine wq_run6 (pc' := 170) (L' := [(0, .ref 92), (1, .int (nI a)), (2, .int x), (3, .int (nI (8 * a + b))), (4, .int (obJ a (wTo K N c))), (5, .int (x - 0))]) (S' := [.int (nI (8 * a + b)), .ref 103, .int (((x - 0) + (N b)) - 1), .int (P b), .int 0]) (f' := f) rfl ?_
        refine wq_ald (j := (8 * a + b)) (n := 48) (v := (N b)) rfl rfl rfl rfl (by omega) (Nat.le_of_ble_eq_true rfl) ((hA b (by omega)).2.1 (Or.inr hk1)).1 ?_
        refine wq_div rfl (ng_0 hb1) ?_
        refine wq_run2 (pc' := 174) (L' := [(0, .ref 92), (1, .int (nI a)), (2, .int x), (3, .int (nI (8 * a + b))), (4, .int (obJ a (wTo K N c))), (5, .int (x - 0))]) (S' := [.int (0 + ((P b) * ((((x - 0) + (N b)) - 1) / (N b))))]) (f' := f) rfl ?_
        exact wq_ret rfl ⟨by unfold pcA; rw [hb]; dsimp only; rw [if_neg hk, (obJ_0 (a := a) (n := n) (by omega) (fun _ h => wTo_lt h)).mp (e ▸ c_114)]; dsimp only; rw [upA_y hb1, Int32.sub_zero], rfl⟩
      · obtain ⟨t, ht⟩ := obJ_y c_114
        have ht8 := wTo_lt ht
        refine wq_run3 (pc' := 127) (L' := [(0, .ref 92), (1, .int (nI a)), (2, .int x), (3, .int (nI (8 * a + b))), (4, .int (obJ a (wTo K N c))), (5, .int (nI (8 * a + c)))]) (S' := [.int (obJ a (wTo K N c)), .ref 103, .int x]) (f' := f) rfl ?_
        refine wq_ald (j := (8 * a + t)) (n := 48) (v := (N t)) rfl rfl rfl (by rw [ht]; rfl) (by have := wTo_lt ht; omega) (Nat.le_of_ble_eq_true rfl) ((hA t (by omega)).2.1 (Or.inl (wTo_k ht))).1 ?_
        refine wq_run4 (pc' := 134) (L' := [(0, .ref 92), (1, .int (nI a)), (2, .int x), (3, .int (nI (8 * a + b))), (4, .int (obJ a (wTo K N c))), (5, .int (x - (N t)))]) (S' := [.int (-1), .int (obJ a (wTo K N c))]) (f' := f) rfl ?_
        refine wq_if (c := (obJ a (wTo K N c)) = (-1)) (p1 := 137) (L1 := [(0, .ref 92), (1, .int (nI a)), (2, .int x), (3, .int (nI (8 * a + b))), (4, .int (obJ a (wTo K N c))), (5, .int (x - (N t)))]) (S1 := []) (p2 := 141) (L2 := [(0, .ref 92), (1, .int (nI a)), (2, .int x), (3, .int (nI (8 * a + b))), (4, .int (obJ a (wTo K N c))), (5, .int (x - (N t)))]) (S2 := []) rfl (fun q => absurd q c_114) (fun _ => ?_)
        refine wq_run3 (pc' := 147) (L' := [(0, .ref 92), (1, .int (nI a)), (2, .int x), (3, .int (nI (8 * a + b))), (4, .int (obJ a (wTo K N c))), (5, .int (x - (N t)))]) (S' := [.int (obJ a (wTo K N c)), .ref 104]) (f' := f) rfl ?_
        refine wq_ald (j := (8 * a + t)) (n := 48) (v := (P t)) rfl rfl rfl (by rw [ht]; rfl) (by have := wTo_lt ht; omega) (Nat.le_of_ble_eq_true rfl) ((hA t (by omega)).2.1 (Or.inl (wTo_k ht))).2 ?_
        refine wq_run3 (pc' := 153) (L' := [(0, .ref 92), (1, .int (nI a)), (2, .int x), (3, .int (nI (8 * a + b))), (4, .int (obJ a (wTo K N c))), (5, .int (x - (N t)))]) (S' := [.int (nI (8 * a + b)), .ref 104, .int (P t)]) (f' := f) rfl ?_
        refine wq_ald (j := (8 * a + b)) (n := 48) (v := (P b)) rfl rfl rfl rfl (by omega) (Nat.le_of_ble_eq_true rfl) ((hA b (by omega)).2.1 (Or.inr hk1)).2 ?_
        refine wq_run4 (pc' := 161) (L' := [(0, .ref 92), (1, .int (nI a)), (2, .int x), (3, .int (nI (8 * a + b))), (4, .int (obJ a (wTo K N c))), (5, .int (x - (N t)))]) (S' := [.int (nI (8 * a + b)), .ref 103, .int (x - (N t)), .int (P b), .int (P t)]) (f' := f) rfl ?_
        refine wq_ald (j := (8 * a + b)) (n := 48) (v := (N b)) rfl rfl rfl rfl (by omega) (Nat.le_of_ble_eq_true rfl) ((hA b (by omega)).2.1 (Or.inr hk1)).1 ?_
        refine wq_run6 (pc' := 170) (L' := [(0, .ref 92), (1, .int (nI a)), (2, .int x), (3, .int (nI (8 * a + b))), (4, .int (obJ a (wTo K N c))), (5, .int (x - (N t)))]) (S' := [.int (nI (8 * a + b)), .ref 103, .int (((x - (N t)) + (N b)) - 1), .int (P b), .int (P t)]) (f' := f) rfl ?_
        refine wq_ald (j := (8 * a + b)) (n := 48) (v := (N b)) rfl rfl rfl rfl (by omega) (Nat.le_of_ble_eq_true rfl) ((hA b (by omega)).2.1 (Or.inr hk1)).1 ?_
        refine wq_div rfl (ng_0 hb1) ?_
        refine wq_run2 (pc' := 174) (L' := [(0, .ref 92), (1, .int (nI a)), (2, .int x), (3, .int (nI (8 * a + b))), (4, .int (obJ a (wTo K N c))), (5, .int (x - (N t)))]) (S' := [.int ((P t) + ((P b) * ((((x - (N t)) + (N b)) - 1) / (N b))))]) (f' := f) rfl ?_
        exact wq_ret rfl ⟨by unfold pcA; rw [hb]; dsimp only; rw [if_neg hk, ← e, ht]; dsimp only; rw [upA_y hb1], rfl⟩
    · have k_59 : ¬ ((8 * a) + n) ≤ (8 * a + c) := fun q => c_59 ((nI_leI (a := ((8 * a) + n)) (b := (8 * a + c)) (by omega) (by omega)).mpr q)
      refine wq_run3 (pc' := 68) (L' := [(0, .ref 92), (1, .int (nI a)), (2, .int x), (3, .int (nI (8 * a + b))), (4, .int (obJ a (wTo K N c))), (5, .int (nI (8 * a + c)))]) (S' := [.int (nI (8 * a + c)), .ref 102]) (f' := f) rfl ?_
      refine wq_ald (j := (8 * a + c)) (n := 48) (v := (K c)) rfl rfl rfl rfl (by omega) (Nat.le_of_ble_eq_true rfl) (hA c (by omega)).1 ?_
      refine wq_if (c := (K c) = 0) (p1 := 72) (L1 := [(0, .ref 92), (1, .int (nI a)), (2, .int x), (3, .int (nI (8 * a + b))), (4, .int (obJ a (wTo K N c))), (5, .int (nI (8 * a + c)))]) (S1 := []) (p2 := 100) (L2 := [(0, .ref 92), (1, .int (nI a)), (2, .int x), (3, .int (nI (8 * a + b))), (4, .int (obJ a (wTo K N c))), (5, .int (nI (8 * a + c)))]) (S2 := []) rfl (fun c_69 => ?_) (fun c_69 => ?_)
      · refine wq_run2 (pc' := 75) (L' := [(0, .ref 92), (1, .int (nI a)), (2, .int x), (3, .int (nI (8 * a + b))), (4, .int (obJ a (wTo K N c))), (5, .int (nI (8 * a + c)))]) (S' := [.int (-1), .int (obJ a (wTo K N c))]) (f' := f) rfl ?_
        refine wq_if (c := (obJ a (wTo K N c)) = (-1)) (p1 := 95) (L1 := [(0, .ref 92), (1, .int (nI a)), (2, .int x), (3, .int (nI (8 * a + b))), (4, .int (obJ a (wTo K N c))), (5, .int (nI (8 * a + c)))]) (S1 := []) (p2 := 78) (L2 := [(0, .ref 92), (1, .int (nI a)), (2, .int x), (3, .int (nI (8 * a + b))), (4, .int (obJ a (wTo K N c))), (5, .int (nI (8 * a + c)))]) (S2 := []) rfl (fun c_75 => ?_) (fun c_75 => ?_)
        · refine wq_run4 (pc' := 107) (L' := [(0, .ref 92), (1, .int (nI a)), (2, .int x), (3, .int (nI (8 * a + b))), (4, .int (nI (8 * a + c))), (5, .int ((nI (8 * a + c)) + 1))]) (S' := []) (f' := f) rfl ?_
          refine wq_L (L' := [(0, .ref 92), (1, .int (nI a)), (2, .int x), (3, .int (nI (8 * a + b))), (4, .int (nI (8 * a + c))), (5, .int (nI ((8 * a + c) + 1)))]) (by rw [show nI (8 * a + c) + 1 = nI ((8 * a + c) + 1) from nI_add _ _]) ?_
          refine wq_run1 (pc' := 46) (L' := [(0, .ref 92), (1, .int (nI a)), (2, .int x), (3, .int (nI (8 * a + b))), (4, .int (nI (8 * a + c))), (5, .int (nI ((8 * a + c) + 1)))]) (S' := []) (f' := f) rfl ?_
          have e1 : (wTo K N (c + 1)) = some c := wTo_y ⟨c_69, by rw [(obJ_0 (n := c) (by omega) (fun _ h => wTo_lt h)).mp c_75]; rfl⟩
          have h9 := ih (c + 1) (by omega) (by omega)
          rw [e1] at h9
          exact h9
        · obtain ⟨t, ht⟩ := obJ_y c_75
          have ht8 := wTo_lt ht
          refine wq_run3 (pc' := 84) (L' := [(0, .ref 92), (1, .int (nI a)), (2, .int x), (3, .int (nI (8 * a + b))), (4, .int (obJ a (wTo K N c))), (5, .int (nI (8 * a + c)))]) (S' := [.int (nI (8 * a + c)), .ref 103]) (f' := f) rfl ?_
          refine wq_ald (j := (8 * a + c)) (n := 48) (v := (N c)) rfl rfl rfl rfl (by omega) (Nat.le_of_ble_eq_true rfl) ((hA c (by omega)).2.1 (Or.inl c_69)).1 ?_
          refine wq_run3 (pc' := 91) (L' := [(0, .ref 92), (1, .int (nI a)), (2, .int x), (3, .int (nI (8 * a + b))), (4, .int (obJ a (wTo K N c))), (5, .int (nI (8 * a + c)))]) (S' := [.int (obJ a (wTo K N c)), .ref 103, .int (N c)]) (f' := f) rfl ?_
          refine wq_ald (j := (8 * a + t)) (n := 48) (v := (N t)) rfl rfl rfl (by rw [ht]; rfl) (by omega) (Nat.le_of_ble_eq_true rfl) ((hA t (by omega)).2.1 (Or.inl (wTo_k ht))).1 ?_
          refine wq_if (c := (N c) ≤ (N t)) (p1 := 100) (L1 := [(0, .ref 92), (1, .int (nI a)), (2, .int x), (3, .int (nI (8 * a + b))), (4, .int (obJ a (wTo K N c))), (5, .int (nI (8 * a + c)))]) (S1 := []) (p2 := 95) (L2 := [(0, .ref 92), (1, .int (nI a)), (2, .int x), (3, .int (nI (8 * a + b))), (4, .int (obJ a (wTo K N c))), (5, .int (nI (8 * a + c)))]) (S2 := []) rfl (fun c_92 => ?_) (fun c_92 => ?_)
          · refine wq_run3 (pc' := 107) (L' := [(0, .ref 92), (1, .int (nI a)), (2, .int x), (3, .int (nI (8 * a + b))), (4, .int (obJ a (wTo K N c))), (5, .int ((nI (8 * a + c)) + 1))]) (S' := []) (f' := f) rfl ?_
            refine wq_L (L' := [(0, .ref 92), (1, .int (nI a)), (2, .int x), (3, .int (nI (8 * a + b))), (4, .int (obJ a (wTo K N c))), (5, .int (nI ((8 * a + c) + 1)))]) (by rw [show nI (8 * a + c) + 1 = nI ((8 * a + c) + 1) from nI_add _ _]) ?_
            refine wq_run1 (pc' := 46) (L' := [(0, .ref 92), (1, .int (nI a)), (2, .int x), (3, .int (nI (8 * a + b))), (4, .int (obJ a (wTo K N c))), (5, .int (nI ((8 * a + c) + 1)))]) (S' := []) (f' := f) rfl ?_
            have e1 : (wTo K N (c + 1)) = (wTo K N c) := wTo_z (fun q => absurd (show N t < N c by have q := q.2; rw [ht] at q; exact of_decide_eq_true q) (Int32.not_lt.mpr c_92))
            have h9 := ih (c + 1) (by omega) (by omega)
            rw [e1] at h9
            exact h9
          · refine wq_run4 (pc' := 107) (L' := [(0, .ref 92), (1, .int (nI a)), (2, .int x), (3, .int (nI (8 * a + b))), (4, .int (nI (8 * a + c))), (5, .int ((nI (8 * a + c)) + 1))]) (S' := []) (f' := f) rfl ?_
            refine wq_L (L' := [(0, .ref 92), (1, .int (nI a)), (2, .int x), (3, .int (nI (8 * a + b))), (4, .int (nI (8 * a + c))), (5, .int (nI ((8 * a + c) + 1)))]) (by rw [show nI (8 * a + c) + 1 = nI ((8 * a + c) + 1) from nI_add _ _]) ?_
            refine wq_run1 (pc' := 46) (L' := [(0, .ref 92), (1, .int (nI a)), (2, .int x), (3, .int (nI (8 * a + b))), (4, .int (nI (8 * a + c))), (5, .int (nI ((8 * a + c) + 1)))]) (S' := []) (f' := f) rfl ?_
            have e1 : (wTo K N (c + 1)) = some c := wTo_y ⟨c_69, by rw [ht]; exact decide_eq_true (Int32.not_le.mp c_92)⟩
            have h9 := ih (c + 1) (by omega) (by omega)
            rw [e1] at h9
            exact h9
      · refine wq_run3 (pc' := 107) (L' := [(0, .ref 92), (1, .int (nI a)), (2, .int x), (3, .int (nI (8 * a + b))), (4, .int (obJ a (wTo K N c))), (5, .int ((nI (8 * a + c)) + 1))]) (S' := []) (f' := f) rfl ?_
        refine wq_L (L' := [(0, .ref 92), (1, .int (nI a)), (2, .int x), (3, .int (nI (8 * a + b))), (4, .int (obJ a (wTo K N c))), (5, .int (nI ((8 * a + c) + 1)))]) (by rw [show nI (8 * a + c) + 1 = nI ((8 * a + c) + 1) from nI_add _ _]) ?_
        refine wq_run1 (pc' := 46) (L' := [(0, .ref 92), (1, .int (nI a)), (2, .int x), (3, .int (nI (8 * a + b))), (4, .int (obJ a (wTo K N c))), (5, .int (nI ((8 * a + c) + 1)))]) (S' := []) (f' := f) rfl ?_
        have e1 : (wTo K N (c + 1)) = (wTo K N c) := wTo_z (fun q => c_69 q.1)
        have h9 := ih (c + 1) (by omega) (by omega)
        rw [e1] at h9
        exact h9
theorem mp_penceOf2 (f : HI) {a n : Nat} {K N P : Nat → Int32} (ha : a < 5) (hn2 : f 101 a = nI n) (hn8 : n ≤ 8) (hA : AcM f a n K N P) (x : Int32) : Sp 2 158 [.ref 92, .int (nI a), .int x] f (Ret (pcA K N P x n) f) := by
  show wq 2 158 (Ret (pcA K N P x n) f) 0 [(0, .ref 92), (1, .int (nI a)), (2, .int x)] [] f
  refine wq_run3 (pc' := 3) (L' := [(0, .ref 92), (1, .int (nI a)), (2, .int x)]) (S' := [.int x, .int (nI a), .ref 92]) (f' := f) rfl ?_
  refine wq_callI (r := (obJ a (clA K N x n))) (mp_clauseOf2 f ha hn2 hn8 hA x) (Nat.le_of_ble_eq_true rfl) (pc' := 6) (L' := [(0, .ref 92), (1, .int (nI a)), (2, .int x)]) (S' := []) rfl (Nat.le_of_ble_eq_true rfl) rfl rfl (Nat.le_of_ble_eq_true rfl) (Nat.le_of_ble_eq_true rfl) ?_
  refine wq_run3 (pc' := 9) (L' := [(0, .ref 92), (1, .int (nI a)), (2, .int x), (3, .int (obJ a (clA K N x n)))]) (S' := [.int (-1), .int (obJ a (clA K N x n))]) (f' := f) rfl ?_
  refine wq_if (c := (obJ a (clA K N x n)) = (-1)) (p1 := 21) (L1 := [(0, .ref 92), (1, .int (nI a)), (2, .int x), (3, .int (obJ a (clA K N x n)))]) (S1 := []) (p2 := 12) (L2 := [(0, .ref 92), (1, .int (nI a)), (2, .int x), (3, .int (obJ a (clA K N x n)))]) (S2 := []) rfl (fun c_9 => ?_) (fun c_9 => ?_)
  · refine wq_run2 (pc' := 23) (L' := [(0, .ref 92), (1, .int (nI a)), (2, .int x), (3, .int (obJ a (clA K N x n)))]) (S' := [.int (-1), .int (obJ a (clA K N x n))]) (f' := f) rfl ?_
    refine wq_if (c := (obJ a (clA K N x n)) = (-1)) (p1 := 26) (L1 := [(0, .ref 92), (1, .int (nI a)), (2, .int x), (3, .int (obJ a (clA K N x n)))]) (S1 := []) (p2 := 30) (L2 := [(0, .ref 92), (1, .int (nI a)), (2, .int x), (3, .int (obJ a (clA K N x n)))]) (S2 := []) rfl (fun _ => ?_) (fun q => absurd c_9 q)
    refine wq_run2 (pc' := 36) (L' := [(0, .ref 92), (1, .int (nI a)), (2, .int x), (3, .int (obJ a (clA K N x n)))]) (S' := [.int (-1)]) (f' := f) rfl ?_
    have e1 := (obJ_0 (a := a) (n := n) (by omega) (fun _ h => clA_lt h)).mp c_9
    exact wq_ret rfl ⟨by unfold pcA; rw [e1], rfl⟩
  · obtain ⟨b, hb⟩ := obJ_y c_9
    have hb8 := clA_lt hb
    refine wq_L (L' := [(0, .ref 92), (1, .int (nI a)), (2, .int x), (3, .int (nI (8 * a + b)))]) (by rw [hb]; rfl) ?_
    refine wq_run3 (pc' := 17) (L' := [(0, .ref 92), (1, .int (nI a)), (2, .int x), (3, .int (nI (8 * a + b)))]) (S' := [.int (nI (8 * a + b)), .ref 102]) (f' := f) rfl ?_
    refine wq_ald (j := (8 * a + b)) (n := 48) (v := (K b)) rfl rfl rfl rfl (by omega) (Nat.le_of_ble_eq_true rfl) (hA b (by omega)).1 ?_
    refine wq_if (c := (K b) = 0) (p1 := 21) (L1 := [(0, .ref 92), (1, .int (nI a)), (2, .int x), (3, .int (nI (8 * a + b)))]) (S1 := []) (p2 := 37) (L2 := [(0, .ref 92), (1, .int (nI a)), (2, .int x), (3, .int (nI (8 * a + b)))]) (S2 := []) rfl (fun c_18 => ?_) (fun c_18 => ?_)
    · refine wq_run2 (pc' := 23) (L' := [(0, .ref 92), (1, .int (nI a)), (2, .int x), (3, .int (nI (8 * a + b)))]) (S' := [.int (-1), .int (nI (8 * a + b))]) (f' := f) rfl ?_
      refine wq_if (c := (nI (8 * a + b)) = (-1)) (p1 := 26) (L1 := [(0, .ref 92), (1, .int (nI a)), (2, .int x), (3, .int (nI (8 * a + b)))]) (S1 := []) (p2 := 30) (L2 := [(0, .ref 92), (1, .int (nI a)), (2, .int x), (3, .int (nI (8 * a + b)))]) (S2 := []) rfl (fun q => absurd q (nI_nm (by omega))) (fun _ => ?_)
      refine wq_run3 (pc' := 35) (L' := [(0, .ref 92), (1, .int (nI a)), (2, .int x), (3, .int (nI (8 * a + b)))]) (S' := [.int (nI (8 * a + b)), .ref 104]) (f' := f) rfl ?_
      refine wq_ald (j := (8 * a + b)) (n := 48) (v := (P b)) rfl rfl rfl rfl (by omega) (Nat.le_of_ble_eq_true rfl) ((hA b (by omega)).2.1 (Or.inl c_18)).2 ?_
      exact wq_ret rfl ⟨by unfold pcA; rw [hb]; dsimp only; rw [if_pos c_18], rfl⟩
    · refine wq_run5 (pc' := 44) (L' := [(0, .ref 92), (1, .int (nI a)), (2, .int x), (3, .int (nI (8 * a + b))), (4, .int (-1))]) (S' := [.int (8 * (nI a))]) (f' := f) rfl ?_
      refine wq_v (y := (nI (8 * a))) (pk_mul 8 a) ?_
      refine wq_run1 (pc' := 46) (L' := [(0, .ref 92), (1, .int (nI a)), (2, .int x), (3, .int (nI (8 * a + b))), (4, .int (-1)), (5, .int (nI (8 * a)))]) (S' := []) (f' := f) rfl ?_
      exact mlp_penceOf2 f ha hn2 hn8 hA x hb c_18 (n - 0 + 1) 0 (Nat.zero_le _) (Nat.lt_succ_self _)
theorem mlp_postageOf2 (f : HI) {a n : Nat} {K N P : Nat → Int32} (ha : a < 5) (hn2 : f 101 a = nI n) (hn8 : n ≤ 8) (hA : AcM f a n K N P) (p sh dr h : Int32) : ∀ (m9 : Nat) (c : Nat), (c ≤ n) → n - c < m9 → wq 3 159 (Ret (imax (aS K N h (p * tmA K N sh dr n) n) (lS K N n)) f) 43 [(0, .ref 92), (1, .int (nI a)), (4, .int dr), (5, .int h), (6, .int p), (7, .int (tmA K N sh dr c)), (8, .int (wgI K c)), (9, .int (lsS K N c)), (10, .int (lS K N c)), (11, .int (nI (8 * a + c)))] [] f := by
  intro m9
  induction m9 with
  | zero => intro c hc0 hn; exact absurd hn (Nat.not_lt_zero _)
  | succ m9 ih =>
    intro c hc0 hn
    refine wq_run4 (pc' := 49) (L' := [(0, .ref 92), (1, .int (nI a)), (4, .int dr), (5, .int h), (6, .int p), (7, .int (tmA K N sh dr c)), (8, .int (wgI K c)), (9, .int (lsS K N c)), (10, .int (lS K N c)), (11, .int (nI (8 * a + c)))]) (S' := [.int (8 * (nI a)), .int (nI (8 * a + c))]) (f' := f) rfl ?_
    refine wq_v (y := (nI (8 * a))) (pk_mul 8 a) ?_
    refine wq_run3 (pc' := 54) (L' := [(0, .ref 92), (1, .int (nI a)), (4, .int dr), (5, .int h), (6, .int p), (7, .int (tmA K N sh dr c)), (8, .int (wgI K c)), (9, .int (lsS K N c)), (10, .int (lS K N c)), (11, .int (nI (8 * a + c)))]) (S' := [.int (nI a), .ref 101, .int (nI (8 * a)), .int (nI (8 * a + c))]) (f' := f) rfl ?_
    refine wq_ald (j := a) (n := 6) (v := (nI n)) rfl rfl rfl rfl (by omega) (Nat.le_of_ble_eq_true rfl) hn2 ?_
    refine wq_run1 (pc' := 56) (L' := [(0, .ref 92), (1, .int (nI a)), (4, .int dr), (5, .int h), (6, .int p), (7, .int (tmA K N sh dr c)), (8, .int (wgI K c)), (9, .int (lsS K N c)), (10, .int (lS K N c)), (11, .int (nI (8 * a + c)))]) (S' := [.int ((nI (8 * a)) + (nI n)), .int (nI (8 * a + c))]) (f' := f) rfl ?_
    refine wq_v (y := (nI ((8 * a) + n))) (nI_add (8 * a) n) ?_
    refine wq_if (c := (nI ((8 * a) + n)) ≤ (nI (8 * a + c))) (p1 := 163) (L1 := [(0, .ref 92), (1, .int (nI a)), (4, .int dr), (5, .int h), (6, .int p), (7, .int (tmA K N sh dr c)), (8, .int (wgI K c)), (9, .int (lsS K N c)), (10, .int (lS K N c)), (11, .int (nI (8 * a + c)))]) (S1 := []) (p2 := 59) (L2 := [(0, .ref 92), (1, .int (nI a)), (4, .int dr), (5, .int h), (6, .int p), (7, .int (tmA K N sh dr c)), (8, .int (wgI K c)), (9, .int (lsS K N c)), (10, .int (lS K N c)), (11, .int (nI (8 * a + c)))]) (S2 := []) rfl (fun c_56 => ?_) (fun c_56 => ?_)
    · have k_56 : ((8 * a) + n) ≤ (8 * a + c) := (nI_leI (a := ((8 * a) + n)) (b := (8 * a + c)) (by omega) (by omega)).mp c_56
      have e : c = n := by omega
      refine wq_run4 (pc' := 170) (L' := [(0, .ref 92), (1, .int (nI a)), (4, .int dr), (5, .int h), (6, .int p), (7, .int (tmA K N sh dr c)), (8, .int (wgI K c)), (9, .int (lsS K N c)), (10, .int (lS K N c)), (11, .int (nI (8 * a + c)))]) (S' := [.int h, .int (p * (tmA K N sh dr c))]) (f' := f) rfl ?_
      refine wq_if (c := h = 0) (p1 := 178) (L1 := [(0, .ref 92), (1, .int (nI a)), (4, .int dr), (5, .int h), (6, .int p), (7, .int (tmA K N sh dr c)), (8, .int (wgI K c)), (9, .int (lsS K N c)), (10, .int (lS K N c)), (11, .int (nI (8 * a + c)))]) (S1 := [.int (p * (tmA K N sh dr c))]) (p2 := 173) (L2 := [(0, .ref 92), (1, .int (nI a)), (4, .int dr), (5, .int h), (6, .int p), (7, .int (tmA K N sh dr c)), (8, .int (wgI K c)), (9, .int (lsS K N c)), (10, .int (lS K N c)), (11, .int (nI (8 * a + c)))]) (S2 := [.int (p * (tmA K N sh dr c))]) rfl (fun c_170 => ?_) (fun c_170 => ?_)
      · refine wq_run5 (pc' := 185) (L' := [(0, .ref 92), (1, .int (nI a)), (4, .int dr), (5, .int h), (6, .int p), (7, .int (tmA K N sh dr c)), (8, .int (wgI K c)), (9, .int (lsS K N c)), (10, .int (lS K N c)), (11, .int ((p * (tmA K N sh dr c)) - 0))]) (S' := [.int 0, .int ((p * (tmA K N sh dr c)) - 0)]) (f' := f) rfl ?_
        refine wq_callI (r := (imax ((p * (tmA K N sh dr c)) - 0) 0)) (mp_most f ((p * (tmA K N sh dr c)) - 0) 0) (Nat.le_of_ble_eq_true rfl) (pc' := 188) (L' := [(0, .ref 92), (1, .int (nI a)), (4, .int dr), (5, .int h), (6, .int p), (7, .int (tmA K N sh dr c)), (8, .int (wgI K c)), (9, .int (lsS K N c)), (10, .int (lS K N c)), (11, .int ((p * (tmA K N sh dr c)) - 0))]) (S' := []) rfl (Nat.le_of_ble_eq_true rfl) rfl rfl (Nat.le_of_ble_eq_true rfl) (Nat.le_of_ble_eq_true rfl) ?_
        refine wq_run1 (pc' := 190) (L' := [(0, .ref 92), (1, .int (nI a)), (4, .int dr), (5, .int h), (6, .int p), (7, .int (tmA K N sh dr c)), (8, .int (wgI K c)), (9, .int (lsS K N c)), (10, .int (lS K N c)), (11, .int ((p * (tmA K N sh dr c)) - 0))]) (S' := [.int (lS K N c), .int (imax ((p * (tmA K N sh dr c)) - 0) 0)]) (f' := f) rfl ?_
        refine wq_callI (r := (imax (imax ((p * (tmA K N sh dr c)) - 0) 0) (lS K N c))) (mp_most f (imax ((p * (tmA K N sh dr c)) - 0) 0) (lS K N c)) (Nat.le_of_ble_eq_true rfl) (pc' := 193) (L' := [(0, .ref 92), (1, .int (nI a)), (4, .int dr), (5, .int h), (6, .int p), (7, .int (tmA K N sh dr c)), (8, .int (wgI K c)), (9, .int (lsS K N c)), (10, .int (lS K N c)), (11, .int ((p * (tmA K N sh dr c)) - 0))]) (S' := []) rfl (Nat.le_of_ble_eq_true rfl) rfl rfl (Nat.le_of_ble_eq_true rfl) (Nat.le_of_ble_eq_true rfl) ?_
        exact wq_ret rfl ⟨by rw [aS_ls, if_pos c_170, ← e, imax_0 (lS_nn K N c)], rfl⟩
      · refine wq_run6 (pc' := 185) (L' := [(0, .ref 92), (1, .int (nI a)), (4, .int dr), (5, .int h), (6, .int p), (7, .int (tmA K N sh dr c)), (8, .int (wgI K c)), (9, .int (lsS K N c)), (10, .int (lS K N c)), (11, .int ((p * (tmA K N sh dr c)) - (lsS K N c)))]) (S' := [.int 0, .int ((p * (tmA K N sh dr c)) - (lsS K N c))]) (f' := f) rfl ?_
        refine wq_callI (r := (imax ((p * (tmA K N sh dr c)) - (lsS K N c)) 0)) (mp_most f ((p * (tmA K N sh dr c)) - (lsS K N c)) 0) (Nat.le_of_ble_eq_true rfl) (pc' := 188) (L' := [(0, .ref 92), (1, .int (nI a)), (4, .int dr), (5, .int h), (6, .int p), (7, .int (tmA K N sh dr c)), (8, .int (wgI K c)), (9, .int (lsS K N c)), (10, .int (lS K N c)), (11, .int ((p * (tmA K N sh dr c)) - (lsS K N c)))]) (S' := []) rfl (Nat.le_of_ble_eq_true rfl) rfl rfl (Nat.le_of_ble_eq_true rfl) (Nat.le_of_ble_eq_true rfl) ?_
        refine wq_run1 (pc' := 190) (L' := [(0, .ref 92), (1, .int (nI a)), (4, .int dr), (5, .int h), (6, .int p), (7, .int (tmA K N sh dr c)), (8, .int (wgI K c)), (9, .int (lsS K N c)), (10, .int (lS K N c)), (11, .int ((p * (tmA K N sh dr c)) - (lsS K N c)))]) (S' := [.int (lS K N c), .int (imax ((p * (tmA K N sh dr c)) - (lsS K N c)) 0)]) (f' := f) rfl ?_
        refine wq_callI (r := (imax (imax ((p * (tmA K N sh dr c)) - (lsS K N c)) 0) (lS K N c))) (mp_most f (imax ((p * (tmA K N sh dr c)) - (lsS K N c)) 0) (lS K N c)) (Nat.le_of_ble_eq_true rfl) (pc' := 193) (L' := [(0, .ref 92), (1, .int (nI a)), (4, .int dr), (5, .int h), (6, .int p), (7, .int (tmA K N sh dr c)), (8, .int (wgI K c)), (9, .int (lsS K N c)), (10, .int (lS K N c)), (11, .int ((p * (tmA K N sh dr c)) - (lsS K N c)))]) (S' := []) rfl (Nat.le_of_ble_eq_true rfl) rfl rfl (Nat.le_of_ble_eq_true rfl) (Nat.le_of_ble_eq_true rfl) ?_
        exact wq_ret rfl ⟨by rw [aS_ls, if_neg c_170, ← e, imax_0 (lS_nn K N c)], rfl⟩
    · have k_56 : ¬ ((8 * a) + n) ≤ (8 * a + c) := fun q => c_56 ((nI_leI (a := ((8 * a) + n)) (b := (8 * a + c)) (by omega) (by omega)).mpr q)
      refine wq_run3 (pc' := 65) (L' := [(0, .ref 92), (1, .int (nI a)), (4, .int dr), (5, .int h), (6, .int p), (7, .int (tmA K N sh dr c)), (8, .int (wgI K c)), (9, .int (lsS K N c)), (10, .int (lS K N c)), (11, .int (nI (8 * a + c)))]) (S' := [.int (nI (8 * a + c)), .ref 102]) (f' := f) rfl ?_
      refine wq_ald (j := (8 * a + c)) (n := 48) (v := (K c)) rfl rfl rfl rfl (by omega) (Nat.le_of_ble_eq_true rfl) (hA c (by omega)).1 ?_
      refine wq_run1 (pc' := 67) (L' := [(0, .ref 92), (1, .int (nI a)), (4, .int dr), (5, .int h), (6, .int p), (7, .int (tmA K N sh dr c)), (8, .int (wgI K c)), (9, .int (lsS K N c)), (10, .int (lS K N c)), (11, .int (nI (8 * a + c)))]) (S' := [.int 2, .int (K c)]) (f' := f) rfl ?_
      refine wq_if (c := (K c) = 2) (p1 := 70) (L1 := [(0, .ref 92), (1, .int (nI a)), (4, .int dr), (5, .int h), (6, .int p), (7, .int (tmA K N sh dr c)), (8, .int (wgI K c)), (9, .int (lsS K N c)), (10, .int (lS K N c)), (11, .int (nI (8 * a + c)))]) (S1 := []) (p2 := 100) (L2 := [(0, .ref 92), (1, .int (nI a)), (4, .int dr), (5, .int h), (6, .int p), (7, .int (tmA K N sh dr c)), (8, .int (wgI K c)), (9, .int (lsS K N c)), (10, .int (lS K N c)), (11, .int (nI (8 * a + c)))]) (S2 := []) rfl (fun c_67 => ?_) (fun c_67 => ?_)
      · refine wq_run1 (pc' := 72) (L' := [(0, .ref 92), (1, .int (nI a)), (4, .int dr), (5, .int h), (6, .int p), (7, .int (tmA K N sh dr c)), (8, .int (wgI K c)), (9, .int (lsS K N c)), (10, .int (lS K N c)), (11, .int (nI (8 * a + c)))]) (S' := [.int (wgI K c)]) (f' := f) rfl ?_
        refine wq_if (c := (wgI K c) = 0) (p1 := 75) (L1 := [(0, .ref 92), (1, .int (nI a)), (4, .int dr), (5, .int h), (6, .int p), (7, .int (tmA K N sh dr c)), (8, .int (wgI K c)), (9, .int (lsS K N c)), (10, .int (lS K N c)), (11, .int (nI (8 * a + c)))]) (S1 := []) (p2 := 100) (L2 := [(0, .ref 92), (1, .int (nI a)), (4, .int dr), (5, .int h), (6, .int p), (7, .int (tmA K N sh dr c)), (8, .int (wgI K c)), (9, .int (lsS K N c)), (10, .int (lS K N c)), (11, .int (nI (8 * a + c)))]) (S2 := []) rfl (fun c_72 => ?_) (fun c_72 => ?_)
        · refine wq_run6 (pc' := 86) (L' := [(0, .ref 92), (1, .int (nI a)), (4, .int dr), (5, .int h), (6, .int p), (7, .int (tmA K N sh dr c)), (8, .int 1), (9, .int (lsS K N c)), (10, .int (lS K N c)), (11, .int (nI (8 * a + c)))]) (S' := [.int (nI (8 * a + c)), .ref 104, .int dr]) (f' := f) rfl ?_
          refine wq_ald (j := (8 * a + c)) (n := 48) (v := (N c)) rfl rfl rfl rfl (by omega) (Nat.le_of_ble_eq_true rfl) ((hA c (by omega)).2.2.1 (by rw [c_67]; decide) (by rw [c_67]; decide)) ?_
          refine wq_run6 (pc' := 96) (L' := [(0, .ref 92), (1, .int (nI a)), (4, .int dr), (5, .int h), (6, .int p), (7, .int (tmA K N sh dr c)), (8, .int 1), (9, .int (lsS K N c)), (10, .int (lS K N c)), (11, .int (nI (8 * a + c)))]) (S' := [.int (nI (8 * a + c)), .ref 104, .int ((dr + (N c)) - 1)]) (f' := f) rfl ?_
          refine wq_ald (j := (8 * a + c)) (n := 48) (v := (N c)) rfl rfl rfl rfl (by omega) (Nat.le_of_ble_eq_true rfl) ((hA c (by omega)).2.2.1 (by rw [c_67]; decide) (by rw [c_67]; decide)) ?_
          refine wq_div rfl (ng_0 ((hA c (by omega)).2.2.2 (Or.inr c_67))) ?_
          refine wq_run5 (pc' := 108) (L' := [(0, .ref 92), (1, .int (nI a)), (4, .int dr), (5, .int h), (6, .int p), (7, .int (((dr + (N c)) - 1) / (N c))), (8, .int 1), (9, .int (lsS K N c)), (10, .int (lS K N c)), (11, .int (nI (8 * a + c)))]) (S' := [.int (nI (8 * a + c)), .ref 102, .int (lsS K N c)]) (f' := f) rfl ?_
          refine wq_ald (j := (8 * a + c)) (n := 48) (v := (K c)) rfl rfl rfl rfl (by omega) (Nat.le_of_ble_eq_true rfl) (hA c (by omega)).1 ?_
          refine wq_run1 (pc' := 110) (L' := [(0, .ref 92), (1, .int (nI a)), (4, .int dr), (5, .int h), (6, .int p), (7, .int (((dr + (N c)) - 1) / (N c))), (8, .int 1), (9, .int (lsS K N c)), (10, .int (lS K N c)), (11, .int (nI (8 * a + c)))]) (S' := [.int 4, .int (K c), .int (lsS K N c)]) (f' := f) rfl ?_
          refine wq_if (c := (K c) = 4) (p1 := 113) (L1 := [(0, .ref 92), (1, .int (nI a)), (4, .int dr), (5, .int h), (6, .int p), (7, .int (((dr + (N c)) - 1) / (N c))), (8, .int 1), (9, .int (lsS K N c)), (10, .int (lS K N c)), (11, .int (nI (8 * a + c)))]) (S1 := [.int (lsS K N c)]) (p2 := 123) (L2 := [(0, .ref 92), (1, .int (nI a)), (4, .int dr), (5, .int h), (6, .int p), (7, .int (((dr + (N c)) - 1) / (N c))), (8, .int 1), (9, .int (lsS K N c)), (10, .int (lS K N c)), (11, .int (nI (8 * a + c)))]) (S2 := [.int (lsS K N c)]) rfl (fun c_110 => ?_) (fun c_110 => ?_)
          · refine wq_run3 (pc' := 119) (L' := [(0, .ref 92), (1, .int (nI a)), (4, .int dr), (5, .int h), (6, .int p), (7, .int (((dr + (N c)) - 1) / (N c))), (8, .int 1), (9, .int (lsS K N c)), (10, .int (lS K N c)), (11, .int (nI (8 * a + c)))]) (S' := [.int (nI (8 * a + c)), .ref 104, .int (lsS K N c)]) (f' := f) rfl ?_
            refine wq_ald (j := (8 * a + c)) (n := 48) (v := (N c)) rfl rfl rfl rfl (by omega) (Nat.le_of_ble_eq_true rfl) ((hA c (by omega)).2.2.1 (by rw [c_110]; decide) (by rw [c_110]; decide)) ?_
            refine wq_run6 (pc' := 133) (L' := [(0, .ref 92), (1, .int (nI a)), (4, .int dr), (5, .int h), (6, .int p), (7, .int (((dr + (N c)) - 1) / (N c))), (8, .int 1), (9, .int ((lsS K N c) + (N c))), (10, .int (lS K N c)), (11, .int (nI (8 * a + c)))]) (S' := [.int (nI (8 * a + c)), .ref 102]) (f' := f) rfl ?_
            refine wq_ald (j := (8 * a + c)) (n := 48) (v := (K c)) rfl rfl rfl rfl (by omega) (Nat.le_of_ble_eq_true rfl) (hA c (by omega)).1 ?_
            refine wq_run1 (pc' := 135) (L' := [(0, .ref 92), (1, .int (nI a)), (4, .int dr), (5, .int h), (6, .int p), (7, .int (((dr + (N c)) - 1) / (N c))), (8, .int 1), (9, .int ((lsS K N c) + (N c))), (10, .int (lS K N c)), (11, .int (nI (8 * a + c)))]) (S' := [.int 5, .int (K c)]) (f' := f) rfl ?_
            refine wq_if (c := (K c) = 5) (p1 := 138) (L1 := [(0, .ref 92), (1, .int (nI a)), (4, .int dr), (5, .int h), (6, .int p), (7, .int (((dr + (N c)) - 1) / (N c))), (8, .int 1), (9, .int ((lsS K N c) + (N c))), (10, .int (lS K N c)), (11, .int (nI (8 * a + c)))]) (S1 := []) (p2 := 153) (L2 := [(0, .ref 92), (1, .int (nI a)), (4, .int dr), (5, .int h), (6, .int p), (7, .int (((dr + (N c)) - 1) / (N c))), (8, .int 1), (9, .int ((lsS K N c) + (N c))), (10, .int (lS K N c)), (11, .int (nI (8 * a + c)))]) (S2 := []) rfl (fun c_135 => ?_) (fun c_135 => ?_)
            · refine wq_run4 (pc' := 146) (L' := [(0, .ref 92), (1, .int (nI a)), (4, .int dr), (5, .int h), (6, .int p), (7, .int (((dr + (N c)) - 1) / (N c))), (8, .int 1), (9, .int ((lsS K N c) + (N c))), (10, .int (lS K N c)), (11, .int (nI (8 * a + c)))]) (S' := [.int (nI (8 * a + c)), .ref 104, .int (lS K N c)]) (f' := f) rfl ?_
              refine wq_ald (j := (8 * a + c)) (n := 48) (v := (N c)) rfl rfl rfl rfl (by omega) (Nat.le_of_ble_eq_true rfl) ((hA c (by omega)).2.2.1 (by rw [c_135]; decide) (by rw [c_135]; decide)) ?_
              refine wq_callI (r := (imax (lS K N c) (N c))) (mp_most f (lS K N c) (N c)) (Nat.le_of_ble_eq_true rfl) (pc' := 150) (L' := [(0, .ref 92), (1, .int (nI a)), (4, .int dr), (5, .int h), (6, .int p), (7, .int (((dr + (N c)) - 1) / (N c))), (8, .int 1), (9, .int ((lsS K N c) + (N c))), (10, .int (lS K N c)), (11, .int (nI (8 * a + c)))]) (S' := []) rfl (Nat.le_of_ble_eq_true rfl) rfl rfl (Nat.le_of_ble_eq_true rfl) (Nat.le_of_ble_eq_true rfl) ?_
              refine wq_run3 (pc' := 160) (L' := [(0, .ref 92), (1, .int (nI a)), (4, .int dr), (5, .int h), (6, .int p), (7, .int (((dr + (N c)) - 1) / (N c))), (8, .int 1), (9, .int ((lsS K N c) + (N c))), (10, .int (imax (lS K N c) (N c))), (11, .int ((nI (8 * a + c)) + 1))]) (S' := []) (f' := f) rfl ?_
              refine wq_L (L' := [(0, .ref 92), (1, .int (nI a)), (4, .int dr), (5, .int h), (6, .int p), (7, .int (((dr + (N c)) - 1) / (N c))), (8, .int 1), (9, .int ((lsS K N c) + (N c))), (10, .int (imax (lS K N c) (N c))), (11, .int (nI ((8 * a + c) + 1)))]) (by rw [show nI (8 * a + c) + 1 = nI ((8 * a + c) + 1) from nI_add _ _]) ?_
              refine wq_run1 (pc' := 43) (L' := [(0, .ref 92), (1, .int (nI a)), (4, .int dr), (5, .int h), (6, .int p), (7, .int (((dr + (N c)) - 1) / (N c))), (8, .int 1), (9, .int ((lsS K N c) + (N c))), (10, .int (imax (lS K N c) (N c))), (11, .int (nI ((8 * a + c) + 1)))]) (S' := []) (f' := f) rfl ?_
              have e00 : fOv 2 K c = none := Decidable.byContradiction (fun q => absurd c_72 (by unfold wgI; rw [if_neg q]; decide))
              have e0 : fOv 2 K (c + 1) = some c := fOv_y ⟨c_67, e00⟩
              have e1 : tmA K N sh dr (c + 1) = (dr + N c - 1) / N c := by unfold tmA; rw [e0]; exact upA_y ((hA c (by omega)).2.2.2 (Or.inr c_67))
              have e2 : wgI K (c + 1) = 1 := by unfold wgI; rw [e0]; rfl
              have e3 : lsS K N (c + 1) = lsS K N c + N c := if_pos c_110
              have e4 : lS K N (c + 1) = imax (lS K N c) (N c) := if_pos c_135
              have h9 := ih (c + 1) (by omega) (by omega)
              rw [e1, e2, e3, e4] at h9
              exact h9
            · refine wq_run3 (pc' := 160) (L' := [(0, .ref 92), (1, .int (nI a)), (4, .int dr), (5, .int h), (6, .int p), (7, .int (((dr + (N c)) - 1) / (N c))), (8, .int 1), (9, .int ((lsS K N c) + (N c))), (10, .int (lS K N c)), (11, .int ((nI (8 * a + c)) + 1))]) (S' := []) (f' := f) rfl ?_
              refine wq_L (L' := [(0, .ref 92), (1, .int (nI a)), (4, .int dr), (5, .int h), (6, .int p), (7, .int (((dr + (N c)) - 1) / (N c))), (8, .int 1), (9, .int ((lsS K N c) + (N c))), (10, .int (lS K N c)), (11, .int (nI ((8 * a + c) + 1)))]) (by rw [show nI (8 * a + c) + 1 = nI ((8 * a + c) + 1) from nI_add _ _]) ?_
              refine wq_run1 (pc' := 43) (L' := [(0, .ref 92), (1, .int (nI a)), (4, .int dr), (5, .int h), (6, .int p), (7, .int (((dr + (N c)) - 1) / (N c))), (8, .int 1), (9, .int ((lsS K N c) + (N c))), (10, .int (lS K N c)), (11, .int (nI ((8 * a + c) + 1)))]) (S' := []) (f' := f) rfl ?_
              have e00 : fOv 2 K c = none := Decidable.byContradiction (fun q => absurd c_72 (by unfold wgI; rw [if_neg q]; decide))
              have e0 : fOv 2 K (c + 1) = some c := fOv_y ⟨c_67, e00⟩
              have e1 : tmA K N sh dr (c + 1) = (dr + N c - 1) / N c := by unfold tmA; rw [e0]; exact upA_y ((hA c (by omega)).2.2.2 (Or.inr c_67))
              have e2 : wgI K (c + 1) = 1 := by unfold wgI; rw [e0]; rfl
              have e3 : lsS K N (c + 1) = lsS K N c + N c := if_pos c_110
              have e4 : lS K N (c + 1) = lS K N c := if_neg c_135
              have h9 := ih (c + 1) (by omega) (by omega)
              rw [e1, e2, e3, e4] at h9
              exact h9
          · refine wq_run6 (pc' := 133) (L' := [(0, .ref 92), (1, .int (nI a)), (4, .int dr), (5, .int h), (6, .int p), (7, .int (((dr + (N c)) - 1) / (N c))), (8, .int 1), (9, .int ((lsS K N c) + 0)), (10, .int (lS K N c)), (11, .int (nI (8 * a + c)))]) (S' := [.int (nI (8 * a + c)), .ref 102]) (f' := f) rfl ?_
            refine wq_ald (j := (8 * a + c)) (n := 48) (v := (K c)) rfl rfl rfl rfl (by omega) (Nat.le_of_ble_eq_true rfl) (hA c (by omega)).1 ?_
            refine wq_run1 (pc' := 135) (L' := [(0, .ref 92), (1, .int (nI a)), (4, .int dr), (5, .int h), (6, .int p), (7, .int (((dr + (N c)) - 1) / (N c))), (8, .int 1), (9, .int ((lsS K N c) + 0)), (10, .int (lS K N c)), (11, .int (nI (8 * a + c)))]) (S' := [.int 5, .int (K c)]) (f' := f) rfl ?_
            refine wq_if (c := (K c) = 5) (p1 := 138) (L1 := [(0, .ref 92), (1, .int (nI a)), (4, .int dr), (5, .int h), (6, .int p), (7, .int (((dr + (N c)) - 1) / (N c))), (8, .int 1), (9, .int ((lsS K N c) + 0)), (10, .int (lS K N c)), (11, .int (nI (8 * a + c)))]) (S1 := []) (p2 := 153) (L2 := [(0, .ref 92), (1, .int (nI a)), (4, .int dr), (5, .int h), (6, .int p), (7, .int (((dr + (N c)) - 1) / (N c))), (8, .int 1), (9, .int ((lsS K N c) + 0)), (10, .int (lS K N c)), (11, .int (nI (8 * a + c)))]) (S2 := []) rfl (fun c_135 => ?_) (fun c_135 => ?_)
            · refine wq_run4 (pc' := 146) (L' := [(0, .ref 92), (1, .int (nI a)), (4, .int dr), (5, .int h), (6, .int p), (7, .int (((dr + (N c)) - 1) / (N c))), (8, .int 1), (9, .int ((lsS K N c) + 0)), (10, .int (lS K N c)), (11, .int (nI (8 * a + c)))]) (S' := [.int (nI (8 * a + c)), .ref 104, .int (lS K N c)]) (f' := f) rfl ?_
              refine wq_ald (j := (8 * a + c)) (n := 48) (v := (N c)) rfl rfl rfl rfl (by omega) (Nat.le_of_ble_eq_true rfl) ((hA c (by omega)).2.2.1 (by rw [c_135]; decide) (by rw [c_135]; decide)) ?_
              refine wq_callI (r := (imax (lS K N c) (N c))) (mp_most f (lS K N c) (N c)) (Nat.le_of_ble_eq_true rfl) (pc' := 150) (L' := [(0, .ref 92), (1, .int (nI a)), (4, .int dr), (5, .int h), (6, .int p), (7, .int (((dr + (N c)) - 1) / (N c))), (8, .int 1), (9, .int ((lsS K N c) + 0)), (10, .int (lS K N c)), (11, .int (nI (8 * a + c)))]) (S' := []) rfl (Nat.le_of_ble_eq_true rfl) rfl rfl (Nat.le_of_ble_eq_true rfl) (Nat.le_of_ble_eq_true rfl) ?_
              refine wq_run3 (pc' := 160) (L' := [(0, .ref 92), (1, .int (nI a)), (4, .int dr), (5, .int h), (6, .int p), (7, .int (((dr + (N c)) - 1) / (N c))), (8, .int 1), (9, .int ((lsS K N c) + 0)), (10, .int (imax (lS K N c) (N c))), (11, .int ((nI (8 * a + c)) + 1))]) (S' := []) (f' := f) rfl ?_
              refine wq_L (L' := [(0, .ref 92), (1, .int (nI a)), (4, .int dr), (5, .int h), (6, .int p), (7, .int (((dr + (N c)) - 1) / (N c))), (8, .int 1), (9, .int ((lsS K N c) + 0)), (10, .int (imax (lS K N c) (N c))), (11, .int (nI ((8 * a + c) + 1)))]) (by rw [show nI (8 * a + c) + 1 = nI ((8 * a + c) + 1) from nI_add _ _]) ?_
              refine wq_run1 (pc' := 43) (L' := [(0, .ref 92), (1, .int (nI a)), (4, .int dr), (5, .int h), (6, .int p), (7, .int (((dr + (N c)) - 1) / (N c))), (8, .int 1), (9, .int ((lsS K N c) + 0)), (10, .int (imax (lS K N c) (N c))), (11, .int (nI ((8 * a + c) + 1)))]) (S' := []) (f' := f) rfl ?_
              have e00 : fOv 2 K c = none := Decidable.byContradiction (fun q => absurd c_72 (by unfold wgI; rw [if_neg q]; decide))
              have e0 : fOv 2 K (c + 1) = some c := fOv_y ⟨c_67, e00⟩
              have e1 : tmA K N sh dr (c + 1) = (dr + N c - 1) / N c := by unfold tmA; rw [e0]; exact upA_y ((hA c (by omega)).2.2.2 (Or.inr c_67))
              have e2 : wgI K (c + 1) = 1 := by unfold wgI; rw [e0]; rfl
              have e3 : lsS K N (c + 1) = lsS K N c + 0 := (if_neg c_110).trans (Int32.add_zero _).symm
              have e4 : lS K N (c + 1) = imax (lS K N c) (N c) := if_pos c_135
              have h9 := ih (c + 1) (by omega) (by omega)
              rw [e1, e2, e3, e4] at h9
              exact h9
            · refine wq_run3 (pc' := 160) (L' := [(0, .ref 92), (1, .int (nI a)), (4, .int dr), (5, .int h), (6, .int p), (7, .int (((dr + (N c)) - 1) / (N c))), (8, .int 1), (9, .int ((lsS K N c) + 0)), (10, .int (lS K N c)), (11, .int ((nI (8 * a + c)) + 1))]) (S' := []) (f' := f) rfl ?_
              refine wq_L (L' := [(0, .ref 92), (1, .int (nI a)), (4, .int dr), (5, .int h), (6, .int p), (7, .int (((dr + (N c)) - 1) / (N c))), (8, .int 1), (9, .int ((lsS K N c) + 0)), (10, .int (lS K N c)), (11, .int (nI ((8 * a + c) + 1)))]) (by rw [show nI (8 * a + c) + 1 = nI ((8 * a + c) + 1) from nI_add _ _]) ?_
              refine wq_run1 (pc' := 43) (L' := [(0, .ref 92), (1, .int (nI a)), (4, .int dr), (5, .int h), (6, .int p), (7, .int (((dr + (N c)) - 1) / (N c))), (8, .int 1), (9, .int ((lsS K N c) + 0)), (10, .int (lS K N c)), (11, .int (nI ((8 * a + c) + 1)))]) (S' := []) (f' := f) rfl ?_
              have e00 : fOv 2 K c = none := Decidable.byContradiction (fun q => absurd c_72 (by unfold wgI; rw [if_neg q]; decide))
              have e0 : fOv 2 K (c + 1) = some c := fOv_y ⟨c_67, e00⟩
              have e1 : tmA K N sh dr (c + 1) = (dr + N c - 1) / N c := by unfold tmA; rw [e0]; exact upA_y ((hA c (by omega)).2.2.2 (Or.inr c_67))
              have e2 : wgI K (c + 1) = 1 := by unfold wgI; rw [e0]; rfl
              have e3 : lsS K N (c + 1) = lsS K N c + 0 := (if_neg c_110).trans (Int32.add_zero _).symm
              have e4 : lS K N (c + 1) = lS K N c := if_neg c_135
              have h9 := ih (c + 1) (by omega) (by omega)
              rw [e1, e2, e3, e4] at h9
              exact h9
        · refine wq_run4 (pc' := 108) (L' := [(0, .ref 92), (1, .int (nI a)), (4, .int dr), (5, .int h), (6, .int p), (7, .int (tmA K N sh dr c)), (8, .int (wgI K c)), (9, .int (lsS K N c)), (10, .int (lS K N c)), (11, .int (nI (8 * a + c)))]) (S' := [.int (nI (8 * a + c)), .ref 102, .int (lsS K N c)]) (f' := f) rfl ?_
          refine wq_ald (j := (8 * a + c)) (n := 48) (v := (K c)) rfl rfl rfl rfl (by omega) (Nat.le_of_ble_eq_true rfl) (hA c (by omega)).1 ?_
          refine wq_run1 (pc' := 110) (L' := [(0, .ref 92), (1, .int (nI a)), (4, .int dr), (5, .int h), (6, .int p), (7, .int (tmA K N sh dr c)), (8, .int (wgI K c)), (9, .int (lsS K N c)), (10, .int (lS K N c)), (11, .int (nI (8 * a + c)))]) (S' := [.int 4, .int (K c), .int (lsS K N c)]) (f' := f) rfl ?_
          refine wq_if (c := (K c) = 4) (p1 := 113) (L1 := [(0, .ref 92), (1, .int (nI a)), (4, .int dr), (5, .int h), (6, .int p), (7, .int (tmA K N sh dr c)), (8, .int (wgI K c)), (9, .int (lsS K N c)), (10, .int (lS K N c)), (11, .int (nI (8 * a + c)))]) (S1 := [.int (lsS K N c)]) (p2 := 123) (L2 := [(0, .ref 92), (1, .int (nI a)), (4, .int dr), (5, .int h), (6, .int p), (7, .int (tmA K N sh dr c)), (8, .int (wgI K c)), (9, .int (lsS K N c)), (10, .int (lS K N c)), (11, .int (nI (8 * a + c)))]) (S2 := [.int (lsS K N c)]) rfl (fun c_110 => ?_) (fun c_110 => ?_)
          · refine wq_run3 (pc' := 119) (L' := [(0, .ref 92), (1, .int (nI a)), (4, .int dr), (5, .int h), (6, .int p), (7, .int (tmA K N sh dr c)), (8, .int (wgI K c)), (9, .int (lsS K N c)), (10, .int (lS K N c)), (11, .int (nI (8 * a + c)))]) (S' := [.int (nI (8 * a + c)), .ref 104, .int (lsS K N c)]) (f' := f) rfl ?_
            refine wq_ald (j := (8 * a + c)) (n := 48) (v := (N c)) rfl rfl rfl rfl (by omega) (Nat.le_of_ble_eq_true rfl) ((hA c (by omega)).2.2.1 (by rw [c_110]; decide) (by rw [c_110]; decide)) ?_
            refine wq_run6 (pc' := 133) (L' := [(0, .ref 92), (1, .int (nI a)), (4, .int dr), (5, .int h), (6, .int p), (7, .int (tmA K N sh dr c)), (8, .int (wgI K c)), (9, .int ((lsS K N c) + (N c))), (10, .int (lS K N c)), (11, .int (nI (8 * a + c)))]) (S' := [.int (nI (8 * a + c)), .ref 102]) (f' := f) rfl ?_
            refine wq_ald (j := (8 * a + c)) (n := 48) (v := (K c)) rfl rfl rfl rfl (by omega) (Nat.le_of_ble_eq_true rfl) (hA c (by omega)).1 ?_
            refine wq_run1 (pc' := 135) (L' := [(0, .ref 92), (1, .int (nI a)), (4, .int dr), (5, .int h), (6, .int p), (7, .int (tmA K N sh dr c)), (8, .int (wgI K c)), (9, .int ((lsS K N c) + (N c))), (10, .int (lS K N c)), (11, .int (nI (8 * a + c)))]) (S' := [.int 5, .int (K c)]) (f' := f) rfl ?_
            refine wq_if (c := (K c) = 5) (p1 := 138) (L1 := [(0, .ref 92), (1, .int (nI a)), (4, .int dr), (5, .int h), (6, .int p), (7, .int (tmA K N sh dr c)), (8, .int (wgI K c)), (9, .int ((lsS K N c) + (N c))), (10, .int (lS K N c)), (11, .int (nI (8 * a + c)))]) (S1 := []) (p2 := 153) (L2 := [(0, .ref 92), (1, .int (nI a)), (4, .int dr), (5, .int h), (6, .int p), (7, .int (tmA K N sh dr c)), (8, .int (wgI K c)), (9, .int ((lsS K N c) + (N c))), (10, .int (lS K N c)), (11, .int (nI (8 * a + c)))]) (S2 := []) rfl (fun c_135 => ?_) (fun c_135 => ?_)
            · refine wq_run4 (pc' := 146) (L' := [(0, .ref 92), (1, .int (nI a)), (4, .int dr), (5, .int h), (6, .int p), (7, .int (tmA K N sh dr c)), (8, .int (wgI K c)), (9, .int ((lsS K N c) + (N c))), (10, .int (lS K N c)), (11, .int (nI (8 * a + c)))]) (S' := [.int (nI (8 * a + c)), .ref 104, .int (lS K N c)]) (f' := f) rfl ?_
              refine wq_ald (j := (8 * a + c)) (n := 48) (v := (N c)) rfl rfl rfl rfl (by omega) (Nat.le_of_ble_eq_true rfl) ((hA c (by omega)).2.2.1 (by rw [c_135]; decide) (by rw [c_135]; decide)) ?_
              refine wq_callI (r := (imax (lS K N c) (N c))) (mp_most f (lS K N c) (N c)) (Nat.le_of_ble_eq_true rfl) (pc' := 150) (L' := [(0, .ref 92), (1, .int (nI a)), (4, .int dr), (5, .int h), (6, .int p), (7, .int (tmA K N sh dr c)), (8, .int (wgI K c)), (9, .int ((lsS K N c) + (N c))), (10, .int (lS K N c)), (11, .int (nI (8 * a + c)))]) (S' := []) rfl (Nat.le_of_ble_eq_true rfl) rfl rfl (Nat.le_of_ble_eq_true rfl) (Nat.le_of_ble_eq_true rfl) ?_
              refine wq_run3 (pc' := 160) (L' := [(0, .ref 92), (1, .int (nI a)), (4, .int dr), (5, .int h), (6, .int p), (7, .int (tmA K N sh dr c)), (8, .int (wgI K c)), (9, .int ((lsS K N c) + (N c))), (10, .int (imax (lS K N c) (N c))), (11, .int ((nI (8 * a + c)) + 1))]) (S' := []) (f' := f) rfl ?_
              refine wq_L (L' := [(0, .ref 92), (1, .int (nI a)), (4, .int dr), (5, .int h), (6, .int p), (7, .int (tmA K N sh dr c)), (8, .int (wgI K c)), (9, .int ((lsS K N c) + (N c))), (10, .int (imax (lS K N c) (N c))), (11, .int (nI ((8 * a + c) + 1)))]) (by rw [show nI (8 * a + c) + 1 = nI ((8 * a + c) + 1) from nI_add _ _]) ?_
              refine wq_run1 (pc' := 43) (L' := [(0, .ref 92), (1, .int (nI a)), (4, .int dr), (5, .int h), (6, .int p), (7, .int (tmA K N sh dr c)), (8, .int (wgI K c)), (9, .int ((lsS K N c) + (N c))), (10, .int (imax (lS K N c) (N c))), (11, .int (nI ((8 * a + c) + 1)))]) (S' := []) (f' := f) rfl ?_
              have e0 : fOv 2 K (c + 1) = fOv 2 K c := fOv_z (fun q => c_72 (if_pos q.2))
              have e1 : tmA K N sh dr (c + 1) = tmA K N sh dr c := by unfold tmA; rw [e0]
              have e2 : wgI K (c + 1) = wgI K c := by unfold wgI; rw [e0]
              have e3 : lsS K N (c + 1) = lsS K N c + N c := if_pos c_110
              have e4 : lS K N (c + 1) = imax (lS K N c) (N c) := if_pos c_135
              have h9 := ih (c + 1) (by omega) (by omega)
              rw [e1, e2, e3, e4] at h9
              exact h9
            · refine wq_run3 (pc' := 160) (L' := [(0, .ref 92), (1, .int (nI a)), (4, .int dr), (5, .int h), (6, .int p), (7, .int (tmA K N sh dr c)), (8, .int (wgI K c)), (9, .int ((lsS K N c) + (N c))), (10, .int (lS K N c)), (11, .int ((nI (8 * a + c)) + 1))]) (S' := []) (f' := f) rfl ?_
              refine wq_L (L' := [(0, .ref 92), (1, .int (nI a)), (4, .int dr), (5, .int h), (6, .int p), (7, .int (tmA K N sh dr c)), (8, .int (wgI K c)), (9, .int ((lsS K N c) + (N c))), (10, .int (lS K N c)), (11, .int (nI ((8 * a + c) + 1)))]) (by rw [show nI (8 * a + c) + 1 = nI ((8 * a + c) + 1) from nI_add _ _]) ?_
              refine wq_run1 (pc' := 43) (L' := [(0, .ref 92), (1, .int (nI a)), (4, .int dr), (5, .int h), (6, .int p), (7, .int (tmA K N sh dr c)), (8, .int (wgI K c)), (9, .int ((lsS K N c) + (N c))), (10, .int (lS K N c)), (11, .int (nI ((8 * a + c) + 1)))]) (S' := []) (f' := f) rfl ?_
              have e0 : fOv 2 K (c + 1) = fOv 2 K c := fOv_z (fun q => c_72 (if_pos q.2))
              have e1 : tmA K N sh dr (c + 1) = tmA K N sh dr c := by unfold tmA; rw [e0]
              have e2 : wgI K (c + 1) = wgI K c := by unfold wgI; rw [e0]
              have e3 : lsS K N (c + 1) = lsS K N c + N c := if_pos c_110
              have e4 : lS K N (c + 1) = lS K N c := if_neg c_135
              have h9 := ih (c + 1) (by omega) (by omega)
              rw [e1, e2, e3, e4] at h9
              exact h9
          · refine wq_run6 (pc' := 133) (L' := [(0, .ref 92), (1, .int (nI a)), (4, .int dr), (5, .int h), (6, .int p), (7, .int (tmA K N sh dr c)), (8, .int (wgI K c)), (9, .int ((lsS K N c) + 0)), (10, .int (lS K N c)), (11, .int (nI (8 * a + c)))]) (S' := [.int (nI (8 * a + c)), .ref 102]) (f' := f) rfl ?_
            refine wq_ald (j := (8 * a + c)) (n := 48) (v := (K c)) rfl rfl rfl rfl (by omega) (Nat.le_of_ble_eq_true rfl) (hA c (by omega)).1 ?_
            refine wq_run1 (pc' := 135) (L' := [(0, .ref 92), (1, .int (nI a)), (4, .int dr), (5, .int h), (6, .int p), (7, .int (tmA K N sh dr c)), (8, .int (wgI K c)), (9, .int ((lsS K N c) + 0)), (10, .int (lS K N c)), (11, .int (nI (8 * a + c)))]) (S' := [.int 5, .int (K c)]) (f' := f) rfl ?_
            refine wq_if (c := (K c) = 5) (p1 := 138) (L1 := [(0, .ref 92), (1, .int (nI a)), (4, .int dr), (5, .int h), (6, .int p), (7, .int (tmA K N sh dr c)), (8, .int (wgI K c)), (9, .int ((lsS K N c) + 0)), (10, .int (lS K N c)), (11, .int (nI (8 * a + c)))]) (S1 := []) (p2 := 153) (L2 := [(0, .ref 92), (1, .int (nI a)), (4, .int dr), (5, .int h), (6, .int p), (7, .int (tmA K N sh dr c)), (8, .int (wgI K c)), (9, .int ((lsS K N c) + 0)), (10, .int (lS K N c)), (11, .int (nI (8 * a + c)))]) (S2 := []) rfl (fun c_135 => ?_) (fun c_135 => ?_)
            · refine wq_run4 (pc' := 146) (L' := [(0, .ref 92), (1, .int (nI a)), (4, .int dr), (5, .int h), (6, .int p), (7, .int (tmA K N sh dr c)), (8, .int (wgI K c)), (9, .int ((lsS K N c) + 0)), (10, .int (lS K N c)), (11, .int (nI (8 * a + c)))]) (S' := [.int (nI (8 * a + c)), .ref 104, .int (lS K N c)]) (f' := f) rfl ?_
              refine wq_ald (j := (8 * a + c)) (n := 48) (v := (N c)) rfl rfl rfl rfl (by omega) (Nat.le_of_ble_eq_true rfl) ((hA c (by omega)).2.2.1 (by rw [c_135]; decide) (by rw [c_135]; decide)) ?_
              refine wq_callI (r := (imax (lS K N c) (N c))) (mp_most f (lS K N c) (N c)) (Nat.le_of_ble_eq_true rfl) (pc' := 150) (L' := [(0, .ref 92), (1, .int (nI a)), (4, .int dr), (5, .int h), (6, .int p), (7, .int (tmA K N sh dr c)), (8, .int (wgI K c)), (9, .int ((lsS K N c) + 0)), (10, .int (lS K N c)), (11, .int (nI (8 * a + c)))]) (S' := []) rfl (Nat.le_of_ble_eq_true rfl) rfl rfl (Nat.le_of_ble_eq_true rfl) (Nat.le_of_ble_eq_true rfl) ?_
              refine wq_run3 (pc' := 160) (L' := [(0, .ref 92), (1, .int (nI a)), (4, .int dr), (5, .int h), (6, .int p), (7, .int (tmA K N sh dr c)), (8, .int (wgI K c)), (9, .int ((lsS K N c) + 0)), (10, .int (imax (lS K N c) (N c))), (11, .int ((nI (8 * a + c)) + 1))]) (S' := []) (f' := f) rfl ?_
              refine wq_L (L' := [(0, .ref 92), (1, .int (nI a)), (4, .int dr), (5, .int h), (6, .int p), (7, .int (tmA K N sh dr c)), (8, .int (wgI K c)), (9, .int ((lsS K N c) + 0)), (10, .int (imax (lS K N c) (N c))), (11, .int (nI ((8 * a + c) + 1)))]) (by rw [show nI (8 * a + c) + 1 = nI ((8 * a + c) + 1) from nI_add _ _]) ?_
              refine wq_run1 (pc' := 43) (L' := [(0, .ref 92), (1, .int (nI a)), (4, .int dr), (5, .int h), (6, .int p), (7, .int (tmA K N sh dr c)), (8, .int (wgI K c)), (9, .int ((lsS K N c) + 0)), (10, .int (imax (lS K N c) (N c))), (11, .int (nI ((8 * a + c) + 1)))]) (S' := []) (f' := f) rfl ?_
              have e0 : fOv 2 K (c + 1) = fOv 2 K c := fOv_z (fun q => c_72 (if_pos q.2))
              have e1 : tmA K N sh dr (c + 1) = tmA K N sh dr c := by unfold tmA; rw [e0]
              have e2 : wgI K (c + 1) = wgI K c := by unfold wgI; rw [e0]
              have e3 : lsS K N (c + 1) = lsS K N c + 0 := (if_neg c_110).trans (Int32.add_zero _).symm
              have e4 : lS K N (c + 1) = imax (lS K N c) (N c) := if_pos c_135
              have h9 := ih (c + 1) (by omega) (by omega)
              rw [e1, e2, e3, e4] at h9
              exact h9
            · refine wq_run3 (pc' := 160) (L' := [(0, .ref 92), (1, .int (nI a)), (4, .int dr), (5, .int h), (6, .int p), (7, .int (tmA K N sh dr c)), (8, .int (wgI K c)), (9, .int ((lsS K N c) + 0)), (10, .int (lS K N c)), (11, .int ((nI (8 * a + c)) + 1))]) (S' := []) (f' := f) rfl ?_
              refine wq_L (L' := [(0, .ref 92), (1, .int (nI a)), (4, .int dr), (5, .int h), (6, .int p), (7, .int (tmA K N sh dr c)), (8, .int (wgI K c)), (9, .int ((lsS K N c) + 0)), (10, .int (lS K N c)), (11, .int (nI ((8 * a + c) + 1)))]) (by rw [show nI (8 * a + c) + 1 = nI ((8 * a + c) + 1) from nI_add _ _]) ?_
              refine wq_run1 (pc' := 43) (L' := [(0, .ref 92), (1, .int (nI a)), (4, .int dr), (5, .int h), (6, .int p), (7, .int (tmA K N sh dr c)), (8, .int (wgI K c)), (9, .int ((lsS K N c) + 0)), (10, .int (lS K N c)), (11, .int (nI ((8 * a + c) + 1)))]) (S' := []) (f' := f) rfl ?_
              have e0 : fOv 2 K (c + 1) = fOv 2 K c := fOv_z (fun q => c_72 (if_pos q.2))
              have e1 : tmA K N sh dr (c + 1) = tmA K N sh dr c := by unfold tmA; rw [e0]
              have e2 : wgI K (c + 1) = wgI K c := by unfold wgI; rw [e0]
              have e3 : lsS K N (c + 1) = lsS K N c + 0 := (if_neg c_110).trans (Int32.add_zero _).symm
              have e4 : lS K N (c + 1) = lS K N c := if_neg c_135
              have h9 := ih (c + 1) (by omega) (by omega)
              rw [e1, e2, e3, e4] at h9
              exact h9
      · refine wq_run4 (pc' := 108) (L' := [(0, .ref 92), (1, .int (nI a)), (4, .int dr), (5, .int h), (6, .int p), (7, .int (tmA K N sh dr c)), (8, .int (wgI K c)), (9, .int (lsS K N c)), (10, .int (lS K N c)), (11, .int (nI (8 * a + c)))]) (S' := [.int (nI (8 * a + c)), .ref 102, .int (lsS K N c)]) (f' := f) rfl ?_
        refine wq_ald (j := (8 * a + c)) (n := 48) (v := (K c)) rfl rfl rfl rfl (by omega) (Nat.le_of_ble_eq_true rfl) (hA c (by omega)).1 ?_
        refine wq_run1 (pc' := 110) (L' := [(0, .ref 92), (1, .int (nI a)), (4, .int dr), (5, .int h), (6, .int p), (7, .int (tmA K N sh dr c)), (8, .int (wgI K c)), (9, .int (lsS K N c)), (10, .int (lS K N c)), (11, .int (nI (8 * a + c)))]) (S' := [.int 4, .int (K c), .int (lsS K N c)]) (f' := f) rfl ?_
        refine wq_if (c := (K c) = 4) (p1 := 113) (L1 := [(0, .ref 92), (1, .int (nI a)), (4, .int dr), (5, .int h), (6, .int p), (7, .int (tmA K N sh dr c)), (8, .int (wgI K c)), (9, .int (lsS K N c)), (10, .int (lS K N c)), (11, .int (nI (8 * a + c)))]) (S1 := [.int (lsS K N c)]) (p2 := 123) (L2 := [(0, .ref 92), (1, .int (nI a)), (4, .int dr), (5, .int h), (6, .int p), (7, .int (tmA K N sh dr c)), (8, .int (wgI K c)), (9, .int (lsS K N c)), (10, .int (lS K N c)), (11, .int (nI (8 * a + c)))]) (S2 := [.int (lsS K N c)]) rfl (fun c_110 => ?_) (fun c_110 => ?_)
        · refine wq_run3 (pc' := 119) (L' := [(0, .ref 92), (1, .int (nI a)), (4, .int dr), (5, .int h), (6, .int p), (7, .int (tmA K N sh dr c)), (8, .int (wgI K c)), (9, .int (lsS K N c)), (10, .int (lS K N c)), (11, .int (nI (8 * a + c)))]) (S' := [.int (nI (8 * a + c)), .ref 104, .int (lsS K N c)]) (f' := f) rfl ?_
          refine wq_ald (j := (8 * a + c)) (n := 48) (v := (N c)) rfl rfl rfl rfl (by omega) (Nat.le_of_ble_eq_true rfl) ((hA c (by omega)).2.2.1 (by rw [c_110]; decide) (by rw [c_110]; decide)) ?_
          refine wq_run6 (pc' := 133) (L' := [(0, .ref 92), (1, .int (nI a)), (4, .int dr), (5, .int h), (6, .int p), (7, .int (tmA K N sh dr c)), (8, .int (wgI K c)), (9, .int ((lsS K N c) + (N c))), (10, .int (lS K N c)), (11, .int (nI (8 * a + c)))]) (S' := [.int (nI (8 * a + c)), .ref 102]) (f' := f) rfl ?_
          refine wq_ald (j := (8 * a + c)) (n := 48) (v := (K c)) rfl rfl rfl rfl (by omega) (Nat.le_of_ble_eq_true rfl) (hA c (by omega)).1 ?_
          refine wq_run1 (pc' := 135) (L' := [(0, .ref 92), (1, .int (nI a)), (4, .int dr), (5, .int h), (6, .int p), (7, .int (tmA K N sh dr c)), (8, .int (wgI K c)), (9, .int ((lsS K N c) + (N c))), (10, .int (lS K N c)), (11, .int (nI (8 * a + c)))]) (S' := [.int 5, .int (K c)]) (f' := f) rfl ?_
          refine wq_if (c := (K c) = 5) (p1 := 138) (L1 := [(0, .ref 92), (1, .int (nI a)), (4, .int dr), (5, .int h), (6, .int p), (7, .int (tmA K N sh dr c)), (8, .int (wgI K c)), (9, .int ((lsS K N c) + (N c))), (10, .int (lS K N c)), (11, .int (nI (8 * a + c)))]) (S1 := []) (p2 := 153) (L2 := [(0, .ref 92), (1, .int (nI a)), (4, .int dr), (5, .int h), (6, .int p), (7, .int (tmA K N sh dr c)), (8, .int (wgI K c)), (9, .int ((lsS K N c) + (N c))), (10, .int (lS K N c)), (11, .int (nI (8 * a + c)))]) (S2 := []) rfl (fun c_135 => ?_) (fun c_135 => ?_)
          · refine wq_run4 (pc' := 146) (L' := [(0, .ref 92), (1, .int (nI a)), (4, .int dr), (5, .int h), (6, .int p), (7, .int (tmA K N sh dr c)), (8, .int (wgI K c)), (9, .int ((lsS K N c) + (N c))), (10, .int (lS K N c)), (11, .int (nI (8 * a + c)))]) (S' := [.int (nI (8 * a + c)), .ref 104, .int (lS K N c)]) (f' := f) rfl ?_
            refine wq_ald (j := (8 * a + c)) (n := 48) (v := (N c)) rfl rfl rfl rfl (by omega) (Nat.le_of_ble_eq_true rfl) ((hA c (by omega)).2.2.1 (by rw [c_135]; decide) (by rw [c_135]; decide)) ?_
            refine wq_callI (r := (imax (lS K N c) (N c))) (mp_most f (lS K N c) (N c)) (Nat.le_of_ble_eq_true rfl) (pc' := 150) (L' := [(0, .ref 92), (1, .int (nI a)), (4, .int dr), (5, .int h), (6, .int p), (7, .int (tmA K N sh dr c)), (8, .int (wgI K c)), (9, .int ((lsS K N c) + (N c))), (10, .int (lS K N c)), (11, .int (nI (8 * a + c)))]) (S' := []) rfl (Nat.le_of_ble_eq_true rfl) rfl rfl (Nat.le_of_ble_eq_true rfl) (Nat.le_of_ble_eq_true rfl) ?_
            refine wq_run3 (pc' := 160) (L' := [(0, .ref 92), (1, .int (nI a)), (4, .int dr), (5, .int h), (6, .int p), (7, .int (tmA K N sh dr c)), (8, .int (wgI K c)), (9, .int ((lsS K N c) + (N c))), (10, .int (imax (lS K N c) (N c))), (11, .int ((nI (8 * a + c)) + 1))]) (S' := []) (f' := f) rfl ?_
            refine wq_L (L' := [(0, .ref 92), (1, .int (nI a)), (4, .int dr), (5, .int h), (6, .int p), (7, .int (tmA K N sh dr c)), (8, .int (wgI K c)), (9, .int ((lsS K N c) + (N c))), (10, .int (imax (lS K N c) (N c))), (11, .int (nI ((8 * a + c) + 1)))]) (by rw [show nI (8 * a + c) + 1 = nI ((8 * a + c) + 1) from nI_add _ _]) ?_
            refine wq_run1 (pc' := 43) (L' := [(0, .ref 92), (1, .int (nI a)), (4, .int dr), (5, .int h), (6, .int p), (7, .int (tmA K N sh dr c)), (8, .int (wgI K c)), (9, .int ((lsS K N c) + (N c))), (10, .int (imax (lS K N c) (N c))), (11, .int (nI ((8 * a + c) + 1)))]) (S' := []) (f' := f) rfl ?_
            have e0 : fOv 2 K (c + 1) = fOv 2 K c := fOv_z (fun q => c_67 q.1)
            have e1 : tmA K N sh dr (c + 1) = tmA K N sh dr c := by unfold tmA; rw [e0]
            have e2 : wgI K (c + 1) = wgI K c := by unfold wgI; rw [e0]
            have e3 : lsS K N (c + 1) = lsS K N c + N c := if_pos c_110
            have e4 : lS K N (c + 1) = imax (lS K N c) (N c) := if_pos c_135
            have h9 := ih (c + 1) (by omega) (by omega)
            rw [e1, e2, e3, e4] at h9
            exact h9
          · refine wq_run3 (pc' := 160) (L' := [(0, .ref 92), (1, .int (nI a)), (4, .int dr), (5, .int h), (6, .int p), (7, .int (tmA K N sh dr c)), (8, .int (wgI K c)), (9, .int ((lsS K N c) + (N c))), (10, .int (lS K N c)), (11, .int ((nI (8 * a + c)) + 1))]) (S' := []) (f' := f) rfl ?_
            refine wq_L (L' := [(0, .ref 92), (1, .int (nI a)), (4, .int dr), (5, .int h), (6, .int p), (7, .int (tmA K N sh dr c)), (8, .int (wgI K c)), (9, .int ((lsS K N c) + (N c))), (10, .int (lS K N c)), (11, .int (nI ((8 * a + c) + 1)))]) (by rw [show nI (8 * a + c) + 1 = nI ((8 * a + c) + 1) from nI_add _ _]) ?_
            refine wq_run1 (pc' := 43) (L' := [(0, .ref 92), (1, .int (nI a)), (4, .int dr), (5, .int h), (6, .int p), (7, .int (tmA K N sh dr c)), (8, .int (wgI K c)), (9, .int ((lsS K N c) + (N c))), (10, .int (lS K N c)), (11, .int (nI ((8 * a + c) + 1)))]) (S' := []) (f' := f) rfl ?_
            have e0 : fOv 2 K (c + 1) = fOv 2 K c := fOv_z (fun q => c_67 q.1)
            have e1 : tmA K N sh dr (c + 1) = tmA K N sh dr c := by unfold tmA; rw [e0]
            have e2 : wgI K (c + 1) = wgI K c := by unfold wgI; rw [e0]
            have e3 : lsS K N (c + 1) = lsS K N c + N c := if_pos c_110
            have e4 : lS K N (c + 1) = lS K N c := if_neg c_135
            have h9 := ih (c + 1) (by omega) (by omega)
            rw [e1, e2, e3, e4] at h9
            exact h9
        · refine wq_run6 (pc' := 133) (L' := [(0, .ref 92), (1, .int (nI a)), (4, .int dr), (5, .int h), (6, .int p), (7, .int (tmA K N sh dr c)), (8, .int (wgI K c)), (9, .int ((lsS K N c) + 0)), (10, .int (lS K N c)), (11, .int (nI (8 * a + c)))]) (S' := [.int (nI (8 * a + c)), .ref 102]) (f' := f) rfl ?_
          refine wq_ald (j := (8 * a + c)) (n := 48) (v := (K c)) rfl rfl rfl rfl (by omega) (Nat.le_of_ble_eq_true rfl) (hA c (by omega)).1 ?_
          refine wq_run1 (pc' := 135) (L' := [(0, .ref 92), (1, .int (nI a)), (4, .int dr), (5, .int h), (6, .int p), (7, .int (tmA K N sh dr c)), (8, .int (wgI K c)), (9, .int ((lsS K N c) + 0)), (10, .int (lS K N c)), (11, .int (nI (8 * a + c)))]) (S' := [.int 5, .int (K c)]) (f' := f) rfl ?_
          refine wq_if (c := (K c) = 5) (p1 := 138) (L1 := [(0, .ref 92), (1, .int (nI a)), (4, .int dr), (5, .int h), (6, .int p), (7, .int (tmA K N sh dr c)), (8, .int (wgI K c)), (9, .int ((lsS K N c) + 0)), (10, .int (lS K N c)), (11, .int (nI (8 * a + c)))]) (S1 := []) (p2 := 153) (L2 := [(0, .ref 92), (1, .int (nI a)), (4, .int dr), (5, .int h), (6, .int p), (7, .int (tmA K N sh dr c)), (8, .int (wgI K c)), (9, .int ((lsS K N c) + 0)), (10, .int (lS K N c)), (11, .int (nI (8 * a + c)))]) (S2 := []) rfl (fun c_135 => ?_) (fun c_135 => ?_)
          · refine wq_run4 (pc' := 146) (L' := [(0, .ref 92), (1, .int (nI a)), (4, .int dr), (5, .int h), (6, .int p), (7, .int (tmA K N sh dr c)), (8, .int (wgI K c)), (9, .int ((lsS K N c) + 0)), (10, .int (lS K N c)), (11, .int (nI (8 * a + c)))]) (S' := [.int (nI (8 * a + c)), .ref 104, .int (lS K N c)]) (f' := f) rfl ?_
            refine wq_ald (j := (8 * a + c)) (n := 48) (v := (N c)) rfl rfl rfl rfl (by omega) (Nat.le_of_ble_eq_true rfl) ((hA c (by omega)).2.2.1 (by rw [c_135]; decide) (by rw [c_135]; decide)) ?_
            refine wq_callI (r := (imax (lS K N c) (N c))) (mp_most f (lS K N c) (N c)) (Nat.le_of_ble_eq_true rfl) (pc' := 150) (L' := [(0, .ref 92), (1, .int (nI a)), (4, .int dr), (5, .int h), (6, .int p), (7, .int (tmA K N sh dr c)), (8, .int (wgI K c)), (9, .int ((lsS K N c) + 0)), (10, .int (lS K N c)), (11, .int (nI (8 * a + c)))]) (S' := []) rfl (Nat.le_of_ble_eq_true rfl) rfl rfl (Nat.le_of_ble_eq_true rfl) (Nat.le_of_ble_eq_true rfl) ?_
            refine wq_run3 (pc' := 160) (L' := [(0, .ref 92), (1, .int (nI a)), (4, .int dr), (5, .int h), (6, .int p), (7, .int (tmA K N sh dr c)), (8, .int (wgI K c)), (9, .int ((lsS K N c) + 0)), (10, .int (imax (lS K N c) (N c))), (11, .int ((nI (8 * a + c)) + 1))]) (S' := []) (f' := f) rfl ?_
            refine wq_L (L' := [(0, .ref 92), (1, .int (nI a)), (4, .int dr), (5, .int h), (6, .int p), (7, .int (tmA K N sh dr c)), (8, .int (wgI K c)), (9, .int ((lsS K N c) + 0)), (10, .int (imax (lS K N c) (N c))), (11, .int (nI ((8 * a + c) + 1)))]) (by rw [show nI (8 * a + c) + 1 = nI ((8 * a + c) + 1) from nI_add _ _]) ?_
            refine wq_run1 (pc' := 43) (L' := [(0, .ref 92), (1, .int (nI a)), (4, .int dr), (5, .int h), (6, .int p), (7, .int (tmA K N sh dr c)), (8, .int (wgI K c)), (9, .int ((lsS K N c) + 0)), (10, .int (imax (lS K N c) (N c))), (11, .int (nI ((8 * a + c) + 1)))]) (S' := []) (f' := f) rfl ?_
            have e0 : fOv 2 K (c + 1) = fOv 2 K c := fOv_z (fun q => c_67 q.1)
            have e1 : tmA K N sh dr (c + 1) = tmA K N sh dr c := by unfold tmA; rw [e0]
            have e2 : wgI K (c + 1) = wgI K c := by unfold wgI; rw [e0]
            have e3 : lsS K N (c + 1) = lsS K N c + 0 := (if_neg c_110).trans (Int32.add_zero _).symm
            have e4 : lS K N (c + 1) = imax (lS K N c) (N c) := if_pos c_135
            have h9 := ih (c + 1) (by omega) (by omega)
            rw [e1, e2, e3, e4] at h9
            exact h9
          · refine wq_run3 (pc' := 160) (L' := [(0, .ref 92), (1, .int (nI a)), (4, .int dr), (5, .int h), (6, .int p), (7, .int (tmA K N sh dr c)), (8, .int (wgI K c)), (9, .int ((lsS K N c) + 0)), (10, .int (lS K N c)), (11, .int ((nI (8 * a + c)) + 1))]) (S' := []) (f' := f) rfl ?_
            refine wq_L (L' := [(0, .ref 92), (1, .int (nI a)), (4, .int dr), (5, .int h), (6, .int p), (7, .int (tmA K N sh dr c)), (8, .int (wgI K c)), (9, .int ((lsS K N c) + 0)), (10, .int (lS K N c)), (11, .int (nI ((8 * a + c) + 1)))]) (by rw [show nI (8 * a + c) + 1 = nI ((8 * a + c) + 1) from nI_add _ _]) ?_
            refine wq_run1 (pc' := 43) (L' := [(0, .ref 92), (1, .int (nI a)), (4, .int dr), (5, .int h), (6, .int p), (7, .int (tmA K N sh dr c)), (8, .int (wgI K c)), (9, .int ((lsS K N c) + 0)), (10, .int (lS K N c)), (11, .int (nI ((8 * a + c) + 1)))]) (S' := []) (f' := f) rfl ?_
            have e0 : fOv 2 K (c + 1) = fOv 2 K c := fOv_z (fun q => c_67 q.1)
            have e1 : tmA K N sh dr (c + 1) = tmA K N sh dr c := by unfold tmA; rw [e0]
            have e2 : wgI K (c + 1) = wgI K c := by unfold wgI; rw [e0]
            have e3 : lsS K N (c + 1) = lsS K N c + 0 := (if_neg c_110).trans (Int32.add_zero _).symm
            have e4 : lS K N (c + 1) = lS K N c := if_neg c_135
            have h9 := ih (c + 1) (by omega) (by omega)
            rw [e1, e2, e3, e4] at h9
            exact h9
theorem mp_postageOf2 (f : HI) {a n : Nat} {K N P : Nat → Int32} (ha : a < 5) (hn2 : f 101 a = nI n) (hn8 : n ≤ 8) (hA : AcM f a n K N P) (x sh dr h : Int32) (hx : ¬ x = -1 → ¬ x < 0) : Sp 3 159 [.ref 92, .int (nI a), .int x, .int sh, .int dr, .int h] f (Ret (if x = -1 then -1 else chA K N P x sh dr h n) f) := by
  show wq 3 159 (Ret (if x = -1 then -1 else chA K N P x sh dr h n) f) 0 [(0, .ref 92), (1, .int (nI a)), (2, .int x), (3, .int sh), (4, .int dr), (5, .int h)] [] f
  refine wq_run2 (pc' := 2) (L' := [(0, .ref 92), (1, .int (nI a)), (2, .int x), (3, .int sh), (4, .int dr), (5, .int h)]) (S' := [.int (-1), .int x]) (f' := f) rfl ?_
  refine wq_if (c := x = (-1)) (p1 := 5) (L1 := [(0, .ref 92), (1, .int (nI a)), (2, .int x), (3, .int sh), (4, .int dr), (5, .int h)]) (S1 := []) (p2 := 9) (L2 := [(0, .ref 92), (1, .int (nI a)), (2, .int x), (3, .int sh), (4, .int dr), (5, .int h)]) (S2 := []) rfl (fun c_2 => ?_) (fun c_2 => ?_)
  · refine wq_run5 (pc' := 20) (L' := [(0, .ref 92), (1, .int (nI a)), (2, .int x), (3, .int sh), (4, .int dr), (5, .int h), (6, .int (-1))]) (S' := [.int (-1), .int (-1)]) (f' := f) rfl ?_
    refine wq_if (c := (-1) = (-1)) (p1 := 23) (L1 := [(0, .ref 92), (1, .int (nI a)), (2, .int x), (3, .int sh), (4, .int dr), (5, .int h), (6, .int (-1))]) (S1 := []) (p2 := 25) (L2 := [(0, .ref 92), (1, .int (nI a)), (2, .int x), (3, .int sh), (4, .int dr), (5, .int h), (6, .int (-1))]) (S2 := []) rfl (fun _ => ?_) (fun q => absurd rfl q)
    refine wq_run1 (pc' := 24) (L' := [(0, .ref 92), (1, .int (nI a)), (2, .int x), (3, .int sh), (4, .int dr), (5, .int h), (6, .int (-1))]) (S' := [.int (-1)]) (f' := f) rfl ?_
    exact wq_ret rfl ⟨by rw [if_pos c_2], rfl⟩
  · refine wq_run3 (pc' := 12) (L' := [(0, .ref 92), (1, .int (nI a)), (2, .int x), (3, .int sh), (4, .int dr), (5, .int h)]) (S' := [.int x, .int (nI a), .ref 92]) (f' := f) rfl ?_
    refine wq_callI (r := (pcA K N P x n)) (mp_penceOf2 f ha hn2 hn8 hA x) (Nat.le_of_ble_eq_true rfl) (pc' := 15) (L' := [(0, .ref 92), (1, .int (nI a)), (2, .int x), (3, .int sh), (4, .int dr), (5, .int h)]) (S' := []) rfl (Nat.le_of_ble_eq_true rfl) rfl rfl (Nat.le_of_ble_eq_true rfl) (Nat.le_of_ble_eq_true rfl) ?_
    refine wq_run3 (pc' := 20) (L' := [(0, .ref 92), (1, .int (nI a)), (2, .int x), (3, .int sh), (4, .int dr), (5, .int h), (6, .int (pcA K N P x n))]) (S' := [.int (-1), .int (pcA K N P x n)]) (f' := f) rfl ?_
    refine wq_if (c := (pcA K N P x n) = (-1)) (p1 := 23) (L1 := [(0, .ref 92), (1, .int (nI a)), (2, .int x), (3, .int sh), (4, .int dr), (5, .int h), (6, .int (pcA K N P x n))]) (S1 := []) (p2 := 25) (L2 := [(0, .ref 92), (1, .int (nI a)), (2, .int x), (3, .int sh), (4, .int dr), (5, .int h), (6, .int (pcA K N P x n))]) (S2 := []) rfl (fun c_20 => ?_) (fun c_20 => ?_)
    · refine wq_run1 (pc' := 24) (L' := [(0, .ref 92), (1, .int (nI a)), (2, .int x), (3, .int sh), (4, .int dr), (5, .int h), (6, .int (pcA K N P x n))]) (S' := [.int (-1)]) (f' := f) rfl ?_
      exact wq_ret rfl ⟨by rw [if_neg c_2, show chA K N P x sh dr h n = _ from if_pos (Or.inr c_20)], rfl⟩
    · refine wq_run11 (pc' := 41) (L' := [(0, .ref 92), (1, .int (nI a)), (2, .int x), (3, .int sh), (4, .int dr), (5, .int h), (6, .int (pcA K N P x n)), (7, .int sh), (8, .int 0), (9, .int 0), (10, .int 0)]) (S' := [.int (8 * (nI a))]) (f' := f) rfl ?_
      refine wq_v (y := (nI (8 * a))) (pk_mul 8 a) ?_
      refine wq_run1 (pc' := 43) (L' := [(0, .ref 92), (1, .int (nI a)), (4, .int dr), (5, .int h), (6, .int (pcA K N P x n)), (7, .int sh), (8, .int 0), (9, .int 0), (10, .int 0), (11, .int (nI (8 * a)))]) (S' := []) (f' := f) rfl ?_
      have h9 := mlp_postageOf2 f ha hn2 hn8 hA (pcA K N P x n) sh dr h (n - 0 + 1) 0 (Nat.zero_le _) (Nat.lt_succ_self _)
      rw [if_neg c_2, show chA K N P x sh dr h n = _ from if_neg (fun q => q.elim (fun q => hx c_2 q) c_20)]
      exact h9
theorem mp_postageOf (f : HI) {a n : Nat} {K N P : Nat → Int32} (ha : a < 5) (hn2 : f 101 a = nI n) (hn8 : n ≤ 8) (hA : AcM f a n K N P) (x sh dr h : Int32) (hx : ¬ x = -1 → ¬ x < 0) : Sp 3 159 [.ref 92, .int (nI a), .int x, .int sh, .int dr, .int h] f (Ret (chA K N P x sh dr h n) f) := by
  have h9 := mp_postageOf2 f ha hn2 hn8 hA x sh dr h hx
  by_cases c : x = -1
  · rw [if_pos c] at h9
    rw [show chA K N P x sh dr h n = -1 from if_pos (Or.inl (by rw [c]; decide))]
    exact h9
  · rw [if_neg c] at h9
    exact h9
theorem mlp_freeOf2 (f : HI) {a n : Nat} {K N P : Nat → Int32} (ha : a < 5) (hn2 : f 101 a = nI n) (hn8 : n ≤ 8) (hA : AcM f a n K N P) : ∀ (m9 : Nat) (c : Nat), (c ≤ n) → n - c < m9 → wq 1 162 (Ret (frA K N n) f) 7 [(0, .ref 92), (1, .int (nI a)), (2, .int (frA K N c)), (3, .int (nI (8 * a + c)))] [] f := by
  intro m9
  induction m9 with
  | zero => intro c hc0 hn; exact absurd hn (Nat.not_lt_zero _)
  | succ m9 ih =>
    intro c hc0 hn
    refine wq_run2 (pc' := 9) (L' := [(0, .ref 92), (1, .int (nI a)), (2, .int (frA K N c)), (3, .int (nI (8 * a + c)))]) (S' := [.int (-1), .int (nI a)]) (f' := f) rfl ?_
    refine wq_if (c := (nI a) = (-1)) (p1 := 54) (L1 := [(0, .ref 92), (1, .int (nI a)), (2, .int (frA K N c)), (3, .int (nI (8 * a + c)))]) (S1 := []) (p2 := 12) (L2 := [(0, .ref 92), (1, .int (nI a)), (2, .int (frA K N c)), (3, .int (nI (8 * a + c)))]) (S2 := []) rfl (fun q => absurd q (nI_nm (by omega))) (fun _ => ?_)
    refine wq_run4 (pc' := 17) (L' := [(0, .ref 92), (1, .int (nI a)), (2, .int (frA K N c)), (3, .int (nI (8 * a + c)))]) (S' := [.int (8 * (nI a)), .int (nI (8 * a + c))]) (f' := f) rfl ?_
    refine wq_v (y := (nI (8 * a))) (pk_mul 8 a) ?_
    refine wq_run3 (pc' := 22) (L' := [(0, .ref 92), (1, .int (nI a)), (2, .int (frA K N c)), (3, .int (nI (8 * a + c)))]) (S' := [.int (nI a), .ref 101, .int (nI (8 * a)), .int (nI (8 * a + c))]) (f' := f) rfl ?_
    refine wq_ald (j := a) (n := 6) (v := (nI n)) rfl rfl rfl rfl (by omega) (Nat.le_of_ble_eq_true rfl) hn2 ?_
    refine wq_run1 (pc' := 24) (L' := [(0, .ref 92), (1, .int (nI a)), (2, .int (frA K N c)), (3, .int (nI (8 * a + c)))]) (S' := [.int ((nI (8 * a)) + (nI n)), .int (nI (8 * a + c))]) (f' := f) rfl ?_
    refine wq_v (y := (nI ((8 * a) + n))) (nI_add (8 * a) n) ?_
    refine wq_if (c := (nI ((8 * a) + n)) ≤ (nI (8 * a + c))) (p1 := 54) (L1 := [(0, .ref 92), (1, .int (nI a)), (2, .int (frA K N c)), (3, .int (nI (8 * a + c)))]) (S1 := []) (p2 := 27) (L2 := [(0, .ref 92), (1, .int (nI a)), (2, .int (frA K N c)), (3, .int (nI (8 * a + c)))]) (S2 := []) rfl (fun c_24 => ?_) (fun c_24 => ?_)
    · have k_24 : ((8 * a) + n) ≤ (8 * a + c) := (nI_leI (a := ((8 * a) + n)) (b := (8 * a + c)) (by omega) (by omega)).mp c_24
      have e : c = n := by omega
      refine wq_run1 (pc' := 55) (L' := [(0, .ref 92), (1, .int (nI a)), (2, .int (frA K N c)), (3, .int (nI (8 * a + c)))]) (S' := [.int (frA K N c)]) (f' := f) rfl ?_
      exact wq_ret rfl ⟨by rw [e], rfl⟩
    · have k_24 : ¬ ((8 * a) + n) ≤ (8 * a + c) := fun q => c_24 ((nI_leI (a := ((8 * a) + n)) (b := (8 * a + c)) (by omega) (by omega)).mpr q)
      refine wq_run3 (pc' := 32) (L' := [(0, .ref 92), (1, .int (nI a)), (2, .int (frA K N c)), (3, .int (nI (8 * a + c)))]) (S' := [.int (nI (8 * a + c)), .ref 102]) (f' := f) rfl ?_
      refine wq_ald (j := (8 * a + c)) (n := 48) (v := (K c)) rfl rfl rfl rfl (by omega) (Nat.le_of_ble_eq_true rfl) (hA c (by omega)).1 ?_
      refine wq_run1 (pc' := 34) (L' := [(0, .ref 92), (1, .int (nI a)), (2, .int (frA K N c)), (3, .int (nI (8 * a + c)))]) (S' := [.int 3, .int (K c)]) (f' := f) rfl ?_
      refine wq_if (c := (K c) = 3) (p1 := 37) (L1 := [(0, .ref 92), (1, .int (nI a)), (2, .int (frA K N c)), (3, .int (nI (8 * a + c)))]) (S1 := []) (p2 := 46) (L2 := [(0, .ref 92), (1, .int (nI a)), (2, .int (frA K N c)), (3, .int (nI (8 * a + c)))]) (S2 := []) rfl (fun c_34 => ?_) (fun c_34 => ?_)
      · refine wq_run3 (pc' := 42) (L' := [(0, .ref 92), (1, .int (nI a)), (2, .int (frA K N c)), (3, .int (nI (8 * a + c)))]) (S' := [.int (nI (8 * a + c)), .ref 104]) (f' := f) rfl ?_
        refine wq_ald (j := (8 * a + c)) (n := 48) (v := (N c)) rfl rfl rfl rfl (by omega) (Nat.le_of_ble_eq_true rfl) ((hA c (by omega)).2.2.1 (by rw [c_34]; decide) (by rw [c_34]; decide)) ?_
        refine wq_run3 (pc' := 51) (L' := [(0, .ref 92), (1, .int (nI a)), (2, .int (N c)), (3, .int ((nI (8 * a + c)) + 1))]) (S' := []) (f' := f) rfl ?_
        refine wq_L (L' := [(0, .ref 92), (1, .int (nI a)), (2, .int (N c)), (3, .int (nI ((8 * a + c) + 1)))]) (by rw [show nI (8 * a + c) + 1 = nI ((8 * a + c) + 1) from nI_add _ _]) ?_
        refine wq_run1 (pc' := 7) (L' := [(0, .ref 92), (1, .int (nI a)), (2, .int (N c)), (3, .int (nI ((8 * a + c) + 1)))]) (S' := []) (f' := f) rfl ?_
        have e1 : frA K N (c + 1) = N c := if_pos c_34
        have h9 := ih (c + 1) (by omega) (by omega)
        rw [e1] at h9
        exact h9
      · refine wq_run3 (pc' := 51) (L' := [(0, .ref 92), (1, .int (nI a)), (2, .int (frA K N c)), (3, .int ((nI (8 * a + c)) + 1))]) (S' := []) (f' := f) rfl ?_
        refine wq_L (L' := [(0, .ref 92), (1, .int (nI a)), (2, .int (frA K N c)), (3, .int (nI ((8 * a + c) + 1)))]) (by rw [show nI (8 * a + c) + 1 = nI ((8 * a + c) + 1) from nI_add _ _]) ?_
        refine wq_run1 (pc' := 7) (L' := [(0, .ref 92), (1, .int (nI a)), (2, .int (frA K N c)), (3, .int (nI ((8 * a + c) + 1)))]) (S' := []) (f' := f) rfl ?_
        have e1 : frA K N (c + 1) = frA K N c := if_neg c_34
        have h9 := ih (c + 1) (by omega) (by omega)
        rw [e1] at h9
        exact h9
theorem mp_freeOf (f : HI) {a n : Nat} {K N P : Nat → Int32} (ha : a < 5) (hn2 : f 101 a = nI n) (hn8 : n ≤ 8) (hA : AcM f a n K N P) : Sp 1 162 [.ref 92, .int (nI a)] f (Ret (frA K N n) f) := by
  show wq 1 162 (Ret (frA K N n) f) 0 [(0, .ref 92), (1, .int (nI a))] [] f
  refine wq_run5 (pc' := 6) (L' := [(0, .ref 92), (1, .int (nI a)), (2, .int 0)]) (S' := [.int (8 * (nI a))]) (f' := f) rfl ?_
  refine wq_v (y := (nI (8 * a))) (pk_mul 8 a) ?_
  refine wq_run1 (pc' := 7) (L' := [(0, .ref 92), (1, .int (nI a)), (2, .int 0), (3, .int (nI (8 * a)))]) (S' := []) (f' := f) rfl ?_
  exact mlp_freeOf2 f ha hn2 hn8 hA (n - 0 + 1) 0 (Nat.zero_le _) (Nat.lt_succ_self _)
theorem mp_freeOf0 (f : HI) : Sp 1 162 [.ref 92, .int (-1)] f (Ret 0 f) := by
  show wq 1 162 (Ret 0 f) 0 [(0, .ref 92), (1, .int (-1))] [] f
  refine wq_run8 (pc' := 9) (L' := [(0, .ref 92), (1, .int (-1)), (2, .int 0), (3, .int (8 * (-1)))]) (S' := [.int (-1), .int (-1)]) (f' := f) rfl ?_
  refine wq_if (c := (-1) = (-1)) (p1 := 54) (L1 := [(0, .ref 92), (1, .int (-1)), (2, .int 0), (3, .int (8 * (-1)))]) (S1 := []) (p2 := 12) (L2 := [(0, .ref 92), (1, .int (-1)), (2, .int 0), (3, .int (8 * (-1)))]) (S2 := []) rfl (fun _ => ?_) (fun q => absurd rfl q)
  refine wq_run1 (pc' := 55) (L' := [(0, .ref 92), (1, .int (-1)), (2, .int 0), (3, .int (8 * (-1)))]) (S' := [.int 0]) (f' := f) rfl ?_
  exact wq_ret rfl ⟨rfl, rfl⟩
