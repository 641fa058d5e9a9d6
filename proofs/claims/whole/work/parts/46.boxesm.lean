/-! boxes of the reference -/
theorem pc_all : ∀ n, n < 13 → pcN 12 (2 ^ n - 1) = n := by decide +kernel
theorem bx_no {D : Nat → Nat → Nat} {r n s : Nat} (hn : n ≤ 12) (hs : s + 1 < 2 ^ n) (h1 : pcN n (s + 1) = pcN 12 (bxN D r n s)) : bxN D r n s ≤ s + 1 := by
  rcases (bx_lt D r n s (by omega)).2 with c | c
  · omega
  · rw [c, pc_all n (by omega)] at h1
    have := pc_full n (s + 1) hs h1
    omega
theorem mlp_bxB {f : HI} {n r w : Nat} {D : Nat → Nat → Nat} (hn12 : n ≤ 12) (hr2 : r ≤ 200) (hw : w = 0 ∨ w = 1) (h53 : f 92 53 = nI n) (hk : ∀ p q, p < n → q < n → D p q ≤ 268435456) (hr : ∀ p q, p < n → q < n → f 129 (12 * p + q) = nI (D p q)) {s a : Nat} (hs : s + 1 < 2 ^ n) (ha : a < n) (K : wq 2 195 (Ret (if w = 0 then nI (pcN 12 (bxN D r n (2 ^ n - 1))) else nI (bxN D r n (2 ^ n - 1))) f) 63 [(0, .ref 92), (1, .int (nI r)), (2, .int (nI w)), (3, .int (nI (bxN D r n s))), (4, .int (nI (pcN 12 (bxN D r n s)))), (5, .int (nI (s + 1))), (6, .int (nI (pcN a (s + 1) + 1))), (7, .int (nI (cvN D r n (s + 1) a ||| nbN D r a n))), (8, .int (nI (a + 1)))] [] f) : ∀ (m9 : Nat) (j : Nat), (j ≤ n) → n - j < m9 → wq 2 195 (Ret (if w = 0 then nI (pcN 12 (bxN D r n (2 ^ n - 1))) else nI (bxN D r n (2 ^ n - 1))) f) 89 [(0, .ref 92), (1, .int (nI r)), (2, .int (nI w)), (3, .int (nI (bxN D r n s))), (4, .int (nI (pcN 12 (bxN D r n s)))), (5, .int (nI (s + 1))), (6, .int (nI (pcN a (s + 1) + 1))), (7, .int (nI (cvN D r n (s + 1) a ||| nbN D r a j))), (8, .int (nI a)), (9, .int (nI j))] [] f := by
  intro m9
  induction m9 with
  | zero => intro j hj hn; exact absurd hn (Nat.not_lt_zero _)
  | succ m9 ih =>
    intro j hj hn
    refine wq_run3 (pc' := 95) (L' := [(0, .ref 92), (1, .int (nI r)), (2, .int (nI w)), (3, .int (nI (bxN D r n s))), (4, .int (nI (pcN 12 (bxN D r n s)))), (5, .int (nI (s + 1))), (6, .int (nI (pcN a (s + 1) + 1))), (7, .int (nI (cvN D r n (s + 1) a ||| nbN D r a j))), (8, .int (nI a)), (9, .int (nI j))]) (S' := [.int (f 92 53), .int (nI j)]) (f' := f) rfl ?_
    refine wq_v (y := (nI n)) (h53) ?_
    refine wq_if (c := (nI n) ≤ (nI j)) (p1 := 134) (L1 := [(0, .ref 92), (1, .int (nI r)), (2, .int (nI w)), (3, .int (nI (bxN D r n s))), (4, .int (nI (pcN 12 (bxN D r n s)))), (5, .int (nI (s + 1))), (6, .int (nI (pcN a (s + 1) + 1))), (7, .int (nI (cvN D r n (s + 1) a ||| nbN D r a j))), (8, .int (nI a)), (9, .int (nI j))]) (S1 := []) (p2 := 98) (L2 := [(0, .ref 92), (1, .int (nI r)), (2, .int (nI w)), (3, .int (nI (bxN D r n s))), (4, .int (nI (pcN 12 (bxN D r n s)))), (5, .int (nI (s + 1))), (6, .int (nI (pcN a (s + 1) + 1))), (7, .int (nI (cvN D r n (s + 1) a ||| nbN D r a j))), (8, .int (nI a)), (9, .int (nI j))]) (S2 := []) rfl (fun c_95 => ?_) (fun c_95 => ?_)
    · have k_95 : n ≤ j := (nI_leI (a := n) (b := j) (by omega) (by omega)).mp c_95
      refine wq_run1 (pc' := 137) (L' := [(0, .ref 92), (1, .int (nI r)), (2, .int (nI w)), (3, .int (nI (bxN D r n s))), (4, .int (nI (pcN 12 (bxN D r n s)))), (5, .int (nI (s + 1))), (6, .int (nI (pcN a (s + 1) + 1))), (7, .int (nI (cvN D r n (s + 1) a ||| nbN D r a j))), (8, .int ((nI a) + 1)), (9, .int (nI j))]) (S' := []) (f' := f) rfl ?_
      refine wq_L (L' := [(0, .ref 92), (1, .int (nI r)), (2, .int (nI w)), (3, .int (nI (bxN D r n s))), (4, .int (nI (pcN 12 (bxN D r n s)))), (5, .int (nI (s + 1))), (6, .int (nI (pcN a (s + 1) + 1))), (7, .int (nI (cvN D r n (s + 1) a ||| nbN D r a j))), (8, .int (nI (a + 1))), (9, .int (nI j))]) (by rw [show nI a + 1 = nI (a + 1) from nI_add _ _]) ?_
      refine wq_run1 (pc' := 63) (L' := [(0, .ref 92), (1, .int (nI r)), (2, .int (nI w)), (3, .int (nI (bxN D r n s))), (4, .int (nI (pcN 12 (bxN D r n s)))), (5, .int (nI (s + 1))), (6, .int (nI (pcN a (s + 1) + 1))), (7, .int (nI (cvN D r n (s + 1) a ||| nbN D r a j))), (8, .int (nI (a + 1)))]) (S' := []) (f' := f) rfl ?_
      have e : j = n := by omega
      rw [e]
      exact K
    · have k_95 : ¬ n ≤ j := fun q => c_95 ((nI_leI (a := n) (b := j) (by omega) (by omega)).mpr q)
      refine wq_run6 (pc' := 109) (L' := [(0, .ref 92), (1, .int (nI r)), (2, .int (nI w)), (3, .int (nI (bxN D r n s))), (4, .int (nI (pcN 12 (bxN D r n s)))), (5, .int (nI (s + 1))), (6, .int (nI (pcN a (s + 1) + 1))), (7, .int (nI (cvN D r n (s + 1) a ||| nbN D r a j))), (8, .int (nI a)), (9, .int (nI j))]) (S' := [.int (12 * (nI a)), .ref 129, .int (nI (cvN D r n (s + 1) a ||| nbN D r a j))]) (f' := f) rfl ?_
      refine wq_v (y := (nI (12 * a))) (pk_mul 12 a) ?_
      refine wq_run2 (pc' := 112) (L' := [(0, .ref 92), (1, .int (nI r)), (2, .int (nI w)), (3, .int (nI (bxN D r n s))), (4, .int (nI (pcN 12 (bxN D r n s)))), (5, .int (nI (s + 1))), (6, .int (nI (pcN a (s + 1) + 1))), (7, .int (nI (cvN D r n (s + 1) a ||| nbN D r a j))), (8, .int (nI a)), (9, .int (nI j))]) (S' := [.int ((nI (12 * a)) + (nI j)), .ref 129, .int (nI (cvN D r n (s + 1) a ||| nbN D r a j))]) (f' := f) rfl ?_
      refine wq_v (y := (nI ((12 * a) + j))) (nI_add (12 * a) j) ?_
      have hk_ := hk a j (by omega) (by omega)
      refine wq_ald (j := ((12 * a) + j)) (n := 144) (v := (nI (D a j))) rfl rfl rfl rfl (by omega) (Nat.le_of_ble_eq_true rfl) (hr a j (by omega) (by omega)) ?_
      refine wq_run1 (pc' := 114) (L' := [(0, .ref 92), (1, .int (nI r)), (2, .int (nI w)), (3, .int (nI (bxN D r n s))), (4, .int (nI (pcN 12 (bxN D r n s)))), (5, .int (nI (s + 1))), (6, .int (nI (pcN a (s + 1) + 1))), (7, .int (nI (cvN D r n (s + 1) a ||| nbN D r a j))), (8, .int (nI a)), (9, .int (nI j))]) (S' := [.int (nI r), .int (nI (D a j)), .int (nI (cvN D r n (s + 1) a ||| nbN D r a j))]) (f' := f) rfl ?_
      refine wq_if (c := (nI r) < (nI (D a j))) (p1 := 124) (L1 := [(0, .ref 92), (1, .int (nI r)), (2, .int (nI w)), (3, .int (nI (bxN D r n s))), (4, .int (nI (pcN 12 (bxN D r n s)))), (5, .int (nI (s + 1))), (6, .int (nI (pcN a (s + 1) + 1))), (7, .int (nI (cvN D r n (s + 1) a ||| nbN D r a j))), (8, .int (nI a)), (9, .int (nI j))]) (S1 := [.int (nI (cvN D r n (s + 1) a ||| nbN D r a j))]) (p2 := 117) (L2 := [(0, .ref 92), (1, .int (nI r)), (2, .int (nI w)), (3, .int (nI (bxN D r n s))), (4, .int (nI (pcN 12 (bxN D r n s)))), (5, .int (nI (s + 1))), (6, .int (nI (pcN a (s + 1) + 1))), (7, .int (nI (cvN D r n (s + 1) a ||| nbN D r a j))), (8, .int (nI a)), (9, .int (nI j))]) (S2 := [.int (nI (cvN D r n (s + 1) a ||| nbN D r a j))]) rfl (fun c_114 => ?_) (fun c_114 => ?_)
      · have k_114 : r < (D a j) := (nI_ltI (a := r) (b := (D a j)) (by omega) (by omega)).mp c_114
        refine wq_run2 (pc' := 126) (L' := [(0, .ref 92), (1, .int (nI r)), (2, .int (nI w)), (3, .int (nI (bxN D r n s))), (4, .int (nI (pcN 12 (bxN D r n s)))), (5, .int (nI (s + 1))), (6, .int (nI (pcN a (s + 1) + 1))), (7, .int (nI (cvN D r n (s + 1) a ||| nbN D r a j))), (8, .int (nI a)), (9, .int (nI j))]) (S' := [.int ((nI (cvN D r n (s + 1) a ||| nbN D r a j)) ||| 0)]) (f' := f) rfl ?_
        refine wq_v (y := (nI ((cvN D r n (s + 1) a ||| nbN D r a j) ||| 0))) (nx_or (cvN D r n (s + 1) a ||| nbN D r a j) 0) ?_
        refine wq_run2 (pc' := 131) (L' := [(0, .ref 92), (1, .int (nI r)), (2, .int (nI w)), (3, .int (nI (bxN D r n s))), (4, .int (nI (pcN 12 (bxN D r n s)))), (5, .int (nI (s + 1))), (6, .int (nI (pcN a (s + 1) + 1))), (7, .int (nI ((cvN D r n (s + 1) a ||| nbN D r a j) ||| 0))), (8, .int (nI a)), (9, .int ((nI j) + 1))]) (S' := []) (f' := f) rfl ?_
        refine wq_L (L' := [(0, .ref 92), (1, .int (nI r)), (2, .int (nI w)), (3, .int (nI (bxN D r n s))), (4, .int (nI (pcN 12 (bxN D r n s)))), (5, .int (nI (s + 1))), (6, .int (nI (pcN a (s + 1) + 1))), (7, .int (nI ((cvN D r n (s + 1) a ||| nbN D r a j) ||| 0))), (8, .int (nI a)), (9, .int (nI (j + 1)))]) (by rw [show nI j + 1 = nI (j + 1) from nI_add _ _]) ?_
        refine wq_run1 (pc' := 89) (L' := [(0, .ref 92), (1, .int (nI r)), (2, .int (nI w)), (3, .int (nI (bxN D r n s))), (4, .int (nI (pcN 12 (bxN D r n s)))), (5, .int (nI (s + 1))), (6, .int (nI (pcN a (s + 1) + 1))), (7, .int (nI ((cvN D r n (s + 1) a ||| nbN D r a j) ||| 0))), (8, .int (nI a)), (9, .int (nI (j + 1)))]) (S' := []) (f' := f) rfl ?_
        have h9 := ih (j + 1) (by omega) (by omega)
        rw [show nbN D r a (j + 1) = nbN D r a j from if_neg (by omega)] at h9
        rw [Nat.or_zero]
        exact h9
      · have k_114 : ¬ r < (D a j) := fun q => c_114 ((nI_ltI (a := r) (b := (D a j)) (by omega) (by omega)).mpr q)
        refine wq_run3 (pc' := 121) (L' := [(0, .ref 92), (1, .int (nI r)), (2, .int (nI w)), (3, .int (nI (bxN D r n s))), (4, .int (nI (pcN 12 (bxN D r n s)))), (5, .int (nI (s + 1))), (6, .int (nI (pcN a (s + 1) + 1))), (7, .int (nI (cvN D r n (s + 1) a ||| nbN D r a j))), (8, .int (nI a)), (9, .int (nI j))]) (S' := [.int ((1 : Int32) <<< ((nI j) &&& 31)), .int (nI (cvN D r n (s + 1) a ||| nbN D r a j))]) (f' := f) rfl ?_
        refine wq_v (y := (nI (2 ^ j))) (shl1 (n := j) (by omega)) ?_
        refine wq_run2 (pc' := 126) (L' := [(0, .ref 92), (1, .int (nI r)), (2, .int (nI w)), (3, .int (nI (bxN D r n s))), (4, .int (nI (pcN 12 (bxN D r n s)))), (5, .int (nI (s + 1))), (6, .int (nI (pcN a (s + 1) + 1))), (7, .int (nI (cvN D r n (s + 1) a ||| nbN D r a j))), (8, .int (nI a)), (9, .int (nI j))]) (S' := [.int ((nI (cvN D r n (s + 1) a ||| nbN D r a j)) ||| (nI (2 ^ j)))]) (f' := f) rfl ?_
        refine wq_v (y := (nI ((cvN D r n (s + 1) a ||| nbN D r a j) ||| (2 ^ j)))) (nx_or (cvN D r n (s + 1) a ||| nbN D r a j) (2 ^ j)) ?_
        refine wq_run2 (pc' := 131) (L' := [(0, .ref 92), (1, .int (nI r)), (2, .int (nI w)), (3, .int (nI (bxN D r n s))), (4, .int (nI (pcN 12 (bxN D r n s)))), (5, .int (nI (s + 1))), (6, .int (nI (pcN a (s + 1) + 1))), (7, .int (nI ((cvN D r n (s + 1) a ||| nbN D r a j) ||| (2 ^ j)))), (8, .int (nI a)), (9, .int ((nI j) + 1))]) (S' := []) (f' := f) rfl ?_
        refine wq_L (L' := [(0, .ref 92), (1, .int (nI r)), (2, .int (nI w)), (3, .int (nI (bxN D r n s))), (4, .int (nI (pcN 12 (bxN D r n s)))), (5, .int (nI (s + 1))), (6, .int (nI (pcN a (s + 1) + 1))), (7, .int (nI ((cvN D r n (s + 1) a ||| nbN D r a j) ||| (2 ^ j)))), (8, .int (nI a)), (9, .int (nI (j + 1)))]) (by rw [show nI j + 1 = nI (j + 1) from nI_add _ _]) ?_
        refine wq_run1 (pc' := 89) (L' := [(0, .ref 92), (1, .int (nI r)), (2, .int (nI w)), (3, .int (nI (bxN D r n s))), (4, .int (nI (pcN 12 (bxN D r n s)))), (5, .int (nI (s + 1))), (6, .int (nI (pcN a (s + 1) + 1))), (7, .int (nI ((cvN D r n (s + 1) a ||| nbN D r a j) ||| (2 ^ j)))), (8, .int (nI a)), (9, .int (nI (j + 1)))]) (S' := []) (f' := f) rfl ?_
        have h9 := ih (j + 1) (by omega) (by omega)
        rw [show nbN D r a (j + 1) = nbN D r a j ||| 2 ^ j from if_pos (by omega), ← Nat.or_assoc] at h9
        exact h9
theorem mlp_bxA {f : HI} {n r w : Nat} {D : Nat → Nat → Nat} (hn12 : n ≤ 12) (hr2 : r ≤ 200) (hw : w = 0 ∨ w = 1) (h53 : f 92 53 = nI n) (hk : ∀ p q, p < n → q < n → D p q ≤ 268435456) (hr : ∀ p q, p < n → q < n → f 129 (12 * p + q) = nI (D p q)) {s : Nat} (hs : s + 1 < 2 ^ n) (K2 : wq 2 195 (Ret (if w = 0 then nI (pcN 12 (bxN D r n (2 ^ n - 1))) else nI (bxN D r n (2 ^ n - 1))) f) 43 [(0, .ref 92), (1, .int (nI r)), (2, .int (nI w)), (3, .int (nI (bxN D r n (s + 1)))), (4, .int (nI (pcN 12 (bxN D r n (s + 1))))), (5, .int (nI (s + 1 + 1)))] [] f) : ∀ (m9 : Nat) (a : Nat), (a ≤ n) → n - a < m9 → wq 2 195 (Ret (if w = 0 then nI (pcN 12 (bxN D r n (2 ^ n - 1))) else nI (bxN D r n (2 ^ n - 1))) f) 63 [(0, .ref 92), (1, .int (nI r)), (2, .int (nI w)), (3, .int (nI (bxN D r n s))), (4, .int (nI (pcN 12 (bxN D r n s)))), (5, .int (nI (s + 1))), (6, .int (nI (pcN a (s + 1)))), (7, .int (nI (cvN D r n (s + 1) a))), (8, .int (nI a))] [] f := by
  intro m9
  induction m9 with
  | zero => intro a ha hn; exact absurd hn (Nat.not_lt_zero _)
  | succ m9 ih =>
    intro a ha hn
    have h12 := p12 hn12
    have hp0 := p0 n
    have hbx := bx_lt D r n s (by omega)
    have hcv := cv_lt D r n (s + 1) a
    have hpc1 := pc_le a (s + 1)
    have hpc2 := pc_le 12 (bxN D r n s)
    have hbn := bN_lt (s + 1) a
    refine wq_run3 (pc' := 69) (L' := [(0, .ref 92), (1, .int (nI r)), (2, .int (nI w)), (3, .int (nI (bxN D r n s))), (4, .int (nI (pcN 12 (bxN D r n s)))), (5, .int (nI (s + 1))), (6, .int (nI (pcN a (s + 1)))), (7, .int (nI (cvN D r n (s + 1) a))), (8, .int (nI a))]) (S' := [.int (f 92 53), .int (nI a)]) (f' := f) rfl ?_
    refine wq_v (y := (nI n)) (h53) ?_
    refine wq_if (c := (nI n) ≤ (nI a)) (p1 := 140) (L1 := [(0, .ref 92), (1, .int (nI r)), (2, .int (nI w)), (3, .int (nI (bxN D r n s))), (4, .int (nI (pcN 12 (bxN D r n s)))), (5, .int (nI (s + 1))), (6, .int (nI (pcN a (s + 1)))), (7, .int (nI (cvN D r n (s + 1) a))), (8, .int (nI a))]) (S1 := []) (p2 := 72) (L2 := [(0, .ref 92), (1, .int (nI r)), (2, .int (nI w)), (3, .int (nI (bxN D r n s))), (4, .int (nI (pcN 12 (bxN D r n s)))), (5, .int (nI (s + 1))), (6, .int (nI (pcN a (s + 1)))), (7, .int (nI (cvN D r n (s + 1) a))), (8, .int (nI a))]) (S2 := []) rfl (fun c_69 => ?_) (fun c_69 => ?_)
    · have k_69 : n ≤ a := (nI_leI (a := n) (b := a) (by omega) (by omega)).mp c_69
      refine wq_run4 (pc' := 147) (L' := [(0, .ref 92), (1, .int (nI r)), (2, .int (nI w)), (3, .int (nI (bxN D r n s))), (4, .int (nI (pcN 12 (bxN D r n s)))), (5, .int (nI (s + 1))), (6, .int (nI (pcN a (s + 1)))), (7, .int (nI (cvN D r n (s + 1) a))), (8, .int (nI a))]) (S' := [.int (f 92 53), .int 1, .int (nI (cvN D r n (s + 1) a))]) (f' := f) rfl ?_
      refine wq_v (y := (nI n)) (h53) ?_
      refine wq_run1 (pc' := 148) (L' := [(0, .ref 92), (1, .int (nI r)), (2, .int (nI w)), (3, .int (nI (bxN D r n s))), (4, .int (nI (pcN 12 (bxN D r n s)))), (5, .int (nI (s + 1))), (6, .int (nI (pcN a (s + 1)))), (7, .int (nI (cvN D r n (s + 1) a))), (8, .int (nI a))]) (S' := [.int ((1 : Int32) <<< ((nI n) &&& 31)), .int (nI (cvN D r n (s + 1) a))]) (f' := f) rfl ?_
      refine wq_v (y := (nI (2 ^ n))) (shl1 (n := n) (by omega)) ?_
      refine wq_run2 (pc' := 150) (L' := [(0, .ref 92), (1, .int (nI r)), (2, .int (nI w)), (3, .int (nI (bxN D r n s))), (4, .int (nI (pcN 12 (bxN D r n s)))), (5, .int (nI (s + 1))), (6, .int (nI (pcN a (s + 1)))), (7, .int (nI (cvN D r n (s + 1) a))), (8, .int (nI a))]) (S' := [.int ((nI (2 ^ n)) - 1), .int (nI (cvN D r n (s + 1) a))]) (f' := f) rfl ?_
      refine wq_v (y := (nI ((2 ^ n) - 1))) (pk_sub (a := (2 ^ n)) (b := 1) (by omega)) ?_
      refine wq_if (c := (nI (cvN D r n (s + 1) a)) = (nI ((2 ^ n) - 1))) (p1 := 153) (L1 := [(0, .ref 92), (1, .int (nI r)), (2, .int (nI w)), (3, .int (nI (bxN D r n s))), (4, .int (nI (pcN 12 (bxN D r n s)))), (5, .int (nI (s + 1))), (6, .int (nI (pcN a (s + 1)))), (7, .int (nI (cvN D r n (s + 1) a))), (8, .int (nI a))]) (S1 := []) (p2 := 180) (L2 := [(0, .ref 92), (1, .int (nI r)), (2, .int (nI w)), (3, .int (nI (bxN D r n s))), (4, .int (nI (pcN 12 (bxN D r n s)))), (5, .int (nI (s + 1))), (6, .int (nI (pcN a (s + 1)))), (7, .int (nI (cvN D r n (s + 1) a))), (8, .int (nI a))]) (S2 := []) rfl (fun c_150 => ?_) (fun c_150 => ?_)
      · have k_150 : (cvN D r n (s + 1) a) = ((2 ^ n) - 1) := (nI_eq (a := (cvN D r n (s + 1) a)) (b := ((2 ^ n) - 1)) (by omega) (by omega)).mp c_150
        refine wq_run2 (pc' := 157) (L' := [(0, .ref 92), (1, .int (nI r)), (2, .int (nI w)), (3, .int (nI (bxN D r n s))), (4, .int (nI (pcN 12 (bxN D r n s)))), (5, .int (nI (s + 1))), (6, .int (nI (pcN a (s + 1)))), (7, .int (nI (cvN D r n (s + 1) a))), (8, .int (nI a))]) (S' := [.int (nI (pcN 12 (bxN D r n s))), .int (nI (pcN a (s + 1)))]) (f' := f) rfl ?_
        refine wq_if (c := (nI (pcN a (s + 1))) < (nI (pcN 12 (bxN D r n s)))) (p1 := 173) (L1 := [(0, .ref 92), (1, .int (nI r)), (2, .int (nI w)), (3, .int (nI (bxN D r n s))), (4, .int (nI (pcN 12 (bxN D r n s)))), (5, .int (nI (s + 1))), (6, .int (nI (pcN a (s + 1)))), (7, .int (nI (cvN D r n (s + 1) a))), (8, .int (nI a))]) (S1 := []) (p2 := 160) (L2 := [(0, .ref 92), (1, .int (nI r)), (2, .int (nI w)), (3, .int (nI (bxN D r n s))), (4, .int (nI (pcN 12 (bxN D r n s)))), (5, .int (nI (s + 1))), (6, .int (nI (pcN a (s + 1)))), (7, .int (nI (cvN D r n (s + 1) a))), (8, .int (nI a))]) (S2 := []) rfl (fun c_157 => ?_) (fun c_157 => ?_)
        · have k_157 : (pcN a (s + 1)) < (pcN 12 (bxN D r n s)) := (nI_ltI (a := (pcN a (s + 1))) (b := (pcN 12 (bxN D r n s))) (by omega) (by omega)).mp c_157
          refine wq_run5 (pc' := 183) (L' := [(0, .ref 92), (1, .int (nI r)), (2, .int (nI w)), (3, .int (nI (s + 1))), (4, .int (nI (pcN a (s + 1)))), (5, .int ((nI (s + 1)) + 1)), (6, .int (nI (pcN a (s + 1)))), (7, .int (nI (cvN D r n (s + 1) a))), (8, .int (nI a))]) (S' := []) (f' := f) rfl ?_
          refine wq_L (L' := [(0, .ref 92), (1, .int (nI r)), (2, .int (nI w)), (3, .int (nI (s + 1))), (4, .int (nI (pcN a (s + 1)))), (5, .int (nI ((s + 1) + 1))), (6, .int (nI (pcN a (s + 1)))), (7, .int (nI (cvN D r n (s + 1) a))), (8, .int (nI a))]) (by rw [show nI (s + 1) + 1 = nI ((s + 1) + 1) from nI_add _ _]) ?_
          refine wq_run1 (pc' := 43) (L' := [(0, .ref 92), (1, .int (nI r)), (2, .int (nI w)), (3, .int (nI (s + 1))), (4, .int (nI (pcN a (s + 1)))), (5, .int (nI ((s + 1) + 1)))]) (S' := []) (f' := f) rfl ?_
          have e : a = n := by omega
          have hb9 : bxN D r n (s + 1) = s + 1 := if_pos ⟨by rw [← pc_12 n (by omega) (s + 1) hs]; rw [e] at k_157; exact k_157, by rw [e] at k_150; exact k_150⟩
          rw [hb9] at K2
          rw [e, pc_12 n (by omega) (s + 1) hs]
          exact K2
        · have k_157 : ¬ (pcN a (s + 1)) < (pcN 12 (bxN D r n s)) := fun q => c_157 ((nI_ltI (a := (pcN a (s + 1))) (b := (pcN 12 (bxN D r n s))) (by omega) (by omega)).mpr q)
          refine wq_run2 (pc' := 164) (L' := [(0, .ref 92), (1, .int (nI r)), (2, .int (nI w)), (3, .int (nI (bxN D r n s))), (4, .int (nI (pcN 12 (bxN D r n s)))), (5, .int (nI (s + 1))), (6, .int (nI (pcN a (s + 1)))), (7, .int (nI (cvN D r n (s + 1) a))), (8, .int (nI a))]) (S' := [.int (nI (pcN 12 (bxN D r n s))), .int (nI (pcN a (s + 1)))]) (f' := f) rfl ?_
          refine wq_if (c := (nI (pcN a (s + 1))) = (nI (pcN 12 (bxN D r n s)))) (p1 := 167) (L1 := [(0, .ref 92), (1, .int (nI r)), (2, .int (nI w)), (3, .int (nI (bxN D r n s))), (4, .int (nI (pcN 12 (bxN D r n s)))), (5, .int (nI (s + 1))), (6, .int (nI (pcN a (s + 1)))), (7, .int (nI (cvN D r n (s + 1) a))), (8, .int (nI a))]) (S1 := []) (p2 := 180) (L2 := [(0, .ref 92), (1, .int (nI r)), (2, .int (nI w)), (3, .int (nI (bxN D r n s))), (4, .int (nI (pcN 12 (bxN D r n s)))), (5, .int (nI (s + 1))), (6, .int (nI (pcN a (s + 1)))), (7, .int (nI (cvN D r n (s + 1) a))), (8, .int (nI a))]) (S2 := []) rfl (fun c_164 => ?_) (fun c_164 => ?_)
          · have k_164 : (pcN a (s + 1)) = (pcN 12 (bxN D r n s)) := (nI_eq (a := (pcN a (s + 1))) (b := (pcN 12 (bxN D r n s))) (by omega) (by omega)).mp c_164
            have hno := bx_no (D := D) (r := r) hn12 hs (by rw [show a = n by omega] at k_164; exact k_164)
            refine wq_run2 (pc' := 170) (L' := [(0, .ref 92), (1, .int (nI r)), (2, .int (nI w)), (3, .int (nI (bxN D r n s))), (4, .int (nI (pcN 12 (bxN D r n s)))), (5, .int (nI (s + 1))), (6, .int (nI (pcN a (s + 1)))), (7, .int (nI (cvN D r n (s + 1) a))), (8, .int (nI a))]) (S' := [.int (nI (bxN D r n s)), .int (nI (s + 1))]) (f' := f) rfl ?_
            refine wq_if (c := (nI (bxN D r n s)) ≤ (nI (s + 1))) (p1 := 180) (L1 := [(0, .ref 92), (1, .int (nI r)), (2, .int (nI w)), (3, .int (nI (bxN D r n s))), (4, .int (nI (pcN 12 (bxN D r n s)))), (5, .int (nI (s + 1))), (6, .int (nI (pcN a (s + 1)))), (7, .int (nI (cvN D r n (s + 1) a))), (8, .int (nI a))]) (S1 := []) (p2 := 173) (L2 := [(0, .ref 92), (1, .int (nI r)), (2, .int (nI w)), (3, .int (nI (bxN D r n s))), (4, .int (nI (pcN 12 (bxN D r n s)))), (5, .int (nI (s + 1))), (6, .int (nI (pcN a (s + 1)))), (7, .int (nI (cvN D r n (s + 1) a))), (8, .int (nI a))]) (S2 := []) rfl (fun _ => ?_) (fun q => absurd ((nI_leI (a := (bxN D r n s)) (b := (s + 1)) (by omega) (by omega)).mpr (by omega)) q)
            refine wq_run1 (pc' := 183) (L' := [(0, .ref 92), (1, .int (nI r)), (2, .int (nI w)), (3, .int (nI (bxN D r n s))), (4, .int (nI (pcN 12 (bxN D r n s)))), (5, .int ((nI (s + 1)) + 1)), (6, .int (nI (pcN a (s + 1)))), (7, .int (nI (cvN D r n (s + 1) a))), (8, .int (nI a))]) (S' := []) (f' := f) rfl ?_
            refine wq_L (L' := [(0, .ref 92), (1, .int (nI r)), (2, .int (nI w)), (3, .int (nI (bxN D r n s))), (4, .int (nI (pcN 12 (bxN D r n s)))), (5, .int (nI ((s + 1) + 1))), (6, .int (nI (pcN a (s + 1)))), (7, .int (nI (cvN D r n (s + 1) a))), (8, .int (nI a))]) (by rw [show nI (s + 1) + 1 = nI ((s + 1) + 1) from nI_add _ _]) ?_
            refine wq_run1 (pc' := 43) (L' := [(0, .ref 92), (1, .int (nI r)), (2, .int (nI w)), (3, .int (nI (bxN D r n s))), (4, .int (nI (pcN 12 (bxN D r n s)))), (5, .int (nI ((s + 1) + 1)))]) (S' := []) (f' := f) rfl ?_
            have e : a = n := by omega
            have hb9 : bxN D r n (s + 1) = bxN D r n s := if_neg (fun q => k_157 (by rw [e, pc_12 n (by omega) (s + 1) hs]; exact q.1))
            rw [hb9] at K2
            exact K2
          · have k_164 : ¬ (pcN a (s + 1)) = (pcN 12 (bxN D r n s)) := fun q => c_164 ((nI_eq (a := (pcN a (s + 1))) (b := (pcN 12 (bxN D r n s))) (by omega) (by omega)).mpr q)
            refine wq_run1 (pc' := 183) (L' := [(0, .ref 92), (1, .int (nI r)), (2, .int (nI w)), (3, .int (nI (bxN D r n s))), (4, .int (nI (pcN 12 (bxN D r n s)))), (5, .int ((nI (s + 1)) + 1)), (6, .int (nI (pcN a (s + 1)))), (7, .int (nI (cvN D r n (s + 1) a))), (8, .int (nI a))]) (S' := []) (f' := f) rfl ?_
            refine wq_L (L' := [(0, .ref 92), (1, .int (nI r)), (2, .int (nI w)), (3, .int (nI (bxN D r n s))), (4, .int (nI (pcN 12 (bxN D r n s)))), (5, .int (nI ((s + 1) + 1))), (6, .int (nI (pcN a (s + 1)))), (7, .int (nI (cvN D r n (s + 1) a))), (8, .int (nI a))]) (by rw [show nI (s + 1) + 1 = nI ((s + 1) + 1) from nI_add _ _]) ?_
            refine wq_run1 (pc' := 43) (L' := [(0, .ref 92), (1, .int (nI r)), (2, .int (nI w)), (3, .int (nI (bxN D r n s))), (4, .int (nI (pcN 12 (bxN D r n s)))), (5, .int (nI ((s + 1) + 1)))]) (S' := []) (f' := f) rfl ?_
            have e : a = n := by omega
            have hb9 : bxN D r n (s + 1) = bxN D r n s := if_neg (fun q => k_157 (by rw [e, pc_12 n (by omega) (s + 1) hs]; exact q.1))
            rw [hb9] at K2
            exact K2
      · have k_150 : ¬ (cvN D r n (s + 1) a) = ((2 ^ n) - 1) := fun q => c_150 ((nI_eq (a := (cvN D r n (s + 1) a)) (b := ((2 ^ n) - 1)) (by omega) (by omega)).mpr q)
        refine wq_run1 (pc' := 183) (L' := [(0, .ref 92), (1, .int (nI r)), (2, .int (nI w)), (3, .int (nI (bxN D r n s))), (4, .int (nI (pcN 12 (bxN D r n s)))), (5, .int ((nI (s + 1)) + 1)), (6, .int (nI (pcN a (s + 1)))), (7, .int (nI (cvN D r n (s + 1) a))), (8, .int (nI a))]) (S' := []) (f' := f) rfl ?_
        refine wq_L (L' := [(0, .ref 92), (1, .int (nI r)), (2, .int (nI w)), (3, .int (nI (bxN D r n s))), (4, .int (nI (pcN 12 (bxN D r n s)))), (5, .int (nI ((s + 1) + 1))), (6, .int (nI (pcN a (s + 1)))), (7, .int (nI (cvN D r n (s + 1) a))), (8, .int (nI a))]) (by rw [show nI (s + 1) + 1 = nI ((s + 1) + 1) from nI_add _ _]) ?_
        refine wq_run1 (pc' := 43) (L' := [(0, .ref 92), (1, .int (nI r)), (2, .int (nI w)), (3, .int (nI (bxN D r n s))), (4, .int (nI (pcN 12 (bxN D r n s)))), (5, .int (nI ((s + 1) + 1)))]) (S' := []) (f' := f) rfl ?_
        have e : a = n := by omega
        have hb9 : bxN D r n (s + 1) = bxN D r n s := if_neg (fun q => k_150 (by rw [e]; exact q.2))
        rw [hb9] at K2
        exact K2
    · have k_69 : ¬ n ≤ a := fun q => c_69 ((nI_leI (a := n) (b := a) (by omega) (by omega)).mpr q)
      refine wq_run5 (pc' := 79) (L' := [(0, .ref 92), (1, .int (nI r)), (2, .int (nI w)), (3, .int (nI (bxN D r n s))), (4, .int (nI (pcN 12 (bxN D r n s)))), (5, .int (nI (s + 1))), (6, .int (nI (pcN a (s + 1)))), (7, .int (nI (cvN D r n (s + 1) a))), (8, .int (nI a))]) (S' := [.int (((nI (s + 1)) >>> ((nI a) &&& 31)) &&& 1)]) (f' := f) rfl ?_
      refine wq_v (y := (nI (bN (s + 1) a))) (bitN (by omega) (by omega)) ?_
      refine wq_run1 (pc' := 80) (L' := [(0, .ref 92), (1, .int (nI r)), (2, .int (nI w)), (3, .int (nI (bxN D r n s))), (4, .int (nI (pcN 12 (bxN D r n s)))), (5, .int (nI (s + 1))), (6, .int (nI (pcN a (s + 1)))), (7, .int (nI (cvN D r n (s + 1) a))), (8, .int (nI a))]) (S' := [.int 1, .int (nI (bN (s + 1) a))]) (f' := f) rfl ?_
      refine wq_if (c := (nI (bN (s + 1) a)) = 1) (p1 := 83) (L1 := [(0, .ref 92), (1, .int (nI r)), (2, .int (nI w)), (3, .int (nI (bxN D r n s))), (4, .int (nI (pcN 12 (bxN D r n s)))), (5, .int (nI (s + 1))), (6, .int (nI (pcN a (s + 1)))), (7, .int (nI (cvN D r n (s + 1) a))), (8, .int (nI a))]) (S1 := []) (p2 := 134) (L2 := [(0, .ref 92), (1, .int (nI r)), (2, .int (nI w)), (3, .int (nI (bxN D r n s))), (4, .int (nI (pcN 12 (bxN D r n s)))), (5, .int (nI (s + 1))), (6, .int (nI (pcN a (s + 1)))), (7, .int (nI (cvN D r n (s + 1) a))), (8, .int (nI a))]) (S2 := []) rfl (fun c_80 => ?_) (fun c_80 => ?_)
      · have k_80 : (bN (s + 1) a) = 1 := (nI_eq (a := (bN (s + 1) a)) (b := 1) (by omega) (by omega)).mp c_80
        refine wq_run1 (pc' := 86) (L' := [(0, .ref 92), (1, .int (nI r)), (2, .int (nI w)), (3, .int (nI (bxN D r n s))), (4, .int (nI (pcN 12 (bxN D r n s)))), (5, .int (nI (s + 1))), (6, .int ((nI (pcN a (s + 1))) + 1)), (7, .int (nI (cvN D r n (s + 1) a))), (8, .int (nI a))]) (S' := []) (f' := f) rfl ?_
        refine wq_L (L' := [(0, .ref 92), (1, .int (nI r)), (2, .int (nI w)), (3, .int (nI (bxN D r n s))), (4, .int (nI (pcN 12 (bxN D r n s)))), (5, .int (nI (s + 1))), (6, .int (nI ((pcN a (s + 1)) + 1))), (7, .int (nI (cvN D r n (s + 1) a))), (8, .int (nI a))]) (by rw [show nI (pcN a (s + 1)) + 1 = nI ((pcN a (s + 1)) + 1) from nI_add _ _]) ?_
        refine wq_run2 (pc' := 89) (L' := [(0, .ref 92), (1, .int (nI r)), (2, .int (nI w)), (3, .int (nI (bxN D r n s))), (4, .int (nI (pcN 12 (bxN D r n s)))), (5, .int (nI (s + 1))), (6, .int (nI ((pcN a (s + 1)) + 1))), (7, .int (nI (cvN D r n (s + 1) a))), (8, .int (nI a)), (9, .int 0)]) (S' := []) (f' := f) rfl ?_
        have hb1 : bN (s + 1) a = 1 := by omega
        have h9 := ih (a + 1) (by omega) (by omega)
        rw [show pcN (a + 1) (s + 1) = pcN a (s + 1) + bN (s + 1) a from rfl, hb1, show cvN D r n (s + 1) (a + 1) = _ from if_pos hb1] at h9
        have h8 := mlp_bxB hn12 hr2 hw h53 hk hr hs (show a < n by omega) h9 (n - 0 + 1) 0 (Nat.zero_le _) (Nat.lt_succ_self _)
        rw [show nbN D r a 0 = 0 from rfl, Nat.or_zero] at h8
        exact h8
      · have k_80 : ¬ (bN (s + 1) a) = 1 := fun q => c_80 ((nI_eq (a := (bN (s + 1) a)) (b := 1) (by omega) (by omega)).mpr q)
        refine wq_run1 (pc' := 137) (L' := [(0, .ref 92), (1, .int (nI r)), (2, .int (nI w)), (3, .int (nI (bxN D r n s))), (4, .int (nI (pcN 12 (bxN D r n s)))), (5, .int (nI (s + 1))), (6, .int (nI (pcN a (s + 1)))), (7, .int (nI (cvN D r n (s + 1) a))), (8, .int ((nI a) + 1))]) (S' := []) (f' := f) rfl ?_
        refine wq_L (L' := [(0, .ref 92), (1, .int (nI r)), (2, .int (nI w)), (3, .int (nI (bxN D r n s))), (4, .int (nI (pcN 12 (bxN D r n s)))), (5, .int (nI (s + 1))), (6, .int (nI (pcN a (s + 1)))), (7, .int (nI (cvN D r n (s + 1) a))), (8, .int (nI (a + 1)))]) (by rw [show nI a + 1 = nI (a + 1) from nI_add _ _]) ?_
        refine wq_run1 (pc' := 63) (L' := [(0, .ref 92), (1, .int (nI r)), (2, .int (nI w)), (3, .int (nI (bxN D r n s))), (4, .int (nI (pcN 12 (bxN D r n s)))), (5, .int (nI (s + 1))), (6, .int (nI (pcN a (s + 1)))), (7, .int (nI (cvN D r n (s + 1) a))), (8, .int (nI (a + 1)))]) (S' := []) (f' := f) rfl ?_
        have hb0 : bN (s + 1) a = 0 := by omega
        have h9 := ih (a + 1) (by omega) (by omega)
        rw [show pcN (a + 1) (s + 1) = pcN a (s + 1) + bN (s + 1) a from rfl, hb0, show cvN D r n (s + 1) (a + 1) = cvN D r n (s + 1) a from if_neg (by omega)] at h9
        exact h9
theorem mlp_bxS {f : HI} {n r w : Nat} {D : Nat → Nat → Nat} (hn12 : n ≤ 12) (hr2 : r ≤ 200) (hw : w = 0 ∨ w = 1) (h53 : f 92 53 = nI n) (hk : ∀ p q, p < n → q < n → D p q ≤ 268435456) (hr : ∀ p q, p < n → q < n → f 129 (12 * p + q) = nI (D p q)) : ∀ (m9 : Nat) (s : Nat), (s < 2 ^ n) → 2 ^ n - s < m9 → wq 2 195 (Ret (if w = 0 then nI (pcN 12 (bxN D r n (2 ^ n - 1))) else nI (bxN D r n (2 ^ n - 1))) f) 43 [(0, .ref 92), (1, .int (nI r)), (2, .int (nI w)), (3, .int (nI (bxN D r n s))), (4, .int (nI (pcN 12 (bxN D r n s)))), (5, .int (nI (s + 1)))] [] f := by
  intro m9
  induction m9 with
  | zero => intro s hs hn; exact absurd hn (Nat.not_lt_zero _)
  | succ m9 ih =>
    intro s hs hn
    have h12 := p12 hn12
    have hp0 := p0 n
    have hbx := bx_lt D r n s (by omega)
    have hpc2 := pc_le 12 (bxN D r n s)
    refine wq_run4 (pc' := 50) (L' := [(0, .ref 92), (1, .int (nI r)), (2, .int (nI w)), (3, .int (nI (bxN D r n s))), (4, .int (nI (pcN 12 (bxN D r n s)))), (5, .int (nI (s + 1)))]) (S' := [.int (f 92 53), .int 1, .int (nI (s + 1))]) (f' := f) rfl ?_
    refine wq_v (y := (nI n)) (h53) ?_
    refine wq_run1 (pc' := 51) (L' := [(0, .ref 92), (1, .int (nI r)), (2, .int (nI w)), (3, .int (nI (bxN D r n s))), (4, .int (nI (pcN 12 (bxN D r n s)))), (5, .int (nI (s + 1)))]) (S' := [.int ((1 : Int32) <<< ((nI n) &&& 31)), .int (nI (s + 1))]) (f' := f) rfl ?_
    refine wq_v (y := (nI (2 ^ n))) (shl1 (n := n) (by omega)) ?_
    refine wq_if (c := (nI (2 ^ n)) ≤ (nI (s + 1))) (p1 := 186) (L1 := [(0, .ref 92), (1, .int (nI r)), (2, .int (nI w)), (3, .int (nI (bxN D r n s))), (4, .int (nI (pcN 12 (bxN D r n s)))), (5, .int (nI (s + 1)))]) (S1 := []) (p2 := 54) (L2 := [(0, .ref 92), (1, .int (nI r)), (2, .int (nI w)), (3, .int (nI (bxN D r n s))), (4, .int (nI (pcN 12 (bxN D r n s)))), (5, .int (nI (s + 1)))]) (S2 := []) rfl (fun c_51 => ?_) (fun c_51 => ?_)
    · have k_51 : (2 ^ n) ≤ (s + 1) := (nI_leI (a := (2 ^ n)) (b := (s + 1)) (by omega) (by omega)).mp c_51
      refine wq_run1 (pc' := 187) (L' := [(0, .ref 92), (1, .int (nI r)), (2, .int (nI w)), (3, .int (nI (bxN D r n s))), (4, .int (nI (pcN 12 (bxN D r n s)))), (5, .int (nI (s + 1)))]) (S' := [.int (nI w)]) (f' := f) rfl ?_
      refine wq_if (c := (nI w) = 0) (p1 := 190) (L1 := [(0, .ref 92), (1, .int (nI r)), (2, .int (nI w)), (3, .int (nI (bxN D r n s))), (4, .int (nI (pcN 12 (bxN D r n s)))), (5, .int (nI (s + 1)))]) (S1 := []) (p2 := 195) (L2 := [(0, .ref 92), (1, .int (nI r)), (2, .int (nI w)), (3, .int (nI (bxN D r n s))), (4, .int (nI (pcN 12 (bxN D r n s)))), (5, .int (nI (s + 1)))]) (S2 := []) rfl (fun c_187 => ?_) (fun c_187 => ?_)
      · have k_187 : w = 0 := (nI_eq (a := w) (b := 0) (by omega) (by omega)).mp c_187
        refine wq_run2 (pc' := 196) (L' := [(0, .ref 92), (1, .int (nI r)), (2, .int (nI w)), (3, .int (nI (bxN D r n s))), (4, .int (nI (pcN 12 (bxN D r n s)))), (5, .int (nI (s + 1)))]) (S' := [.int (nI (pcN 12 (bxN D r n s)))]) (f' := f) rfl ?_
        have e : s = 2 ^ n - 1 := by omega
        exact wq_ret rfl (Ret.of (by rw [if_pos k_187, ← e]) rfl)
      · have k_187 : ¬ w = 0 := fun q => c_187 ((nI_eq (a := w) (b := 0) (by omega) (by omega)).mpr q)
        refine wq_run1 (pc' := 196) (L' := [(0, .ref 92), (1, .int (nI r)), (2, .int (nI w)), (3, .int (nI (bxN D r n s))), (4, .int (nI (pcN 12 (bxN D r n s)))), (5, .int (nI (s + 1)))]) (S' := [.int (nI (bxN D r n s))]) (f' := f) rfl ?_
        have e : s = 2 ^ n - 1 := by omega
        exact wq_ret rfl (Ret.of (by rw [if_neg k_187, ← e]) rfl)
    · have k_51 : ¬ (2 ^ n) ≤ (s + 1) := fun q => c_51 ((nI_leI (a := (2 ^ n)) (b := (s + 1)) (by omega) (by omega)).mpr q)
      refine wq_run6 (pc' := 63) (L' := [(0, .ref 92), (1, .int (nI r)), (2, .int (nI w)), (3, .int (nI (bxN D r n s))), (4, .int (nI (pcN 12 (bxN D r n s)))), (5, .int (nI (s + 1))), (6, .int 0), (7, .int 0), (8, .int 0)]) (S' := []) (f' := f) rfl ?_
      exact mlp_bxA hn12 hr2 hw h53 hk hr (s := s) (by omega) (ih (s + 1) (by omega) (by omega)) (n - 0 + 1) 0 (Nat.zero_le _) (Nat.lt_succ_self _)
theorem mp_boxes {f : HI} {n r w : Nat} {D : Nat → Nat → Nat} (hn12 : n ≤ 12) (hr2 : r ≤ 200) (hw : w = 0 ∨ w = 1) (h53 : f 92 53 = nI n) (hk : ∀ p q, p < n → q < n → D p q ≤ 268435456) (hr : ∀ p q, p < n → q < n → f 129 (12 * p + q) = nI (D p q)) : Sp 2 195 [.ref 92, .int (nI r), .int (nI w)] f (Ret (if w = 0 then nI (pcN 12 (bxN D r n (2 ^ n - 1))) else nI (bxN D r n (2 ^ n - 1))) f) := by
  show wq 2 195 (Ret (if w = 0 then nI (pcN 12 (bxN D r n (2 ^ n - 1))) else nI (bxN D r n (2 ^ n - 1))) f) 0 [(0, .ref 92), (1, .int (nI r)), (2, .int (nI w))] [] f
  have hp0 := p0 n
  have hr200 : inR (nI r) 0 200 := ⟨nI_pos' (by omega), (nI_leI (a := r) (b := 200) (by omega) (by omega)).mpr hr2⟩
  have hw01 : inR (nI w) 0 1 := ⟨nI_pos' (by omega), (nI_leI (a := w) (b := 1) (by omega) (by omega)).mpr (by omega)⟩
  refine wq_run4 (pc' := 6) (L' := [(0, .ref 92), (1, .int (nI r)), (2, .int (nI w))]) (S' := [.long 200, .long 0, .long (nI r).toInt64]) (f' := f) rfl ?_
  refine wq_callI (r := (b2i (inR (nI r) 0 200))) (mp_in f (nI r) 0 200) (Nat.le_of_ble_eq_true rfl) (pc' := 9) (L' := [(0, .ref 92), (1, .int (nI r)), (2, .int (nI w))]) (S' := []) rfl (Nat.le_of_ble_eq_true rfl) rfl rfl (Nat.le_of_ble_eq_true rfl) (Nat.le_of_ble_eq_true rfl) ?_
  refine wq_if (c := (b2i (inR (nI r) 0 200)) = 0) (p1 := 22) (L1 := [(0, .ref 92), (1, .int (nI r)), (2, .int (nI w))]) (S1 := []) (p2 := 12) (L2 := [(0, .ref 92), (1, .int (nI r)), (2, .int (nI w))]) (S2 := []) rfl (fun q => absurd q (b2i_n0.mpr hr200)) (fun _ => ?_)
  refine wq_run4 (pc' := 16) (L' := [(0, .ref 92), (1, .int (nI r)), (2, .int (nI w))]) (S' := [.long 1, .long 0, .long (nI w).toInt64]) (f' := f) rfl ?_
  refine wq_callI (r := (b2i (inR (nI w) 0 1))) (mp_in f (nI w) 0 1) (Nat.le_of_ble_eq_true rfl) (pc' := 19) (L' := [(0, .ref 92), (1, .int (nI r)), (2, .int (nI w))]) (S' := []) rfl (Nat.le_of_ble_eq_true rfl) rfl rfl (Nat.le_of_ble_eq_true rfl) (Nat.le_of_ble_eq_true rfl) ?_
  refine wq_if (c := (b2i (inR (nI w) 0 1)) = 0) (p1 := 22) (L1 := [(0, .ref 92), (1, .int (nI r)), (2, .int (nI w))]) (S1 := []) (p2 := 25) (L2 := [(0, .ref 92), (1, .int (nI r)), (2, .int (nI w))]) (S2 := []) rfl (fun q => absurd q (b2i_n0.mpr hw01)) (fun _ => ?_)
  refine wq_run3 (pc' := 30) (L' := [(0, .ref 92), (1, .int (nI r)), (2, .int (nI w))]) (S' := [.int (f 92 53), .int 1]) (f' := f) rfl ?_
  refine wq_v (y := (nI n)) (h53) ?_
  refine wq_run1 (pc' := 31) (L' := [(0, .ref 92), (1, .int (nI r)), (2, .int (nI w))]) (S' := [.int ((1 : Int32) <<< ((nI n) &&& 31))]) (f' := f) rfl ?_
  refine wq_v (y := (nI (2 ^ n))) (shl1 (n := n) (by omega)) ?_
  refine wq_run2 (pc' := 33) (L' := [(0, .ref 92), (1, .int (nI r)), (2, .int (nI w))]) (S' := [.int ((nI (2 ^ n)) - 1)]) (f' := f) rfl ?_
  refine wq_v (y := (nI ((2 ^ n) - 1))) (pk_sub (a := (2 ^ n)) (b := 1) (by omega)) ?_
  refine wq_run3 (pc' := 38) (L' := [(0, .ref 92), (1, .int (nI r)), (2, .int (nI w)), (3, .int (nI ((2 ^ n) - 1)))]) (S' := [.int (f 92 53)]) (f' := f) rfl ?_
  refine wq_v (y := (nI n)) (h53) ?_
  refine wq_run3 (pc' := 43) (L' := [(0, .ref 92), (1, .int (nI r)), (2, .int (nI w)), (3, .int (nI ((2 ^ n) - 1))), (4, .int (nI n)), (5, .int 1)]) (S' := []) (f' := f) rfl ?_
  have h9 := mlp_bxS hn12 hr2 hw h53 hk hr (2 ^ n - 0 + 1) 0 (by omega) (by omega)
  rw [show pcN 12 (bxN D r n 0) = n from pc_all n (by omega)] at h9
  exact h9
