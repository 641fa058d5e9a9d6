/-! the text of the reference: words, numbers, clauses, faults -/
theorem wdM_0 : ∀ i, i < 2 → (96 + (((500 : Int32) >>> ((nI (5 * i)) &&& 31)) &&& 31)) = wc 0 i := by decide +kernel
theorem mlp_word0 {f : HI} {T : Nat → Int32} {n : Nat} (hn1 : n ≤ 160) (hT : ∀ j, j < n → f 100 j = T j) {a s e : Nat} (hx : TY (f 92) n a s e) (hse : s ≤ e) (hen : e ≤ n) : ∀ (m9 : Nat) (i : Nat) (z : Int32), (i ≤ 2) → (z = 0 ∨ z = 1) → (z = 1 → e = s + 2 ∧ ∀ j, j < i → T (s + j) = wc 0 j) → (z = 0 → ¬ WdP T 0 s e) → 2 - i < m9 → wq 1 147 (Ret (wdI T 0 s e) f) 22 [(0, .ref 92), (1, .int 500), (2, .int (nI 2)), (3, .int z), (4, .int (nI i))] [] f := by
  intro m9
  induction m9 with
  | zero => intro i z hi hz h9 h0 hn; exact absurd hn (Nat.not_lt_zero _)
  | succ m9 ih =>
    intro i z hi hz h9 h0 hn
    refine wq_run1 (pc' := 23) (L' := [(0, .ref 92), (1, .int 500), (2, .int (nI 2)), (3, .int z), (4, .int (nI i))]) (S' := [.int z]) (f' := f) rfl ?_
    refine wq_if (c := z = 0) (p1 := 71) (L1 := [(0, .ref 92), (1, .int 500), (2, .int (nI 2)), (3, .int z), (4, .int (nI i))]) (S1 := []) (p2 := 26) (L2 := [(0, .ref 92), (1, .int 500), (2, .int (nI 2)), (3, .int z), (4, .int (nI i))]) (S2 := []) rfl (fun c_23 => ?_) (fun c_23 => ?_)
    · refine wq_run1 (pc' := 72) (L' := [(0, .ref 92), (1, .int 500), (2, .int (nI 2)), (3, .int z), (4, .int (nI i))]) (S' := [.int z]) (f' := f) rfl ?_
      exact wq_retZ rfl hz (Ret.of (by rw [c_23, wdI_n (h0 c_23)]) rfl)
    · refine wq_run2 (pc' := 29) (L' := [(0, .ref 92), (1, .int 500), (2, .int (nI 2)), (3, .int z), (4, .int (nI i))]) (S' := [.int (nI 2), .int (nI i)]) (f' := f) rfl ?_
      refine wq_if (c := (nI 2) ≤ (nI i)) (p1 := 71) (L1 := [(0, .ref 92), (1, .int 500), (2, .int (nI 2)), (3, .int z), (4, .int (nI i))]) (S1 := []) (p2 := 32) (L2 := [(0, .ref 92), (1, .int 500), (2, .int (nI 2)), (3, .int z), (4, .int (nI i))]) (S2 := []) rfl (fun c_29 => ?_) (fun c_29 => ?_)
      · have k_29 : 2 ≤ i := (nI_leI (a := 2) (b := i) (by omega) (by omega)).mp c_29
        refine wq_run1 (pc' := 72) (L' := [(0, .ref 92), (1, .int 500), (2, .int (nI 2)), (3, .int z), (4, .int (nI i))]) (S' := [.int z]) (f' := f) rfl ?_
        have h1 := hz.resolve_left c_23
        exact wq_retZ rfl hz (Ret.of (by rw [h1, wdI_y ⟨(h9 h1).1, fun j hj => (h9 h1).2 j (Nat.lt_of_lt_of_le hj k_29)⟩]) rfl)
      · have k_29 : ¬ 2 ≤ i := fun q => c_29 ((nI_leI (a := 2) (b := i) (by omega) (by omega)).mpr q)
        have h1 := hz.resolve_left c_23
        have hi5 : i < 2 := by omega
        have hem := (h9 h1).1
        refine wq_run4 (pc' := 40) (L' := [(0, .ref 92), (1, .int 500), (2, .int (nI 2)), (3, .int z), (4, .int (nI i))]) (S' := [.int (f 92 66), .ref 100]) (f' := f) rfl ?_
        refine wq_v (y := (nI s)) (hx.2.2.1) ?_
        refine wq_run2 (pc' := 43) (L' := [(0, .ref 92), (1, .int 500), (2, .int (nI 2)), (3, .int z), (4, .int (nI i))]) (S' := [.int ((nI s) + (nI i)), .ref 100]) (f' := f) rfl ?_
        refine wq_v (y := (nI (s + i))) (nI_add s i) ?_
        refine wq_ald (j := (s + i)) (n := 160) (v := (T (s + i))) rfl rfl rfl rfl (by omega) (Nat.le_of_ble_eq_true rfl) (hT (s + i) (by omega)) ?_
        refine wq_run5 (pc' := 51) (L' := [(0, .ref 92), (1, .int 500), (2, .int (nI 2)), (3, .int z), (4, .int (nI i))]) (S' := [.int (5 * (nI i)), .int 500, .int 96, .int (T (s + i))]) (f' := f) rfl ?_
        refine wq_v (y := (nI (5 * i))) (pk_mul 5 i) ?_
        refine wq_run4 (pc' := 56) (L' := [(0, .ref 92), (1, .int 500), (2, .int (nI 2)), (3, .int z), (4, .int (nI i))]) (S' := [.int (96 + (((500 : Int32) >>> ((nI (5 * i)) &&& 31)) &&& 31)), .int (T (s + i))]) (f' := f) rfl ?_
        refine wq_if (c := (T (s + i)) = (96 + (((500 : Int32) >>> ((nI (5 * i)) &&& 31)) &&& 31))) (p1 := 59) (L1 := [(0, .ref 92), (1, .int 500), (2, .int (nI 2)), (3, .int z), (4, .int (nI i))]) (S1 := []) (p2 := 63) (L2 := [(0, .ref 92), (1, .int 500), (2, .int (nI 2)), (3, .int z), (4, .int (nI i))]) (S2 := []) rfl (fun c_56 => ?_) (fun c_56 => ?_)
        · refine wq_run4 (pc' := 68) (L' := [(0, .ref 92), (1, .int 500), (2, .int (nI 2)), (3, .int 1), (4, .int ((nI i) + 1))]) (S' := []) (f' := f) rfl ?_
          refine wq_L (L' := [(0, .ref 92), (1, .int 500), (2, .int (nI 2)), (3, .int 1), (4, .int (nI (i + 1)))]) (by rw [show nI i + 1 = nI (i + 1) from nI_add _ _]) ?_
          refine wq_run1 (pc' := 22) (L' := [(0, .ref 92), (1, .int 500), (2, .int (nI 2)), (3, .int 1), (4, .int (nI (i + 1)))]) (S' := []) (f' := f) rfl ?_
          exact ih (i + 1) 1 (by omega) (Or.inr rfl) (fun _ => ⟨(h9 h1).1, fun j hj => by
            rcases Nat.lt_or_ge j i with q | q
            · exact (h9 h1).2 j q
            · have e1 : j = i := by omega
              rw [e1, c_56]; exact wdM_0 i hi5⟩) (fun q => absurd q (by decide)) (by omega)
        · refine wq_run3 (pc' := 68) (L' := [(0, .ref 92), (1, .int 500), (2, .int (nI 2)), (3, .int 0), (4, .int ((nI i) + 1))]) (S' := []) (f' := f) rfl ?_
          refine wq_L (L' := [(0, .ref 92), (1, .int 500), (2, .int (nI 2)), (3, .int 0), (4, .int (nI (i + 1)))]) (by rw [show nI i + 1 = nI (i + 1) from nI_add _ _]) ?_
          refine wq_run1 (pc' := 22) (L' := [(0, .ref 92), (1, .int 500), (2, .int (nI 2)), (3, .int 0), (4, .int (nI (i + 1)))]) (S' := []) (f' := f) rfl ?_
          exact ih (i + 1) 0 (by omega) (Or.inl rfl) (fun q => absurd q (by decide)) (fun _ q => c_56 ((q.2 i hi5).trans (wdM_0 i hi5).symm)) (by omega)
theorem mp_word0 {f : HI} {T : Nat → Int32} {n : Nat} (hn1 : n ≤ 160) (hT : ∀ j, j < n → f 100 j = T j) {a s e : Nat} (hx : TY (f 92) n a s e) (hse : s ≤ e) (hen : e ≤ n) : Sp 1 147 [.ref 92, .int 500, .int 2] f (Ret (wdI T 0 s e) f) := by
  show wq 1 147 (Ret (wdI T 0 s e) f) 0 [(0, .ref 92), (1, .int 500), (2, .int (nI 2))] [] f
  refine wq_run2 (pc' := 4) (L' := [(0, .ref 92), (1, .int 500), (2, .int (nI 2))]) (S' := [.int (f 92 67)]) (f' := f) rfl ?_
  refine wq_v (y := (nI e)) (hx.2.2.2) ?_
  refine wq_run2 (pc' := 8) (L' := [(0, .ref 92), (1, .int 500), (2, .int (nI 2))]) (S' := [.int (f 92 66), .int (nI e)]) (f' := f) rfl ?_
  refine wq_v (y := (nI s)) (hx.2.2.1) ?_
  refine wq_run1 (pc' := 9) (L' := [(0, .ref 92), (1, .int 500), (2, .int (nI 2))]) (S' := [.int ((nI e) - (nI s))]) (f' := f) rfl ?_
  refine wq_v (y := (nI (e - s))) (pk_sub (a := e) (b := s) (by omega)) ?_
  refine wq_run1 (pc' := 10) (L' := [(0, .ref 92), (1, .int 500), (2, .int (nI 2))]) (S' := [.int (nI 2), .int (nI (e - s))]) (f' := f) rfl ?_
  refine wq_if (c := (nI (e - s)) = (nI 2)) (p1 := 13) (L1 := [(0, .ref 92), (1, .int 500), (2, .int (nI 2))]) (S1 := []) (p2 := 17) (L2 := [(0, .ref 92), (1, .int 500), (2, .int (nI 2))]) (S2 := []) rfl (fun c_10 => ?_) (fun c_10 => ?_)
  · have k_10 : (e - s) = 2 := (nI_eq (a := (e - s)) (b := 2) (by omega) (by omega)).mp c_10
    refine wq_run5 (pc' := 22) (L' := [(0, .ref 92), (1, .int 500), (2, .int (nI 2)), (3, .int 1), (4, .int 0)]) (S' := []) (f' := f) rfl ?_
    exact mlp_word0 hn1 hT hx hse hen (2 - 0 + 1) 0 1 (Nat.zero_le _) (Or.inr rfl) (fun _ => ⟨by omega, fun _ h => absurd h (Nat.not_lt_zero _)⟩) (fun q => absurd q (by decide)) (Nat.lt_succ_self _)
  · have k_10 : ¬ (e - s) = 2 := fun q => c_10 ((nI_eq (a := (e - s)) (b := 2) (by omega) (by omega)).mpr q)
    refine wq_run4 (pc' := 22) (L' := [(0, .ref 92), (1, .int 500), (2, .int (nI 2)), (3, .int 0), (4, .int 0)]) (S' := []) (f' := f) rfl ?_
    exact mlp_word0 hn1 hT hx hse hen (2 - 0 + 1) 0 0 (Nat.zero_le _) (Or.inl rfl) (fun q => absurd q (by decide)) (fun _ q => k_10 (by have h := q.1; have h2 : strN.getD 0 0 = 2 := rfl; omega)) (Nat.lt_succ_self _)
theorem wdM_1 : ∀ i, i < 4 → (96 + (((595663 : Int32) >>> ((nI (5 * i)) &&& 31)) &&& 31)) = wc 1 i := by decide +kernel
theorem mlp_word1 {f : HI} {T : Nat → Int32} {n : Nat} (hn1 : n ≤ 160) (hT : ∀ j, j < n → f 100 j = T j) {a s e : Nat} (hx : TY (f 92) n a s e) (hse : s ≤ e) (hen : e ≤ n) : ∀ (m9 : Nat) (i : Nat) (z : Int32), (i ≤ 4) → (z = 0 ∨ z = 1) → (z = 1 → e = s + 4 ∧ ∀ j, j < i → T (s + j) = wc 1 j) → (z = 0 → ¬ WdP T 1 s e) → 4 - i < m9 → wq 1 147 (Ret (wdI T 1 s e) f) 22 [(0, .ref 92), (1, .int 595663), (2, .int (nI 4)), (3, .int z), (4, .int (nI i))] [] f := by
  intro m9
  induction m9 with
  | zero => intro i z hi hz h9 h0 hn; exact absurd hn (Nat.not_lt_zero _)
  | succ m9 ih =>
    intro i z hi hz h9 h0 hn
    refine wq_run1 (pc' := 23) (L' := [(0, .ref 92), (1, .int 595663), (2, .int (nI 4)), (3, .int z), (4, .int (nI i))]) (S' := [.int z]) (f' := f) rfl ?_
    refine wq_if (c := z = 0) (p1 := 71) (L1 := [(0, .ref 92), (1, .int 595663), (2, .int (nI 4)), (3, .int z), (4, .int (nI i))]) (S1 := []) (p2 := 26) (L2 := [(0, .ref 92), (1, .int 595663), (2, .int (nI 4)), (3, .int z), (4, .int (nI i))]) (S2 := []) rfl (fun c_23 => ?_) (fun c_23 => ?_)
    · refine wq_run1 (pc' := 72) (L' := [(0, .ref 92), (1, .int 595663), (2, .int (nI 4)), (3, .int z), (4, .int (nI i))]) (S' := [.int z]) (f' := f) rfl ?_
      exact wq_retZ rfl hz (Ret.of (by rw [c_23, wdI_n (h0 c_23)]) rfl)
    · refine wq_run2 (pc' := 29) (L' := [(0, .ref 92), (1, .int 595663), (2, .int (nI 4)), (3, .int z), (4, .int (nI i))]) (S' := [.int (nI 4), .int (nI i)]) (f' := f) rfl ?_
      refine wq_if (c := (nI 4) ≤ (nI i)) (p1 := 71) (L1 := [(0, .ref 92), (1, .int 595663), (2, .int (nI 4)), (3, .int z), (4, .int (nI i))]) (S1 := []) (p2 := 32) (L2 := [(0, .ref 92), (1, .int 595663), (2, .int (nI 4)), (3, .int z), (4, .int (nI i))]) (S2 := []) rfl (fun c_29 => ?_) (fun c_29 => ?_)
      · have k_29 : 4 ≤ i := (nI_leI (a := 4) (b := i) (by omega) (by omega)).mp c_29
        refine wq_run1 (pc' := 72) (L' := [(0, .ref 92), (1, .int 595663), (2, .int (nI 4)), (3, .int z), (4, .int (nI i))]) (S' := [.int z]) (f' := f) rfl ?_
        have h1 := hz.resolve_left c_23
        exact wq_retZ rfl hz (Ret.of (by rw [h1, wdI_y ⟨(h9 h1).1, fun j hj => (h9 h1).2 j (Nat.lt_of_lt_of_le hj k_29)⟩]) rfl)
      · have k_29 : ¬ 4 ≤ i := fun q => c_29 ((nI_leI (a := 4) (b := i) (by omega) (by omega)).mpr q)
        have h1 := hz.resolve_left c_23
        have hi5 : i < 4 := by omega
        have hem := (h9 h1).1
        refine wq_run4 (pc' := 40) (L' := [(0, .ref 92), (1, .int 595663), (2, .int (nI 4)), (3, .int z), (4, .int (nI i))]) (S' := [.int (f 92 66), .ref 100]) (f' := f) rfl ?_
        refine wq_v (y := (nI s)) (hx.2.2.1) ?_
        refine wq_run2 (pc' := 43) (L' := [(0, .ref 92), (1, .int 595663), (2, .int (nI 4)), (3, .int z), (4, .int (nI i))]) (S' := [.int ((nI s) + (nI i)), .ref 100]) (f' := f) rfl ?_
        refine wq_v (y := (nI (s + i))) (nI_add s i) ?_
        refine wq_ald (j := (s + i)) (n := 160) (v := (T (s + i))) rfl rfl rfl rfl (by omega) (Nat.le_of_ble_eq_true rfl) (hT (s + i) (by omega)) ?_
        refine wq_run5 (pc' := 51) (L' := [(0, .ref 92), (1, .int 595663), (2, .int (nI 4)), (3, .int z), (4, .int (nI i))]) (S' := [.int (5 * (nI i)), .int 595663, .int 96, .int (T (s + i))]) (f' := f) rfl ?_
        refine wq_v (y := (nI (5 * i))) (pk_mul 5 i) ?_
        refine wq_run4 (pc' := 56) (L' := [(0, .ref 92), (1, .int 595663), (2, .int (nI 4)), (3, .int z), (4, .int (nI i))]) (S' := [.int (96 + (((595663 : Int32) >>> ((nI (5 * i)) &&& 31)) &&& 31)), .int (T (s + i))]) (f' := f) rfl ?_
        refine wq_if (c := (T (s + i)) = (96 + (((595663 : Int32) >>> ((nI (5 * i)) &&& 31)) &&& 31))) (p1 := 59) (L1 := [(0, .ref 92), (1, .int 595663), (2, .int (nI 4)), (3, .int z), (4, .int (nI i))]) (S1 := []) (p2 := 63) (L2 := [(0, .ref 92), (1, .int 595663), (2, .int (nI 4)), (3, .int z), (4, .int (nI i))]) (S2 := []) rfl (fun c_56 => ?_) (fun c_56 => ?_)
        · refine wq_run4 (pc' := 68) (L' := [(0, .ref 92), (1, .int 595663), (2, .int (nI 4)), (3, .int 1), (4, .int ((nI i) + 1))]) (S' := []) (f' := f) rfl ?_
          refine wq_L (L' := [(0, .ref 92), (1, .int 595663), (2, .int (nI 4)), (3, .int 1), (4, .int (nI (i + 1)))]) (by rw [show nI i + 1 = nI (i + 1) from nI_add _ _]) ?_
          refine wq_run1 (pc' := 22) (L' := [(0, .ref 92), (1, .int 595663), (2, .int (nI 4)), (3, .int 1), (4, .int (nI (i + 1)))]) (S' := []) (f' := f) rfl ?_
          exact ih (i + 1) 1 (by omega) (Or.inr rfl) (fun _ => ⟨(h9 h1).1, fun j hj => by
            rcases Nat.lt_or_ge j i with q | q
            · exact (h9 h1).2 j q
            · have e1 : j = i := by omega
              rw [e1, c_56]; exact wdM_1 i hi5⟩) (fun q => absurd q (by decide)) (by omega)
        · refine wq_run3 (pc' := 68) (L' := [(0, .ref 92), (1, .int 595663), (2, .int (nI 4)), (3, .int 0), (4, .int ((nI i) + 1))]) (S' := []) (f' := f) rfl ?_
          refine wq_L (L' := [(0, .ref 92), (1, .int 595663), (2, .int (nI 4)), (3, .int 0), (4, .int (nI (i + 1)))]) (by rw [show nI i + 1 = nI (i + 1) from nI_add _ _]) ?_
          refine wq_run1 (pc' := 22) (L' := [(0, .ref 92), (1, .int 595663), (2, .int (nI 4)), (3, .int 0), (4, .int (nI (i + 1)))]) (S' := []) (f' := f) rfl ?_
          exact ih (i + 1) 0 (by omega) (Or.inl rfl) (fun q => absurd q (by decide)) (fun _ q => c_56 ((q.2 i hi5).trans (wdM_1 i hi5).symm)) (by omega)
theorem mp_word1 {f : HI} {T : Nat → Int32} {n : Nat} (hn1 : n ≤ 160) (hT : ∀ j, j < n → f 100 j = T j) {a s e : Nat} (hx : TY (f 92) n a s e) (hse : s ≤ e) (hen : e ≤ n) : Sp 1 147 [.ref 92, .int 595663, .int 4] f (Ret (wdI T 1 s e) f) := by
  show wq 1 147 (Ret (wdI T 1 s e) f) 0 [(0, .ref 92), (1, .int 595663), (2, .int (nI 4))] [] f
  refine wq_run2 (pc' := 4) (L' := [(0, .ref 92), (1, .int 595663), (2, .int (nI 4))]) (S' := [.int (f 92 67)]) (f' := f) rfl ?_
  refine wq_v (y := (nI e)) (hx.2.2.2) ?_
  refine wq_run2 (pc' := 8) (L' := [(0, .ref 92), (1, .int 595663), (2, .int (nI 4))]) (S' := [.int (f 92 66), .int (nI e)]) (f' := f) rfl ?_
  refine wq_v (y := (nI s)) (hx.2.2.1) ?_
  refine wq_run1 (pc' := 9) (L' := [(0, .ref 92), (1, .int 595663), (2, .int (nI 4))]) (S' := [.int ((nI e) - (nI s))]) (f' := f) rfl ?_
  refine wq_v (y := (nI (e - s))) (pk_sub (a := e) (b := s) (by omega)) ?_
  refine wq_run1 (pc' := 10) (L' := [(0, .ref 92), (1, .int 595663), (2, .int (nI 4))]) (S' := [.int (nI 4), .int (nI (e - s))]) (f' := f) rfl ?_
  refine wq_if (c := (nI (e - s)) = (nI 4)) (p1 := 13) (L1 := [(0, .ref 92), (1, .int 595663), (2, .int (nI 4))]) (S1 := []) (p2 := 17) (L2 := [(0, .ref 92), (1, .int 595663), (2, .int (nI 4))]) (S2 := []) rfl (fun c_10 => ?_) (fun c_10 => ?_)
  · have k_10 : (e - s) = 4 := (nI_eq (a := (e - s)) (b := 4) (by omega) (by omega)).mp c_10
    refine wq_run5 (pc' := 22) (L' := [(0, .ref 92), (1, .int 595663), (2, .int (nI 4)), (3, .int 1), (4, .int 0)]) (S' := []) (f' := f) rfl ?_
    exact mlp_word1 hn1 hT hx hse hen (4 - 0 + 1) 0 1 (Nat.zero_le _) (Or.inr rfl) (fun _ => ⟨by omega, fun _ h => absurd h (Nat.not_lt_zero _)⟩) (fun q => absurd q (by decide)) (Nat.lt_succ_self _)
  · have k_10 : ¬ (e - s) = 4 := fun q => c_10 ((nI_eq (a := (e - s)) (b := 4) (by omega) (by omega)).mpr q)
    refine wq_run4 (pc' := 22) (L' := [(0, .ref 92), (1, .int 595663), (2, .int (nI 4)), (3, .int 0), (4, .int 0)]) (S' := []) (f' := f) rfl ?_
    exact mlp_word1 hn1 hT hx hse hen (4 - 0 + 1) 0 0 (Nat.zero_le _) (Or.inl rfl) (fun q => absurd q (by decide)) (fun _ q => k_10 (by have h := q.1; have h2 : strN.getD 1 0 = 4 := rfl; omega)) (Nat.lt_succ_self _)
theorem wdM_2 : ∀ i, i < 5 → (96 + (((8627383 : Int32) >>> ((nI (5 * i)) &&& 31)) &&& 31)) = wc 2 i := by decide +kernel
theorem mlp_word2 {f : HI} {T : Nat → Int32} {n : Nat} (hn1 : n ≤ 160) (hT : ∀ j, j < n → f 100 j = T j) {a s e : Nat} (hx : TY (f 92) n a s e) (hse : s ≤ e) (hen : e ≤ n) : ∀ (m9 : Nat) (i : Nat) (z : Int32), (i ≤ 5) → (z = 0 ∨ z = 1) → (z = 1 → e = s + 5 ∧ ∀ j, j < i → T (s + j) = wc 2 j) → (z = 0 → ¬ WdP T 2 s e) → 5 - i < m9 → wq 1 147 (Ret (wdI T 2 s e) f) 22 [(0, .ref 92), (1, .int 8627383), (2, .int (nI 5)), (3, .int z), (4, .int (nI i))] [] f := by
  intro m9
  induction m9 with
  | zero => intro i z hi hz h9 h0 hn; exact absurd hn (Nat.not_lt_zero _)
  | succ m9 ih =>
    intro i z hi hz h9 h0 hn
    refine wq_run1 (pc' := 23) (L' := [(0, .ref 92), (1, .int 8627383), (2, .int (nI 5)), (3, .int z), (4, .int (nI i))]) (S' := [.int z]) (f' := f) rfl ?_
    refine wq_if (c := z = 0) (p1 := 71) (L1 := [(0, .ref 92), (1, .int 8627383), (2, .int (nI 5)), (3, .int z), (4, .int (nI i))]) (S1 := []) (p2 := 26) (L2 := [(0, .ref 92), (1, .int 8627383), (2, .int (nI 5)), (3, .int z), (4, .int (nI i))]) (S2 := []) rfl (fun c_23 => ?_) (fun c_23 => ?_)
    · refine wq_run1 (pc' := 72) (L' := [(0, .ref 92), (1, .int 8627383), (2, .int (nI 5)), (3, .int z), (4, .int (nI i))]) (S' := [.int z]) (f' := f) rfl ?_
      exact wq_retZ rfl hz (Ret.of (by rw [c_23, wdI_n (h0 c_23)]) rfl)
    · refine wq_run2 (pc' := 29) (L' := [(0, .ref 92), (1, .int 8627383), (2, .int (nI 5)), (3, .int z), (4, .int (nI i))]) (S' := [.int (nI 5), .int (nI i)]) (f' := f) rfl ?_
      refine wq_if (c := (nI 5) ≤ (nI i)) (p1 := 71) (L1 := [(0, .ref 92), (1, .int 8627383), (2, .int (nI 5)), (3, .int z), (4, .int (nI i))]) (S1 := []) (p2 := 32) (L2 := [(0, .ref 92), (1, .int 8627383), (2, .int (nI 5)), (3, .int z), (4, .int (nI i))]) (S2 := []) rfl (fun c_29 => ?_) (fun c_29 => ?_)
      · have k_29 : 5 ≤ i := (nI_leI (a := 5) (b := i) (by omega) (by omega)).mp c_29
        refine wq_run1 (pc' := 72) (L' := [(0, .ref 92), (1, .int 8627383), (2, .int (nI 5)), (3, .int z), (4, .int (nI i))]) (S' := [.int z]) (f' := f) rfl ?_
        have h1 := hz.resolve_left c_23
        exact wq_retZ rfl hz (Ret.of (by rw [h1, wdI_y ⟨(h9 h1).1, fun j hj => (h9 h1).2 j (Nat.lt_of_lt_of_le hj k_29)⟩]) rfl)
      · have k_29 : ¬ 5 ≤ i := fun q => c_29 ((nI_leI (a := 5) (b := i) (by omega) (by omega)).mpr q)
        have h1 := hz.resolve_left c_23
        have hi5 : i < 5 := by omega
        have hem := (h9 h1).1
        refine wq_run4 (pc' := 40) (L' := [(0, .ref 92), (1, .int 8627383), (2, .int (nI 5)), (3, .int z), (4, .int (nI i))]) (S' := [.int (f 92 66), .ref 100]) (f' := f) rfl ?_
        refine wq_v (y := (nI s)) (hx.2.2.1) ?_
        refine wq_run2 (pc' := 43) (L' := [(0, .ref 92), (1, .int 8627383), (2, .int (nI 5)), (3, .int z), (4, .int (nI i))]) (S' := [.int ((nI s) + (nI i)), .ref 100]) (f' := f) rfl ?_
        refine wq_v (y := (nI (s + i))) (nI_add s i) ?_
        refine wq_ald (j := (s + i)) (n := 160) (v := (T (s + i))) rfl rfl rfl rfl (by omega) (Nat.le_of_ble_eq_true rfl) (hT (s + i) (by omega)) ?_
        refine wq_run5 (pc' := 51) (L' := [(0, .ref 92), (1, .int 8627383), (2, .int (nI 5)), (3, .int z), (4, .int (nI i))]) (S' := [.int (5 * (nI i)), .int 8627383, .int 96, .int (T (s + i))]) (f' := f) rfl ?_
        refine wq_v (y := (nI (5 * i))) (pk_mul 5 i) ?_
        refine wq_run4 (pc' := 56) (L' := [(0, .ref 92), (1, .int 8627383), (2, .int (nI 5)), (3, .int z), (4, .int (nI i))]) (S' := [.int (96 + (((8627383 : Int32) >>> ((nI (5 * i)) &&& 31)) &&& 31)), .int (T (s + i))]) (f' := f) rfl ?_
        refine wq_if (c := (T (s + i)) = (96 + (((8627383 : Int32) >>> ((nI (5 * i)) &&& 31)) &&& 31))) (p1 := 59) (L1 := [(0, .ref 92), (1, .int 8627383), (2, .int (nI 5)), (3, .int z), (4, .int (nI i))]) (S1 := []) (p2 := 63) (L2 := [(0, .ref 92), (1, .int 8627383), (2, .int (nI 5)), (3, .int z), (4, .int (nI i))]) (S2 := []) rfl (fun c_56 => ?_) (fun c_56 => ?_)
        · refine wq_run4 (pc' := 68) (L' := [(0, .ref 92), (1, .int 8627383), (2, .int (nI 5)), (3, .int 1), (4, .int ((nI i) + 1))]) (S' := []) (f' := f) rfl ?_
          refine wq_L (L' := [(0, .ref 92), (1, .int 8627383), (2, .int (nI 5)), (3, .int 1), (4, .int (nI (i + 1)))]) (by rw [show nI i + 1 = nI (i + 1) from nI_add _ _]) ?_
          refine wq_run1 (pc' := 22) (L' := [(0, .ref 92), (1, .int 8627383), (2, .int (nI 5)), (3, .int 1), (4, .int (nI (i + 1)))]) (S' := []) (f' := f) rfl ?_
          exact ih (i + 1) 1 (by omega) (Or.inr rfl) (fun _ => ⟨(h9 h1).1, fun j hj => by
            rcases Nat.lt_or_ge j i with q | q
            · exact (h9 h1).2 j q
            · have e1 : j = i := by omega
              rw [e1, c_56]; exact wdM_2 i hi5⟩) (fun q => absurd q (by decide)) (by omega)
        · refine wq_run3 (pc' := 68) (L' := [(0, .ref 92), (1, .int 8627383), (2, .int (nI 5)), (3, .int 0), (4, .int ((nI i) + 1))]) (S' := []) (f' := f) rfl ?_
          refine wq_L (L' := [(0, .ref 92), (1, .int 8627383), (2, .int (nI 5)), (3, .int 0), (4, .int (nI (i + 1)))]) (by rw [show nI i + 1 = nI (i + 1) from nI_add _ _]) ?_
          refine wq_run1 (pc' := 22) (L' := [(0, .ref 92), (1, .int 8627383), (2, .int (nI 5)), (3, .int 0), (4, .int (nI (i + 1)))]) (S' := []) (f' := f) rfl ?_
          exact ih (i + 1) 0 (by omega) (Or.inl rfl) (fun q => absurd q (by decide)) (fun _ q => c_56 ((q.2 i hi5).trans (wdM_2 i hi5).symm)) (by omega)
theorem mp_word2 {f : HI} {T : Nat → Int32} {n : Nat} (hn1 : n ≤ 160) (hT : ∀ j, j < n → f 100 j = T j) {a s e : Nat} (hx : TY (f 92) n a s e) (hse : s ≤ e) (hen : e ≤ n) : Sp 1 147 [.ref 92, .int 8627383, .int 5] f (Ret (wdI T 2 s e) f) := by
  show wq 1 147 (Ret (wdI T 2 s e) f) 0 [(0, .ref 92), (1, .int 8627383), (2, .int (nI 5))] [] f
  refine wq_run2 (pc' := 4) (L' := [(0, .ref 92), (1, .int 8627383), (2, .int (nI 5))]) (S' := [.int (f 92 67)]) (f' := f) rfl ?_
  refine wq_v (y := (nI e)) (hx.2.2.2) ?_
  refine wq_run2 (pc' := 8) (L' := [(0, .ref 92), (1, .int 8627383), (2, .int (nI 5))]) (S' := [.int (f 92 66), .int (nI e)]) (f' := f) rfl ?_
  refine wq_v (y := (nI s)) (hx.2.2.1) ?_
  refine wq_run1 (pc' := 9) (L' := [(0, .ref 92), (1, .int 8627383), (2, .int (nI 5))]) (S' := [.int ((nI e) - (nI s))]) (f' := f) rfl ?_
  refine wq_v (y := (nI (e - s))) (pk_sub (a := e) (b := s) (by omega)) ?_
  refine wq_run1 (pc' := 10) (L' := [(0, .ref 92), (1, .int 8627383), (2, .int (nI 5))]) (S' := [.int (nI 5), .int (nI (e - s))]) (f' := f) rfl ?_
  refine wq_if (c := (nI (e - s)) = (nI 5)) (p1 := 13) (L1 := [(0, .ref 92), (1, .int 8627383), (2, .int (nI 5))]) (S1 := []) (p2 := 17) (L2 := [(0, .ref 92), (1, .int 8627383), (2, .int (nI 5))]) (S2 := []) rfl (fun c_10 => ?_) (fun c_10 => ?_)
  · have k_10 : (e - s) = 5 := (nI_eq (a := (e - s)) (b := 5) (by omega) (by omega)).mp c_10
    refine wq_run5 (pc' := 22) (L' := [(0, .ref 92), (1, .int 8627383), (2, .int (nI 5)), (3, .int 1), (4, .int 0)]) (S' := []) (f' := f) rfl ?_
    exact mlp_word2 hn1 hT hx hse hen (5 - 0 + 1) 0 1 (Nat.zero_le _) (Or.inr rfl) (fun _ => ⟨by omega, fun _ h => absurd h (Nat.not_lt_zero _)⟩) (fun q => absurd q (by decide)) (Nat.lt_succ_self _)
  · have k_10 : ¬ (e - s) = 5 := fun q => c_10 ((nI_eq (a := (e - s)) (b := 5) (by omega) (by omega)).mpr q)
    refine wq_run4 (pc' := 22) (L' := [(0, .ref 92), (1, .int 8627383), (2, .int (nI 5)), (3, .int 0), (4, .int 0)]) (S' := []) (f' := f) rfl ?_
    exact mlp_word2 hn1 hT hx hse hen (5 - 0 + 1) 0 0 (Nat.zero_le _) (Or.inl rfl) (fun q => absurd q (by decide)) (fun _ q => k_10 (by have h := q.1; have h2 : strN.getD 2 0 = 5 := rfl; omega)) (Nat.lt_succ_self _)
theorem wdM_3 : ∀ i, i < 4 → (96 + (((169542 : Int32) >>> ((nI (5 * i)) &&& 31)) &&& 31)) = wc 3 i := by decide +kernel
theorem mlp_word3 {f : HI} {T : Nat → Int32} {n : Nat} (hn1 : n ≤ 160) (hT : ∀ j, j < n → f 100 j = T j) {a s e : Nat} (hx : TY (f 92) n a s e) (hse : s ≤ e) (hen : e ≤ n) : ∀ (m9 : Nat) (i : Nat) (z : Int32), (i ≤ 4) → (z = 0 ∨ z = 1) → (z = 1 → e = s + 4 ∧ ∀ j, j < i → T (s + j) = wc 3 j) → (z = 0 → ¬ WdP T 3 s e) → 4 - i < m9 → wq 1 147 (Ret (wdI T 3 s e) f) 22 [(0, .ref 92), (1, .int 169542), (2, .int (nI 4)), (3, .int z), (4, .int (nI i))] [] f := by
  intro m9
  induction m9 with
  | zero => intro i z hi hz h9 h0 hn; exact absurd hn (Nat.not_lt_zero _)
  | succ m9 ih =>
    intro i z hi hz h9 h0 hn
    refine wq_run1 (pc' := 23) (L' := [(0, .ref 92), (1, .int 169542), (2, .int (nI 4)), (3, .int z), (4, .int (nI i))]) (S' := [.int z]) (f' := f) rfl ?_
    refine wq_if (c := z = 0) (p1 := 71) (L1 := [(0, .ref 92), (1, .int 169542), (2, .int (nI 4)), (3, .int z), (4, .int (nI i))]) (S1 := []) (p2 := 26) (L2 := [(0, .ref 92), (1, .int 169542), (2, .int (nI 4)), (3, .int z), (4, .int (nI i))]) (S2 := []) rfl (fun c_23 => ?_) (fun c_23 => ?_)
    · refine wq_run1 (pc' := 72) (L' := [(0, .ref 92), (1, .int 169542), (2, .int (nI 4)), (3, .int z), (4, .int (nI i))]) (S' := [.int z]) (f' := f) rfl ?_
      exact wq_retZ rfl hz (Ret.of (by rw [c_23, wdI_n (h0 c_23)]) rfl)
    · refine wq_run2 (pc' := 29) (L' := [(0, .ref 92), (1, .int 169542), (2, .int (nI 4)), (3, .int z), (4, .int (nI i))]) (S' := [.int (nI 4), .int (nI i)]) (f' := f) rfl ?_
      refine wq_if (c := (nI 4) ≤ (nI i)) (p1 := 71) (L1 := [(0, .ref 92), (1, .int 169542), (2, .int (nI 4)), (3, .int z), (4, .int (nI i))]) (S1 := []) (p2 := 32) (L2 := [(0, .ref 92), (1, .int 169542), (2, .int (nI 4)), (3, .int z), (4, .int (nI i))]) (S2 := []) rfl (fun c_29 => ?_) (fun c_29 => ?_)
      · have k_29 : 4 ≤ i := (nI_leI (a := 4) (b := i) (by omega) (by omega)).mp c_29
        refine wq_run1 (pc' := 72) (L' := [(0, .ref 92), (1, .int 169542), (2, .int (nI 4)), (3, .int z), (4, .int (nI i))]) (S' := [.int z]) (f' := f) rfl ?_
        have h1 := hz.resolve_left c_23
        exact wq_retZ rfl hz (Ret.of (by rw [h1, wdI_y ⟨(h9 h1).1, fun j hj => (h9 h1).2 j (Nat.lt_of_lt_of_le hj k_29)⟩]) rfl)
      · have k_29 : ¬ 4 ≤ i := fun q => c_29 ((nI_leI (a := 4) (b := i) (by omega) (by omega)).mpr q)
        have h1 := hz.resolve_left c_23
        have hi5 : i < 4 := by omega
        have hem := (h9 h1).1
        refine wq_run4 (pc' := 40) (L' := [(0, .ref 92), (1, .int 169542), (2, .int (nI 4)), (3, .int z), (4, .int (nI i))]) (S' := [.int (f 92 66), .ref 100]) (f' := f) rfl ?_
        refine wq_v (y := (nI s)) (hx.2.2.1) ?_
        refine wq_run2 (pc' := 43) (L' := [(0, .ref 92), (1, .int 169542), (2, .int (nI 4)), (3, .int z), (4, .int (nI i))]) (S' := [.int ((nI s) + (nI i)), .ref 100]) (f' := f) rfl ?_
        refine wq_v (y := (nI (s + i))) (nI_add s i) ?_
        refine wq_ald (j := (s + i)) (n := 160) (v := (T (s + i))) rfl rfl rfl rfl (by omega) (Nat.le_of_ble_eq_true rfl) (hT (s + i) (by omega)) ?_
        refine wq_run5 (pc' := 51) (L' := [(0, .ref 92), (1, .int 169542), (2, .int (nI 4)), (3, .int z), (4, .int (nI i))]) (S' := [.int (5 * (nI i)), .int 169542, .int 96, .int (T (s + i))]) (f' := f) rfl ?_
        refine wq_v (y := (nI (5 * i))) (pk_mul 5 i) ?_
        refine wq_run4 (pc' := 56) (L' := [(0, .ref 92), (1, .int 169542), (2, .int (nI 4)), (3, .int z), (4, .int (nI i))]) (S' := [.int (96 + (((169542 : Int32) >>> ((nI (5 * i)) &&& 31)) &&& 31)), .int (T (s + i))]) (f' := f) rfl ?_
        refine wq_if (c := (T (s + i)) = (96 + (((169542 : Int32) >>> ((nI (5 * i)) &&& 31)) &&& 31))) (p1 := 59) (L1 := [(0, .ref 92), (1, .int 169542), (2, .int (nI 4)), (3, .int z), (4, .int (nI i))]) (S1 := []) (p2 := 63) (L2 := [(0, .ref 92), (1, .int 169542), (2, .int (nI 4)), (3, .int z), (4, .int (nI i))]) (S2 := []) rfl (fun c_56 => ?_) (fun c_56 => ?_)
        · refine wq_run4 (pc' := 68) (L' := [(0, .ref 92), (1, .int 169542), (2, .int (nI 4)), (3, .int 1), (4, .int ((nI i) + 1))]) (S' := []) (f' := f) rfl ?_
          refine wq_L (L' := [(0, .ref 92), (1, .int 169542), (2, .int (nI 4)), (3, .int 1), (4, .int (nI (i + 1)))]) (by rw [show nI i + 1 = nI (i + 1) from nI_add _ _]) ?_
          refine wq_run1 (pc' := 22) (L' := [(0, .ref 92), (1, .int 169542), (2, .int (nI 4)), (3, .int 1), (4, .int (nI (i + 1)))]) (S' := []) (f' := f) rfl ?_
          exact ih (i + 1) 1 (by omega) (Or.inr rfl) (fun _ => ⟨(h9 h1).1, fun j hj => by
            rcases Nat.lt_or_ge j i with q | q
            · exact (h9 h1).2 j q
            · have e1 : j = i := by omega
              rw [e1, c_56]; exact wdM_3 i hi5⟩) (fun q => absurd q (by decide)) (by omega)
        · refine wq_run3 (pc' := 68) (L' := [(0, .ref 92), (1, .int 169542), (2, .int (nI 4)), (3, .int 0), (4, .int ((nI i) + 1))]) (S' := []) (f' := f) rfl ?_
          refine wq_L (L' := [(0, .ref 92), (1, .int 169542), (2, .int (nI 4)), (3, .int 0), (4, .int (nI (i + 1)))]) (by rw [show nI i + 1 = nI (i + 1) from nI_add _ _]) ?_
          refine wq_run1 (pc' := 22) (L' := [(0, .ref 92), (1, .int 169542), (2, .int (nI 4)), (3, .int 0), (4, .int (nI (i + 1)))]) (S' := []) (f' := f) rfl ?_
          exact ih (i + 1) 0 (by omega) (Or.inl rfl) (fun q => absurd q (by decide)) (fun _ q => c_56 ((q.2 i hi5).trans (wdM_3 i hi5).symm)) (by omega)
theorem mp_word3 {f : HI} {T : Nat → Int32} {n : Nat} (hn1 : n ≤ 160) (hT : ∀ j, j < n → f 100 j = T j) {a s e : Nat} (hx : TY (f 92) n a s e) (hse : s ≤ e) (hen : e ≤ n) : Sp 1 147 [.ref 92, .int 169542, .int 4] f (Ret (wdI T 3 s e) f) := by
  show wq 1 147 (Ret (wdI T 3 s e) f) 0 [(0, .ref 92), (1, .int 169542), (2, .int (nI 4))] [] f
  refine wq_run2 (pc' := 4) (L' := [(0, .ref 92), (1, .int 169542), (2, .int (nI 4))]) (S' := [.int (f 92 67)]) (f' := f) rfl ?_
  refine wq_v (y := (nI e)) (hx.2.2.2) ?_
  refine wq_run2 (pc' := 8) (L' := [(0, .ref 92), (1, .int 169542), (2, .int (nI 4))]) (S' := [.int (f 92 66), .int (nI e)]) (f' := f) rfl ?_
  refine wq_v (y := (nI s)) (hx.2.2.1) ?_
  refine wq_run1 (pc' := 9) (L' := [(0, .ref 92), (1, .int 169542), (2, .int (nI 4))]) (S' := [.int ((nI e) - (nI s))]) (f' := f) rfl ?_
  refine wq_v (y := (nI (e - s))) (pk_sub (a := e) (b := s) (by omega)) ?_
  refine wq_run1 (pc' := 10) (L' := [(0, .ref 92), (1, .int 169542), (2, .int (nI 4))]) (S' := [.int (nI 4), .int (nI (e - s))]) (f' := f) rfl ?_
  refine wq_if (c := (nI (e - s)) = (nI 4)) (p1 := 13) (L1 := [(0, .ref 92), (1, .int 169542), (2, .int (nI 4))]) (S1 := []) (p2 := 17) (L2 := [(0, .ref 92), (1, .int 169542), (2, .int (nI 4))]) (S2 := []) rfl (fun c_10 => ?_) (fun c_10 => ?_)
  · have k_10 : (e - s) = 4 := (nI_eq (a := (e - s)) (b := 4) (by omega) (by omega)).mp c_10
    refine wq_run5 (pc' := 22) (L' := [(0, .ref 92), (1, .int 169542), (2, .int (nI 4)), (3, .int 1), (4, .int 0)]) (S' := []) (f' := f) rfl ?_
    exact mlp_word3 hn1 hT hx hse hen (4 - 0 + 1) 0 1 (Nat.zero_le _) (Or.inr rfl) (fun _ => ⟨by omega, fun _ h => absurd h (Nat.not_lt_zero _)⟩) (fun q => absurd q (by decide)) (Nat.lt_succ_self _)
  · have k_10 : ¬ (e - s) = 4 := fun q => c_10 ((nI_eq (a := (e - s)) (b := 4) (by omega) (by omega)).mpr q)
    refine wq_run4 (pc' := 22) (L' := [(0, .ref 92), (1, .int 169542), (2, .int (nI 4)), (3, .int 0), (4, .int 0)]) (S' := []) (f' := f) rfl ?_
    exact mlp_word3 hn1 hT hx hse hen (4 - 0 + 1) 0 0 (Nat.zero_le _) (Or.inl rfl) (fun q => absurd q (by decide)) (fun _ q => k_10 (by have h := q.1; have h2 : strN.getD 3 0 = 4 := rfl; omega)) (Nat.lt_succ_self _)
theorem wdM_4 : ∀ i, i < 5 → (96 + (((4232449 : Int32) >>> ((nI (5 * i)) &&& 31)) &&& 31)) = wc 4 i := by decide +kernel
theorem mlp_word4 {f : HI} {T : Nat → Int32} {n : Nat} (hn1 : n ≤ 160) (hT : ∀ j, j < n → f 100 j = T j) {a s e : Nat} (hx : TY (f 92) n a s e) (hse : s ≤ e) (hen : e ≤ n) : ∀ (m9 : Nat) (i : Nat) (z : Int32), (i ≤ 5) → (z = 0 ∨ z = 1) → (z = 1 → e = s + 5 ∧ ∀ j, j < i → T (s + j) = wc 4 j) → (z = 0 → ¬ WdP T 4 s e) → 5 - i < m9 → wq 1 147 (Ret (wdI T 4 s e) f) 22 [(0, .ref 92), (1, .int 4232449), (2, .int (nI 5)), (3, .int z), (4, .int (nI i))] [] f := by
  intro m9
  induction m9 with
  | zero => intro i z hi hz h9 h0 hn; exact absurd hn (Nat.not_lt_zero _)
  | succ m9 ih =>
    intro i z hi hz h9 h0 hn
    refine wq_run1 (pc' := 23) (L' := [(0, .ref 92), (1, .int 4232449), (2, .int (nI 5)), (3, .int z), (4, .int (nI i))]) (S' := [.int z]) (f' := f) rfl ?_
    refine wq_if (c := z = 0) (p1 := 71) (L1 := [(0, .ref 92), (1, .int 4232449), (2, .int (nI 5)), (3, .int z), (4, .int (nI i))]) (S1 := []) (p2 := 26) (L2 := [(0, .ref 92), (1, .int 4232449), (2, .int (nI 5)), (3, .int z), (4, .int (nI i))]) (S2 := []) rfl (fun c_23 => ?_) (fun c_23 => ?_)
    · refine wq_run1 (pc' := 72) (L' := [(0, .ref 92), (1, .int 4232449), (2, .int (nI 5)), (3, .int z), (4, .int (nI i))]) (S' := [.int z]) (f' := f) rfl ?_
      exact wq_retZ rfl hz (Ret.of (by rw [c_23, wdI_n (h0 c_23)]) rfl)
    · refine wq_run2 (pc' := 29) (L' := [(0, .ref 92), (1, .int 4232449), (2, .int (nI 5)), (3, .int z), (4, .int (nI i))]) (S' := [.int (nI 5), .int (nI i)]) (f' := f) rfl ?_
      refine wq_if (c := (nI 5) ≤ (nI i)) (p1 := 71) (L1 := [(0, .ref 92), (1, .int 4232449), (2, .int (nI 5)), (3, .int z), (4, .int (nI i))]) (S1 := []) (p2 := 32) (L2 := [(0, .ref 92), (1, .int 4232449), (2, .int (nI 5)), (3, .int z), (4, .int (nI i))]) (S2 := []) rfl (fun c_29 => ?_) (fun c_29 => ?_)
      · have k_29 : 5 ≤ i := (nI_leI (a := 5) (b := i) (by omega) (by omega)).mp c_29
        refine wq_run1 (pc' := 72) (L' := [(0, .ref 92), (1, .int 4232449), (2, .int (nI 5)), (3, .int z), (4, .int (nI i))]) (S' := [.int z]) (f' := f) rfl ?_
        have h1 := hz.resolve_left c_23
        exact wq_retZ rfl hz (Ret.of (by rw [h1, wdI_y ⟨(h9 h1).1, fun j hj => (h9 h1).2 j (Nat.lt_of_lt_of_le hj k_29)⟩]) rfl)
      · have k_29 : ¬ 5 ≤ i := fun q => c_29 ((nI_leI (a := 5) (b := i) (by omega) (by omega)).mpr q)
        have h1 := hz.resolve_left c_23
        have hi5 : i < 5 := by omega
        have hem := (h9 h1).1
        refine wq_run4 (pc' := 40) (L' := [(0, .ref 92), (1, .int 4232449), (2, .int (nI 5)), (3, .int z), (4, .int (nI i))]) (S' := [.int (f 92 66), .ref 100]) (f' := f) rfl ?_
        refine wq_v (y := (nI s)) (hx.2.2.1) ?_
        refine wq_run2 (pc' := 43) (L' := [(0, .ref 92), (1, .int 4232449), (2, .int (nI 5)), (3, .int z), (4, .int (nI i))]) (S' := [.int ((nI s) + (nI i)), .ref 100]) (f' := f) rfl ?_
        refine wq_v (y := (nI (s + i))) (nI_add s i) ?_
        refine wq_ald (j := (s + i)) (n := 160) (v := (T (s + i))) rfl rfl rfl rfl (by omega) (Nat.le_of_ble_eq_true rfl) (hT (s + i) (by omega)) ?_
        refine wq_run5 (pc' := 51) (L' := [(0, .ref 92), (1, .int 4232449), (2, .int (nI 5)), (3, .int z), (4, .int (nI i))]) (S' := [.int (5 * (nI i)), .int 4232449, .int 96, .int (T (s + i))]) (f' := f) rfl ?_
        refine wq_v (y := (nI (5 * i))) (pk_mul 5 i) ?_
        refine wq_run4 (pc' := 56) (L' := [(0, .ref 92), (1, .int 4232449), (2, .int (nI 5)), (3, .int z), (4, .int (nI i))]) (S' := [.int (96 + (((4232449 : Int32) >>> ((nI (5 * i)) &&& 31)) &&& 31)), .int (T (s + i))]) (f' := f) rfl ?_
        refine wq_if (c := (T (s + i)) = (96 + (((4232449 : Int32) >>> ((nI (5 * i)) &&& 31)) &&& 31))) (p1 := 59) (L1 := [(0, .ref 92), (1, .int 4232449), (2, .int (nI 5)), (3, .int z), (4, .int (nI i))]) (S1 := []) (p2 := 63) (L2 := [(0, .ref 92), (1, .int 4232449), (2, .int (nI 5)), (3, .int z), (4, .int (nI i))]) (S2 := []) rfl (fun c_56 => ?_) (fun c_56 => ?_)
        · refine wq_run4 (pc' := 68) (L' := [(0, .ref 92), (1, .int 4232449), (2, .int (nI 5)), (3, .int 1), (4, .int ((nI i) + 1))]) (S' := []) (f' := f) rfl ?_
          refine wq_L (L' := [(0, .ref 92), (1, .int 4232449), (2, .int (nI 5)), (3, .int 1), (4, .int (nI (i + 1)))]) (by rw [show nI i + 1 = nI (i + 1) from nI_add _ _]) ?_
          refine wq_run1 (pc' := 22) (L' := [(0, .ref 92), (1, .int 4232449), (2, .int (nI 5)), (3, .int 1), (4, .int (nI (i + 1)))]) (S' := []) (f' := f) rfl ?_
          exact ih (i + 1) 1 (by omega) (Or.inr rfl) (fun _ => ⟨(h9 h1).1, fun j hj => by
            rcases Nat.lt_or_ge j i with q | q
            · exact (h9 h1).2 j q
            · have e1 : j = i := by omega
              rw [e1, c_56]; exact wdM_4 i hi5⟩) (fun q => absurd q (by decide)) (by omega)
        · refine wq_run3 (pc' := 68) (L' := [(0, .ref 92), (1, .int 4232449), (2, .int (nI 5)), (3, .int 0), (4, .int ((nI i) + 1))]) (S' := []) (f' := f) rfl ?_
          refine wq_L (L' := [(0, .ref 92), (1, .int 4232449), (2, .int (nI 5)), (3, .int 0), (4, .int (nI (i + 1)))]) (by rw [show nI i + 1 = nI (i + 1) from nI_add _ _]) ?_
          refine wq_run1 (pc' := 22) (L' := [(0, .ref 92), (1, .int 4232449), (2, .int (nI 5)), (3, .int 0), (4, .int (nI (i + 1)))]) (S' := []) (f' := f) rfl ?_
          exact ih (i + 1) 0 (by omega) (Or.inl rfl) (fun q => absurd q (by decide)) (fun _ q => c_56 ((q.2 i hi5).trans (wdM_4 i hi5).symm)) (by omega)
theorem mp_word4 {f : HI} {T : Nat → Int32} {n : Nat} (hn1 : n ≤ 160) (hT : ∀ j, j < n → f 100 j = T j) {a s e : Nat} (hx : TY (f 92) n a s e) (hse : s ≤ e) (hen : e ≤ n) : Sp 1 147 [.ref 92, .int 4232449, .int 5] f (Ret (wdI T 4 s e) f) := by
  show wq 1 147 (Ret (wdI T 4 s e) f) 0 [(0, .ref 92), (1, .int 4232449), (2, .int (nI 5))] [] f
  refine wq_run2 (pc' := 4) (L' := [(0, .ref 92), (1, .int 4232449), (2, .int (nI 5))]) (S' := [.int (f 92 67)]) (f' := f) rfl ?_
  refine wq_v (y := (nI e)) (hx.2.2.2) ?_
  refine wq_run2 (pc' := 8) (L' := [(0, .ref 92), (1, .int 4232449), (2, .int (nI 5))]) (S' := [.int (f 92 66), .int (nI e)]) (f' := f) rfl ?_
  refine wq_v (y := (nI s)) (hx.2.2.1) ?_
  refine wq_run1 (pc' := 9) (L' := [(0, .ref 92), (1, .int 4232449), (2, .int (nI 5))]) (S' := [.int ((nI e) - (nI s))]) (f' := f) rfl ?_
  refine wq_v (y := (nI (e - s))) (pk_sub (a := e) (b := s) (by omega)) ?_
  refine wq_run1 (pc' := 10) (L' := [(0, .ref 92), (1, .int 4232449), (2, .int (nI 5))]) (S' := [.int (nI 5), .int (nI (e - s))]) (f' := f) rfl ?_
  refine wq_if (c := (nI (e - s)) = (nI 5)) (p1 := 13) (L1 := [(0, .ref 92), (1, .int 4232449), (2, .int (nI 5))]) (S1 := []) (p2 := 17) (L2 := [(0, .ref 92), (1, .int 4232449), (2, .int (nI 5))]) (S2 := []) rfl (fun c_10 => ?_) (fun c_10 => ?_)
  · have k_10 : (e - s) = 5 := (nI_eq (a := (e - s)) (b := 5) (by omega) (by omega)).mp c_10
    refine wq_run5 (pc' := 22) (L' := [(0, .ref 92), (1, .int 4232449), (2, .int (nI 5)), (3, .int 1), (4, .int 0)]) (S' := []) (f' := f) rfl ?_
    exact mlp_word4 hn1 hT hx hse hen (5 - 0 + 1) 0 1 (Nat.zero_le _) (Or.inr rfl) (fun _ => ⟨by omega, fun _ h => absurd h (Nat.not_lt_zero _)⟩) (fun q => absurd q (by decide)) (Nat.lt_succ_self _)
  · have k_10 : ¬ (e - s) = 5 := fun q => c_10 ((nI_eq (a := (e - s)) (b := 5) (by omega) (by omega)).mpr q)
    refine wq_run4 (pc' := 22) (L' := [(0, .ref 92), (1, .int 4232449), (2, .int (nI 5)), (3, .int 0), (4, .int 0)]) (S' := []) (f' := f) rfl ?_
    exact mlp_word4 hn1 hT hx hse hen (5 - 0 + 1) 0 0 (Nat.zero_le _) (Or.inl rfl) (fun q => absurd q (by decide)) (fun _ q => k_10 (by have h := q.1; have h2 : strN.getD 4 0 = 5 := rfl; omega)) (Nat.lt_succ_self _)
theorem wdM_5 : ∀ i, i < 5 → (96 + (((21595308 : Int32) >>> ((nI (5 * i)) &&& 31)) &&& 31)) = wc 5 i := by decide +kernel
theorem mlp_word5 {f : HI} {T : Nat → Int32} {n : Nat} (hn1 : n ≤ 160) (hT : ∀ j, j < n → f 100 j = T j) {a s e : Nat} (hx : TY (f 92) n a s e) (hse : s ≤ e) (hen : e ≤ n) : ∀ (m9 : Nat) (i : Nat) (z : Int32), (i ≤ 5) → (z = 0 ∨ z = 1) → (z = 1 → e = s + 5 ∧ ∀ j, j < i → T (s + j) = wc 5 j) → (z = 0 → ¬ WdP T 5 s e) → 5 - i < m9 → wq 1 147 (Ret (wdI T 5 s e) f) 22 [(0, .ref 92), (1, .int 21595308), (2, .int (nI 5)), (3, .int z), (4, .int (nI i))] [] f := by
  intro m9
  induction m9 with
  | zero => intro i z hi hz h9 h0 hn; exact absurd hn (Nat.not_lt_zero _)
  | succ m9 ih =>
    intro i z hi hz h9 h0 hn
    refine wq_run1 (pc' := 23) (L' := [(0, .ref 92), (1, .int 21595308), (2, .int (nI 5)), (3, .int z), (4, .int (nI i))]) (S' := [.int z]) (f' := f) rfl ?_
    refine wq_if (c := z = 0) (p1 := 71) (L1 := [(0, .ref 92), (1, .int 21595308), (2, .int (nI 5)), (3, .int z), (4, .int (nI i))]) (S1 := []) (p2 := 26) (L2 := [(0, .ref 92), (1, .int 21595308), (2, .int (nI 5)), (3, .int z), (4, .int (nI i))]) (S2 := []) rfl (fun c_23 => ?_) (fun c_23 => ?_)
    · refine wq_run1 (pc' := 72) (L' := [(0, .ref 92), (1, .int 21595308), (2, .int (nI 5)), (3, .int z), (4, .int (nI i))]) (S' := [.int z]) (f' := f) rfl ?_
      exact wq_retZ rfl hz (Ret.of (by rw [c_23, wdI_n (h0 c_23)]) rfl)
    · refine wq_run2 (pc' := 29) (L' := [(0, .ref 92), (1, .int 21595308), (2, .int (nI 5)), (3, .int z), (4, .int (nI i))]) (S' := [.int (nI 5), .int (nI i)]) (f' := f) rfl ?_
      refine wq_if (c := (nI 5) ≤ (nI i)) (p1 := 71) (L1 := [(0, .ref 92), (1, .int 21595308), (2, .int (nI 5)), (3, .int z), (4, .int (nI i))]) (S1 := []) (p2 := 32) (L2 := [(0, .ref 92), (1, .int 21595308), (2, .int (nI 5)), (3, .int z), (4, .int (nI i))]) (S2 := []) rfl (fun c_29 => ?_) (fun c_29 => ?_)
      · have k_29 : 5 ≤ i := (nI_leI (a := 5) (b := i) (by omega) (by omega)).mp c_29
        refine wq_run1 (pc' := 72) (L' := [(0, .ref 92), (1, .int 21595308), (2, .int (nI 5)), (3, .int z), (4, .int (nI i))]) (S' := [.int z]) (f' := f) rfl ?_
        have h1 := hz.resolve_left c_23
        exact wq_retZ rfl hz (Ret.of (by rw [h1, wdI_y ⟨(h9 h1).1, fun j hj => (h9 h1).2 j (Nat.lt_of_lt_of_le hj k_29)⟩]) rfl)
      · have k_29 : ¬ 5 ≤ i := fun q => c_29 ((nI_leI (a := 5) (b := i) (by omega) (by omega)).mpr q)
        have h1 := hz.resolve_left c_23
        have hi5 : i < 5 := by omega
        have hem := (h9 h1).1
        refine wq_run4 (pc' := 40) (L' := [(0, .ref 92), (1, .int 21595308), (2, .int (nI 5)), (3, .int z), (4, .int (nI i))]) (S' := [.int (f 92 66), .ref 100]) (f' := f) rfl ?_
        refine wq_v (y := (nI s)) (hx.2.2.1) ?_
        refine wq_run2 (pc' := 43) (L' := [(0, .ref 92), (1, .int 21595308), (2, .int (nI 5)), (3, .int z), (4, .int (nI i))]) (S' := [.int ((nI s) + (nI i)), .ref 100]) (f' := f) rfl ?_
        refine wq_v (y := (nI (s + i))) (nI_add s i) ?_
        refine wq_ald (j := (s + i)) (n := 160) (v := (T (s + i))) rfl rfl rfl rfl (by omega) (Nat.le_of_ble_eq_true rfl) (hT (s + i) (by omega)) ?_
        refine wq_run5 (pc' := 51) (L' := [(0, .ref 92), (1, .int 21595308), (2, .int (nI 5)), (3, .int z), (4, .int (nI i))]) (S' := [.int (5 * (nI i)), .int 21595308, .int 96, .int (T (s + i))]) (f' := f) rfl ?_
        refine wq_v (y := (nI (5 * i))) (pk_mul 5 i) ?_
        refine wq_run4 (pc' := 56) (L' := [(0, .ref 92), (1, .int 21595308), (2, .int (nI 5)), (3, .int z), (4, .int (nI i))]) (S' := [.int (96 + (((21595308 : Int32) >>> ((nI (5 * i)) &&& 31)) &&& 31)), .int (T (s + i))]) (f' := f) rfl ?_
        refine wq_if (c := (T (s + i)) = (96 + (((21595308 : Int32) >>> ((nI (5 * i)) &&& 31)) &&& 31))) (p1 := 59) (L1 := [(0, .ref 92), (1, .int 21595308), (2, .int (nI 5)), (3, .int z), (4, .int (nI i))]) (S1 := []) (p2 := 63) (L2 := [(0, .ref 92), (1, .int 21595308), (2, .int (nI 5)), (3, .int z), (4, .int (nI i))]) (S2 := []) rfl (fun c_56 => ?_) (fun c_56 => ?_)
        · refine wq_run4 (pc' := 68) (L' := [(0, .ref 92), (1, .int 21595308), (2, .int (nI 5)), (3, .int 1), (4, .int ((nI i) + 1))]) (S' := []) (f' := f) rfl ?_
          refine wq_L (L' := [(0, .ref 92), (1, .int 21595308), (2, .int (nI 5)), (3, .int 1), (4, .int (nI (i + 1)))]) (by rw [show nI i + 1 = nI (i + 1) from nI_add _ _]) ?_
          refine wq_run1 (pc' := 22) (L' := [(0, .ref 92), (1, .int 21595308), (2, .int (nI 5)), (3, .int 1), (4, .int (nI (i + 1)))]) (S' := []) (f' := f) rfl ?_
          exact ih (i + 1) 1 (by omega) (Or.inr rfl) (fun _ => ⟨(h9 h1).1, fun j hj => by
            rcases Nat.lt_or_ge j i with q | q
            · exact (h9 h1).2 j q
            · have e1 : j = i := by omega
              rw [e1, c_56]; exact wdM_5 i hi5⟩) (fun q => absurd q (by decide)) (by omega)
        · refine wq_run3 (pc' := 68) (L' := [(0, .ref 92), (1, .int 21595308), (2, .int (nI 5)), (3, .int 0), (4, .int ((nI i) + 1))]) (S' := []) (f' := f) rfl ?_
          refine wq_L (L' := [(0, .ref 92), (1, .int 21595308), (2, .int (nI 5)), (3, .int 0), (4, .int (nI (i + 1)))]) (by rw [show nI i + 1 = nI (i + 1) from nI_add _ _]) ?_
          refine wq_run1 (pc' := 22) (L' := [(0, .ref 92), (1, .int 21595308), (2, .int (nI 5)), (3, .int 0), (4, .int (nI (i + 1)))]) (S' := []) (f' := f) rfl ?_
          exact ih (i + 1) 0 (by omega) (Or.inl rfl) (fun q => absurd q (by decide)) (fun _ q => c_56 ((q.2 i hi5).trans (wdM_5 i hi5).symm)) (by omega)
theorem mp_word5 {f : HI} {T : Nat → Int32} {n : Nat} (hn1 : n ≤ 160) (hT : ∀ j, j < n → f 100 j = T j) {a s e : Nat} (hx : TY (f 92) n a s e) (hse : s ≤ e) (hen : e ≤ n) : Sp 1 147 [.ref 92, .int 21595308, .int 5] f (Ret (wdI T 5 s e) f) := by
  show wq 1 147 (Ret (wdI T 5 s e) f) 0 [(0, .ref 92), (1, .int 21595308), (2, .int (nI 5))] [] f
  refine wq_run2 (pc' := 4) (L' := [(0, .ref 92), (1, .int 21595308), (2, .int (nI 5))]) (S' := [.int (f 92 67)]) (f' := f) rfl ?_
  refine wq_v (y := (nI e)) (hx.2.2.2) ?_
  refine wq_run2 (pc' := 8) (L' := [(0, .ref 92), (1, .int 21595308), (2, .int (nI 5))]) (S' := [.int (f 92 66), .int (nI e)]) (f' := f) rfl ?_
  refine wq_v (y := (nI s)) (hx.2.2.1) ?_
  refine wq_run1 (pc' := 9) (L' := [(0, .ref 92), (1, .int 21595308), (2, .int (nI 5))]) (S' := [.int ((nI e) - (nI s))]) (f' := f) rfl ?_
  refine wq_v (y := (nI (e - s))) (pk_sub (a := e) (b := s) (by omega)) ?_
  refine wq_run1 (pc' := 10) (L' := [(0, .ref 92), (1, .int 21595308), (2, .int (nI 5))]) (S' := [.int (nI 5), .int (nI (e - s))]) (f' := f) rfl ?_
  refine wq_if (c := (nI (e - s)) = (nI 5)) (p1 := 13) (L1 := [(0, .ref 92), (1, .int 21595308), (2, .int (nI 5))]) (S1 := []) (p2 := 17) (L2 := [(0, .ref 92), (1, .int 21595308), (2, .int (nI 5))]) (S2 := []) rfl (fun c_10 => ?_) (fun c_10 => ?_)
  · have k_10 : (e - s) = 5 := (nI_eq (a := (e - s)) (b := 5) (by omega) (by omega)).mp c_10
    refine wq_run5 (pc' := 22) (L' := [(0, .ref 92), (1, .int 21595308), (2, .int (nI 5)), (3, .int 1), (4, .int 0)]) (S' := []) (f' := f) rfl ?_
    exact mlp_word5 hn1 hT hx hse hen (5 - 0 + 1) 0 1 (Nat.zero_le _) (Or.inr rfl) (fun _ => ⟨by omega, fun _ h => absurd h (Nat.not_lt_zero _)⟩) (fun q => absurd q (by decide)) (Nat.lt_succ_self _)
  · have k_10 : ¬ (e - s) = 5 := fun q => c_10 ((nI_eq (a := (e - s)) (b := 5) (by omega) (by omega)).mpr q)
    refine wq_run4 (pc' := 22) (L' := [(0, .ref 92), (1, .int 21595308), (2, .int (nI 5)), (3, .int 0), (4, .int 0)]) (S' := []) (f' := f) rfl ?_
    exact mlp_word5 hn1 hT hx hse hen (5 - 0 + 1) 0 0 (Nat.zero_le _) (Or.inl rfl) (fun q => absurd q (by decide)) (fun _ q => k_10 (by have h := q.1; have h2 : strN.getD 5 0 = 5 := rfl; omega)) (Nat.lt_succ_self _)
theorem wdM_6 : ∀ i, i < 3 → (96 + (((25648 : Int32) >>> ((nI (5 * i)) &&& 31)) &&& 31)) = wc 6 i := by decide +kernel
theorem mlp_word6 {f : HI} {T : Nat → Int32} {n : Nat} (hn1 : n ≤ 160) (hT : ∀ j, j < n → f 100 j = T j) {a s e : Nat} (hx : TY (f 92) n a s e) (hse : s ≤ e) (hen : e ≤ n) : ∀ (m9 : Nat) (i : Nat) (z : Int32), (i ≤ 3) → (z = 0 ∨ z = 1) → (z = 1 → e = s + 3 ∧ ∀ j, j < i → T (s + j) = wc 6 j) → (z = 0 → ¬ WdP T 6 s e) → 3 - i < m9 → wq 1 147 (Ret (wdI T 6 s e) f) 22 [(0, .ref 92), (1, .int 25648), (2, .int (nI 3)), (3, .int z), (4, .int (nI i))] [] f := by
  intro m9
  induction m9 with
  | zero => intro i z hi hz h9 h0 hn; exact absurd hn (Nat.not_lt_zero _)
  | succ m9 ih =>
    intro i z hi hz h9 h0 hn
    refine wq_run1 (pc' := 23) (L' := [(0, .ref 92), (1, .int 25648), (2, .int (nI 3)), (3, .int z), (4, .int (nI i))]) (S' := [.int z]) (f' := f) rfl ?_
    refine wq_if (c := z = 0) (p1 := 71) (L1 := [(0, .ref 92), (1, .int 25648), (2, .int (nI 3)), (3, .int z), (4, .int (nI i))]) (S1 := []) (p2 := 26) (L2 := [(0, .ref 92), (1, .int 25648), (2, .int (nI 3)), (3, .int z), (4, .int (nI i))]) (S2 := []) rfl (fun c_23 => ?_) (fun c_23 => ?_)
    · refine wq_run1 (pc' := 72) (L' := [(0, .ref 92), (1, .int 25648), (2, .int (nI 3)), (3, .int z), (4, .int (nI i))]) (S' := [.int z]) (f' := f) rfl ?_
      exact wq_retZ rfl hz (Ret.of (by rw [c_23, wdI_n (h0 c_23)]) rfl)
    · refine wq_run2 (pc' := 29) (L' := [(0, .ref 92), (1, .int 25648), (2, .int (nI 3)), (3, .int z), (4, .int (nI i))]) (S' := [.int (nI 3), .int (nI i)]) (f' := f) rfl ?_
      refine wq_if (c := (nI 3) ≤ (nI i)) (p1 := 71) (L1 := [(0, .ref 92), (1, .int 25648), (2, .int (nI 3)), (3, .int z), (4, .int (nI i))]) (S1 := []) (p2 := 32) (L2 := [(0, .ref 92), (1, .int 25648), (2, .int (nI 3)), (3, .int z), (4, .int (nI i))]) (S2 := []) rfl (fun c_29 => ?_) (fun c_29 => ?_)
      · have k_29 : 3 ≤ i := (nI_leI (a := 3) (b := i) (by omega) (by omega)).mp c_29
        refine wq_run1 (pc' := 72) (L' := [(0, .ref 92), (1, .int 25648), (2, .int (nI 3)), (3, .int z), (4, .int (nI i))]) (S' := [.int z]) (f' := f) rfl ?_
        have h1 := hz.resolve_left c_23
        exact wq_retZ rfl hz (Ret.of (by rw [h1, wdI_y ⟨(h9 h1).1, fun j hj => (h9 h1).2 j (Nat.lt_of_lt_of_le hj k_29)⟩]) rfl)
      · have k_29 : ¬ 3 ≤ i := fun q => c_29 ((nI_leI (a := 3) (b := i) (by omega) (by omega)).mpr q)
        have h1 := hz.resolve_left c_23
        have hi5 : i < 3 := by omega
        have hem := (h9 h1).1
        refine wq_run4 (pc' := 40) (L' := [(0, .ref 92), (1, .int 25648), (2, .int (nI 3)), (3, .int z), (4, .int (nI i))]) (S' := [.int (f 92 66), .ref 100]) (f' := f) rfl ?_
        refine wq_v (y := (nI s)) (hx.2.2.1) ?_
        refine wq_run2 (pc' := 43) (L' := [(0, .ref 92), (1, .int 25648), (2, .int (nI 3)), (3, .int z), (4, .int (nI i))]) (S' := [.int ((nI s) + (nI i)), .ref 100]) (f' := f) rfl ?_
        refine wq_v (y := (nI (s + i))) (nI_add s i) ?_
        refine wq_ald (j := (s + i)) (n := 160) (v := (T (s + i))) rfl rfl rfl rfl (by omega) (Nat.le_of_ble_eq_true rfl) (hT (s + i) (by omega)) ?_
        refine wq_run5 (pc' := 51) (L' := [(0, .ref 92), (1, .int 25648), (2, .int (nI 3)), (3, .int z), (4, .int (nI i))]) (S' := [.int (5 * (nI i)), .int 25648, .int 96, .int (T (s + i))]) (f' := f) rfl ?_
        refine wq_v (y := (nI (5 * i))) (pk_mul 5 i) ?_
        refine wq_run4 (pc' := 56) (L' := [(0, .ref 92), (1, .int 25648), (2, .int (nI 3)), (3, .int z), (4, .int (nI i))]) (S' := [.int (96 + (((25648 : Int32) >>> ((nI (5 * i)) &&& 31)) &&& 31)), .int (T (s + i))]) (f' := f) rfl ?_
        refine wq_if (c := (T (s + i)) = (96 + (((25648 : Int32) >>> ((nI (5 * i)) &&& 31)) &&& 31))) (p1 := 59) (L1 := [(0, .ref 92), (1, .int 25648), (2, .int (nI 3)), (3, .int z), (4, .int (nI i))]) (S1 := []) (p2 := 63) (L2 := [(0, .ref 92), (1, .int 25648), (2, .int (nI 3)), (3, .int z), (4, .int (nI i))]) (S2 := []) rfl (fun c_56 => ?_) (fun c_56 => ?_)
        · refine wq_run4 (pc' := 68) (L' := [(0, .ref 92), (1, .int 25648), (2, .int (nI 3)), (3, .int 1), (4, .int ((nI i) + 1))]) (S' := []) (f' := f) rfl ?_
          refine wq_L (L' := [(0, .ref 92), (1, .int 25648), (2, .int (nI 3)), (3, .int 1), (4, .int (nI (i + 1)))]) (by rw [show nI i + 1 = nI (i + 1) from nI_add _ _]) ?_
          refine wq_run1 (pc' := 22) (L' := [(0, .ref 92), (1, .int 25648), (2, .int (nI 3)), (3, .int 1), (4, .int (nI (i + 1)))]) (S' := []) (f' := f) rfl ?_
          exact ih (i + 1) 1 (by omega) (Or.inr rfl) (fun _ => ⟨(h9 h1).1, fun j hj => by
            rcases Nat.lt_or_ge j i with q | q
            · exact (h9 h1).2 j q
            · have e1 : j = i := by omega
              rw [e1, c_56]; exact wdM_6 i hi5⟩) (fun q => absurd q (by decide)) (by omega)
        · refine wq_run3 (pc' := 68) (L' := [(0, .ref 92), (1, .int 25648), (2, .int (nI 3)), (3, .int 0), (4, .int ((nI i) + 1))]) (S' := []) (f' := f) rfl ?_
          refine wq_L (L' := [(0, .ref 92), (1, .int 25648), (2, .int (nI 3)), (3, .int 0), (4, .int (nI (i + 1)))]) (by rw [show nI i + 1 = nI (i + 1) from nI_add _ _]) ?_
          refine wq_run1 (pc' := 22) (L' := [(0, .ref 92), (1, .int 25648), (2, .int (nI 3)), (3, .int 0), (4, .int (nI (i + 1)))]) (S' := []) (f' := f) rfl ?_
          exact ih (i + 1) 0 (by omega) (Or.inl rfl) (fun q => absurd q (by decide)) (fun _ q => c_56 ((q.2 i hi5).trans (wdM_6 i hi5).symm)) (by omega)
theorem mp_word6 {f : HI} {T : Nat → Int32} {n : Nat} (hn1 : n ≤ 160) (hT : ∀ j, j < n → f 100 j = T j) {a s e : Nat} (hx : TY (f 92) n a s e) (hse : s ≤ e) (hen : e ≤ n) : Sp 1 147 [.ref 92, .int 25648, .int 3] f (Ret (wdI T 6 s e) f) := by
  show wq 1 147 (Ret (wdI T 6 s e) f) 0 [(0, .ref 92), (1, .int 25648), (2, .int (nI 3))] [] f
  refine wq_run2 (pc' := 4) (L' := [(0, .ref 92), (1, .int 25648), (2, .int (nI 3))]) (S' := [.int (f 92 67)]) (f' := f) rfl ?_
  refine wq_v (y := (nI e)) (hx.2.2.2) ?_
  refine wq_run2 (pc' := 8) (L' := [(0, .ref 92), (1, .int 25648), (2, .int (nI 3))]) (S' := [.int (f 92 66), .int (nI e)]) (f' := f) rfl ?_
  refine wq_v (y := (nI s)) (hx.2.2.1) ?_
  refine wq_run1 (pc' := 9) (L' := [(0, .ref 92), (1, .int 25648), (2, .int (nI 3))]) (S' := [.int ((nI e) - (nI s))]) (f' := f) rfl ?_
  refine wq_v (y := (nI (e - s))) (pk_sub (a := e) (b := s) (by omega)) ?_
  refine wq_run1 (pc' := 10) (L' := [(0, .ref 92), (1, .int 25648), (2, .int (nI 3))]) (S' := [.int (nI 3), .int (nI (e - s))]) (f' := f) rfl ?_
  refine wq_if (c := (nI (e - s)) = (nI 3)) (p1 := 13) (L1 := [(0, .ref 92), (1, .int 25648), (2, .int (nI 3))]) (S1 := []) (p2 := 17) (L2 := [(0, .ref 92), (1, .int 25648), (2, .int (nI 3))]) (S2 := []) rfl (fun c_10 => ?_) (fun c_10 => ?_)
  · have k_10 : (e - s) = 3 := (nI_eq (a := (e - s)) (b := 3) (by omega) (by omega)).mp c_10
    refine wq_run5 (pc' := 22) (L' := [(0, .ref 92), (1, .int 25648), (2, .int (nI 3)), (3, .int 1), (4, .int 0)]) (S' := []) (f' := f) rfl ?_
    exact mlp_word6 hn1 hT hx hse hen (3 - 0 + 1) 0 1 (Nat.zero_le _) (Or.inr rfl) (fun _ => ⟨by omega, fun _ h => absurd h (Nat.not_lt_zero _)⟩) (fun q => absurd q (by decide)) (Nat.lt_succ_self _)
  · have k_10 : ¬ (e - s) = 3 := fun q => c_10 ((nI_eq (a := (e - s)) (b := 3) (by omega) (by omega)).mpr q)
    refine wq_run4 (pc' := 22) (L' := [(0, .ref 92), (1, .int 25648), (2, .int (nI 3)), (3, .int 0), (4, .int 0)]) (S' := []) (f' := f) rfl ?_
    exact mlp_word6 hn1 hT hx hse hen (3 - 0 + 1) 0 0 (Nat.zero_le _) (Or.inl rfl) (fun q => absurd q (by decide)) (fun _ q => k_10 (by have h := q.1; have h2 : strN.getD 6 0 = 3 := rfl; omega)) (Nat.lt_succ_self _)
theorem mp_kind {f : HI} {T : Nat → Int32} {n : Nat} (hn1 : n ≤ 160) (hT : ∀ j, j < n → f 100 j = T j) {a s e : Nat} (hx : TY (f 92) n a s e) (hse : s ≤ e) (hen : e ≤ n) : Sp 2 149 [.ref 92] f (Ret (knd T s e) f) := by
  show wq 2 149 (Ret (knd T s e) f) 0 [(0, .ref 92)] [] f
  refine wq_run3 (pc' := 5) (L' := [(0, .ref 92)]) (S' := [.int 2, .int 500, .ref 92]) (f' := f) rfl ?_
  refine wq_callI (r := (wdI T 0 s e)) (mp_word0 hn1 hT hx hse hen) (Nat.le_of_ble_eq_true rfl) (pc' := 8) (L' := [(0, .ref 92)]) (S' := []) rfl (Nat.le_of_ble_eq_true rfl) rfl rfl (Nat.le_of_ble_eq_true rfl) (Nat.le_of_ble_eq_true rfl) ?_
  refine wq_if (c := (wdI T 0 s e) = 0) (p1 := 15) (L1 := [(0, .ref 92)]) (S1 := []) (p2 := 11) (L2 := [(0, .ref 92)]) (S2 := []) rfl (fun c_8 => ?_) (fun c_8 => ?_)
  · refine wq_run3 (pc' := 20) (L' := [(0, .ref 92)]) (S' := [.int 4, .int 595663, .ref 92]) (f' := f) rfl ?_
    refine wq_callI (r := (wdI T 1 s e)) (mp_word1 hn1 hT hx hse hen) (Nat.le_of_ble_eq_true rfl) (pc' := 23) (L' := [(0, .ref 92)]) (S' := []) rfl (Nat.le_of_ble_eq_true rfl) rfl rfl (Nat.le_of_ble_eq_true rfl) (Nat.le_of_ble_eq_true rfl) ?_
    refine wq_if (c := (wdI T 1 s e) = 0) (p1 := 30) (L1 := [(0, .ref 92)]) (S1 := []) (p2 := 26) (L2 := [(0, .ref 92)]) (S2 := []) rfl (fun c_23 => ?_) (fun c_23 => ?_)
    · refine wq_run3 (pc' := 35) (L' := [(0, .ref 92)]) (S' := [.int 5, .int 8627383, .ref 92]) (f' := f) rfl ?_
      refine wq_callI (r := (wdI T 2 s e)) (mp_word2 hn1 hT hx hse hen) (Nat.le_of_ble_eq_true rfl) (pc' := 38) (L' := [(0, .ref 92)]) (S' := []) rfl (Nat.le_of_ble_eq_true rfl) rfl rfl (Nat.le_of_ble_eq_true rfl) (Nat.le_of_ble_eq_true rfl) ?_
      refine wq_if (c := (wdI T 2 s e) = 0) (p1 := 45) (L1 := [(0, .ref 92)]) (S1 := []) (p2 := 41) (L2 := [(0, .ref 92)]) (S2 := []) rfl (fun c_38 => ?_) (fun c_38 => ?_)
      · refine wq_run3 (pc' := 50) (L' := [(0, .ref 92)]) (S' := [.int 4, .int 169542, .ref 92]) (f' := f) rfl ?_
        refine wq_callI (r := (wdI T 3 s e)) (mp_word3 hn1 hT hx hse hen) (Nat.le_of_ble_eq_true rfl) (pc' := 53) (L' := [(0, .ref 92)]) (S' := []) rfl (Nat.le_of_ble_eq_true rfl) rfl rfl (Nat.le_of_ble_eq_true rfl) (Nat.le_of_ble_eq_true rfl) ?_
        refine wq_if (c := (wdI T 3 s e) = 0) (p1 := 60) (L1 := [(0, .ref 92)]) (S1 := []) (p2 := 56) (L2 := [(0, .ref 92)]) (S2 := []) rfl (fun c_53 => ?_) (fun c_53 => ?_)
        · refine wq_run3 (pc' := 65) (L' := [(0, .ref 92)]) (S' := [.int 5, .int 4232449, .ref 92]) (f' := f) rfl ?_
          refine wq_callI (r := (wdI T 4 s e)) (mp_word4 hn1 hT hx hse hen) (Nat.le_of_ble_eq_true rfl) (pc' := 68) (L' := [(0, .ref 92)]) (S' := []) rfl (Nat.le_of_ble_eq_true rfl) rfl rfl (Nat.le_of_ble_eq_true rfl) (Nat.le_of_ble_eq_true rfl) ?_
          refine wq_if (c := (wdI T 4 s e) = 0) (p1 := 75) (L1 := [(0, .ref 92)]) (S1 := []) (p2 := 71) (L2 := [(0, .ref 92)]) (S2 := []) rfl (fun c_68 => ?_) (fun c_68 => ?_)
          · refine wq_run3 (pc' := 80) (L' := [(0, .ref 92)]) (S' := [.int 5, .int 21595308, .ref 92]) (f' := f) rfl ?_
            refine wq_callI (r := (wdI T 5 s e)) (mp_word5 hn1 hT hx hse hen) (Nat.le_of_ble_eq_true rfl) (pc' := 83) (L' := [(0, .ref 92)]) (S' := []) rfl (Nat.le_of_ble_eq_true rfl) rfl rfl (Nat.le_of_ble_eq_true rfl) (Nat.le_of_ble_eq_true rfl) ?_
            refine wq_if (c := (wdI T 5 s e) = 0) (p1 := 90) (L1 := [(0, .ref 92)]) (S1 := []) (p2 := 86) (L2 := [(0, .ref 92)]) (S2 := []) rfl (fun c_83 => ?_) (fun c_83 => ?_)
            · refine wq_run1 (pc' := 91) (L' := [(0, .ref 92)]) (S' := [.int (-1)]) (f' := f) rfl ?_
              exact wq_ret rfl (Ret.of (by unfold knd; rw [if_pos c_8, if_pos c_23, if_pos c_38, if_pos c_53, if_pos c_68, if_pos c_83]) rfl)
            · refine wq_run2 (pc' := 91) (L' := [(0, .ref 92)]) (S' := [.int 5]) (f' := f) rfl ?_
              exact wq_ret rfl (Ret.of (by unfold knd; rw [if_pos c_8, if_pos c_23, if_pos c_38, if_pos c_53, if_pos c_68, if_neg c_83]) rfl)
          · refine wq_run2 (pc' := 91) (L' := [(0, .ref 92)]) (S' := [.int 4]) (f' := f) rfl ?_
            exact wq_ret rfl (Ret.of (by unfold knd; rw [if_pos c_8, if_pos c_23, if_pos c_38, if_pos c_53, if_neg c_68]) rfl)
        · refine wq_run2 (pc' := 91) (L' := [(0, .ref 92)]) (S' := [.int 3]) (f' := f) rfl ?_
          exact wq_ret rfl (Ret.of (by unfold knd; rw [if_pos c_8, if_pos c_23, if_pos c_38, if_neg c_53]) rfl)
      · refine wq_run2 (pc' := 91) (L' := [(0, .ref 92)]) (S' := [.int 2]) (f' := f) rfl ?_
        exact wq_ret rfl (Ret.of (by unfold knd; rw [if_pos c_8, if_pos c_23, if_neg c_38]) rfl)
    · refine wq_run2 (pc' := 91) (L' := [(0, .ref 92)]) (S' := [.int 1]) (f' := f) rfl ?_
      exact wq_ret rfl (Ret.of (by unfold knd; rw [if_pos c_8, if_neg c_23]) rfl)
  · refine wq_run2 (pc' := 91) (L' := [(0, .ref 92)]) (S' := [.int 0]) (f' := f) rfl ?_
    exact wq_ret rfl (Ret.of (by unfold knd; rw [if_neg c_8]) rfl)
theorem nm_no {T : Nat → Int32} {s e : Nat} {lo hi : Int32} (hlo : 0 ≤ lo) (h : ¬ (s < e ∧ e ≤ s + 3 ∧ srt (T s) = 1)) : ¬ inR (nmI T s e) lo hi := by
  unfold nmI
  rw [if_neg h]
  intro q
  exact absurd (Int32.le_trans hlo q.1) (by decide)
theorem mlp_num0 {f : HI} {T : Nat → Int32} {g : Nat → Int32} {s e : Nat} {lo hi : Int32} (hno : ¬ inR (nmI T s e) lo hi) : wq 2 148 (fun v f' => ∃ r g', v = some (.int r) ∧ f' = up1 f 92 g' ∧ (∀ k, k ≠ 68 → g' k = g k) ∧ ((r = 0 ∧ ¬ inR (nmI T s e) lo hi) ∨ (r = 1 ∧ inR (nmI T s e) lo hi ∧ g' 68 = nmI T s e))) 57 [(0, .ref 92), (1, .int lo), (2, .int hi), (3, .int 0), (4, .int (nI s))] [] (up1 f 92 (upd g 68 0)) := by
  refine wq_run1 (pc' := 58) (L' := [(0, .ref 92), (1, .int lo), (2, .int hi), (3, .int 0), (4, .int (nI s))]) (S' := [.int 0]) (f' := (up1 f 92 (upd g 68 0))) rfl ?_
  refine wq_if (c := 0 = 0) (p1 := 98) (L1 := [(0, .ref 92), (1, .int lo), (2, .int hi), (3, .int 0), (4, .int (nI s))]) (S1 := []) (p2 := 61) (L2 := [(0, .ref 92), (1, .int lo), (2, .int hi), (3, .int 0), (4, .int (nI s))]) (S2 := []) rfl (fun _ => ?_) (fun q => absurd rfl q)
  refine wq_run1 (pc' := 99) (L' := [(0, .ref 92), (1, .int lo), (2, .int hi), (3, .int 0), (4, .int (nI s))]) (S' := [.int 0]) (f' := (up1 f 92 (upd g 68 0))) rfl ?_
  refine wq_if (c := 0 = 0) (p1 := 121) (L1 := [(0, .ref 92), (1, .int lo), (2, .int hi), (3, .int 0), (4, .int (nI s))]) (S1 := []) (p2 := 102) (L2 := [(0, .ref 92), (1, .int lo), (2, .int hi), (3, .int 0), (4, .int (nI s))]) (S2 := []) rfl (fun _ => ?_) (fun q => absurd rfl q)
  refine wq_run1 (pc' := 122) (L' := [(0, .ref 92), (1, .int lo), (2, .int hi), (3, .int 0), (4, .int (nI s))]) (S' := [.int 0]) (f' := (up1 f 92 (upd g 68 0))) rfl ?_
  exact wq_retZ rfl (Or.inl rfl) ⟨0, _, rfl, rfl, fun k hk => upd_n hk, Or.inl ⟨rfl, hno⟩⟩
theorem mlp_num1 {f : HI} {T : Nat → Int32} {n : Nat} (hn1 : n ≤ 160) (hT : ∀ j, j < n → f 100 j = T j) {g : Nat → Int32} {a s e : Nat} {lo hi : Int32} (hlo : 0 ≤ lo) (hx : TY g n a s e) (hse : s ≤ e) (hen : e ≤ n) (hse2 : s < n → s < e) (hq : s < e ∧ e ≤ s + 3 ∧ srt (T s) = 1) : ∀ (m9 : Nat) (i : Nat) (G : Nat → Int32), (s + i ≤ e) → (∀ k, k ≠ 68 → G k = g k) → (G 68 = dgN T s i) → e - i < m9 → wq 2 148 (fun v f' => ∃ r g', v = some (.int r) ∧ f' = up1 f 92 g' ∧ (∀ k, k ≠ 68 → g' k = g k) ∧ ((r = 0 ∧ ¬ inR (nmI T s e) lo hi) ∨ (r = 1 ∧ inR (nmI T s e) lo hi ∧ g' 68 = nmI T s e))) 57 [(0, .ref 92), (1, .int lo), (2, .int hi), (3, .int 1), (4, .int (nI (s + i)))] [] (up1 f 92 G) := by
  intro m9
  induction m9 with
  | zero => intro i G hi2 hk hg hn; exact absurd hn (Nat.not_lt_zero _)
  | succ m9 ih =>
    intro i G hi2 hk hg hn
    refine wq_run1 (pc' := 58) (L' := [(0, .ref 92), (1, .int lo), (2, .int hi), (3, .int 1), (4, .int (nI (s + i)))]) (S' := [.int 1]) (f' := (up1 f 92 G)) rfl ?_
    refine wq_if (c := 1 = 0) (p1 := 98) (L1 := [(0, .ref 92), (1, .int lo), (2, .int hi), (3, .int 1), (4, .int (nI (s + i)))]) (S1 := []) (p2 := 61) (L2 := [(0, .ref 92), (1, .int lo), (2, .int hi), (3, .int 1), (4, .int (nI (s + i)))]) (S2 := []) rfl (fun q => absurd q (by decide)) (fun _ => ?_)
    refine wq_run3 (pc' := 67) (L' := [(0, .ref 92), (1, .int lo), (2, .int hi), (3, .int 1), (4, .int (nI (s + i)))]) (S' := [.int (G 67), .int (nI (s + i))]) (f' := (up1 f 92 G)) rfl ?_
    refine wq_v (y := (nI e)) ((hk 67 (by decide)).trans hx.2.2.2) ?_
    refine wq_if (c := (nI e) ≤ (nI (s + i))) (p1 := 98) (L1 := [(0, .ref 92), (1, .int lo), (2, .int hi), (3, .int 1), (4, .int (nI (s + i)))]) (S1 := []) (p2 := 70) (L2 := [(0, .ref 92), (1, .int lo), (2, .int hi), (3, .int 1), (4, .int (nI (s + i)))]) (S2 := []) rfl (fun c_67 => ?_) (fun c_67 => ?_)
    · have k_67 : e ≤ (s + i) := (nI_leI (a := e) (b := (s + i)) (by omega) (by omega)).mp c_67
      have hnm : nmI T s e = dgN T s i := by unfold nmI; rw [if_pos hq, show e - s = i by omega]
      refine wq_run1 (pc' := 99) (L' := [(0, .ref 92), (1, .int lo), (2, .int hi), (3, .int 1), (4, .int (nI (s + i)))]) (S' := [.int 1]) (f' := (up1 f 92 G)) rfl ?_
      refine wq_if (c := 1 = 0) (p1 := 121) (L1 := [(0, .ref 92), (1, .int lo), (2, .int hi), (3, .int 1), (4, .int (nI (s + i)))]) (S1 := []) (p2 := 102) (L2 := [(0, .ref 92), (1, .int lo), (2, .int hi), (3, .int 1), (4, .int (nI (s + i)))]) (S2 := []) rfl (fun q => absurd q (by decide)) (fun _ => ?_)
      refine wq_run7 (pc' := 111) (L' := [(0, .ref 92), (1, .int lo), (2, .int hi), (3, .int 1), (4, .int (nI (s + i)))]) (S' := [.long hi.toInt64, .long lo.toInt64, .long (G 68).toInt64]) (f' := (up1 f 92 G)) rfl ?_
      refine wq_callI (r := (b2i (inR (G 68) lo hi))) (mp_in (up1 f 92 G) (G 68) lo hi) (Nat.le_of_ble_eq_true rfl) (pc' := 114) (L' := [(0, .ref 92), (1, .int lo), (2, .int hi), (3, .int 1), (4, .int (nI (s + i)))]) (S' := []) rfl (Nat.le_of_ble_eq_true rfl) rfl rfl (Nat.le_of_ble_eq_true rfl) (Nat.le_of_ble_eq_true rfl) ?_
      refine wq_if (c := (b2i (inR (G 68) lo hi)) = 0) (p1 := 121) (L1 := [(0, .ref 92), (1, .int lo), (2, .int hi), (3, .int 1), (4, .int (nI (s + i)))]) (S1 := []) (p2 := 117) (L2 := [(0, .ref 92), (1, .int lo), (2, .int hi), (3, .int 1), (4, .int (nI (s + i)))]) (S2 := []) rfl (fun c_114 => ?_) (fun c_114 => ?_)
      · have h_114 := b2i_0.mp c_114
        refine wq_run1 (pc' := 122) (L' := [(0, .ref 92), (1, .int lo), (2, .int hi), (3, .int 1), (4, .int (nI (s + i)))]) (S' := [.int 0]) (f' := (up1 f 92 G)) rfl ?_
        exact wq_retZ rfl (Or.inl rfl) ⟨0, _, rfl, rfl, hk, Or.inl ⟨rfl, by rw [hnm, ← hg]; exact h_114⟩⟩
      · have h_114 := b2i_n0.mp c_114
        refine wq_run2 (pc' := 122) (L' := [(0, .ref 92), (1, .int lo), (2, .int hi), (3, .int 1), (4, .int (nI (s + i)))]) (S' := [.int 1]) (f' := (up1 f 92 G)) rfl ?_
        exact wq_retZ rfl (Or.inr rfl) ⟨1, _, rfl, rfl, hk, Or.inr ⟨rfl, by rw [hnm, ← hg]; exact h_114, hg.trans hnm.symm⟩⟩
    · have k_67 : ¬ e ≤ (s + i) := fun q => c_67 ((nI_leI (a := e) (b := (s + i)) (by omega) (by omega)).mpr q)
      refine wq_run8 (pc' := 84) (L' := [(0, .ref 92), (1, .int lo), (2, .int hi), (3, .int 1), (4, .int (nI (s + i)))]) (S' := [.int (nI (s + i)), .ref 100, .int (10 * (G 68)), .ref 92]) (f' := (up1 f 92 G)) rfl ?_
      refine wq_ald (j := (s + i)) (n := 160) (v := (T (s + i))) rfl rfl rfl rfl (by omega) (Nat.le_of_ble_eq_true rfl) (hT (s + i) (by omega)) ?_
      refine wq_run3 (pc' := 89) (L' := [(0, .ref 92), (1, .int lo), (2, .int hi), (3, .int 1), (4, .int (nI (s + i)))]) (S' := [.int (((10 * (G 68)) + (T (s + i))) - 48), .ref 92]) (f' := (up1 f 92 G)) rfl ?_
      refine wq_putI rfl rfl ?_
      refine wq_h (f' := (up1 f 92 (upd G 68 (((10 * (G 68)) + (T (s + i))) - 48)))) ((up2_up1_eq f 92 G 68 (((10 * (G 68)) + (T (s + i))) - 48)).trans (congrArg (fun z => up1 f 92 z) (rfl))) ?_
      refine wq_run1 (pc' := 95) (L' := [(0, .ref 92), (1, .int lo), (2, .int hi), (3, .int 1), (4, .int ((nI (s + i)) + 1))]) (S' := []) (f' := (up1 f 92 (upd G 68 (((10 * (G 68)) + (T (s + i))) - 48)))) rfl ?_
      refine wq_L (L' := [(0, .ref 92), (1, .int lo), (2, .int hi), (3, .int 1), (4, .int (nI ((s + i) + 1)))]) (by rw [show nI (s + i) + 1 = nI ((s + i) + 1) from nI_add _ _]) ?_
      refine wq_run1 (pc' := 57) (L' := [(0, .ref 92), (1, .int lo), (2, .int hi), (3, .int 1), (4, .int (nI ((s + i) + 1)))]) (S' := []) (f' := (up1 f 92 (upd G 68 (((10 * (G 68)) + (T (s + i))) - 48)))) rfl ?_
      exact ih (i + 1) _ (by omega) (fun k h => (upd_n h).trans (hk k h)) (by show upd G 68 _ 68 = _; rw [upd_s, hg, Int32.mul_comm]; rfl) (by omega)
theorem mp_isNumber {f : HI} {T : Nat → Int32} {n : Nat} (hn1 : n ≤ 160) (hT : ∀ j, j < n → f 100 j = T j) {g : Nat → Int32} {a s e : Nat} {lo hi : Int32} (hlo : 0 ≤ lo) (hx : TY g n a s e) (hse : s ≤ e) (hen : e ≤ n) (hse2 : s < n → s < e) : Sp 2 148 [.ref 92, .int lo, .int hi] (up1 f 92 g) (fun v f' => ∃ r g', v = some (.int r) ∧ f' = up1 f 92 g' ∧ (∀ k, k ≠ 68 → g' k = g k) ∧ ((r = 0 ∧ ¬ inR (nmI T s e) lo hi) ∨ (r = 1 ∧ inR (nmI T s e) lo hi ∧ g' 68 = nmI T s e))) := by
  show wq 2 148 (fun v f' => ∃ r g', v = some (.int r) ∧ f' = up1 f 92 g' ∧ (∀ k, k ≠ 68 → g' k = g k) ∧ ((r = 0 ∧ ¬ inR (nmI T s e) lo hi) ∨ (r = 1 ∧ inR (nmI T s e) lo hi ∧ g' 68 = nmI T s e))) 0 [(0, .ref 92), (1, .int lo), (2, .int hi)] [] (up1 f 92 g)
  refine wq_run2 (pc' := 4) (L' := [(0, .ref 92), (1, .int lo), (2, .int hi)]) (S' := [.int (g 66)]) (f' := (up1 f 92 g)) rfl ?_
  refine wq_v (y := (nI s)) (hx.2.2.1) ?_
  refine wq_run2 (pc' := 8) (L' := [(0, .ref 92), (1, .int lo), (2, .int hi)]) (S' := [.int (g 10), .int (nI s)]) (f' := (up1 f 92 g)) rfl ?_
  refine wq_v (y := (nI n)) (hx.1) ?_
  refine wq_if (c := (nI n) ≤ (nI s)) (p1 := 44) (L1 := [(0, .ref 92), (1, .int lo), (2, .int hi)]) (S1 := []) (p2 := 11) (L2 := [(0, .ref 92), (1, .int lo), (2, .int hi)]) (S2 := []) rfl (fun c_8 => ?_) (fun c_8 => ?_)
  · have k_8 : n ≤ s := (nI_leI (a := n) (b := s) (by omega) (by omega)).mp c_8
    refine wq_run4 (pc' := 48) (L' := [(0, .ref 92), (1, .int lo), (2, .int hi), (3, .int 0)]) (S' := [.int 0, .ref 92]) (f' := (up1 f 92 g)) rfl ?_
    refine wq_putI rfl rfl ?_
    refine wq_h (f' := (up1 f 92 (upd g 68 0))) ((up2_up1_eq f 92 g 68 0).trans (congrArg (fun z => up1 f 92 z) (rfl))) ?_
    refine wq_run2 (pc' := 55) (L' := [(0, .ref 92), (1, .int lo), (2, .int hi), (3, .int 0)]) (S' := [.int (g 66)]) (f' := (up1 f 92 (upd g 68 0))) rfl ?_
    refine wq_v (y := (nI s)) (hx.2.2.1) ?_
    refine wq_run1 (pc' := 57) (L' := [(0, .ref 92), (1, .int lo), (2, .int hi), (3, .int 0), (4, .int (nI s))]) (S' := []) (f' := (up1 f 92 (upd g 68 0))) rfl ?_
    exact mlp_num0 (nm_no hlo (by omega))
  · have k_8 : ¬ n ≤ s := fun q => c_8 ((nI_leI (a := n) (b := s) (by omega) (by omega)).mpr q)
    have h3 := srt_3 (T s)
    refine wq_run4 (pc' := 19) (L' := [(0, .ref 92), (1, .int lo), (2, .int hi)]) (S' := [.int (g 66), .ref 100]) (f' := (up1 f 92 g)) rfl ?_
    refine wq_v (y := (nI s)) (hx.2.2.1) ?_
    refine wq_ald (j := s) (n := 160) (v := (T s)) rfl rfl rfl rfl (by omega) (Nat.le_of_ble_eq_true rfl) (hT s (by omega)) ?_
    refine wq_callI (r := (smI (srt (T s)))) (mp_sort (up1 f 92 g) (T s)) (Nat.le_of_ble_eq_true rfl) (pc' := 23) (L' := [(0, .ref 92), (1, .int lo), (2, .int hi)]) (S' := []) rfl (Nat.le_of_ble_eq_true rfl) rfl rfl (Nat.le_of_ble_eq_true rfl) (Nat.le_of_ble_eq_true rfl) ?_
    refine wq_run1 (pc' := 24) (L' := [(0, .ref 92), (1, .int lo), (2, .int hi)]) (S' := [.int 2, .int (smI (srt (T s)))]) (f' := (up1 f 92 g)) rfl ?_
    refine wq_if (c := (smI (srt (T s))) = 2) (p1 := 27) (L1 := [(0, .ref 92), (1, .int lo), (2, .int hi)]) (S1 := []) (p2 := 44) (L2 := [(0, .ref 92), (1, .int lo), (2, .int hi)]) (S2 := []) rfl (fun c_24 => ?_) (fun c_24 => ?_)
    · refine wq_run2 (pc' := 31) (L' := [(0, .ref 92), (1, .int lo), (2, .int hi)]) (S' := [.int (g 67)]) (f' := (up1 f 92 g)) rfl ?_
      refine wq_v (y := (nI e)) (hx.2.2.2) ?_
      refine wq_run2 (pc' := 35) (L' := [(0, .ref 92), (1, .int lo), (2, .int hi)]) (S' := [.int (g 66), .int (nI e)]) (f' := (up1 f 92 g)) rfl ?_
      refine wq_v (y := (nI s)) (hx.2.2.1) ?_
      refine wq_run1 (pc' := 36) (L' := [(0, .ref 92), (1, .int lo), (2, .int hi)]) (S' := [.int ((nI e) - (nI s))]) (f' := (up1 f 92 g)) rfl ?_
      refine wq_v (y := (nI (e - s))) (pk_sub (a := e) (b := s) (by omega)) ?_
      refine wq_run1 (pc' := 37) (L' := [(0, .ref 92), (1, .int lo), (2, .int hi)]) (S' := [.int 3, .int (nI (e - s))]) (f' := (up1 f 92 g)) rfl ?_
      refine wq_if (c := 3 < (nI (e - s))) (p1 := 44) (L1 := [(0, .ref 92), (1, .int lo), (2, .int hi)]) (S1 := []) (p2 := 40) (L2 := [(0, .ref 92), (1, .int lo), (2, .int hi)]) (S2 := []) rfl (fun c_37 => ?_) (fun c_37 => ?_)
      · have k_37 : 3 < (e - s) := (nI_ltI (a := 3) (b := (e - s)) (by omega) (by omega)).mp c_37
        refine wq_run4 (pc' := 48) (L' := [(0, .ref 92), (1, .int lo), (2, .int hi), (3, .int 0)]) (S' := [.int 0, .ref 92]) (f' := (up1 f 92 g)) rfl ?_
        refine wq_putI rfl rfl ?_
        refine wq_h (f' := (up1 f 92 (upd g 68 0))) ((up2_up1_eq f 92 g 68 0).trans (congrArg (fun z => up1 f 92 z) (rfl))) ?_
        refine wq_run2 (pc' := 55) (L' := [(0, .ref 92), (1, .int lo), (2, .int hi), (3, .int 0)]) (S' := [.int (g 66)]) (f' := (up1 f 92 (upd g 68 0))) rfl ?_
        refine wq_v (y := (nI s)) (hx.2.2.1) ?_
        refine wq_run1 (pc' := 57) (L' := [(0, .ref 92), (1, .int lo), (2, .int hi), (3, .int 0), (4, .int (nI s))]) (S' := []) (f' := (up1 f 92 (upd g 68 0))) rfl ?_
        exact mlp_num0 (nm_no hlo (by omega))
      · have k_37 : ¬ 3 < (e - s) := fun q => c_37 ((nI_ltI (a := 3) (b := (e - s)) (by omega) (by omega)).mpr q)
        refine wq_run5 (pc' := 48) (L' := [(0, .ref 92), (1, .int lo), (2, .int hi), (3, .int 1)]) (S' := [.int 0, .ref 92]) (f' := (up1 f 92 g)) rfl ?_
        refine wq_putI rfl rfl ?_
        refine wq_h (f' := (up1 f 92 (upd g 68 0))) ((up2_up1_eq f 92 g 68 0).trans (congrArg (fun z => up1 f 92 z) (rfl))) ?_
        refine wq_run2 (pc' := 55) (L' := [(0, .ref 92), (1, .int lo), (2, .int hi), (3, .int 1)]) (S' := [.int (g 66)]) (f' := (up1 f 92 (upd g 68 0))) rfl ?_
        refine wq_v (y := (nI s)) (hx.2.2.1) ?_
        refine wq_run1 (pc' := 57) (L' := [(0, .ref 92), (1, .int lo), (2, .int hi), (3, .int 1), (4, .int (nI s))]) (S' := []) (f' := (up1 f 92 (upd g 68 0))) rfl ?_
        exact mlp_num1 hn1 hT hlo hx hse hen hse2 ⟨by omega, by omega, (smI_e h3 (by decide)).mp c_24⟩ (e - 0 + 1) 0 _ hse (fun k h => upd_n h) (upd_s g 68 0) (by omega)
    · refine wq_run4 (pc' := 48) (L' := [(0, .ref 92), (1, .int lo), (2, .int hi), (3, .int 0)]) (S' := [.int 0, .ref 92]) (f' := (up1 f 92 g)) rfl ?_
      refine wq_putI rfl rfl ?_
      refine wq_h (f' := (up1 f 92 (upd g 68 0))) ((up2_up1_eq f 92 g 68 0).trans (congrArg (fun z => up1 f 92 z) (rfl))) ?_
      refine wq_run2 (pc' := 55) (L' := [(0, .ref 92), (1, .int lo), (2, .int hi), (3, .int 0)]) (S' := [.int (g 66)]) (f' := (up1 f 92 (upd g 68 0))) rfl ?_
      refine wq_v (y := (nI s)) (hx.2.2.1) ?_
      refine wq_run1 (pc' := 57) (L' := [(0, .ref 92), (1, .int lo), (2, .int hi), (3, .int 0), (4, .int (nI s))]) (S' := []) (f' := (up1 f 92 (upd g 68 0))) rfl ?_
      exact mlp_num0 (nm_no hlo (fun q => c_24 (by rw [q.2.2]; rfl)))
theorem upd_n2 {g : Nat → Int32} {k j : Nat} {v w : Int32} (h : j ≠ k) : upd (upd g k v) k w j = g j := (upd_n h).trans (upd_n h)
theorem mp_readsClause {f : HI} {T : Nat → Int32} {n : Nat} (hn1 : n ≤ 160) (hT : ∀ j, j < n → f 100 j = T j) {g A K M P : Nat → Int32} {p c : Nat} (hp : p ≤ n) (hx1 : TY g n (tkE T n p) (tkS T n p) (tkE T n p)) (hc8 : c < 8) (hA5 : A 5 = nI c) : Sp 3 150 [.ref 92] (up1 (up1 (up1 (up1 (up1 f 104 P) 103 M) 102 K) 101 A) 92 g) (fun v f' => ∃ r g' A' K' M' P', v = some (.int r) ∧ f' = (up1 (up1 (up1 (up1 (up1 f 104 P') 103 M') 102 K') 101 A') 92 g') ∧ (∀ k, k ≠ 65 → k ≠ 66 → k ≠ 67 → k ≠ 68 → g' k = g k) ∧ (∀ j, j < 5 → A' j = A j) ∧ (∀ j, j < 40 + c → K' j = K j ∧ M' j = M j ∧ P' j = P j) ∧ ((r = 0 ∧ ∃ s a e, clR T n p = .inl s ∧ TY g' n a s e) ∨ (r = 1 ∧ ∃ k a b p', clR T n p = .inr (k, a, b, p') ∧ TY g' n (tkE T n p') (tkS T n p') (tkE T n p') ∧ A' 5 = nI (c + 1) ∧ K' (40 + c) = k ∧ (k = 0 ∨ k = 1 → M' (40 + c) = a ∧ P' (40 + c) = b) ∧ (¬ k = 0 → ¬ k = 1 → P' (40 + c) = a)))) := by
  have t1 := tk_b (T := T) (n := n) (p := p) hp
  show wq 3 150 (fun v f' => ∃ r g' A' K' M' P', v = some (.int r) ∧ f' = (up1 (up1 (up1 (up1 (up1 f 104 P') 103 M') 102 K') 101 A') 92 g') ∧ (∀ k, k ≠ 65 → k ≠ 66 → k ≠ 67 → k ≠ 68 → g' k = g k) ∧ (∀ j, j < 5 → A' j = A j) ∧ (∀ j, j < 40 + c → K' j = K j ∧ M' j = M j ∧ P' j = P j) ∧ ((r = 0 ∧ ∃ s a e, clR T n p = .inl s ∧ TY g' n a s e) ∨ (r = 1 ∧ ∃ k a b p', clR T n p = .inr (k, a, b, p') ∧ TY g' n (tkE T n p') (tkS T n p') (tkE T n p') ∧ A' 5 = nI (c + 1) ∧ K' (40 + c) = k ∧ (k = 0 ∨ k = 1 → M' (40 + c) = a ∧ P' (40 + c) = b) ∧ (¬ k = 0 → ¬ k = 1 → P' (40 + c) = a)))) 0 [(0, .ref 92)] [] (up1 (up1 (up1 (up1 (up1 f 104 P) 103 M) 102 K) 101 A) 92 g)
  refine wq_run1 (pc' := 1) (L' := [(0, .ref 92)]) (S' := [.ref 92]) (f' := (up1 (up1 (up1 (up1 (up1 f 104 P) 103 M) 102 K) 101 A) 92 g)) rfl ?_
  refine wq_callI (r := (knd T (tkS T n p) (tkE T n p))) (mp_kind (f := (up1 (up1 (up1 (up1 (up1 f 104 P) 103 M) 102 K) 101 A) 92 g)) (T := T) (n := n) (a := tkE T n p) (s := tkS T n p) (e := tkE T n p) hn1 hT hx1 t1.2.1 t1.2.2.1) (Nat.le_of_ble_eq_true rfl) (pc' := 4) (L' := [(0, .ref 92)]) (S' := []) rfl (Nat.le_of_ble_eq_true rfl) rfl rfl (Nat.le_of_ble_eq_true rfl) (Nat.le_of_ble_eq_true rfl) ?_
  refine wq_run3 (pc' := 7) (L' := [(0, .ref 92), (1, .int (knd T (tkS T n p) (tkE T n p)))]) (S' := [.int (-1), .int (knd T (tkS T n p) (tkE T n p))]) (f' := (up1 (up1 (up1 (up1 (up1 f 104 P) 103 M) 102 K) 101 A) 92 g)) rfl ?_
  refine wq_if (c := (knd T (tkS T n p) (tkE T n p)) = (-1)) (p1 := 10) (L1 := [(0, .ref 92), (1, .int (knd T (tkS T n p) (tkE T n p)))]) (S1 := []) (p2 := 12) (L2 := [(0, .ref 92), (1, .int (knd T (tkS T n p) (tkE T n p)))]) (S2 := []) rfl (fun c_7 => ?_) (fun c_7 => ?_)
  · refine wq_run1 (pc' := 11) (L' := [(0, .ref 92), (1, .int (knd T (tkS T n p) (tkE T n p)))]) (S' := [.int 0]) (f' := (up1 (up1 (up1 (up1 (up1 f 104 P) 103 M) 102 K) 101 A) 92 g)) rfl ?_
    exact wq_retZ rfl (Or.inl rfl) ⟨0, _, _, _, _, _, rfl, rfl, (fun _ _ _ _ _ => rfl), (fun _ _ => rfl), (fun _ _ => ⟨rfl, rfl, rfl⟩), Or.inl ⟨rfl, _, _, _, if_pos c_7, hx1⟩⟩
  · obtain ⟨kd, hkd6, hkd⟩ := knd_y c_7
    refine wq_L (L' := [(0, .ref 92), (1, .int (nI kd))]) (by rw [hkd]) ?_
    refine wq_run4 (pc' := 19) (L' := [(0, .ref 92), (1, .int (nI kd))]) (S' := [.int 5, .ref 101, .int 40]) (f' := (up1 (up1 (up1 (up1 (up1 f 104 P) 103 M) 102 K) 101 A) 92 g)) rfl ?_
    refine wq_ald (j := 5) (n := 6) (v := (nI c)) rfl rfl rfl rfl (Nat.le_of_ble_eq_true rfl) (Nat.le_of_ble_eq_true rfl) (hA5) ?_
    refine wq_run1 (pc' := 21) (L' := [(0, .ref 92), (1, .int (nI kd))]) (S' := [.int (40 + (nI c))]) (f' := (up1 (up1 (up1 (up1 (up1 f 104 P) 103 M) 102 K) 101 A) 92 g)) rfl ?_
    refine wq_v (y := (nI (40 + c))) (nI_add 40 c) ?_
    refine wq_run5 (pc' := 28) (L' := [(0, .ref 92), (1, .int (nI kd)), (2, .int (nI (40 + c)))]) (S' := [.int (nI kd), .int (nI (40 + c)), .ref 102]) (f' := (up1 (up1 (up1 (up1 (up1 f 104 P) 103 M) 102 K) 101 A) 92 g)) rfl ?_
    refine wq_ist (j := (40 + c)) (n := 48) rfl rfl rfl rfl (by omega) (Nat.le_of_ble_eq_true rfl) ?_
    refine wq_h (f' := (up1 (up1 (up1 (up1 (up1 f 104 P) 103 M) 102 (upd K (40 + c) (nI kd))) 101 A) 92 g)) ((up2_up1_ne (f := (up1 (up1 (up1 (up1 f 104 P) 103 M) 102 K) 101 A)) (g := g) (k := (40 + c)) (v := (nI kd)) (show (102 : Nat) ≠ 92 by decide)).trans (congrArg (fun z => up1 z 92 g) ((up2_up1_ne (f := (up1 (up1 (up1 f 104 P) 103 M) 102 K)) (g := A) (k := (40 + c)) (v := (nI kd)) (show (102 : Nat) ≠ 101 by decide)).trans (congrArg (fun z => up1 z 101 A) ((up2_up1_eq (up1 (up1 f 104 P) 103 M) 102 K (40 + c) (nI kd)).trans (congrArg (fun z => up1 (up1 (up1 f 104 P) 103 M) 102 z) (rfl))))))) ?_
    refine wq_run4 (pc' := 35) (L' := [(0, .ref 92), (1, .int (nI kd)), (2, .int (nI (40 + c)))]) (S' := [.int 0, .int (nI (40 + c)), .ref 103]) (f' := (up1 (up1 (up1 (up1 (up1 f 104 P) 103 M) 102 (upd K (40 + c) (nI kd))) 101 A) 92 g)) rfl ?_
    refine wq_ist (j := (40 + c)) (n := 48) rfl rfl rfl rfl (by omega) (Nat.le_of_ble_eq_true rfl) ?_
    refine wq_h (f' := (up1 (up1 (up1 (up1 (up1 f 104 P) 103 (upd M (40 + c) 0)) 102 (upd K (40 + c) (nI kd))) 101 A) 92 g)) ((up2_up1_ne (f := (up1 (up1 (up1 (up1 f 104 P) 103 M) 102 (upd K (40 + c) (nI kd))) 101 A)) (g := g) (k := (40 + c)) (v := 0) (show (103 : Nat) ≠ 92 by decide)).trans (congrArg (fun z => up1 z 92 g) ((up2_up1_ne (f := (up1 (up1 (up1 f 104 P) 103 M) 102 (upd K (40 + c) (nI kd)))) (g := A) (k := (40 + c)) (v := 0) (show (103 : Nat) ≠ 101 by decide)).trans (congrArg (fun z => up1 z 101 A) ((up2_up1_ne (f := (up1 (up1 f 104 P) 103 M)) (g := (upd K (40 + c) (nI kd))) (k := (40 + c)) (v := 0) (show (103 : Nat) ≠ 102 by decide)).trans (congrArg (fun z => up1 z 102 (upd K (40 + c) (nI kd))) ((up2_up1_eq (up1 f 104 P) 103 M (40 + c) 0).trans (congrArg (fun z => up1 (up1 f 104 P) 103 z) (rfl))))))))) ?_
    refine wq_run1 (pc' := 37) (L' := [(0, .ref 92), (1, .int (nI kd)), (2, .int (nI (40 + c)))]) (S' := [.ref 92]) (f' := (up1 (up1 (up1 (up1 (up1 f 104 P) 103 (upd M (40 + c) 0)) 102 (upd K (40 + c) (nI kd))) 101 A) 92 g)) rfl ?_
    refine wq_call (mp_token (f := (up1 (up1 (up1 (up1 f 104 P) 103 (upd M (40 + c) 0)) 102 (upd K (40 + c) (nI kd))) 101 A)) (T := T) (n := n) (g := g) (p := (tkE T n p)) hn1 hT t1.2.2.1 hx1) (Nat.le_of_ble_eq_true rfl) (pc' := 40) (L' := [(0, .ref 92), (1, .int (nI kd)), (2, .int (nI (40 + c)))]) (S' := []) rfl (Nat.le_of_ble_eq_true rfl) rfl rfl (Nat.le_of_ble_eq_true rfl) (Nat.le_of_ble_eq_true rfl) ?_
    rintro v f9 ⟨tg2, e0, ef, hx2, hk2⟩
    subst e0
    subst ef
    have t2 := tk_b (T := T) (n := n) (p := (tkE T n p)) t1.2.2.1
    refine wq_run1 (pc' := 41) (L' := [(0, .ref 92), (1, .int (nI kd)), (2, .int (nI (40 + c)))]) (S' := [.int (nI kd)]) (f' := (up1 (up1 (up1 (up1 (up1 f 104 P) 103 (upd M (40 + c) 0)) 102 (upd K (40 + c) (nI kd))) 101 A) 92 tg2)) rfl ?_
    refine wq_if (c := (nI kd) = 0) (p1 := 49) (L1 := [(0, .ref 92), (1, .int (nI kd)), (2, .int (nI (40 + c)))]) (S1 := []) (p2 := 44) (L2 := [(0, .ref 92), (1, .int (nI kd)), (2, .int (nI (40 + c)))]) (S2 := []) rfl (fun c_41 => ?_) (fun c_41 => ?_)
    · have k_41 : kd = 0 := (nI_eq (a := kd) (b := 0) (by omega) (by omega)).mp c_41
      refine wq_run3 (pc' := 54) (L' := [(0, .ref 92), (1, .int (nI kd)), (2, .int (nI (40 + c)))]) (S' := [.int 999, .int 1, .ref 92]) (f' := (up1 (up1 (up1 (up1 (up1 f 104 P) 103 (upd M (40 + c) 0)) 102 (upd K (40 + c) (nI kd))) 101 A) 92 tg2)) rfl ?_
      refine wq_call (mp_isNumber (f := (up1 (up1 (up1 (up1 f 104 P) 103 (upd M (40 + c) 0)) 102 (upd K (40 + c) (nI kd))) 101 A)) (T := T) (n := n) (g := tg2) (a := tkE T n (tkE T n p)) (s := tkS T n (tkE T n p)) (e := tkE T n (tkE T n p)) (lo := 1) (hi := 999) hn1 hT (by decide) hx2 t2.2.1 t2.2.2.1 t2.2.2.2) (Nat.le_of_ble_eq_true rfl) (pc' := 57) (L' := [(0, .ref 92), (1, .int (nI kd)), (2, .int (nI (40 + c)))]) (S' := []) rfl (Nat.le_of_ble_eq_true rfl) rfl rfl (Nat.le_of_ble_eq_true rfl) (Nat.le_of_ble_eq_true rfl) ?_
      rintro v f9 ⟨nar, nag, e0, ef, nak, nah⟩
      subst e0
      subst ef
      have hx2 : TY nag n (tkE T n (tkE T n p)) (tkS T n (tkE T n p)) (tkE T n (tkE T n p)) := ⟨(nak 10 (by decide)).trans hx2.1, (nak 65 (by decide)).trans hx2.2.1, (nak 66 (by decide)).trans hx2.2.2.1, (nak 67 (by decide)).trans hx2.2.2.2⟩
      refine wq_if (c := nar = 0) (p1 := 60) (L1 := [(0, .ref 92), (1, .int (nI kd)), (2, .int (nI (40 + c)))]) (S1 := []) (p2 := 62) (L2 := [(0, .ref 92), (1, .int (nI kd)), (2, .int (nI (40 + c)))]) (S2 := []) rfl (fun c_57 => ?_) (fun c_57 => ?_)
      · have nan := (nah.resolve_right (fun q => absurd (q.1.symm.trans c_57) (by decide))).2
        refine wq_run1 (pc' := 61) (L' := [(0, .ref 92), (1, .int (nI kd)), (2, .int (nI (40 + c)))]) (S' := [.int 0]) (f' := (up1 (up1 (up1 (up1 (up1 f 104 P) 103 (upd M (40 + c) 0)) 102 (upd K (40 + c) (nI kd))) 101 A) 92 nag)) rfl ?_
        have hl : loN kd = 1 ∧ hiN kd = 999 := by rw [k_41]; exact ⟨rfl, rfl⟩
        exact wq_retZ rfl (Or.inl rfl) ⟨0, _, _, _, _, _, rfl, rfl, (fun k h1 h2 h3 h4 => (nak k h4).trans (hk2 k h1 h2 h3)), (fun _ _ => rfl), (fun j hj => ⟨upd_n (by omega), upd_n (by omega), rfl⟩), Or.inl ⟨rfl, _, _, _, by unfold clR; rw [if_neg c_7, hkd, nI_clamp (by omega), hl.1, hl.2]; exact if_pos nan, hx2⟩⟩
      · have nay := (nah.resolve_left (fun q => c_57 q.1)).2
        refine wq_run5 (pc' := 71) (L' := [(0, .ref 92), (1, .int (nI kd)), (2, .int (nI (40 + c)))]) (S' := [.int (nag 68), .int (nI (40 + c)), .ref 103]) (f' := (up1 (up1 (up1 (up1 (up1 f 104 P) 103 (upd M (40 + c) 0)) 102 (upd K (40 + c) (nI kd))) 101 A) 92 nag)) rfl ?_
        refine wq_v (y := (nmI T (tkS T n (tkE T n p)) (tkE T n (tkE T n p)))) (nay.2) ?_
        refine wq_ist (j := (40 + c)) (n := 48) rfl rfl rfl rfl (by omega) (Nat.le_of_ble_eq_true rfl) ?_
        refine wq_h (f' := (up1 (up1 (up1 (up1 (up1 f 104 P) 103 (upd (upd M (40 + c) 0) (40 + c) (nmI T (tkS T n (tkE T n p)) (tkE T n (tkE T n p))))) 102 (upd K (40 + c) (nI kd))) 101 A) 92 nag)) ((up2_up1_ne (f := (up1 (up1 (up1 (up1 f 104 P) 103 (upd M (40 + c) 0)) 102 (upd K (40 + c) (nI kd))) 101 A)) (g := nag) (k := (40 + c)) (v := (nmI T (tkS T n (tkE T n p)) (tkE T n (tkE T n p)))) (show (103 : Nat) ≠ 92 by decide)).trans (congrArg (fun z => up1 z 92 nag) ((up2_up1_ne (f := (up1 (up1 (up1 f 104 P) 103 (upd M (40 + c) 0)) 102 (upd K (40 + c) (nI kd)))) (g := A) (k := (40 + c)) (v := (nmI T (tkS T n (tkE T n p)) (tkE T n (tkE T n p)))) (show (103 : Nat) ≠ 101 by decide)).trans (congrArg (fun z => up1 z 101 A) ((up2_up1_ne (f := (up1 (up1 f 104 P) 103 (upd M (40 + c) 0))) (g := (upd K (40 + c) (nI kd))) (k := (40 + c)) (v := (nmI T (tkS T n (tkE T n p)) (tkE T n (tkE T n p)))) (show (103 : Nat) ≠ 102 by decide)).trans (congrArg (fun z => up1 z 102 (upd K (40 + c) (nI kd))) ((up2_up1_eq (up1 f 104 P) 103 (upd M (40 + c) 0) (40 + c) (nmI T (tkS T n (tkE T n p)) (tkE T n (tkE T n p)))).trans (congrArg (fun z => up1 (up1 f 104 P) 103 z) (rfl))))))))) ?_
        refine wq_run1 (pc' := 73) (L' := [(0, .ref 92), (1, .int (nI kd)), (2, .int (nI (40 + c)))]) (S' := [.ref 92]) (f' := (up1 (up1 (up1 (up1 (up1 f 104 P) 103 (upd (upd M (40 + c) 0) (40 + c) (nmI T (tkS T n (tkE T n p)) (tkE T n (tkE T n p))))) 102 (upd K (40 + c) (nI kd))) 101 A) 92 nag)) rfl ?_
        refine wq_call (mp_token (f := (up1 (up1 (up1 (up1 f 104 P) 103 (upd (upd M (40 + c) 0) (40 + c) (nmI T (tkS T n (tkE T n p)) (tkE T n (tkE T n p))))) 102 (upd K (40 + c) (nI kd))) 101 A)) (T := T) (n := n) (g := nag) (p := (tkE T n (tkE T n p))) hn1 hT t2.2.2.1 hx2) (Nat.le_of_ble_eq_true rfl) (pc' := 76) (L' := [(0, .ref 92), (1, .int (nI kd)), (2, .int (nI (40 + c)))]) (S' := []) rfl (Nat.le_of_ble_eq_true rfl) rfl rfl (Nat.le_of_ble_eq_true rfl) (Nat.le_of_ble_eq_true rfl) ?_
        rintro v f9 ⟨tg3, e0, ef, hx3, hk3⟩
        subst e0
        subst ef
        have t3 := tk_b (T := T) (n := n) (p := (tkE T n (tkE T n p))) t2.2.2.1
        refine wq_run3 (pc' := 81) (L' := [(0, .ref 92), (1, .int (nI kd)), (2, .int (nI (40 + c)))]) (S' := [.int 3, .int 25648, .ref 92]) (f' := (up1 (up1 (up1 (up1 (up1 f 104 P) 103 (upd (upd M (40 + c) 0) (40 + c) (nmI T (tkS T n (tkE T n p)) (tkE T n (tkE T n p))))) 102 (upd K (40 + c) (nI kd))) 101 A) 92 tg3)) rfl ?_
        refine wq_callI (r := (wdI T 6 (tkS T n (tkE T n (tkE T n p))) (tkE T n (tkE T n (tkE T n p))))) (mp_word6 (f := (up1 (up1 (up1 (up1 (up1 f 104 P) 103 (upd (upd M (40 + c) 0) (40 + c) (nmI T (tkS T n (tkE T n p)) (tkE T n (tkE T n p))))) 102 (upd K (40 + c) (nI kd))) 101 A) 92 tg3)) (T := T) (n := n) (a := tkE T n (tkE T n (tkE T n p))) (s := tkS T n (tkE T n (tkE T n p))) (e := tkE T n (tkE T n (tkE T n p))) hn1 hT hx3 t3.2.1 t3.2.2.1) (Nat.le_of_ble_eq_true rfl) (pc' := 84) (L' := [(0, .ref 92), (1, .int (nI kd)), (2, .int (nI (40 + c)))]) (S' := []) rfl (Nat.le_of_ble_eq_true rfl) rfl rfl (Nat.le_of_ble_eq_true rfl) (Nat.le_of_ble_eq_true rfl) ?_
        refine wq_if (c := (wdI T 6 (tkS T n (tkE T n (tkE T n p))) (tkE T n (tkE T n (tkE T n p)))) = 0) (p1 := 87) (L1 := [(0, .ref 92), (1, .int (nI kd)), (2, .int (nI (40 + c)))]) (S1 := []) (p2 := 89) (L2 := [(0, .ref 92), (1, .int (nI kd)), (2, .int (nI (40 + c)))]) (S2 := []) rfl (fun c_84 => ?_) (fun c_84 => ?_)
        · refine wq_run1 (pc' := 88) (L' := [(0, .ref 92), (1, .int (nI kd)), (2, .int (nI (40 + c)))]) (S' := [.int 0]) (f' := (up1 (up1 (up1 (up1 (up1 f 104 P) 103 (upd (upd M (40 + c) 0) (40 + c) (nmI T (tkS T n (tkE T n p)) (tkE T n (tkE T n p))))) 102 (upd K (40 + c) (nI kd))) 101 A) 92 tg3)) rfl ?_
          have hl : loN kd = 1 ∧ hiN kd = 999 := by rw [k_41]; exact ⟨rfl, rfl⟩
          exact wq_retZ rfl (Or.inl rfl) ⟨0, _, _, _, _, _, rfl, rfl, (fun k h1 h2 h3 h4 => (hk3 k h1 h2 h3).trans ((nak k h4).trans (hk2 k h1 h2 h3))), (fun _ _ => rfl), (fun j hj => ⟨upd_n (by omega), upd_n2 (by omega), rfl⟩), Or.inl ⟨rfl, _, _, _, by unfold clR; rw [if_neg c_7, hkd, nI_clamp (by omega), hl.1, hl.2]; rw [if_neg (fun q => q nay.1), if_pos (Or.inl k_41)]; exact if_pos c_84, hx3⟩⟩
        · refine wq_run1 (pc' := 90) (L' := [(0, .ref 92), (1, .int (nI kd)), (2, .int (nI (40 + c)))]) (S' := [.ref 92]) (f' := (up1 (up1 (up1 (up1 (up1 f 104 P) 103 (upd (upd M (40 + c) 0) (40 + c) (nmI T (tkS T n (tkE T n p)) (tkE T n (tkE T n p))))) 102 (upd K (40 + c) (nI kd))) 101 A) 92 tg3)) rfl ?_
          refine wq_call (mp_token (f := (up1 (up1 (up1 (up1 f 104 P) 103 (upd (upd M (40 + c) 0) (40 + c) (nmI T (tkS T n (tkE T n p)) (tkE T n (tkE T n p))))) 102 (upd K (40 + c) (nI kd))) 101 A)) (T := T) (n := n) (g := tg3) (p := (tkE T n (tkE T n (tkE T n p)))) hn1 hT t3.2.2.1 hx3) (Nat.le_of_ble_eq_true rfl) (pc' := 93) (L' := [(0, .ref 92), (1, .int (nI kd)), (2, .int (nI (40 + c)))]) (S' := []) rfl (Nat.le_of_ble_eq_true rfl) rfl rfl (Nat.le_of_ble_eq_true rfl) (Nat.le_of_ble_eq_true rfl) ?_
          rintro v f9 ⟨tg4, e0, ef, hx4, hk4⟩
          subst e0
          subst ef
          have t4 := tk_b (T := T) (n := n) (p := (tkE T n (tkE T n (tkE T n p)))) t3.2.2.1
          refine wq_run3 (pc' := 96) (L' := [(0, .ref 92), (1, .int (nI kd)), (2, .int (nI (40 + c)))]) (S' := [.int 2, .int (nI kd), .ref 92]) (f' := (up1 (up1 (up1 (up1 (up1 f 104 P) 103 (upd (upd M (40 + c) 0) (40 + c) (nmI T (tkS T n (tkE T n p)) (tkE T n (tkE T n p))))) 102 (upd K (40 + c) (nI kd))) 101 A) 92 tg4)) rfl ?_
          refine wq_if (c := (nI kd) = 2) (p1 := 99) (L1 := [(0, .ref 92), (1, .int (nI kd)), (2, .int (nI (40 + c)))]) (S1 := [.ref 92]) (p2 := 103) (L2 := [(0, .ref 92), (1, .int (nI kd)), (2, .int (nI (40 + c)))]) (S2 := [.ref 92]) rfl (fun q => absurd q (fun q => absurd ((nI_eq (a := kd) (b := 2) (by omega) (by omega)).mp q) (by omega))) (fun _ => ?_)
          refine wq_run3 (pc' := 106) (L' := [(0, .ref 92), (1, .int (nI kd)), (2, .int (nI (40 + c)))]) (S' := [.int 2, .int (nI kd), .int 0, .ref 92]) (f' := (up1 (up1 (up1 (up1 (up1 f 104 P) 103 (upd (upd M (40 + c) 0) (40 + c) (nmI T (tkS T n (tkE T n p)) (tkE T n (tkE T n p))))) 102 (upd K (40 + c) (nI kd))) 101 A) 92 tg4)) rfl ?_
          refine wq_if (c := (nI kd) = 2) (p1 := 109) (L1 := [(0, .ref 92), (1, .int (nI kd)), (2, .int (nI (40 + c)))]) (S1 := [.int 0, .ref 92]) (p2 := 114) (L2 := [(0, .ref 92), (1, .int (nI kd)), (2, .int (nI (40 + c)))]) (S2 := [.int 0, .ref 92]) rfl (fun q => absurd q (fun q => absurd ((nI_eq (a := kd) (b := 2) (by omega) (by omega)).mp q) (by omega))) (fun _ => ?_)
          refine wq_run1 (pc' := 116) (L' := [(0, .ref 92), (1, .int (nI kd)), (2, .int (nI (40 + c)))]) (S' := [.int 99, .int 0, .ref 92]) (f' := (up1 (up1 (up1 (up1 (up1 f 104 P) 103 (upd (upd M (40 + c) 0) (40 + c) (nmI T (tkS T n (tkE T n p)) (tkE T n (tkE T n p))))) 102 (upd K (40 + c) (nI kd))) 101 A) 92 tg4)) rfl ?_
          refine wq_call (mp_isNumber (f := (up1 (up1 (up1 (up1 f 104 P) 103 (upd (upd M (40 + c) 0) (40 + c) (nmI T (tkS T n (tkE T n p)) (tkE T n (tkE T n p))))) 102 (upd K (40 + c) (nI kd))) 101 A)) (T := T) (n := n) (g := tg4) (a := tkE T n (tkE T n (tkE T n (tkE T n p)))) (s := tkS T n (tkE T n (tkE T n (tkE T n p)))) (e := tkE T n (tkE T n (tkE T n (tkE T n p)))) (lo := 0) (hi := 99) hn1 hT (by decide) hx4 t4.2.1 t4.2.2.1 t4.2.2.2) (Nat.le_of_ble_eq_true rfl) (pc' := 119) (L' := [(0, .ref 92), (1, .int (nI kd)), (2, .int (nI (40 + c)))]) (S' := []) rfl (Nat.le_of_ble_eq_true rfl) rfl rfl (Nat.le_of_ble_eq_true rfl) (Nat.le_of_ble_eq_true rfl) ?_
          rintro v f9 ⟨nbr, nbg, e0, ef, nbk, nbh⟩
          subst e0
          subst ef
          have hx4 : TY nbg n (tkE T n (tkE T n (tkE T n (tkE T n p)))) (tkS T n (tkE T n (tkE T n (tkE T n p)))) (tkE T n (tkE T n (tkE T n (tkE T n p)))) := ⟨(nbk 10 (by decide)).trans hx4.1, (nbk 65 (by decide)).trans hx4.2.1, (nbk 66 (by decide)).trans hx4.2.2.1, (nbk 67 (by decide)).trans hx4.2.2.2⟩
          refine wq_if (c := nbr = 0) (p1 := 122) (L1 := [(0, .ref 92), (1, .int (nI kd)), (2, .int (nI (40 + c)))]) (S1 := []) (p2 := 124) (L2 := [(0, .ref 92), (1, .int (nI kd)), (2, .int (nI (40 + c)))]) (S2 := []) rfl (fun c_119 => ?_) (fun c_119 => ?_)
          · have nbn := (nbh.resolve_right (fun q => absurd (q.1.symm.trans c_119) (by decide))).2
            refine wq_run1 (pc' := 123) (L' := [(0, .ref 92), (1, .int (nI kd)), (2, .int (nI (40 + c)))]) (S' := [.int 0]) (f' := (up1 (up1 (up1 (up1 (up1 f 104 P) 103 (upd (upd M (40 + c) 0) (40 + c) (nmI T (tkS T n (tkE T n p)) (tkE T n (tkE T n p))))) 102 (upd K (40 + c) (nI kd))) 101 A) 92 nbg)) rfl ?_
            have hl : loN kd = 1 ∧ hiN kd = 999 := by rw [k_41]; exact ⟨rfl, rfl⟩
            exact wq_retZ rfl (Or.inl rfl) ⟨0, _, _, _, _, _, rfl, rfl, (fun k h1 h2 h3 h4 => (nbk k h4).trans ((hk4 k h1 h2 h3).trans ((hk3 k h1 h2 h3).trans ((nak k h4).trans (hk2 k h1 h2 h3))))), (fun _ _ => rfl), (fun j hj => ⟨upd_n (by omega), upd_n2 (by omega), rfl⟩), Or.inl ⟨rfl, _, _, _, by unfold clR; rw [if_neg c_7, hkd, nI_clamp (by omega), hl.1, hl.2]; rw [if_neg (fun q => q nay.1), if_pos (Or.inl k_41), if_neg c_84]; exact if_pos nbn, hx4⟩⟩
          · have nby := (nbh.resolve_left (fun q => c_119 q.1)).2
            refine wq_run5 (pc' := 133) (L' := [(0, .ref 92), (1, .int (nI kd)), (2, .int (nI (40 + c)))]) (S' := [.int (nbg 68), .int (nI (40 + c)), .ref 104]) (f' := (up1 (up1 (up1 (up1 (up1 f 104 P) 103 (upd (upd M (40 + c) 0) (40 + c) (nmI T (tkS T n (tkE T n p)) (tkE T n (tkE T n p))))) 102 (upd K (40 + c) (nI kd))) 101 A) 92 nbg)) rfl ?_
            refine wq_v (y := (nmI T (tkS T n (tkE T n (tkE T n (tkE T n p)))) (tkE T n (tkE T n (tkE T n (tkE T n p)))))) (nby.2) ?_
            refine wq_ist (j := (40 + c)) (n := 48) rfl rfl rfl rfl (by omega) (Nat.le_of_ble_eq_true rfl) ?_
            refine wq_h (f' := (up1 (up1 (up1 (up1 (up1 f 104 (upd P (40 + c) (nmI T (tkS T n (tkE T n (tkE T n (tkE T n p)))) (tkE T n (tkE T n (tkE T n (tkE T n p))))))) 103 (upd (upd M (40 + c) 0) (40 + c) (nmI T (tkS T n (tkE T n p)) (tkE T n (tkE T n p))))) 102 (upd K (40 + c) (nI kd))) 101 A) 92 nbg)) ((up2_up1_ne (f := (up1 (up1 (up1 (up1 f 104 P) 103 (upd (upd M (40 + c) 0) (40 + c) (nmI T (tkS T n (tkE T n p)) (tkE T n (tkE T n p))))) 102 (upd K (40 + c) (nI kd))) 101 A)) (g := nbg) (k := (40 + c)) (v := (nmI T (tkS T n (tkE T n (tkE T n (tkE T n p)))) (tkE T n (tkE T n (tkE T n (tkE T n p)))))) (show (104 : Nat) ≠ 92 by decide)).trans (congrArg (fun z => up1 z 92 nbg) ((up2_up1_ne (f := (up1 (up1 (up1 f 104 P) 103 (upd (upd M (40 + c) 0) (40 + c) (nmI T (tkS T n (tkE T n p)) (tkE T n (tkE T n p))))) 102 (upd K (40 + c) (nI kd)))) (g := A) (k := (40 + c)) (v := (nmI T (tkS T n (tkE T n (tkE T n (tkE T n p)))) (tkE T n (tkE T n (tkE T n (tkE T n p)))))) (show (104 : Nat) ≠ 101 by decide)).trans (congrArg (fun z => up1 z 101 A) ((up2_up1_ne (f := (up1 (up1 f 104 P) 103 (upd (upd M (40 + c) 0) (40 + c) (nmI T (tkS T n (tkE T n p)) (tkE T n (tkE T n p)))))) (g := (upd K (40 + c) (nI kd))) (k := (40 + c)) (v := (nmI T (tkS T n (tkE T n (tkE T n (tkE T n p)))) (tkE T n (tkE T n (tkE T n (tkE T n p)))))) (show (104 : Nat) ≠ 102 by decide)).trans (congrArg (fun z => up1 z 102 (upd K (40 + c) (nI kd))) ((up2_up1_ne (f := (up1 f 104 P)) (g := (upd (upd M (40 + c) 0) (40 + c) (nmI T (tkS T n (tkE T n p)) (tkE T n (tkE T n p))))) (k := (40 + c)) (v := (nmI T (tkS T n (tkE T n (tkE T n (tkE T n p)))) (tkE T n (tkE T n (tkE T n (tkE T n p)))))) (show (104 : Nat) ≠ 103 by decide)).trans (congrArg (fun z => up1 z 103 (upd (upd M (40 + c) 0) (40 + c) (nmI T (tkS T n (tkE T n p)) (tkE T n (tkE T n p))))) ((up2_up1_eq f 104 P (40 + c) (nmI T (tkS T n (tkE T n (tkE T n (tkE T n p)))) (tkE T n (tkE T n (tkE T n (tkE T n p)))))).trans (congrArg (fun z => up1 f 104 z) (rfl))))))))))) ?_
            refine wq_run1 (pc' := 135) (L' := [(0, .ref 92), (1, .int (nI kd)), (2, .int (nI (40 + c)))]) (S' := [.ref 92]) (f' := (up1 (up1 (up1 (up1 (up1 f 104 (upd P (40 + c) (nmI T (tkS T n (tkE T n (tkE T n (tkE T n p)))) (tkE T n (tkE T n (tkE T n (tkE T n p))))))) 103 (upd (upd M (40 + c) 0) (40 + c) (nmI T (tkS T n (tkE T n p)) (tkE T n (tkE T n p))))) 102 (upd K (40 + c) (nI kd))) 101 A) 92 nbg)) rfl ?_
            refine wq_call (mp_token (f := (up1 (up1 (up1 (up1 f 104 (upd P (40 + c) (nmI T (tkS T n (tkE T n (tkE T n (tkE T n p)))) (tkE T n (tkE T n (tkE T n (tkE T n p))))))) 103 (upd (upd M (40 + c) 0) (40 + c) (nmI T (tkS T n (tkE T n p)) (tkE T n (tkE T n p))))) 102 (upd K (40 + c) (nI kd))) 101 A)) (T := T) (n := n) (g := nbg) (p := (tkE T n (tkE T n (tkE T n (tkE T n p))))) hn1 hT t4.2.2.1 hx4) (Nat.le_of_ble_eq_true rfl) (pc' := 138) (L' := [(0, .ref 92), (1, .int (nI kd)), (2, .int (nI (40 + c)))]) (S' := []) rfl (Nat.le_of_ble_eq_true rfl) rfl rfl (Nat.le_of_ble_eq_true rfl) (Nat.le_of_ble_eq_true rfl) ?_
            rintro v f9 ⟨tg6, e0, ef, hx6, hk6⟩
            subst e0
            subst ef
            refine wq_run4 (pc' := 144) (L' := [(0, .ref 92), (1, .int (nI kd)), (2, .int (nI (40 + c)))]) (S' := [.int 5, .ref 101, .int 5, .ref 101]) (f' := (up1 (up1 (up1 (up1 (up1 f 104 (upd P (40 + c) (nmI T (tkS T n (tkE T n (tkE T n (tkE T n p)))) (tkE T n (tkE T n (tkE T n (tkE T n p))))))) 103 (upd (upd M (40 + c) 0) (40 + c) (nmI T (tkS T n (tkE T n p)) (tkE T n (tkE T n p))))) 102 (upd K (40 + c) (nI kd))) 101 A) 92 tg6)) rfl ?_
            refine wq_ald (j := 5) (n := 6) (v := (nI c)) rfl rfl rfl rfl (Nat.le_of_ble_eq_true rfl) (Nat.le_of_ble_eq_true rfl) (hA5) ?_
            refine wq_run2 (pc' := 147) (L' := [(0, .ref 92), (1, .int (nI kd)), (2, .int (nI (40 + c)))]) (S' := [.int ((nI c) + 1), .int 5, .ref 101]) (f' := (up1 (up1 (up1 (up1 (up1 f 104 (upd P (40 + c) (nmI T (tkS T n (tkE T n (tkE T n (tkE T n p)))) (tkE T n (tkE T n (tkE T n (tkE T n p))))))) 103 (upd (upd M (40 + c) 0) (40 + c) (nmI T (tkS T n (tkE T n p)) (tkE T n (tkE T n p))))) 102 (upd K (40 + c) (nI kd))) 101 A) 92 tg6)) rfl ?_
            refine wq_v (y := (nI (c + 1))) (nI_add c 1) ?_
            refine wq_ist (j := 5) (n := 6) rfl rfl rfl rfl (Nat.le_of_ble_eq_true rfl) (Nat.le_of_ble_eq_true rfl) ?_
            refine wq_h (f' := (up1 (up1 (up1 (up1 (up1 f 104 (upd P (40 + c) (nmI T (tkS T n (tkE T n (tkE T n (tkE T n p)))) (tkE T n (tkE T n (tkE T n (tkE T n p))))))) 103 (upd (upd M (40 + c) 0) (40 + c) (nmI T (tkS T n (tkE T n p)) (tkE T n (tkE T n p))))) 102 (upd K (40 + c) (nI kd))) 101 (upd A 5 (nI (c + 1)))) 92 tg6)) ((up2_up1_ne (f := (up1 (up1 (up1 (up1 f 104 (upd P (40 + c) (nmI T (tkS T n (tkE T n (tkE T n (tkE T n p)))) (tkE T n (tkE T n (tkE T n (tkE T n p))))))) 103 (upd (upd M (40 + c) 0) (40 + c) (nmI T (tkS T n (tkE T n p)) (tkE T n (tkE T n p))))) 102 (upd K (40 + c) (nI kd))) 101 A)) (g := tg6) (k := 5) (v := (nI (c + 1))) (show (101 : Nat) ≠ 92 by decide)).trans (congrArg (fun z => up1 z 92 tg6) ((up2_up1_eq (up1 (up1 (up1 f 104 (upd P (40 + c) (nmI T (tkS T n (tkE T n (tkE T n (tkE T n p)))) (tkE T n (tkE T n (tkE T n (tkE T n p))))))) 103 (upd (upd M (40 + c) 0) (40 + c) (nmI T (tkS T n (tkE T n p)) (tkE T n (tkE T n p))))) 102 (upd K (40 + c) (nI kd))) 101 A 5 (nI (c + 1))).trans (congrArg (fun z => up1 (up1 (up1 (up1 f 104 (upd P (40 + c) (nmI T (tkS T n (tkE T n (tkE T n (tkE T n p)))) (tkE T n (tkE T n (tkE T n (tkE T n p))))))) 103 (upd (upd M (40 + c) 0) (40 + c) (nmI T (tkS T n (tkE T n p)) (tkE T n (tkE T n p))))) 102 (upd K (40 + c) (nI kd))) 101 z) (rfl))))) ?_
            refine wq_run1 (pc' := 149) (L' := [(0, .ref 92), (1, .int (nI kd)), (2, .int (nI (40 + c)))]) (S' := [.int 1]) (f' := (up1 (up1 (up1 (up1 (up1 f 104 (upd P (40 + c) (nmI T (tkS T n (tkE T n (tkE T n (tkE T n p)))) (tkE T n (tkE T n (tkE T n (tkE T n p))))))) 103 (upd (upd M (40 + c) 0) (40 + c) (nmI T (tkS T n (tkE T n p)) (tkE T n (tkE T n p))))) 102 (upd K (40 + c) (nI kd))) 101 (upd A 5 (nI (c + 1)))) 92 tg6)) rfl ?_
            have hl : loN kd = 1 ∧ hiN kd = 999 := by rw [k_41]; exact ⟨rfl, rfl⟩
            exact wq_retZ rfl (Or.inr rfl) ⟨1, _, _, _, _, _, rfl, rfl, (fun k h1 h2 h3 h4 => (hk6 k h1 h2 h3).trans ((nbk k h4).trans ((hk4 k h1 h2 h3).trans ((hk3 k h1 h2 h3).trans ((nak k h4).trans (hk2 k h1 h2 h3)))))), (fun j hj => upd_n (by omega)), (fun j hj => ⟨upd_n (by omega), upd_n2 (by omega), upd_n (by omega)⟩), Or.inr ⟨rfl, nI kd, _, _, _, by unfold clR; rw [if_neg c_7, hkd, nI_clamp (by omega), hl.1, hl.2]; rw [if_neg (fun q => q nay.1), if_pos (Or.inl k_41), if_neg c_84, if_neg (fun q => q nby.1)], hx6, upd_s _ _ _, upd_s _ _ _, fun _ => ⟨upd_s _ _ _, upd_s _ _ _⟩, fun q _ => absurd (show nI kd = 0 by rw [k_41]; rfl) q⟩⟩
    · have k_41 : ¬ kd = 0 := fun q => c_41 ((nI_eq (a := kd) (b := 0) (by omega) (by omega)).mpr q)
      refine wq_run2 (pc' := 46) (L' := [(0, .ref 92), (1, .int (nI kd)), (2, .int (nI (40 + c)))]) (S' := [.int 1, .int (nI kd)]) (f' := (up1 (up1 (up1 (up1 (up1 f 104 P) 103 (upd M (40 + c) 0)) 102 (upd K (40 + c) (nI kd))) 101 A) 92 tg2)) rfl ?_
      refine wq_if (c := (nI kd) = 1) (p1 := 49) (L1 := [(0, .ref 92), (1, .int (nI kd)), (2, .int (nI (40 + c)))]) (S1 := []) (p2 := 93) (L2 := [(0, .ref 92), (1, .int (nI kd)), (2, .int (nI (40 + c)))]) (S2 := []) rfl (fun c_46 => ?_) (fun c_46 => ?_)
      · have k_46 : kd = 1 := (nI_eq (a := kd) (b := 1) (by omega) (by omega)).mp c_46
        refine wq_run3 (pc' := 54) (L' := [(0, .ref 92), (1, .int (nI kd)), (2, .int (nI (40 + c)))]) (S' := [.int 999, .int 1, .ref 92]) (f' := (up1 (up1 (up1 (up1 (up1 f 104 P) 103 (upd M (40 + c) 0)) 102 (upd K (40 + c) (nI kd))) 101 A) 92 tg2)) rfl ?_
        refine wq_call (mp_isNumber (f := (up1 (up1 (up1 (up1 f 104 P) 103 (upd M (40 + c) 0)) 102 (upd K (40 + c) (nI kd))) 101 A)) (T := T) (n := n) (g := tg2) (a := tkE T n (tkE T n p)) (s := tkS T n (tkE T n p)) (e := tkE T n (tkE T n p)) (lo := 1) (hi := 999) hn1 hT (by decide) hx2 t2.2.1 t2.2.2.1 t2.2.2.2) (Nat.le_of_ble_eq_true rfl) (pc' := 57) (L' := [(0, .ref 92), (1, .int (nI kd)), (2, .int (nI (40 + c)))]) (S' := []) rfl (Nat.le_of_ble_eq_true rfl) rfl rfl (Nat.le_of_ble_eq_true rfl) (Nat.le_of_ble_eq_true rfl) ?_
        rintro v f9 ⟨nar, nag, e0, ef, nak, nah⟩
        subst e0
        subst ef
        have hx2 : TY nag n (tkE T n (tkE T n p)) (tkS T n (tkE T n p)) (tkE T n (tkE T n p)) := ⟨(nak 10 (by decide)).trans hx2.1, (nak 65 (by decide)).trans hx2.2.1, (nak 66 (by decide)).trans hx2.2.2.1, (nak 67 (by decide)).trans hx2.2.2.2⟩
        refine wq_if (c := nar = 0) (p1 := 60) (L1 := [(0, .ref 92), (1, .int (nI kd)), (2, .int (nI (40 + c)))]) (S1 := []) (p2 := 62) (L2 := [(0, .ref 92), (1, .int (nI kd)), (2, .int (nI (40 + c)))]) (S2 := []) rfl (fun c_57 => ?_) (fun c_57 => ?_)
        · have nan := (nah.resolve_right (fun q => absurd (q.1.symm.trans c_57) (by decide))).2
          refine wq_run1 (pc' := 61) (L' := [(0, .ref 92), (1, .int (nI kd)), (2, .int (nI (40 + c)))]) (S' := [.int 0]) (f' := (up1 (up1 (up1 (up1 (up1 f 104 P) 103 (upd M (40 + c) 0)) 102 (upd K (40 + c) (nI kd))) 101 A) 92 nag)) rfl ?_
          have hl : loN kd = 1 ∧ hiN kd = 999 := by rw [k_46]; exact ⟨rfl, rfl⟩
          exact wq_retZ rfl (Or.inl rfl) ⟨0, _, _, _, _, _, rfl, rfl, (fun k h1 h2 h3 h4 => (nak k h4).trans (hk2 k h1 h2 h3)), (fun _ _ => rfl), (fun j hj => ⟨upd_n (by omega), upd_n (by omega), rfl⟩), Or.inl ⟨rfl, _, _, _, by unfold clR; rw [if_neg c_7, hkd, nI_clamp (by omega), hl.1, hl.2]; exact if_pos nan, hx2⟩⟩
        · have nay := (nah.resolve_left (fun q => c_57 q.1)).2
          refine wq_run5 (pc' := 71) (L' := [(0, .ref 92), (1, .int (nI kd)), (2, .int (nI (40 + c)))]) (S' := [.int (nag 68), .int (nI (40 + c)), .ref 103]) (f' := (up1 (up1 (up1 (up1 (up1 f 104 P) 103 (upd M (40 + c) 0)) 102 (upd K (40 + c) (nI kd))) 101 A) 92 nag)) rfl ?_
          refine wq_v (y := (nmI T (tkS T n (tkE T n p)) (tkE T n (tkE T n p)))) (nay.2) ?_
          refine wq_ist (j := (40 + c)) (n := 48) rfl rfl rfl rfl (by omega) (Nat.le_of_ble_eq_true rfl) ?_
          refine wq_h (f' := (up1 (up1 (up1 (up1 (up1 f 104 P) 103 (upd (upd M (40 + c) 0) (40 + c) (nmI T (tkS T n (tkE T n p)) (tkE T n (tkE T n p))))) 102 (upd K (40 + c) (nI kd))) 101 A) 92 nag)) ((up2_up1_ne (f := (up1 (up1 (up1 (up1 f 104 P) 103 (upd M (40 + c) 0)) 102 (upd K (40 + c) (nI kd))) 101 A)) (g := nag) (k := (40 + c)) (v := (nmI T (tkS T n (tkE T n p)) (tkE T n (tkE T n p)))) (show (103 : Nat) ≠ 92 by decide)).trans (congrArg (fun z => up1 z 92 nag) ((up2_up1_ne (f := (up1 (up1 (up1 f 104 P) 103 (upd M (40 + c) 0)) 102 (upd K (40 + c) (nI kd)))) (g := A) (k := (40 + c)) (v := (nmI T (tkS T n (tkE T n p)) (tkE T n (tkE T n p)))) (show (103 : Nat) ≠ 101 by decide)).trans (congrArg (fun z => up1 z 101 A) ((up2_up1_ne (f := (up1 (up1 f 104 P) 103 (upd M (40 + c) 0))) (g := (upd K (40 + c) (nI kd))) (k := (40 + c)) (v := (nmI T (tkS T n (tkE T n p)) (tkE T n (tkE T n p)))) (show (103 : Nat) ≠ 102 by decide)).trans (congrArg (fun z => up1 z 102 (upd K (40 + c) (nI kd))) ((up2_up1_eq (up1 f 104 P) 103 (upd M (40 + c) 0) (40 + c) (nmI T (tkS T n (tkE T n p)) (tkE T n (tkE T n p)))).trans (congrArg (fun z => up1 (up1 f 104 P) 103 z) (rfl))))))))) ?_
          refine wq_run1 (pc' := 73) (L' := [(0, .ref 92), (1, .int (nI kd)), (2, .int (nI (40 + c)))]) (S' := [.ref 92]) (f' := (up1 (up1 (up1 (up1 (up1 f 104 P) 103 (upd (upd M (40 + c) 0) (40 + c) (nmI T (tkS T n (tkE T n p)) (tkE T n (tkE T n p))))) 102 (upd K (40 + c) (nI kd))) 101 A) 92 nag)) rfl ?_
          refine wq_call (mp_token (f := (up1 (up1 (up1 (up1 f 104 P) 103 (upd (upd M (40 + c) 0) (40 + c) (nmI T (tkS T n (tkE T n p)) (tkE T n (tkE T n p))))) 102 (upd K (40 + c) (nI kd))) 101 A)) (T := T) (n := n) (g := nag) (p := (tkE T n (tkE T n p))) hn1 hT t2.2.2.1 hx2) (Nat.le_of_ble_eq_true rfl) (pc' := 76) (L' := [(0, .ref 92), (1, .int (nI kd)), (2, .int (nI (40 + c)))]) (S' := []) rfl (Nat.le_of_ble_eq_true rfl) rfl rfl (Nat.le_of_ble_eq_true rfl) (Nat.le_of_ble_eq_true rfl) ?_
          rintro v f9 ⟨tg3, e0, ef, hx3, hk3⟩
          subst e0
          subst ef
          have t3 := tk_b (T := T) (n := n) (p := (tkE T n (tkE T n p))) t2.2.2.1
          refine wq_run3 (pc' := 81) (L' := [(0, .ref 92), (1, .int (nI kd)), (2, .int (nI (40 + c)))]) (S' := [.int 3, .int 25648, .ref 92]) (f' := (up1 (up1 (up1 (up1 (up1 f 104 P) 103 (upd (upd M (40 + c) 0) (40 + c) (nmI T (tkS T n (tkE T n p)) (tkE T n (tkE T n p))))) 102 (upd K (40 + c) (nI kd))) 101 A) 92 tg3)) rfl ?_
          refine wq_callI (r := (wdI T 6 (tkS T n (tkE T n (tkE T n p))) (tkE T n (tkE T n (tkE T n p))))) (mp_word6 (f := (up1 (up1 (up1 (up1 (up1 f 104 P) 103 (upd (upd M (40 + c) 0) (40 + c) (nmI T (tkS T n (tkE T n p)) (tkE T n (tkE T n p))))) 102 (upd K (40 + c) (nI kd))) 101 A) 92 tg3)) (T := T) (n := n) (a := tkE T n (tkE T n (tkE T n p))) (s := tkS T n (tkE T n (tkE T n p))) (e := tkE T n (tkE T n (tkE T n p))) hn1 hT hx3 t3.2.1 t3.2.2.1) (Nat.le_of_ble_eq_true rfl) (pc' := 84) (L' := [(0, .ref 92), (1, .int (nI kd)), (2, .int (nI (40 + c)))]) (S' := []) rfl (Nat.le_of_ble_eq_true rfl) rfl rfl (Nat.le_of_ble_eq_true rfl) (Nat.le_of_ble_eq_true rfl) ?_
          refine wq_if (c := (wdI T 6 (tkS T n (tkE T n (tkE T n p))) (tkE T n (tkE T n (tkE T n p)))) = 0) (p1 := 87) (L1 := [(0, .ref 92), (1, .int (nI kd)), (2, .int (nI (40 + c)))]) (S1 := []) (p2 := 89) (L2 := [(0, .ref 92), (1, .int (nI kd)), (2, .int (nI (40 + c)))]) (S2 := []) rfl (fun c_84 => ?_) (fun c_84 => ?_)
          · refine wq_run1 (pc' := 88) (L' := [(0, .ref 92), (1, .int (nI kd)), (2, .int (nI (40 + c)))]) (S' := [.int 0]) (f' := (up1 (up1 (up1 (up1 (up1 f 104 P) 103 (upd (upd M (40 + c) 0) (40 + c) (nmI T (tkS T n (tkE T n p)) (tkE T n (tkE T n p))))) 102 (upd K (40 + c) (nI kd))) 101 A) 92 tg3)) rfl ?_
            have hl : loN kd = 1 ∧ hiN kd = 999 := by rw [k_46]; exact ⟨rfl, rfl⟩
            exact wq_retZ rfl (Or.inl rfl) ⟨0, _, _, _, _, _, rfl, rfl, (fun k h1 h2 h3 h4 => (hk3 k h1 h2 h3).trans ((nak k h4).trans (hk2 k h1 h2 h3))), (fun _ _ => rfl), (fun j hj => ⟨upd_n (by omega), upd_n2 (by omega), rfl⟩), Or.inl ⟨rfl, _, _, _, by unfold clR; rw [if_neg c_7, hkd, nI_clamp (by omega), hl.1, hl.2]; rw [if_neg (fun q => q nay.1), if_pos (Or.inr k_46)]; exact if_pos c_84, hx3⟩⟩
          · refine wq_run1 (pc' := 90) (L' := [(0, .ref 92), (1, .int (nI kd)), (2, .int (nI (40 + c)))]) (S' := [.ref 92]) (f' := (up1 (up1 (up1 (up1 (up1 f 104 P) 103 (upd (upd M (40 + c) 0) (40 + c) (nmI T (tkS T n (tkE T n p)) (tkE T n (tkE T n p))))) 102 (upd K (40 + c) (nI kd))) 101 A) 92 tg3)) rfl ?_
            refine wq_call (mp_token (f := (up1 (up1 (up1 (up1 f 104 P) 103 (upd (upd M (40 + c) 0) (40 + c) (nmI T (tkS T n (tkE T n p)) (tkE T n (tkE T n p))))) 102 (upd K (40 + c) (nI kd))) 101 A)) (T := T) (n := n) (g := tg3) (p := (tkE T n (tkE T n (tkE T n p)))) hn1 hT t3.2.2.1 hx3) (Nat.le_of_ble_eq_true rfl) (pc' := 93) (L' := [(0, .ref 92), (1, .int (nI kd)), (2, .int (nI (40 + c)))]) (S' := []) rfl (Nat.le_of_ble_eq_true rfl) rfl rfl (Nat.le_of_ble_eq_true rfl) (Nat.le_of_ble_eq_true rfl) ?_
            rintro v f9 ⟨tg4, e0, ef, hx4, hk4⟩
            subst e0
            subst ef
            have t4 := tk_b (T := T) (n := n) (p := (tkE T n (tkE T n (tkE T n p)))) t3.2.2.1
            refine wq_run3 (pc' := 96) (L' := [(0, .ref 92), (1, .int (nI kd)), (2, .int (nI (40 + c)))]) (S' := [.int 2, .int (nI kd), .ref 92]) (f' := (up1 (up1 (up1 (up1 (up1 f 104 P) 103 (upd (upd M (40 + c) 0) (40 + c) (nmI T (tkS T n (tkE T n p)) (tkE T n (tkE T n p))))) 102 (upd K (40 + c) (nI kd))) 101 A) 92 tg4)) rfl ?_
            refine wq_if (c := (nI kd) = 2) (p1 := 99) (L1 := [(0, .ref 92), (1, .int (nI kd)), (2, .int (nI (40 + c)))]) (S1 := [.ref 92]) (p2 := 103) (L2 := [(0, .ref 92), (1, .int (nI kd)), (2, .int (nI (40 + c)))]) (S2 := [.ref 92]) rfl (fun q => absurd q (fun q => absurd ((nI_eq (a := kd) (b := 2) (by omega) (by omega)).mp q) (by omega))) (fun _ => ?_)
            refine wq_run3 (pc' := 106) (L' := [(0, .ref 92), (1, .int (nI kd)), (2, .int (nI (40 + c)))]) (S' := [.int 2, .int (nI kd), .int 0, .ref 92]) (f' := (up1 (up1 (up1 (up1 (up1 f 104 P) 103 (upd (upd M (40 + c) 0) (40 + c) (nmI T (tkS T n (tkE T n p)) (tkE T n (tkE T n p))))) 102 (upd K (40 + c) (nI kd))) 101 A) 92 tg4)) rfl ?_
            refine wq_if (c := (nI kd) = 2) (p1 := 109) (L1 := [(0, .ref 92), (1, .int (nI kd)), (2, .int (nI (40 + c)))]) (S1 := [.int 0, .ref 92]) (p2 := 114) (L2 := [(0, .ref 92), (1, .int (nI kd)), (2, .int (nI (40 + c)))]) (S2 := [.int 0, .ref 92]) rfl (fun q => absurd q (fun q => absurd ((nI_eq (a := kd) (b := 2) (by omega) (by omega)).mp q) (by omega))) (fun _ => ?_)
            refine wq_run1 (pc' := 116) (L' := [(0, .ref 92), (1, .int (nI kd)), (2, .int (nI (40 + c)))]) (S' := [.int 99, .int 0, .ref 92]) (f' := (up1 (up1 (up1 (up1 (up1 f 104 P) 103 (upd (upd M (40 + c) 0) (40 + c) (nmI T (tkS T n (tkE T n p)) (tkE T n (tkE T n p))))) 102 (upd K (40 + c) (nI kd))) 101 A) 92 tg4)) rfl ?_
            refine wq_call (mp_isNumber (f := (up1 (up1 (up1 (up1 f 104 P) 103 (upd (upd M (40 + c) 0) (40 + c) (nmI T (tkS T n (tkE T n p)) (tkE T n (tkE T n p))))) 102 (upd K (40 + c) (nI kd))) 101 A)) (T := T) (n := n) (g := tg4) (a := tkE T n (tkE T n (tkE T n (tkE T n p)))) (s := tkS T n (tkE T n (tkE T n (tkE T n p)))) (e := tkE T n (tkE T n (tkE T n (tkE T n p)))) (lo := 0) (hi := 99) hn1 hT (by decide) hx4 t4.2.1 t4.2.2.1 t4.2.2.2) (Nat.le_of_ble_eq_true rfl) (pc' := 119) (L' := [(0, .ref 92), (1, .int (nI kd)), (2, .int (nI (40 + c)))]) (S' := []) rfl (Nat.le_of_ble_eq_true rfl) rfl rfl (Nat.le_of_ble_eq_true rfl) (Nat.le_of_ble_eq_true rfl) ?_
            rintro v f9 ⟨nbr, nbg, e0, ef, nbk, nbh⟩
            subst e0
            subst ef
            have hx4 : TY nbg n (tkE T n (tkE T n (tkE T n (tkE T n p)))) (tkS T n (tkE T n (tkE T n (tkE T n p)))) (tkE T n (tkE T n (tkE T n (tkE T n p)))) := ⟨(nbk 10 (by decide)).trans hx4.1, (nbk 65 (by decide)).trans hx4.2.1, (nbk 66 (by decide)).trans hx4.2.2.1, (nbk 67 (by decide)).trans hx4.2.2.2⟩
            refine wq_if (c := nbr = 0) (p1 := 122) (L1 := [(0, .ref 92), (1, .int (nI kd)), (2, .int (nI (40 + c)))]) (S1 := []) (p2 := 124) (L2 := [(0, .ref 92), (1, .int (nI kd)), (2, .int (nI (40 + c)))]) (S2 := []) rfl (fun c_119 => ?_) (fun c_119 => ?_)
            · have nbn := (nbh.resolve_right (fun q => absurd (q.1.symm.trans c_119) (by decide))).2
              refine wq_run1 (pc' := 123) (L' := [(0, .ref 92), (1, .int (nI kd)), (2, .int (nI (40 + c)))]) (S' := [.int 0]) (f' := (up1 (up1 (up1 (up1 (up1 f 104 P) 103 (upd (upd M (40 + c) 0) (40 + c) (nmI T (tkS T n (tkE T n p)) (tkE T n (tkE T n p))))) 102 (upd K (40 + c) (nI kd))) 101 A) 92 nbg)) rfl ?_
              have hl : loN kd = 1 ∧ hiN kd = 999 := by rw [k_46]; exact ⟨rfl, rfl⟩
              exact wq_retZ rfl (Or.inl rfl) ⟨0, _, _, _, _, _, rfl, rfl, (fun k h1 h2 h3 h4 => (nbk k h4).trans ((hk4 k h1 h2 h3).trans ((hk3 k h1 h2 h3).trans ((nak k h4).trans (hk2 k h1 h2 h3))))), (fun _ _ => rfl), (fun j hj => ⟨upd_n (by omega), upd_n2 (by omega), rfl⟩), Or.inl ⟨rfl, _, _, _, by unfold clR; rw [if_neg c_7, hkd, nI_clamp (by omega), hl.1, hl.2]; rw [if_neg (fun q => q nay.1), if_pos (Or.inr k_46), if_neg c_84]; exact if_pos nbn, hx4⟩⟩
            · have nby := (nbh.resolve_left (fun q => c_119 q.1)).2
              refine wq_run5 (pc' := 133) (L' := [(0, .ref 92), (1, .int (nI kd)), (2, .int (nI (40 + c)))]) (S' := [.int (nbg 68), .int (nI (40 + c)), .ref 104]) (f' := (up1 (up1 (up1 (up1 (up1 f 104 P) 103 (upd (upd M (40 + c) 0) (40 + c) (nmI T (tkS T n (tkE T n p)) (tkE T n (tkE T n p))))) 102 (upd K (40 + c) (nI kd))) 101 A) 92 nbg)) rfl ?_
              refine wq_v (y := (nmI T (tkS T n (tkE T n (tkE T n (tkE T n p)))) (tkE T n (tkE T n (tkE T n (tkE T n p)))))) (nby.2) ?_
              refine wq_ist (j := (40 + c)) (n := 48) rfl rfl rfl rfl (by omega) (Nat.le_of_ble_eq_true rfl) ?_
              refine wq_h (f' := (up1 (up1 (up1 (up1 (up1 f 104 (upd P (40 + c) (nmI T (tkS T n (tkE T n (tkE T n (tkE T n p)))) (tkE T n (tkE T n (tkE T n (tkE T n p))))))) 103 (upd (upd M (40 + c) 0) (40 + c) (nmI T (tkS T n (tkE T n p)) (tkE T n (tkE T n p))))) 102 (upd K (40 + c) (nI kd))) 101 A) 92 nbg)) ((up2_up1_ne (f := (up1 (up1 (up1 (up1 f 104 P) 103 (upd (upd M (40 + c) 0) (40 + c) (nmI T (tkS T n (tkE T n p)) (tkE T n (tkE T n p))))) 102 (upd K (40 + c) (nI kd))) 101 A)) (g := nbg) (k := (40 + c)) (v := (nmI T (tkS T n (tkE T n (tkE T n (tkE T n p)))) (tkE T n (tkE T n (tkE T n (tkE T n p)))))) (show (104 : Nat) ≠ 92 by decide)).trans (congrArg (fun z => up1 z 92 nbg) ((up2_up1_ne (f := (up1 (up1 (up1 f 104 P) 103 (upd (upd M (40 + c) 0) (40 + c) (nmI T (tkS T n (tkE T n p)) (tkE T n (tkE T n p))))) 102 (upd K (40 + c) (nI kd)))) (g := A) (k := (40 + c)) (v := (nmI T (tkS T n (tkE T n (tkE T n (tkE T n p)))) (tkE T n (tkE T n (tkE T n (tkE T n p)))))) (show (104 : Nat) ≠ 101 by decide)).trans (congrArg (fun z => up1 z 101 A) ((up2_up1_ne (f := (up1 (up1 f 104 P) 103 (upd (upd M (40 + c) 0) (40 + c) (nmI T (tkS T n (tkE T n p)) (tkE T n (tkE T n p)))))) (g := (upd K (40 + c) (nI kd))) (k := (40 + c)) (v := (nmI T (tkS T n (tkE T n (tkE T n (tkE T n p)))) (tkE T n (tkE T n (tkE T n (tkE T n p)))))) (show (104 : Nat) ≠ 102 by decide)).trans (congrArg (fun z => up1 z 102 (upd K (40 + c) (nI kd))) ((up2_up1_ne (f := (up1 f 104 P)) (g := (upd (upd M (40 + c) 0) (40 + c) (nmI T (tkS T n (tkE T n p)) (tkE T n (tkE T n p))))) (k := (40 + c)) (v := (nmI T (tkS T n (tkE T n (tkE T n (tkE T n p)))) (tkE T n (tkE T n (tkE T n (tkE T n p)))))) (show (104 : Nat) ≠ 103 by decide)).trans (congrArg (fun z => up1 z 103 (upd (upd M (40 + c) 0) (40 + c) (nmI T (tkS T n (tkE T n p)) (tkE T n (tkE T n p))))) ((up2_up1_eq f 104 P (40 + c) (nmI T (tkS T n (tkE T n (tkE T n (tkE T n p)))) (tkE T n (tkE T n (tkE T n (tkE T n p)))))).trans (congrArg (fun z => up1 f 104 z) (rfl))))))))))) ?_
              refine wq_run1 (pc' := 135) (L' := [(0, .ref 92), (1, .int (nI kd)), (2, .int (nI (40 + c)))]) (S' := [.ref 92]) (f' := (up1 (up1 (up1 (up1 (up1 f 104 (upd P (40 + c) (nmI T (tkS T n (tkE T n (tkE T n (tkE T n p)))) (tkE T n (tkE T n (tkE T n (tkE T n p))))))) 103 (upd (upd M (40 + c) 0) (40 + c) (nmI T (tkS T n (tkE T n p)) (tkE T n (tkE T n p))))) 102 (upd K (40 + c) (nI kd))) 101 A) 92 nbg)) rfl ?_
              refine wq_call (mp_token (f := (up1 (up1 (up1 (up1 f 104 (upd P (40 + c) (nmI T (tkS T n (tkE T n (tkE T n (tkE T n p)))) (tkE T n (tkE T n (tkE T n (tkE T n p))))))) 103 (upd (upd M (40 + c) 0) (40 + c) (nmI T (tkS T n (tkE T n p)) (tkE T n (tkE T n p))))) 102 (upd K (40 + c) (nI kd))) 101 A)) (T := T) (n := n) (g := nbg) (p := (tkE T n (tkE T n (tkE T n (tkE T n p))))) hn1 hT t4.2.2.1 hx4) (Nat.le_of_ble_eq_true rfl) (pc' := 138) (L' := [(0, .ref 92), (1, .int (nI kd)), (2, .int (nI (40 + c)))]) (S' := []) rfl (Nat.le_of_ble_eq_true rfl) rfl rfl (Nat.le_of_ble_eq_true rfl) (Nat.le_of_ble_eq_true rfl) ?_
              rintro v f9 ⟨tg6, e0, ef, hx6, hk6⟩
              subst e0
              subst ef
              refine wq_run4 (pc' := 144) (L' := [(0, .ref 92), (1, .int (nI kd)), (2, .int (nI (40 + c)))]) (S' := [.int 5, .ref 101, .int 5, .ref 101]) (f' := (up1 (up1 (up1 (up1 (up1 f 104 (upd P (40 + c) (nmI T (tkS T n (tkE T n (tkE T n (tkE T n p)))) (tkE T n (tkE T n (tkE T n (tkE T n p))))))) 103 (upd (upd M (40 + c) 0) (40 + c) (nmI T (tkS T n (tkE T n p)) (tkE T n (tkE T n p))))) 102 (upd K (40 + c) (nI kd))) 101 A) 92 tg6)) rfl ?_
              refine wq_ald (j := 5) (n := 6) (v := (nI c)) rfl rfl rfl rfl (Nat.le_of_ble_eq_true rfl) (Nat.le_of_ble_eq_true rfl) (hA5) ?_
              refine wq_run2 (pc' := 147) (L' := [(0, .ref 92), (1, .int (nI kd)), (2, .int (nI (40 + c)))]) (S' := [.int ((nI c) + 1), .int 5, .ref 101]) (f' := (up1 (up1 (up1 (up1 (up1 f 104 (upd P (40 + c) (nmI T (tkS T n (tkE T n (tkE T n (tkE T n p)))) (tkE T n (tkE T n (tkE T n (tkE T n p))))))) 103 (upd (upd M (40 + c) 0) (40 + c) (nmI T (tkS T n (tkE T n p)) (tkE T n (tkE T n p))))) 102 (upd K (40 + c) (nI kd))) 101 A) 92 tg6)) rfl ?_
              refine wq_v (y := (nI (c + 1))) (nI_add c 1) ?_
              refine wq_ist (j := 5) (n := 6) rfl rfl rfl rfl (Nat.le_of_ble_eq_true rfl) (Nat.le_of_ble_eq_true rfl) ?_
              refine wq_h (f' := (up1 (up1 (up1 (up1 (up1 f 104 (upd P (40 + c) (nmI T (tkS T n (tkE T n (tkE T n (tkE T n p)))) (tkE T n (tkE T n (tkE T n (tkE T n p))))))) 103 (upd (upd M (40 + c) 0) (40 + c) (nmI T (tkS T n (tkE T n p)) (tkE T n (tkE T n p))))) 102 (upd K (40 + c) (nI kd))) 101 (upd A 5 (nI (c + 1)))) 92 tg6)) ((up2_up1_ne (f := (up1 (up1 (up1 (up1 f 104 (upd P (40 + c) (nmI T (tkS T n (tkE T n (tkE T n (tkE T n p)))) (tkE T n (tkE T n (tkE T n (tkE T n p))))))) 103 (upd (upd M (40 + c) 0) (40 + c) (nmI T (tkS T n (tkE T n p)) (tkE T n (tkE T n p))))) 102 (upd K (40 + c) (nI kd))) 101 A)) (g := tg6) (k := 5) (v := (nI (c + 1))) (show (101 : Nat) ≠ 92 by decide)).trans (congrArg (fun z => up1 z 92 tg6) ((up2_up1_eq (up1 (up1 (up1 f 104 (upd P (40 + c) (nmI T (tkS T n (tkE T n (tkE T n (tkE T n p)))) (tkE T n (tkE T n (tkE T n (tkE T n p))))))) 103 (upd (upd M (40 + c) 0) (40 + c) (nmI T (tkS T n (tkE T n p)) (tkE T n (tkE T n p))))) 102 (upd K (40 + c) (nI kd))) 101 A 5 (nI (c + 1))).trans (congrArg (fun z => up1 (up1 (up1 (up1 f 104 (upd P (40 + c) (nmI T (tkS T n (tkE T n (tkE T n (tkE T n p)))) (tkE T n (tkE T n (tkE T n (tkE T n p))))))) 103 (upd (upd M (40 + c) 0) (40 + c) (nmI T (tkS T n (tkE T n p)) (tkE T n (tkE T n p))))) 102 (upd K (40 + c) (nI kd))) 101 z) (rfl))))) ?_
              refine wq_run1 (pc' := 149) (L' := [(0, .ref 92), (1, .int (nI kd)), (2, .int (nI (40 + c)))]) (S' := [.int 1]) (f' := (up1 (up1 (up1 (up1 (up1 f 104 (upd P (40 + c) (nmI T (tkS T n (tkE T n (tkE T n (tkE T n p)))) (tkE T n (tkE T n (tkE T n (tkE T n p))))))) 103 (upd (upd M (40 + c) 0) (40 + c) (nmI T (tkS T n (tkE T n p)) (tkE T n (tkE T n p))))) 102 (upd K (40 + c) (nI kd))) 101 (upd A 5 (nI (c + 1)))) 92 tg6)) rfl ?_
              have hl : loN kd = 1 ∧ hiN kd = 999 := by rw [k_46]; exact ⟨rfl, rfl⟩
              exact wq_retZ rfl (Or.inr rfl) ⟨1, _, _, _, _, _, rfl, rfl, (fun k h1 h2 h3 h4 => (hk6 k h1 h2 h3).trans ((nbk k h4).trans ((hk4 k h1 h2 h3).trans ((hk3 k h1 h2 h3).trans ((nak k h4).trans (hk2 k h1 h2 h3)))))), (fun j hj => upd_n (by omega)), (fun j hj => ⟨upd_n (by omega), upd_n2 (by omega), upd_n (by omega)⟩), Or.inr ⟨rfl, nI kd, _, _, _, by unfold clR; rw [if_neg c_7, hkd, nI_clamp (by omega), hl.1, hl.2]; rw [if_neg (fun q => q nay.1), if_pos (Or.inr k_46), if_neg c_84, if_neg (fun q => q nby.1)], hx6, upd_s _ _ _, upd_s _ _ _, fun _ => ⟨upd_s _ _ _, upd_s _ _ _⟩, fun _ q => absurd (show nI kd = 1 by rw [k_46]; rfl) q⟩⟩
      · have k_46 : ¬ kd = 1 := fun q => c_46 ((nI_eq (a := kd) (b := 1) (by omega) (by omega)).mpr q)
        refine wq_run3 (pc' := 96) (L' := [(0, .ref 92), (1, .int (nI kd)), (2, .int (nI (40 + c)))]) (S' := [.int 2, .int (nI kd), .ref 92]) (f' := (up1 (up1 (up1 (up1 (up1 f 104 P) 103 (upd M (40 + c) 0)) 102 (upd K (40 + c) (nI kd))) 101 A) 92 tg2)) rfl ?_
        refine wq_if (c := (nI kd) = 2) (p1 := 99) (L1 := [(0, .ref 92), (1, .int (nI kd)), (2, .int (nI (40 + c)))]) (S1 := [.ref 92]) (p2 := 103) (L2 := [(0, .ref 92), (1, .int (nI kd)), (2, .int (nI (40 + c)))]) (S2 := [.ref 92]) rfl (fun c_96 => ?_) (fun c_96 => ?_)
        · have k_96 : kd = 2 := (nI_eq (a := kd) (b := 2) (by omega) (by omega)).mp c_96
          refine wq_run4 (pc' := 106) (L' := [(0, .ref 92), (1, .int (nI kd)), (2, .int (nI (40 + c)))]) (S' := [.int 2, .int (nI kd), .int 1, .ref 92]) (f' := (up1 (up1 (up1 (up1 (up1 f 104 P) 103 (upd M (40 + c) 0)) 102 (upd K (40 + c) (nI kd))) 101 A) 92 tg2)) rfl ?_
          refine wq_if (c := (nI kd) = 2) (p1 := 109) (L1 := [(0, .ref 92), (1, .int (nI kd)), (2, .int (nI (40 + c)))]) (S1 := [.int 1, .ref 92]) (p2 := 114) (L2 := [(0, .ref 92), (1, .int (nI kd)), (2, .int (nI (40 + c)))]) (S2 := [.int 1, .ref 92]) rfl (fun _ => ?_) (fun q => absurd ((nI_eq (a := kd) (b := 2) (by omega) (by omega)).mpr (by omega)) q)
          refine wq_run2 (pc' := 116) (L' := [(0, .ref 92), (1, .int (nI kd)), (2, .int (nI (40 + c)))]) (S' := [.int 64, .int 1, .ref 92]) (f' := (up1 (up1 (up1 (up1 (up1 f 104 P) 103 (upd M (40 + c) 0)) 102 (upd K (40 + c) (nI kd))) 101 A) 92 tg2)) rfl ?_
          refine wq_call (mp_isNumber (f := (up1 (up1 (up1 (up1 f 104 P) 103 (upd M (40 + c) 0)) 102 (upd K (40 + c) (nI kd))) 101 A)) (T := T) (n := n) (g := tg2) (a := tkE T n (tkE T n p)) (s := tkS T n (tkE T n p)) (e := tkE T n (tkE T n p)) (lo := 1) (hi := 64) hn1 hT (by decide) hx2 t2.2.1 t2.2.2.1 t2.2.2.2) (Nat.le_of_ble_eq_true rfl) (pc' := 119) (L' := [(0, .ref 92), (1, .int (nI kd)), (2, .int (nI (40 + c)))]) (S' := []) rfl (Nat.le_of_ble_eq_true rfl) rfl rfl (Nat.le_of_ble_eq_true rfl) (Nat.le_of_ble_eq_true rfl) ?_
          rintro v f9 ⟨nbr, nbg, e0, ef, nbk, nbh⟩
          subst e0
          subst ef
          have hx2 : TY nbg n (tkE T n (tkE T n p)) (tkS T n (tkE T n p)) (tkE T n (tkE T n p)) := ⟨(nbk 10 (by decide)).trans hx2.1, (nbk 65 (by decide)).trans hx2.2.1, (nbk 66 (by decide)).trans hx2.2.2.1, (nbk 67 (by decide)).trans hx2.2.2.2⟩
          refine wq_if (c := nbr = 0) (p1 := 122) (L1 := [(0, .ref 92), (1, .int (nI kd)), (2, .int (nI (40 + c)))]) (S1 := []) (p2 := 124) (L2 := [(0, .ref 92), (1, .int (nI kd)), (2, .int (nI (40 + c)))]) (S2 := []) rfl (fun c_119 => ?_) (fun c_119 => ?_)
          · have nbn := (nbh.resolve_right (fun q => absurd (q.1.symm.trans c_119) (by decide))).2
            refine wq_run1 (pc' := 123) (L' := [(0, .ref 92), (1, .int (nI kd)), (2, .int (nI (40 + c)))]) (S' := [.int 0]) (f' := (up1 (up1 (up1 (up1 (up1 f 104 P) 103 (upd M (40 + c) 0)) 102 (upd K (40 + c) (nI kd))) 101 A) 92 nbg)) rfl ?_
            have hl : loN kd = 1 ∧ hiN kd = 64 := by rw [k_96]; exact ⟨rfl, rfl⟩
            exact wq_retZ rfl (Or.inl rfl) ⟨0, _, _, _, _, _, rfl, rfl, (fun k h1 h2 h3 h4 => (nbk k h4).trans (hk2 k h1 h2 h3)), (fun _ _ => rfl), (fun j hj => ⟨upd_n (by omega), upd_n (by omega), rfl⟩), Or.inl ⟨rfl, _, _, _, by unfold clR; rw [if_neg c_7, hkd, nI_clamp (by omega), hl.1, hl.2]; exact if_pos nbn, hx2⟩⟩
          · have nby := (nbh.resolve_left (fun q => c_119 q.1)).2
            refine wq_run5 (pc' := 133) (L' := [(0, .ref 92), (1, .int (nI kd)), (2, .int (nI (40 + c)))]) (S' := [.int (nbg 68), .int (nI (40 + c)), .ref 104]) (f' := (up1 (up1 (up1 (up1 (up1 f 104 P) 103 (upd M (40 + c) 0)) 102 (upd K (40 + c) (nI kd))) 101 A) 92 nbg)) rfl ?_
            refine wq_v (y := (nmI T (tkS T n (tkE T n p)) (tkE T n (tkE T n p)))) (nby.2) ?_
            refine wq_ist (j := (40 + c)) (n := 48) rfl rfl rfl rfl (by omega) (Nat.le_of_ble_eq_true rfl) ?_
            refine wq_h (f' := (up1 (up1 (up1 (up1 (up1 f 104 (upd P (40 + c) (nmI T (tkS T n (tkE T n p)) (tkE T n (tkE T n p))))) 103 (upd M (40 + c) 0)) 102 (upd K (40 + c) (nI kd))) 101 A) 92 nbg)) ((up2_up1_ne (f := (up1 (up1 (up1 (up1 f 104 P) 103 (upd M (40 + c) 0)) 102 (upd K (40 + c) (nI kd))) 101 A)) (g := nbg) (k := (40 + c)) (v := (nmI T (tkS T n (tkE T n p)) (tkE T n (tkE T n p)))) (show (104 : Nat) ≠ 92 by decide)).trans (congrArg (fun z => up1 z 92 nbg) ((up2_up1_ne (f := (up1 (up1 (up1 f 104 P) 103 (upd M (40 + c) 0)) 102 (upd K (40 + c) (nI kd)))) (g := A) (k := (40 + c)) (v := (nmI T (tkS T n (tkE T n p)) (tkE T n (tkE T n p)))) (show (104 : Nat) ≠ 101 by decide)).trans (congrArg (fun z => up1 z 101 A) ((up2_up1_ne (f := (up1 (up1 f 104 P) 103 (upd M (40 + c) 0))) (g := (upd K (40 + c) (nI kd))) (k := (40 + c)) (v := (nmI T (tkS T n (tkE T n p)) (tkE T n (tkE T n p)))) (show (104 : Nat) ≠ 102 by decide)).trans (congrArg (fun z => up1 z 102 (upd K (40 + c) (nI kd))) ((up2_up1_ne (f := (up1 f 104 P)) (g := (upd M (40 + c) 0)) (k := (40 + c)) (v := (nmI T (tkS T n (tkE T n p)) (tkE T n (tkE T n p)))) (show (104 : Nat) ≠ 103 by decide)).trans (congrArg (fun z => up1 z 103 (upd M (40 + c) 0)) ((up2_up1_eq f 104 P (40 + c) (nmI T (tkS T n (tkE T n p)) (tkE T n (tkE T n p)))).trans (congrArg (fun z => up1 f 104 z) (rfl))))))))))) ?_
            refine wq_run1 (pc' := 135) (L' := [(0, .ref 92), (1, .int (nI kd)), (2, .int (nI (40 + c)))]) (S' := [.ref 92]) (f' := (up1 (up1 (up1 (up1 (up1 f 104 (upd P (40 + c) (nmI T (tkS T n (tkE T n p)) (tkE T n (tkE T n p))))) 103 (upd M (40 + c) 0)) 102 (upd K (40 + c) (nI kd))) 101 A) 92 nbg)) rfl ?_
            refine wq_call (mp_token (f := (up1 (up1 (up1 (up1 f 104 (upd P (40 + c) (nmI T (tkS T n (tkE T n p)) (tkE T n (tkE T n p))))) 103 (upd M (40 + c) 0)) 102 (upd K (40 + c) (nI kd))) 101 A)) (T := T) (n := n) (g := nbg) (p := (tkE T n (tkE T n p))) hn1 hT t2.2.2.1 hx2) (Nat.le_of_ble_eq_true rfl) (pc' := 138) (L' := [(0, .ref 92), (1, .int (nI kd)), (2, .int (nI (40 + c)))]) (S' := []) rfl (Nat.le_of_ble_eq_true rfl) rfl rfl (Nat.le_of_ble_eq_true rfl) (Nat.le_of_ble_eq_true rfl) ?_
            rintro v f9 ⟨tg6, e0, ef, hx6, hk6⟩
            subst e0
            subst ef
            refine wq_run4 (pc' := 144) (L' := [(0, .ref 92), (1, .int (nI kd)), (2, .int (nI (40 + c)))]) (S' := [.int 5, .ref 101, .int 5, .ref 101]) (f' := (up1 (up1 (up1 (up1 (up1 f 104 (upd P (40 + c) (nmI T (tkS T n (tkE T n p)) (tkE T n (tkE T n p))))) 103 (upd M (40 + c) 0)) 102 (upd K (40 + c) (nI kd))) 101 A) 92 tg6)) rfl ?_
            refine wq_ald (j := 5) (n := 6) (v := (nI c)) rfl rfl rfl rfl (Nat.le_of_ble_eq_true rfl) (Nat.le_of_ble_eq_true rfl) (hA5) ?_
            refine wq_run2 (pc' := 147) (L' := [(0, .ref 92), (1, .int (nI kd)), (2, .int (nI (40 + c)))]) (S' := [.int ((nI c) + 1), .int 5, .ref 101]) (f' := (up1 (up1 (up1 (up1 (up1 f 104 (upd P (40 + c) (nmI T (tkS T n (tkE T n p)) (tkE T n (tkE T n p))))) 103 (upd M (40 + c) 0)) 102 (upd K (40 + c) (nI kd))) 101 A) 92 tg6)) rfl ?_
            refine wq_v (y := (nI (c + 1))) (nI_add c 1) ?_
            refine wq_ist (j := 5) (n := 6) rfl rfl rfl rfl (Nat.le_of_ble_eq_true rfl) (Nat.le_of_ble_eq_true rfl) ?_
            refine wq_h (f' := (up1 (up1 (up1 (up1 (up1 f 104 (upd P (40 + c) (nmI T (tkS T n (tkE T n p)) (tkE T n (tkE T n p))))) 103 (upd M (40 + c) 0)) 102 (upd K (40 + c) (nI kd))) 101 (upd A 5 (nI (c + 1)))) 92 tg6)) ((up2_up1_ne (f := (up1 (up1 (up1 (up1 f 104 (upd P (40 + c) (nmI T (tkS T n (tkE T n p)) (tkE T n (tkE T n p))))) 103 (upd M (40 + c) 0)) 102 (upd K (40 + c) (nI kd))) 101 A)) (g := tg6) (k := 5) (v := (nI (c + 1))) (show (101 : Nat) ≠ 92 by decide)).trans (congrArg (fun z => up1 z 92 tg6) ((up2_up1_eq (up1 (up1 (up1 f 104 (upd P (40 + c) (nmI T (tkS T n (tkE T n p)) (tkE T n (tkE T n p))))) 103 (upd M (40 + c) 0)) 102 (upd K (40 + c) (nI kd))) 101 A 5 (nI (c + 1))).trans (congrArg (fun z => up1 (up1 (up1 (up1 f 104 (upd P (40 + c) (nmI T (tkS T n (tkE T n p)) (tkE T n (tkE T n p))))) 103 (upd M (40 + c) 0)) 102 (upd K (40 + c) (nI kd))) 101 z) (rfl))))) ?_
            refine wq_run1 (pc' := 149) (L' := [(0, .ref 92), (1, .int (nI kd)), (2, .int (nI (40 + c)))]) (S' := [.int 1]) (f' := (up1 (up1 (up1 (up1 (up1 f 104 (upd P (40 + c) (nmI T (tkS T n (tkE T n p)) (tkE T n (tkE T n p))))) 103 (upd M (40 + c) 0)) 102 (upd K (40 + c) (nI kd))) 101 (upd A 5 (nI (c + 1)))) 92 tg6)) rfl ?_
            have hl : loN kd = 1 ∧ hiN kd = 64 := by rw [k_96]; exact ⟨rfl, rfl⟩
            exact wq_retZ rfl (Or.inr rfl) ⟨1, _, _, _, _, _, rfl, rfl, (fun k h1 h2 h3 h4 => (hk6 k h1 h2 h3).trans ((nbk k h4).trans (hk2 k h1 h2 h3))), (fun j hj => upd_n (by omega)), (fun j hj => ⟨upd_n (by omega), upd_n (by omega), upd_n (by omega)⟩), Or.inr ⟨rfl, nI kd, _, _, _, by unfold clR; rw [if_neg c_7, hkd, nI_clamp (by omega), hl.1, hl.2]; rw [if_neg (fun q => q nby.1), if_neg (fun q => q.elim k_41 k_46)], hx6, upd_s _ _ _, upd_s _ _ _, fun q => absurd q (fun q => q.elim (fun q => k_41 ((nI_eq (a := kd) (b := 0) (by omega) (by omega)).mp q)) (fun q => k_46 ((nI_eq (a := kd) (b := 1) (by omega) (by omega)).mp q))), fun _ _ => upd_s _ _ _⟩⟩
        · have k_96 : ¬ kd = 2 := fun q => c_96 ((nI_eq (a := kd) (b := 2) (by omega) (by omega)).mpr q)
          refine wq_run3 (pc' := 106) (L' := [(0, .ref 92), (1, .int (nI kd)), (2, .int (nI (40 + c)))]) (S' := [.int 2, .int (nI kd), .int 0, .ref 92]) (f' := (up1 (up1 (up1 (up1 (up1 f 104 P) 103 (upd M (40 + c) 0)) 102 (upd K (40 + c) (nI kd))) 101 A) 92 tg2)) rfl ?_
          refine wq_if (c := (nI kd) = 2) (p1 := 109) (L1 := [(0, .ref 92), (1, .int (nI kd)), (2, .int (nI (40 + c)))]) (S1 := [.int 0, .ref 92]) (p2 := 114) (L2 := [(0, .ref 92), (1, .int (nI kd)), (2, .int (nI (40 + c)))]) (S2 := [.int 0, .ref 92]) rfl (fun q => absurd q (fun q => absurd ((nI_eq (a := kd) (b := 2) (by omega) (by omega)).mp q) (by omega))) (fun _ => ?_)
          refine wq_run1 (pc' := 116) (L' := [(0, .ref 92), (1, .int (nI kd)), (2, .int (nI (40 + c)))]) (S' := [.int 99, .int 0, .ref 92]) (f' := (up1 (up1 (up1 (up1 (up1 f 104 P) 103 (upd M (40 + c) 0)) 102 (upd K (40 + c) (nI kd))) 101 A) 92 tg2)) rfl ?_
          refine wq_call (mp_isNumber (f := (up1 (up1 (up1 (up1 f 104 P) 103 (upd M (40 + c) 0)) 102 (upd K (40 + c) (nI kd))) 101 A)) (T := T) (n := n) (g := tg2) (a := tkE T n (tkE T n p)) (s := tkS T n (tkE T n p)) (e := tkE T n (tkE T n p)) (lo := 0) (hi := 99) hn1 hT (by decide) hx2 t2.2.1 t2.2.2.1 t2.2.2.2) (Nat.le_of_ble_eq_true rfl) (pc' := 119) (L' := [(0, .ref 92), (1, .int (nI kd)), (2, .int (nI (40 + c)))]) (S' := []) rfl (Nat.le_of_ble_eq_true rfl) rfl rfl (Nat.le_of_ble_eq_true rfl) (Nat.le_of_ble_eq_true rfl) ?_
          rintro v f9 ⟨nbr, nbg, e0, ef, nbk, nbh⟩
          subst e0
          subst ef
          have hx2 : TY nbg n (tkE T n (tkE T n p)) (tkS T n (tkE T n p)) (tkE T n (tkE T n p)) := ⟨(nbk 10 (by decide)).trans hx2.1, (nbk 65 (by decide)).trans hx2.2.1, (nbk 66 (by decide)).trans hx2.2.2.1, (nbk 67 (by decide)).trans hx2.2.2.2⟩
          refine wq_if (c := nbr = 0) (p1 := 122) (L1 := [(0, .ref 92), (1, .int (nI kd)), (2, .int (nI (40 + c)))]) (S1 := []) (p2 := 124) (L2 := [(0, .ref 92), (1, .int (nI kd)), (2, .int (nI (40 + c)))]) (S2 := []) rfl (fun c_119 => ?_) (fun c_119 => ?_)
          · have nbn := (nbh.resolve_right (fun q => absurd (q.1.symm.trans c_119) (by decide))).2
            refine wq_run1 (pc' := 123) (L' := [(0, .ref 92), (1, .int (nI kd)), (2, .int (nI (40 + c)))]) (S' := [.int 0]) (f' := (up1 (up1 (up1 (up1 (up1 f 104 P) 103 (upd M (40 + c) 0)) 102 (upd K (40 + c) (nI kd))) 101 A) 92 nbg)) rfl ?_
            have hl : loN kd = 0 ∧ hiN kd = 99 := by
              rcases (show kd = 3 ∨ kd = 4 ∨ kd = 5 by omega) with q | q | q
              · rw [q]; exact ⟨rfl, rfl⟩
              · rw [q]; exact ⟨rfl, rfl⟩
              · rw [q]; exact ⟨rfl, rfl⟩
            exact wq_retZ rfl (Or.inl rfl) ⟨0, _, _, _, _, _, rfl, rfl, (fun k h1 h2 h3 h4 => (nbk k h4).trans (hk2 k h1 h2 h3)), (fun _ _ => rfl), (fun j hj => ⟨upd_n (by omega), upd_n (by omega), rfl⟩), Or.inl ⟨rfl, _, _, _, by unfold clR; rw [if_neg c_7, hkd, nI_clamp (by omega), hl.1, hl.2]; exact if_pos nbn, hx2⟩⟩
          · have nby := (nbh.resolve_left (fun q => c_119 q.1)).2
            refine wq_run5 (pc' := 133) (L' := [(0, .ref 92), (1, .int (nI kd)), (2, .int (nI (40 + c)))]) (S' := [.int (nbg 68), .int (nI (40 + c)), .ref 104]) (f' := (up1 (up1 (up1 (up1 (up1 f 104 P) 103 (upd M (40 + c) 0)) 102 (upd K (40 + c) (nI kd))) 101 A) 92 nbg)) rfl ?_
            refine wq_v (y := (nmI T (tkS T n (tkE T n p)) (tkE T n (tkE T n p)))) (nby.2) ?_
            refine wq_ist (j := (40 + c)) (n := 48) rfl rfl rfl rfl (by omega) (Nat.le_of_ble_eq_true rfl) ?_
            refine wq_h (f' := (up1 (up1 (up1 (up1 (up1 f 104 (upd P (40 + c) (nmI T (tkS T n (tkE T n p)) (tkE T n (tkE T n p))))) 103 (upd M (40 + c) 0)) 102 (upd K (40 + c) (nI kd))) 101 A) 92 nbg)) ((up2_up1_ne (f := (up1 (up1 (up1 (up1 f 104 P) 103 (upd M (40 + c) 0)) 102 (upd K (40 + c) (nI kd))) 101 A)) (g := nbg) (k := (40 + c)) (v := (nmI T (tkS T n (tkE T n p)) (tkE T n (tkE T n p)))) (show (104 : Nat) ≠ 92 by decide)).trans (congrArg (fun z => up1 z 92 nbg) ((up2_up1_ne (f := (up1 (up1 (up1 f 104 P) 103 (upd M (40 + c) 0)) 102 (upd K (40 + c) (nI kd)))) (g := A) (k := (40 + c)) (v := (nmI T (tkS T n (tkE T n p)) (tkE T n (tkE T n p)))) (show (104 : Nat) ≠ 101 by decide)).trans (congrArg (fun z => up1 z 101 A) ((up2_up1_ne (f := (up1 (up1 f 104 P) 103 (upd M (40 + c) 0))) (g := (upd K (40 + c) (nI kd))) (k := (40 + c)) (v := (nmI T (tkS T n (tkE T n p)) (tkE T n (tkE T n p)))) (show (104 : Nat) ≠ 102 by decide)).trans (congrArg (fun z => up1 z 102 (upd K (40 + c) (nI kd))) ((up2_up1_ne (f := (up1 f 104 P)) (g := (upd M (40 + c) 0)) (k := (40 + c)) (v := (nmI T (tkS T n (tkE T n p)) (tkE T n (tkE T n p)))) (show (104 : Nat) ≠ 103 by decide)).trans (congrArg (fun z => up1 z 103 (upd M (40 + c) 0)) ((up2_up1_eq f 104 P (40 + c) (nmI T (tkS T n (tkE T n p)) (tkE T n (tkE T n p)))).trans (congrArg (fun z => up1 f 104 z) (rfl))))))))))) ?_
            refine wq_run1 (pc' := 135) (L' := [(0, .ref 92), (1, .int (nI kd)), (2, .int (nI (40 + c)))]) (S' := [.ref 92]) (f' := (up1 (up1 (up1 (up1 (up1 f 104 (upd P (40 + c) (nmI T (tkS T n (tkE T n p)) (tkE T n (tkE T n p))))) 103 (upd M (40 + c) 0)) 102 (upd K (40 + c) (nI kd))) 101 A) 92 nbg)) rfl ?_
            refine wq_call (mp_token (f := (up1 (up1 (up1 (up1 f 104 (upd P (40 + c) (nmI T (tkS T n (tkE T n p)) (tkE T n (tkE T n p))))) 103 (upd M (40 + c) 0)) 102 (upd K (40 + c) (nI kd))) 101 A)) (T := T) (n := n) (g := nbg) (p := (tkE T n (tkE T n p))) hn1 hT t2.2.2.1 hx2) (Nat.le_of_ble_eq_true rfl) (pc' := 138) (L' := [(0, .ref 92), (1, .int (nI kd)), (2, .int (nI (40 + c)))]) (S' := []) rfl (Nat.le_of_ble_eq_true rfl) rfl rfl (Nat.le_of_ble_eq_true rfl) (Nat.le_of_ble_eq_true rfl) ?_
            rintro v f9 ⟨tg6, e0, ef, hx6, hk6⟩
            subst e0
            subst ef
            refine wq_run4 (pc' := 144) (L' := [(0, .ref 92), (1, .int (nI kd)), (2, .int (nI (40 + c)))]) (S' := [.int 5, .ref 101, .int 5, .ref 101]) (f' := (up1 (up1 (up1 (up1 (up1 f 104 (upd P (40 + c) (nmI T (tkS T n (tkE T n p)) (tkE T n (tkE T n p))))) 103 (upd M (40 + c) 0)) 102 (upd K (40 + c) (nI kd))) 101 A) 92 tg6)) rfl ?_
            refine wq_ald (j := 5) (n := 6) (v := (nI c)) rfl rfl rfl rfl (Nat.le_of_ble_eq_true rfl) (Nat.le_of_ble_eq_true rfl) (hA5) ?_
            refine wq_run2 (pc' := 147) (L' := [(0, .ref 92), (1, .int (nI kd)), (2, .int (nI (40 + c)))]) (S' := [.int ((nI c) + 1), .int 5, .ref 101]) (f' := (up1 (up1 (up1 (up1 (up1 f 104 (upd P (40 + c) (nmI T (tkS T n (tkE T n p)) (tkE T n (tkE T n p))))) 103 (upd M (40 + c) 0)) 102 (upd K (40 + c) (nI kd))) 101 A) 92 tg6)) rfl ?_
            refine wq_v (y := (nI (c + 1))) (nI_add c 1) ?_
            refine wq_ist (j := 5) (n := 6) rfl rfl rfl rfl (Nat.le_of_ble_eq_true rfl) (Nat.le_of_ble_eq_true rfl) ?_
            refine wq_h (f' := (up1 (up1 (up1 (up1 (up1 f 104 (upd P (40 + c) (nmI T (tkS T n (tkE T n p)) (tkE T n (tkE T n p))))) 103 (upd M (40 + c) 0)) 102 (upd K (40 + c) (nI kd))) 101 (upd A 5 (nI (c + 1)))) 92 tg6)) ((up2_up1_ne (f := (up1 (up1 (up1 (up1 f 104 (upd P (40 + c) (nmI T (tkS T n (tkE T n p)) (tkE T n (tkE T n p))))) 103 (upd M (40 + c) 0)) 102 (upd K (40 + c) (nI kd))) 101 A)) (g := tg6) (k := 5) (v := (nI (c + 1))) (show (101 : Nat) ≠ 92 by decide)).trans (congrArg (fun z => up1 z 92 tg6) ((up2_up1_eq (up1 (up1 (up1 f 104 (upd P (40 + c) (nmI T (tkS T n (tkE T n p)) (tkE T n (tkE T n p))))) 103 (upd M (40 + c) 0)) 102 (upd K (40 + c) (nI kd))) 101 A 5 (nI (c + 1))).trans (congrArg (fun z => up1 (up1 (up1 (up1 f 104 (upd P (40 + c) (nmI T (tkS T n (tkE T n p)) (tkE T n (tkE T n p))))) 103 (upd M (40 + c) 0)) 102 (upd K (40 + c) (nI kd))) 101 z) (rfl))))) ?_
            refine wq_run1 (pc' := 149) (L' := [(0, .ref 92), (1, .int (nI kd)), (2, .int (nI (40 + c)))]) (S' := [.int 1]) (f' := (up1 (up1 (up1 (up1 (up1 f 104 (upd P (40 + c) (nmI T (tkS T n (tkE T n p)) (tkE T n (tkE T n p))))) 103 (upd M (40 + c) 0)) 102 (upd K (40 + c) (nI kd))) 101 (upd A 5 (nI (c + 1)))) 92 tg6)) rfl ?_
            have hl : loN kd = 0 ∧ hiN kd = 99 := by
              rcases (show kd = 3 ∨ kd = 4 ∨ kd = 5 by omega) with q | q | q
              · rw [q]; exact ⟨rfl, rfl⟩
              · rw [q]; exact ⟨rfl, rfl⟩
              · rw [q]; exact ⟨rfl, rfl⟩
            exact wq_retZ rfl (Or.inr rfl) ⟨1, _, _, _, _, _, rfl, rfl, (fun k h1 h2 h3 h4 => (hk6 k h1 h2 h3).trans ((nbk k h4).trans (hk2 k h1 h2 h3))), (fun j hj => upd_n (by omega)), (fun j hj => ⟨upd_n (by omega), upd_n (by omega), upd_n (by omega)⟩), Or.inr ⟨rfl, nI kd, _, _, _, by unfold clR; rw [if_neg c_7, hkd, nI_clamp (by omega), hl.1, hl.2]; rw [if_neg (fun q => q nby.1), if_neg (fun q => q.elim k_41 k_46)], hx6, upd_s _ _ _, upd_s _ _ _, fun q => absurd q (fun q => q.elim (fun q => k_41 ((nI_eq (a := kd) (b := 0) (by omega) (by omega)).mp q)) (fun q => k_46 ((nI_eq (a := kd) (b := 1) (by omega) (by omega)).mp q))), fun _ _ => upd_s _ _ _⟩⟩
