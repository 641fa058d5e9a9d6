/-! the hour: all runs are parted (class) -/
abbrev PrS (S : Nat → HI) (n i : Nat) : Prop := (S i (47 + i) 17 = -1 ∧ S (i + 1) = S i) ∨ (∃ e r, e < 32 ∧ r < 2 ^ 31 ∧ S i (47 + i) 17 = nI e ∧ rsI (S i) (nI e) (S i 6 (e / 2)) (alI (S i) (nI e) (S i 1 0) n) (S i 1 0) n = nI r ∧ S (i + 1) = prA (S i) n r (nI e) (S i 6 (e / 2)))
theorem lp_partRuns {S : Nat → HI} {n : Nat} (hn24 : n ≤ 24) (hc : ∀ i, i ≤ n → S i 43 6 = nI n) (hS : ∀ i, i < n → PrS S n i) : ∀ (m9 : Nat) (i : Nat) (f1 : HI), (i ≤ n) → (f1 = S i) → n - i < m9 → wq 5 37 (RetV (S n)) 2 [(0, .ref 43), (1, .int (nI i))] [] f1 := by
  intro m9
  induction m9 with
  | zero => intro i f1 hi hf hn; exact absurd hn (Nat.not_lt_zero _)
  | succ m9 ih =>
    intro i f1 hi hf hn
    refine wq_run3 (pc' := 7) (L' := [(0, .ref 43), (1, .int (nI i))]) (S' := [.int (f1 43 6), .int (nI i)]) (f' := f1) rfl ?_
    refine wq_v (y := (nI n)) (((by rw [hf]; exact hc i hi))) ?_
    refine wq_if (c := (nI n) ≤ (nI i)) (p1 := 42) (L1 := [(0, .ref 43), (1, .int (nI i))]) (S1 := []) (p2 := 10) (L2 := [(0, .ref 43), (1, .int (nI i))]) (S2 := []) rfl (fun c_7 => ?_) (fun c_7 => ?_)
    · have k_7 : n ≤ i := (nI_leI (a := n) (b := i) (by omega) (by omega)).mp c_7
      have e1 : i = n := by omega
      exact wq_ret rfl ⟨rfl, by rw [hf, e1]⟩
    · have k_7 : ¬ n ≤ i := fun q => c_7 ((nI_leI (a := n) (b := i) (by omega) (by omega)).mpr q)
      have hi24 : i < 24 := by omega
      refine wq_run3 (pc' := 15) (L' := [(0, .ref 43), (1, .int (nI i))]) (S' := [.int (nI i), .ref 44]) (f' := f1) rfl ?_
      refine wq_qld (j := i) (n := 24) (b := (47 + i)) rfl rfl rfl rfl (by omega) (Nat.le_of_ble_eq_true rfl) (lets_at (by omega)) ?_
      refine wq_getI (v := (f1 (47 + i) 17)) rfl (let_O hi24) rfl ?_
      refine wq_run1 (pc' := 20) (L' := [(0, .ref 43), (1, .int (nI i))]) (S' := [.int (-1), .int (f1 (47 + i) 17)]) (f' := f1) rfl ?_
      refine wq_if (c := (f1 (47 + i) 17) = (-1)) (p1 := 36) (L1 := [(0, .ref 43), (1, .int (nI i))]) (S1 := []) (p2 := 23) (L2 := [(0, .ref 43), (1, .int (nI i))]) (S2 := []) rfl (fun c_20 => ?_) (fun c_20 => ?_)
      · refine wq_run1 (pc' := 39) (L' := [(0, .ref 43), (1, .int ((nI i) + 1))]) (S' := []) (f' := f1) rfl ?_
        refine wq_L (L' := [(0, .ref 43), (1, .int (nI (i + 1)))]) (by rw [show nI i + 1 = nI (i + 1) from nI_add _ _]) ?_
        refine wq_run1 (pc' := 2) (L' := [(0, .ref 43), (1, .int (nI (i + 1)))]) (S' := []) (f' := f1) rfl ?_
        exact ih (i + 1) f1 (by omega) (by rw [hf] at c_20 ⊢; rcases hS i (by omega) with ⟨_, z2⟩ | ⟨e, r, he, hr, z1, z2, z3⟩ <;> first | exact z2.symm | exact absurd (z1.symm.trans c_20) (nI_nm (by omega))) (by omega)
      · refine wq_run4 (pc' := 29) (L' := [(0, .ref 43), (1, .int (nI i))]) (S' := [.int (nI i), .ref 44, .ref 43]) (f' := f1) rfl ?_
        refine wq_qld (j := i) (n := 24) (b := (47 + i)) rfl rfl rfl rfl (by omega) (Nat.le_of_ble_eq_true rfl) (lets_at (by omega)) ?_
        refine wq_getI (v := (f1 (47 + i) 17)) rfl (let_O hi24) rfl ?_
        refine wq_call ((show Sp 4 38 [.ref 43, .int (f1 (47 + i) 17)] f1 (RetV (S (i + 1))) from by rw [hf] at c_20 ⊢; rcases hS i (by omega) with ⟨z1, _⟩ | ⟨e, r, he, hr, z1, z2, z3⟩ <;> first | exact absurd z1 c_20 | (rw [z1, z3]; exact sp_partRun (hc i hi) hn24 he hr rfl z2))) (Nat.le_of_ble_eq_true rfl) (pc' := 36) (L' := [(0, .ref 43), (1, .int (nI i))]) (S' := []) rfl (Nat.le_of_ble_eq_true rfl) rfl rfl (Nat.le_of_ble_eq_true rfl) (Nat.le_of_ble_eq_true rfl) ?_
        rintro v f9 ⟨e0, ef⟩
        subst e0
        subst ef
        refine wq_run1 (pc' := 39) (L' := [(0, .ref 43), (1, .int ((nI i) + 1))]) (S' := []) (f' := (S (i + 1))) rfl ?_
        refine wq_L (L' := [(0, .ref 43), (1, .int (nI (i + 1)))]) (by rw [show nI i + 1 = nI (i + 1) from nI_add _ _]) ?_
        refine wq_run1 (pc' := 2) (L' := [(0, .ref 43), (1, .int (nI (i + 1)))]) (S' := []) (f' := (S (i + 1))) rfl ?_
        exact ih (i + 1) _ (by omega) rfl (by omega)
theorem sp_partRuns {S : Nat → HI} {n : Nat} (hn24 : n ≤ 24) (hc : ∀ i, i ≤ n → S i 43 6 = nI n) (hS : ∀ i, i < n → PrS S n i) : Sp 5 37 [.ref 43] (S 0) (RetV (S n)) := by
  show wq 5 37 (RetV (S n)) 0 [(0, .ref 43)] [] (S 0)
  refine wq_run2 (pc' := 2) (L' := [(0, .ref 43), (1, .int 0)]) (S' := []) (f' := (S 0)) rfl ?_
  exact lp_partRuns hn24 hc hS (n - 0 + 1) 0 _ (Nat.zero_le _) rfl (Nat.lt_succ_self _)
