/-! the hour: a run is parted (class) -/
def alI (f : HI) (run ke : Int32) : Nat → Int32
  | 0 => 0
  | i + 1 => if f (47 + i) 17 = run then alI f run ke i + ptA ke (f (47 + i) 2) (f (47 + i) 3) else alI f run ke i
def prA (f : HI) (n r : Nat) (run cost : Int32) : HI := if 1 ≤ alI f run (f 1 0) n then enR (itA (mapL (cCu run cost (alI f run (f 1 0) n) (f 1 0)) f n) n run r) n run cost else f
theorem lp_sum {f : HI} {n r e : Nat} {cost : Int32} (hc : f 43 6 = nI n) (hn24 : n ≤ 24) (he : e < 32) (hr : r < 2 ^ 31) (hco : f 6 (e / 2) = cost) (hrs : rsI f (nI e) cost (alI f (nI e) (f 1 0) n) (f 1 0) n = nI r) : ∀ (m9 : Nat) (i : Nat), (i ≤ n) → n - i < m9 → wq 4 38 (fun v f' => v = none ∧ f' = prA f n r (nI e) cost) 17 [(0, .ref 43), (1, .int (nI e)), (2, .int cost), (3, .int (alI f (nI e) (f 1 0) i)), (4, .int (nI i))] [] f := by
  intro m9
  induction m9 with
  | zero => intro i hi hn; exact absurd hn (Nat.not_lt_zero _)
  | succ m9 ih =>
    intro i hi hn
    refine wq_run3 (pc' := 23) (L' := [(0, .ref 43), (1, .int (nI e)), (2, .int cost), (3, .int (alI f (nI e) (f 1 0) i)), (4, .int (nI i))]) (S' := [.int (f 43 6), .int (nI i)]) (f' := f) rfl ?_
    refine wq_v (y := (nI n)) (hc) ?_
    refine wq_if (c := (nI n) ≤ (nI i)) (p1 := 60) (L1 := [(0, .ref 43), (1, .int (nI e)), (2, .int cost), (3, .int (alI f (nI e) (f 1 0) i)), (4, .int (nI i))]) (S1 := []) (p2 := 26) (L2 := [(0, .ref 43), (1, .int (nI e)), (2, .int cost), (3, .int (alI f (nI e) (f 1 0) i)), (4, .int (nI i))]) (S2 := []) rfl (fun c_23 => ?_) (fun c_23 => ?_)
    · have k_23 : n ≤ i := (nI_leI (a := n) (b := i) (by omega) (by omega)).mp c_23
      refine wq_run2 (pc' := 62) (L' := [(0, .ref 43), (1, .int (nI e)), (2, .int cost), (3, .int (alI f (nI e) (f 1 0) i)), (4, .int (nI i))]) (S' := [.int 1, .int (alI f (nI e) (f 1 0) i)]) (f' := f) rfl ?_
      refine wq_if (c := 1 ≤ (alI f (nI e) (f 1 0) i)) (p1 := 66) (L1 := [(0, .ref 43), (1, .int (nI e)), (2, .int cost), (3, .int (alI f (nI e) (f 1 0) i)), (4, .int (nI i))]) (S1 := []) (p2 := 65) (L2 := [(0, .ref 43), (1, .int (nI e)), (2, .int cost), (3, .int (alI f (nI e) (f 1 0) i)), (4, .int (nI i))]) (S2 := []) rfl (fun c_62 => ?_) (fun c_62 => ?_)
      · refine wq_run4 (pc' := 72) (L' := [(0, .ref 43), (1, .int (nI e)), (2, .int cost), (3, .int (alI f (nI e) (f 1 0) i)), (4, .int cost), (5, .int 0)]) (S' := []) (f' := f) rfl ?_
        have e1 : i = n := by omega
        rw [e1] at c_62
        rw [e1]
        have hz : prA f n r (nI e) cost = _ := if_pos c_62
        rw [hz]
        exact lp_cut (f := f) hc hn24 hr (fun q => by rw [q] at c_62; exact absurd c_62 (by decide)) hrs (n - 0 + 1) 0 f (Nat.zero_le _) ml_0.symm (Nat.lt_succ_self _)
      · have e1 : i = n := by omega
        rw [e1] at c_62
        exact wq_ret rfl ⟨rfl, (if_neg c_62).symm⟩
    · have k_23 : ¬ n ≤ i := fun q => c_23 ((nI_leI (a := n) (b := i) (by omega) (by omega)).mpr q)
      have hi24 : i < 24 := by omega
      refine wq_run3 (pc' := 32) (L' := [(0, .ref 43), (1, .int (nI e)), (2, .int cost), (3, .int (alI f (nI e) (f 1 0) i)), (4, .int (nI i))]) (S' := [.int (nI i), .ref 44]) (f' := f) rfl ?_
      refine wq_qld (j := i) (n := 24) (b := (47 + i)) rfl rfl rfl rfl (by omega) (Nat.le_of_ble_eq_true rfl) (lets_at (by omega)) ?_
      refine wq_getI (v := (f (47 + i) 17)) rfl (let_O hi24) rfl ?_
      refine wq_run1 (pc' := 37) (L' := [(0, .ref 43), (1, .int (nI e)), (2, .int cost), (3, .int (alI f (nI e) (f 1 0) i)), (4, .int (nI i))]) (S' := [.int (nI e), .int (f (47 + i) 17)]) (f' := f) rfl ?_
      refine wq_if (c := (f (47 + i) 17) = (nI e)) (p1 := 40) (L1 := [(0, .ref 43), (1, .int (nI e)), (2, .int cost), (3, .int (alI f (nI e) (f 1 0) i)), (4, .int (nI i))]) (S1 := []) (p2 := 54) (L2 := [(0, .ref 43), (1, .int (nI e)), (2, .int cost), (3, .int (alI f (nI e) (f 1 0) i)), (4, .int (nI i))]) (S2 := []) rfl (fun c_37 => ?_) (fun c_37 => ?_)
      · refine wq_run5 (pc' := 48) (L' := [(0, .ref 43), (1, .int (nI e)), (2, .int cost), (3, .int (alI f (nI e) (f 1 0) i)), (4, .int (nI i))]) (S' := [.int (nI i), .ref 44, .ref 43, .int (alI f (nI e) (f 1 0) i)]) (f' := f) rfl ?_
        refine wq_qld (j := i) (n := 24) (b := (47 + i)) rfl rfl rfl rfl (by omega) (Nat.le_of_ble_eq_true rfl) (lets_at (by omega)) ?_
        refine wq_callI (r := (ptA (f 1 0) (f (47 + i) 2) (f (47 + i) 3))) (sp_partOf f hi24) (Nat.le_of_ble_eq_true rfl) (pc' := 52) (L' := [(0, .ref 43), (1, .int (nI e)), (2, .int cost), (3, .int (alI f (nI e) (f 1 0) i)), (4, .int (nI i))]) (S' := [.int (alI f (nI e) (f 1 0) i)]) rfl (Nat.le_of_ble_eq_true rfl) rfl rfl (Nat.le_of_ble_eq_true rfl) (Nat.le_of_ble_eq_true rfl) ?_
        refine wq_run3 (pc' := 57) (L' := [(0, .ref 43), (1, .int (nI e)), (2, .int cost), (3, .int ((alI f (nI e) (f 1 0) i) + (ptA (f 1 0) (f (47 + i) 2) (f (47 + i) 3)))), (4, .int ((nI i) + 1))]) (S' := []) (f' := f) rfl ?_
        refine wq_L (L' := [(0, .ref 43), (1, .int (nI e)), (2, .int cost), (3, .int ((alI f (nI e) (f 1 0) i) + (ptA (f 1 0) (f (47 + i) 2) (f (47 + i) 3)))), (4, .int (nI (i + 1)))]) (by rw [show nI i + 1 = nI (i + 1) from nI_add _ _]) ?_
        refine wq_run1 (pc' := 17) (L' := [(0, .ref 43), (1, .int (nI e)), (2, .int cost), (3, .int ((alI f (nI e) (f 1 0) i) + (ptA (f 1 0) (f (47 + i) 2) (f (47 + i) 3)))), (4, .int (nI (i + 1)))]) (S' := []) (f' := f) rfl ?_
        have h9 := ih (i + 1) (by omega) (by omega)
        rw [show (alI f (nI e) (f 1 0) (i + 1)) = _ from if_pos c_37] at h9
        exact h9
      · refine wq_run1 (pc' := 57) (L' := [(0, .ref 43), (1, .int (nI e)), (2, .int cost), (3, .int (alI f (nI e) (f 1 0) i)), (4, .int ((nI i) + 1))]) (S' := []) (f' := f) rfl ?_
        refine wq_L (L' := [(0, .ref 43), (1, .int (nI e)), (2, .int cost), (3, .int (alI f (nI e) (f 1 0) i)), (4, .int (nI (i + 1)))]) (by rw [show nI i + 1 = nI (i + 1) from nI_add _ _]) ?_
        refine wq_run1 (pc' := 17) (L' := [(0, .ref 43), (1, .int (nI e)), (2, .int cost), (3, .int (alI f (nI e) (f 1 0) i)), (4, .int (nI (i + 1)))]) (S' := []) (f' := f) rfl ?_
        have h9 := ih (i + 1) (by omega) (by omega)
        rw [show (alI f (nI e) (f 1 0) (i + 1)) = _ from if_neg c_37] at h9
        exact h9
theorem sp_partRun {f : HI} {n r e : Nat} {cost : Int32} (hc : f 43 6 = nI n) (hn24 : n ≤ 24) (he : e < 32) (hr : r < 2 ^ 31) (hco : f 6 (e / 2) = cost) (hrs : rsI f (nI e) cost (alI f (nI e) (f 1 0) n) (f 1 0) n = nI r) : Sp 4 38 [.ref 43, .int (nI e)] f (fun v f' => v = none ∧ f' = prA f n r (nI e) cost) := by
  show wq 4 38 (fun v f' => v = none ∧ f' = prA f n r (nI e) cost) 0 [(0, .ref 43), (1, .int (nI e))] [] f
  refine wq_run5 (pc' := 9) (L' := [(0, .ref 43), (1, .int (nI e))]) (S' := [.int 2, .int (nI e), .ref 6]) (f' := f) rfl ?_
  refine wq_div rfl (by decide) ?_
  refine wq_v (y := (nI (e / 2))) (pk_div (a := e) (d := 2) (by omega) (by omega) (by omega)) ?_
  refine wq_ald (j := (e / 2)) (n := 16) (v := cost) rfl rfl rfl rfl (by omega) (Nat.le_of_ble_eq_true rfl) hco ?_
  refine wq_run5 (pc' := 17) (L' := [(0, .ref 43), (1, .int (nI e)), (2, .int cost), (3, .int 0), (4, .int 0)]) (S' := []) (f' := f) rfl ?_
  exact lp_sum hc hn24 he hr hco hrs (n - 0 + 1) 0 (Nat.zero_le _) (Nat.lt_succ_self _)
