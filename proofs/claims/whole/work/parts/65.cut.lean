/-! the hour: what is cut of a run (class) -/
def cCu (run cost al ke : Int32) (g : Nat → Int32) : Nat → Int32 := if g 17 = run then upd (upd g 18 (cost * ptA ke (g 2) (g 3) - cost * ptA ke (g 2) (g 3) / al * al)) 15 (g 15 + cost * ptA ke (g 2) (g 3) / al) else g
def rsI (f : HI) (run cost al ke : Int32) : Nat → Int32
  | 0 => cost
  | i + 1 => if f (47 + i) 17 = run then rsI f run cost al ke i - cost * ptA ke (f (47 + i) 2) (f (47 + i) 3) / al else rsI f run cost al ke i
theorem lp_cut {f : HI} {n r : Nat} {run cost al : Int32} (hc : f 43 6 = nI n) (hn24 : n ≤ 24) (hr : r < 2 ^ 31) (hal : al ≠ 0) (hrs : (rsI f run cost al (f 1 0) n) = nI r) : ∀ (m9 : Nat) (i : Nat) (f1 : HI), (i ≤ n) → (f1 = mapL (cCu run cost al (f 1 0)) f i) → n - i < m9 → wq 4 38 (fun v f' => v = none ∧ f' = enR (itA (mapL (cCu run cost al (f 1 0)) f n) n run r) n run cost) 72 [(0, .ref 43), (1, .int run), (2, .int cost), (3, .int al), (4, .int (rsI f run cost al (f 1 0) i)), (5, .int (nI i))] [] f1 := by
  intro m9
  induction m9 with
  | zero => intro i f1 hi hf hn; exact absurd hn (Nat.not_lt_zero _)
  | succ m9 ih =>
    intro i f1 hi hf hn
    have h43 : f1 43 = f 43 := by rw [hf]; exact ml_lo (by decide)
    have h01 : f1 1 = f 1 := by rw [hf]; exact ml_lo (by decide)
    have hL : f1 (47 + i) = f (47 + i) := by rw [hf]; exact ml_hi (Nat.le_refl _)
    refine wq_run3 (pc' := 78) (L' := [(0, .ref 43), (1, .int run), (2, .int cost), (3, .int al), (4, .int (rsI f run cost al (f 1 0) i)), (5, .int (nI i))]) (S' := [.int (f1 43 6), .int (nI i)]) (f' := f1) rfl ?_
    refine wq_v (y := (nI n)) (((congrFun h43 6).trans hc)) ?_
    refine wq_if (c := (nI n) ≤ (nI i)) (p1 := 150) (L1 := [(0, .ref 43), (1, .int run), (2, .int cost), (3, .int al), (4, .int (rsI f run cost al (f 1 0) i)), (5, .int (nI i))]) (S1 := []) (p2 := 81) (L2 := [(0, .ref 43), (1, .int run), (2, .int cost), (3, .int al), (4, .int (rsI f run cost al (f 1 0) i)), (5, .int (nI i))]) (S2 := []) rfl (fun c_78 => ?_) (fun c_78 => ?_)
    · have k_78 : n ≤ i := (nI_leI (a := n) (b := i) (by omega) (by omega)).mp c_78
      refine wq_run2 (pc' := 153) (L' := [(0, .ref 43), (1, .int run), (2, .int cost), (4, .int (rsI f run cost al (f 1 0) i)), (5, .int 0)]) (S' := []) (f' := f1) rfl ?_
      have e : i = n := by omega
      rw [e] at hf
      rw [e, hrs, hf]
      exact lp_pennies (f := mapL (cCu run cost al (f 1 0)) f n) ((congrFun (ml_lo (by decide)) 6).trans hc) hn24 hr (r - 0 + 1) 0 _ (Nat.zero_le _) rfl (Nat.lt_succ_self _)
    · have k_78 : ¬ n ≤ i := fun q => c_78 ((nI_leI (a := n) (b := i) (by omega) (by omega)).mpr q)
      have hi24 : i < 24 := by omega
      refine wq_run3 (pc' := 87) (L' := [(0, .ref 43), (1, .int run), (2, .int cost), (3, .int al), (4, .int (rsI f run cost al (f 1 0) i)), (5, .int (nI i))]) (S' := [.int (nI i), .ref 44]) (f' := f1) rfl ?_
      refine wq_qld (j := i) (n := 24) (b := (47 + i)) rfl rfl rfl rfl (by omega) (Nat.le_of_ble_eq_true rfl) (lets_at (by omega)) ?_
      refine wq_run2 (pc' := 92) (L' := [(0, .ref 43), (1, .int run), (2, .int cost), (3, .int al), (4, .int (rsI f run cost al (f 1 0) i)), (5, .int (nI i)), (6, .ref (47 + i))]) (S' := [.ref (47 + i)]) (f' := f1) rfl ?_
      refine wq_getI (v := (f1 (47 + i) 17)) rfl (let_O hi24) rfl ?_
      refine wq_run1 (pc' := 96) (L' := [(0, .ref 43), (1, .int run), (2, .int cost), (3, .int al), (4, .int (rsI f run cost al (f 1 0) i)), (5, .int (nI i)), (6, .ref (47 + i))]) (S' := [.int run, .int (f1 (47 + i) 17)]) (f' := f1) rfl ?_
      refine wq_if (c := (f1 (47 + i) 17) = run) (p1 := 102) (L1 := [(0, .ref 43), (1, .int run), (2, .int cost), (3, .int al), (4, .int (rsI f run cost al (f 1 0) i)), (5, .int (nI i)), (6, .ref (47 + i))]) (S1 := []) (p2 := 99) (L2 := [(0, .ref 43), (1, .int run), (2, .int cost), (3, .int al), (4, .int (rsI f run cost al (f 1 0) i)), (5, .int (nI i)), (6, .ref (47 + i))]) (S2 := []) rfl (fun c_96 => ?_) (fun c_96 => ?_)
      · refine wq_run3 (pc' := 106) (L' := [(0, .ref 43), (1, .int run), (2, .int cost), (3, .int al), (4, .int (rsI f run cost al (f 1 0) i)), (5, .int (nI i)), (6, .ref (47 + i))]) (S' := [.ref (47 + i), .ref 43, .int cost]) (f' := f1) rfl ?_
        refine wq_callI (r := (ptA (f1 1 0) (f1 (47 + i) 2) (f1 (47 + i) 3))) (sp_partOf f1 hi24) (Nat.le_of_ble_eq_true rfl) (pc' := 109) (L' := [(0, .ref 43), (1, .int run), (2, .int cost), (3, .int al), (4, .int (rsI f run cost al (f 1 0) i)), (5, .int (nI i)), (6, .ref (47 + i))]) (S' := [.int cost]) rfl (Nat.le_of_ble_eq_true rfl) rfl rfl (Nat.le_of_ble_eq_true rfl) (Nat.le_of_ble_eq_true rfl) ?_
        refine wq_run4 (pc' := 115) (L' := [(0, .ref 43), (1, .int run), (2, .int cost), (3, .int al), (4, .int (rsI f run cost al (f 1 0) i)), (5, .int (nI i)), (6, .ref (47 + i)), (7, .int (cost * (ptA (f1 1 0) (f1 (47 + i) 2) (f1 (47 + i) 3))))]) (S' := [.ref (47 + i), .ref (47 + i)]) (f' := f1) rfl ?_
        refine wq_getI (v := (f1 (47 + i) 15)) rfl (let_O hi24) rfl ?_
        refine wq_run2 (pc' := 121) (L' := [(0, .ref 43), (1, .int run), (2, .int cost), (3, .int al), (4, .int (rsI f run cost al (f 1 0) i)), (5, .int (nI i)), (6, .ref (47 + i)), (7, .int (cost * (ptA (f1 1 0) (f1 (47 + i) 2) (f1 (47 + i) 3))))]) (S' := [.int al, .int (cost * (ptA (f1 1 0) (f1 (47 + i) 2) (f1 (47 + i) 3))), .int (f1 (47 + i) 15), .ref (47 + i)]) (f' := f1) rfl ?_
        refine wq_div rfl hal ?_
        refine wq_run1 (pc' := 123) (L' := [(0, .ref 43), (1, .int run), (2, .int cost), (3, .int al), (4, .int (rsI f run cost al (f 1 0) i)), (5, .int (nI i)), (6, .ref (47 + i)), (7, .int (cost * (ptA (f1 1 0) (f1 (47 + i) 2) (f1 (47 + i) 3))))]) (S' := [.int ((f1 (47 + i) 15) + ((cost * (ptA (f1 1 0) (f1 (47 + i) 2) (f1 (47 + i) 3))) / al)), .ref (47 + i)]) (f' := f1) rfl ?_
        refine wq_putI rfl (let_O hi24) ?_
        refine wq_h (f' := (up1 f1 (47 + i) (upd (f1 (47 + i)) 15 ((f1 (47 + i) 15) + ((cost * (ptA (f1 1 0) (f1 (47 + i) 2) (f1 (47 + i) 3))) / al))))) (up2_eq1 f1 (47 + i) 15 ((f1 (47 + i) 15) + ((cost * (ptA (f1 1 0) (f1 (47 + i) 2) (f1 (47 + i) 3))) / al))) ?_
        refine wq_run3 (pc' := 131) (L' := [(0, .ref 43), (1, .int run), (2, .int cost), (3, .int al), (4, .int (rsI f run cost al (f 1 0) i)), (5, .int (nI i)), (6, .ref (47 + i)), (7, .int (cost * (ptA (f1 1 0) (f1 (47 + i) 2) (f1 (47 + i) 3))))]) (S' := [.int al, .int (cost * (ptA (f1 1 0) (f1 (47 + i) 2) (f1 (47 + i) 3))), .ref (47 + i)]) (f' := (up1 f1 (47 + i) (upd (f1 (47 + i)) 15 ((f1 (47 + i) 15) + ((cost * (ptA (f1 1 0) (f1 (47 + i) 2) (f1 (47 + i) 3))) / al))))) rfl ?_
        refine wq_rem rfl hal ?_
        refine wq_putI rfl (let_O hi24) ?_
        refine wq_h (f' := (up1 f1 (47 + i) (upd (upd (f1 (47 + i)) 18 ((cost * (ptA (f1 1 0) (f1 (47 + i) 2) (f1 (47 + i) 3))) - (cost * (ptA (f1 1 0) (f1 (47 + i) 2) (f1 (47 + i) 3))) / al * al)) 15 ((f1 (47 + i) 15) + ((cost * (ptA (f1 1 0) (f1 (47 + i) 2) (f1 (47 + i) 3))) / al))))) ((up2_up1_eq f1 (47 + i) (upd (f1 (47 + i)) 15 ((f1 (47 + i) 15) + ((cost * (ptA (f1 1 0) (f1 (47 + i) 2) (f1 (47 + i) 3))) / al))) 18 ((cost * (ptA (f1 1 0) (f1 (47 + i) 2) (f1 (47 + i) 3))) - (cost * (ptA (f1 1 0) (f1 (47 + i) 2) (f1 (47 + i) 3))) / al * al)).trans (congrArg (fun z => up1 f1 (47 + i) z) ((upd_sw (g := (f1 (47 + i))) (v := ((f1 (47 + i) 15) + ((cost * (ptA (f1 1 0) (f1 (47 + i) 2) (f1 (47 + i) 3))) / al))) (w := ((cost * (ptA (f1 1 0) (f1 (47 + i) 2) (f1 (47 + i) 3))) - (cost * (ptA (f1 1 0) (f1 (47 + i) 2) (f1 (47 + i) 3))) / al * al)) (show (18 : Nat) ≠ 15 by decide)).trans (congrArg (fun z => upd z 15 ((f1 (47 + i) 15) + ((cost * (ptA (f1 1 0) (f1 (47 + i) 2) (f1 (47 + i) 3))) / al))) (rfl))))) ?_
        refine wq_run3 (pc' := 140) (L' := [(0, .ref 43), (1, .int run), (2, .int cost), (3, .int al), (4, .int (rsI f run cost al (f 1 0) i)), (5, .int (nI i)), (6, .ref (47 + i)), (7, .int (cost * (ptA (f1 1 0) (f1 (47 + i) 2) (f1 (47 + i) 3))))]) (S' := [.int al, .int (cost * (ptA (f1 1 0) (f1 (47 + i) 2) (f1 (47 + i) 3))), .int (rsI f run cost al (f 1 0) i)]) (f' := (up1 f1 (47 + i) (upd (upd (f1 (47 + i)) 18 ((cost * (ptA (f1 1 0) (f1 (47 + i) 2) (f1 (47 + i) 3))) - (cost * (ptA (f1 1 0) (f1 (47 + i) 2) (f1 (47 + i) 3))) / al * al)) 15 ((f1 (47 + i) 15) + ((cost * (ptA (f1 1 0) (f1 (47 + i) 2) (f1 (47 + i) 3))) / al))))) rfl ?_
        refine wq_div rfl hal ?_
        refine wq_run3 (pc' := 147) (L' := [(0, .ref 43), (1, .int run), (2, .int cost), (3, .int al), (4, .int ((rsI f run cost al (f 1 0) i) - ((cost * (ptA (f1 1 0) (f1 (47 + i) 2) (f1 (47 + i) 3))) / al))), (5, .int ((nI i) + 1)), (6, .ref (47 + i)), (7, .int (cost * (ptA (f1 1 0) (f1 (47 + i) 2) (f1 (47 + i) 3))))]) (S' := []) (f' := (up1 f1 (47 + i) (upd (upd (f1 (47 + i)) 18 ((cost * (ptA (f1 1 0) (f1 (47 + i) 2) (f1 (47 + i) 3))) - (cost * (ptA (f1 1 0) (f1 (47 + i) 2) (f1 (47 + i) 3))) / al * al)) 15 ((f1 (47 + i) 15) + ((cost * (ptA (f1 1 0) (f1 (47 + i) 2) (f1 (47 + i) 3))) / al))))) rfl ?_
        refine wq_L (L' := [(0, .ref 43), (1, .int run), (2, .int cost), (3, .int al), (4, .int ((rsI f run cost al (f 1 0) i) - ((cost * (ptA (f1 1 0) (f1 (47 + i) 2) (f1 (47 + i) 3))) / al))), (5, .int (nI (i + 1))), (6, .ref (47 + i)), (7, .int (cost * (ptA (f1 1 0) (f1 (47 + i) 2) (f1 (47 + i) 3))))]) (by rw [show nI i + 1 = nI (i + 1) from nI_add _ _]) ?_
        refine wq_run1 (pc' := 72) (L' := [(0, .ref 43), (1, .int run), (2, .int cost), (3, .int al), (4, .int ((rsI f run cost al (f 1 0) i) - ((cost * (ptA (f1 1 0) (f1 (47 + i) 2) (f1 (47 + i) 3))) / al))), (5, .int (nI (i + 1)))]) (S' := []) (f' := (up1 f1 (47 + i) (upd (upd (f1 (47 + i)) 18 ((cost * (ptA (f1 1 0) (f1 (47 + i) 2) (f1 (47 + i) 3))) - (cost * (ptA (f1 1 0) (f1 (47 + i) 2) (f1 (47 + i) 3))) / al * al)) 15 ((f1 (47 + i) 15) + ((cost * (ptA (f1 1 0) (f1 (47 + i) 2) (f1 (47 + i) 3))) / al))))) rfl ?_
        have hz : cCu run cost al (f 1 0) (f (47 + i)) = (upd (upd (f1 (47 + i)) 18 ((cost * (ptA (f1 1 0) (f1 (47 + i) 2) (f1 (47 + i) 3))) - (cost * (ptA (f1 1 0) (f1 (47 + i) 2) (f1 (47 + i) 3))) / al * al)) 15 ((f1 (47 + i) 15) + ((cost * (ptA (f1 1 0) (f1 (47 + i) 2) (f1 (47 + i) 3))) / al))) := by
          rw [← hL, ← h01]
          exact if_pos c_96
        have h9 := ih (i + 1) _ (by omega) (show (up1 f1 (47 + i) (upd (upd (f1 (47 + i)) 18 ((cost * (ptA (f1 1 0) (f1 (47 + i) 2) (f1 (47 + i) 3))) - (cost * (ptA (f1 1 0) (f1 (47 + i) 2) (f1 (47 + i) 3))) / al * al)) 15 ((f1 (47 + i) 15) + ((cost * (ptA (f1 1 0) (f1 (47 + i) 2) (f1 (47 + i) 3))) / al)))) = mapL (cCu run cost al (f 1 0)) f (i + 1) by rw [ml_y hz, ← hf]) (by omega)
        rw [show (rsI f run cost al (f 1 0) (i + 1)) = ((rsI f run cost al (f 1 0) i) - ((cost * (ptA (f1 1 0) (f1 (47 + i) 2) (f1 (47 + i) 3))) / al)) from (if_pos (by rw [← hL]; exact c_96)).trans (by rw [hL, h01])] at h9
        exact h9
      · refine wq_run2 (pc' := 147) (L' := [(0, .ref 43), (1, .int run), (2, .int cost), (3, .int al), (4, .int (rsI f run cost al (f 1 0) i)), (5, .int ((nI i) + 1)), (6, .ref (47 + i))]) (S' := []) (f' := f1) rfl ?_
        refine wq_L (L' := [(0, .ref 43), (1, .int run), (2, .int cost), (3, .int al), (4, .int (rsI f run cost al (f 1 0) i)), (5, .int (nI (i + 1))), (6, .ref (47 + i))]) (by rw [show nI i + 1 = nI (i + 1) from nI_add _ _]) ?_
        refine wq_run1 (pc' := 72) (L' := [(0, .ref 43), (1, .int run), (2, .int cost), (3, .int al), (4, .int (rsI f run cost al (f 1 0) i)), (5, .int (nI (i + 1)))]) (S' := []) (f' := f1) rfl ?_
        have hz : cCu run cost al (f 1 0) (f (47 + i)) = f (47 + i) := by
          rw [← hL]
          exact if_neg c_96
        have h9 := ih (i + 1) f1 (by omega) (by rw [ml_n hz, ← hf]) (by omega)
        rw [show (rsI f run cost al (f 1 0) (i + 1)) = (rsI f run cost al (f 1 0) i) from if_neg (by rw [← hL]; exact c_96)] at h9
        exact h9
