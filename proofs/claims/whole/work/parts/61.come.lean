/-! the hour: coming in, the end of a run (class) -/
def mapL (c : (Nat → Int32) → Nat → Int32) (f : HI) (n : Nat) : HI := fun r => if 47 ≤ r ∧ r < 47 + n then c (f r) else f r
theorem ml_0 {c : (Nat → Int32) → Nat → Int32} {f : HI} : mapL c f 0 = f := funext fun _ => if_neg (fun q => by omega)
theorem ml_lo {c : (Nat → Int32) → Nat → Int32} {f : HI} {n r : Nat} (h : r < 47) : mapL c f n r = f r := if_neg (fun q => by omega)
theorem ml_hi {c : (Nat → Int32) → Nat → Int32} {f : HI} {n r : Nat} (h : 47 + n ≤ r) : mapL c f n r = f r := if_neg (fun q => by omega)
theorem ml_in {c : (Nat → Int32) → Nat → Int32} {f : HI} {n i : Nat} (h : i < n) : mapL c f n (47 + i) = c (f (47 + i)) := if_pos ⟨by omega, by omega⟩
theorem ml_y {c : (Nat → Int32) → Nat → Int32} {f : HI} {i : Nat} {g : Nat → Int32} (h : c (f (47 + i)) = g) : mapL c f (i + 1) = up1 (mapL c f i) (47 + i) g := by
  funext r
  by_cases e : r = 47 + i
  · rw [e, up1_s, ml_in (Nat.lt_succ_self i), h]
  · rw [up1_f e]
    unfold mapL
    by_cases q : 47 ≤ r ∧ r < 47 + i
    · rw [if_pos q, if_pos ⟨q.1, by omega⟩]
    · rw [if_neg q, if_neg (fun z => q ⟨z.1, by omega⟩)]
theorem ml_n {c : (Nat → Int32) → Nat → Int32} {f : HI} {i : Nat} (h : c (f (47 + i)) = f (47 + i)) : mapL c f (i + 1) = mapL c f i := by
  rw [ml_y h, ← ml_hi (c := c) (f := f) (n := i) (r := 47 + i) (Nat.le_refl _)]
  exact up1_id _ _
def cIn (h : Int32) (g : Nat → Int32) : Nat → Int32 := if g 8 = 1 ∧ g 12 = h then upd (upd g 9 (g 11)) 8 0 else g
def cEn (run : Int32) (g : Nat → Int32) : Nat → Int32 := if g 17 = run then upd g 17 (-1) else g
theorem lp_comeIn {f : HI} {n : Nat} (hc : f 43 6 = nI n) (hn24 : n ≤ 24) : ∀ (m9 : Nat) (i : Nat) (f1 : HI), (i ≤ n) → (f1 = mapL (cIn (f 43 7)) f i) → n - i < m9 → wq 2 28 (RetV (mapL (cIn (f 43 7)) f n)) 2 [(0, .ref 43), (1, .int (nI i))] [] f1 := by
  intro m9
  induction m9 with
  | zero => intro i f1 hi hf hn; exact absurd hn (Nat.not_lt_zero _)
  | succ m9 ih =>
    intro i f1 hi hf hn
    have h43 : f1 43 = f 43 := by rw [hf]; exact ml_lo (by decide)
    have hL : f1 (47 + i) = f (47 + i) := by rw [hf]; exact ml_hi (Nat.le_refl _)
    refine wq_run3 (pc' := 7) (L' := [(0, .ref 43), (1, .int (nI i))]) (S' := [.int (f1 43 6), .int (nI i)]) (f' := f1) rfl ?_
    refine wq_v (y := (nI n)) (((congrFun h43 6).trans hc)) ?_
    refine wq_if (c := (nI n) ≤ (nI i)) (p1 := 55) (L1 := [(0, .ref 43), (1, .int (nI i))]) (S1 := []) (p2 := 10) (L2 := [(0, .ref 43), (1, .int (nI i))]) (S2 := []) rfl (fun c_7 => ?_) (fun c_7 => ?_)
    · have k_7 : n ≤ i := (nI_leI (a := n) (b := i) (by omega) (by omega)).mp c_7
      have e : i = n := by omega
      exact wq_ret rfl ⟨rfl, by rw [hf, e]⟩
    · have k_7 : ¬ n ≤ i := fun q => c_7 ((nI_leI (a := n) (b := i) (by omega) (by omega)).mpr q)
      have hi24 : i < 24 := by omega
      refine wq_run3 (pc' := 15) (L' := [(0, .ref 43), (1, .int (nI i))]) (S' := [.int (nI i), .ref 44]) (f' := f1) rfl ?_
      refine wq_qld (j := i) (n := 24) (b := (47 + i)) rfl rfl rfl rfl (by omega) (Nat.le_of_ble_eq_true rfl) (lets_at (by omega)) ?_
      refine wq_run2 (pc' := 18) (L' := [(0, .ref 43), (1, .int (nI i)), (2, .ref (47 + i))]) (S' := [.ref (47 + i)]) (f' := f1) rfl ?_
      refine wq_getI (v := (f1 (47 + i) 8)) rfl (let_O hi24) rfl ?_
      refine wq_run1 (pc' := 22) (L' := [(0, .ref 43), (1, .int (nI i)), (2, .ref (47 + i))]) (S' := [.int 1, .int (f1 (47 + i) 8)]) (f' := f1) rfl ?_
      refine wq_if (c := (f1 (47 + i) 8) = 1) (p1 := 25) (L1 := [(0, .ref 43), (1, .int (nI i)), (2, .ref (47 + i))]) (S1 := []) (p2 := 49) (L2 := [(0, .ref 43), (1, .int (nI i)), (2, .ref (47 + i))]) (S2 := []) rfl (fun c_22 => ?_) (fun c_22 => ?_)
      · refine wq_run1 (pc' := 26) (L' := [(0, .ref 43), (1, .int (nI i)), (2, .ref (47 + i))]) (S' := [.ref (47 + i)]) (f' := f1) rfl ?_
        refine wq_getI (v := (f1 (47 + i) 12)) rfl (let_O hi24) rfl ?_
        refine wq_run2 (pc' := 33) (L' := [(0, .ref 43), (1, .int (nI i)), (2, .ref (47 + i))]) (S' := [.int (f1 43 7), .int (f1 (47 + i) 12)]) (f' := f1) rfl ?_
        refine wq_if (c := (f1 (47 + i) 12) = (f1 43 7)) (p1 := 36) (L1 := [(0, .ref 43), (1, .int (nI i)), (2, .ref (47 + i))]) (S1 := []) (p2 := 49) (L2 := [(0, .ref 43), (1, .int (nI i)), (2, .ref (47 + i))]) (S2 := []) rfl (fun c_33 => ?_) (fun c_33 => ?_)
        · refine wq_run2 (pc' := 38) (L' := [(0, .ref 43), (1, .int (nI i)), (2, .ref (47 + i))]) (S' := [.int 0, .ref (47 + i)]) (f' := f1) rfl ?_
          refine wq_putI rfl (let_O hi24) ?_
          refine wq_h (f' := (up1 f1 (47 + i) (upd (f1 (47 + i)) 8 0))) (up2_eq1 f1 (47 + i) 8 0) ?_
          refine wq_run2 (pc' := 43) (L' := [(0, .ref 43), (1, .int (nI i)), (2, .ref (47 + i))]) (S' := [.ref (47 + i), .ref (47 + i)]) (f' := (up1 f1 (47 + i) (upd (f1 (47 + i)) 8 0))) rfl ?_
          refine wq_getI (v := ((f1 (47 + i)) 11)) rfl (let_O hi24) ((congrFun (up1_s f1 (47 + i) (upd (f1 (47 + i)) 8 0)) 11).trans (upd_n (g := (f1 (47 + i))) (k := 8) (j := 11) (v := 0) (by decide))) ?_
          refine wq_putI rfl (let_O hi24) ?_
          refine wq_h (f' := (up1 f1 (47 + i) (upd (upd (f1 (47 + i)) 9 ((f1 (47 + i)) 11)) 8 0))) ((up2_up1_eq f1 (47 + i) (upd (f1 (47 + i)) 8 0) 9 ((f1 (47 + i)) 11)).trans (congrArg (fun z => up1 f1 (47 + i) z) ((upd_sw (g := (f1 (47 + i))) (v := 0) (w := ((f1 (47 + i)) 11)) (show (9 : Nat) ≠ 8 by decide)).trans (congrArg (fun z => upd z 8 0) (rfl))))) ?_
          refine wq_run1 (pc' := 52) (L' := [(0, .ref 43), (1, .int ((nI i) + 1)), (2, .ref (47 + i))]) (S' := []) (f' := (up1 f1 (47 + i) (upd (upd (f1 (47 + i)) 9 ((f1 (47 + i)) 11)) 8 0))) rfl ?_
          refine wq_L (L' := [(0, .ref 43), (1, .int (nI (i + 1))), (2, .ref (47 + i))]) (by rw [show nI i + 1 = nI (i + 1) from nI_add _ _]) ?_
          refine wq_run1 (pc' := 2) (L' := [(0, .ref 43), (1, .int (nI (i + 1)))]) (S' := []) (f' := (up1 f1 (47 + i) (upd (upd (f1 (47 + i)) 9 ((f1 (47 + i)) 11)) 8 0))) rfl ?_
          have hz : cIn (f 43 7) (f (47 + i)) = (upd (upd (f1 (47 + i)) 9 ((f1 (47 + i)) 11)) 8 0) := by
            rw [← hL, ← h43]
            exact if_pos ⟨c_22, c_33⟩
          exact ih (i + 1) _ (by omega) (by rw [ml_y hz, ← hf]) (by omega)
        · refine wq_run1 (pc' := 52) (L' := [(0, .ref 43), (1, .int ((nI i) + 1)), (2, .ref (47 + i))]) (S' := []) (f' := f1) rfl ?_
          refine wq_L (L' := [(0, .ref 43), (1, .int (nI (i + 1))), (2, .ref (47 + i))]) (by rw [show nI i + 1 = nI (i + 1) from nI_add _ _]) ?_
          refine wq_run1 (pc' := 2) (L' := [(0, .ref 43), (1, .int (nI (i + 1)))]) (S' := []) (f' := f1) rfl ?_
          have hz : cIn (f 43 7) (f (47 + i)) = f (47 + i) := by
            rw [← hL, ← h43]
            exact if_neg (fun q => c_33 q.2)
          exact ih (i + 1) _ (by omega) (by rw [ml_n hz, ← hf]) (by omega)
      · refine wq_run1 (pc' := 52) (L' := [(0, .ref 43), (1, .int ((nI i) + 1)), (2, .ref (47 + i))]) (S' := []) (f' := f1) rfl ?_
        refine wq_L (L' := [(0, .ref 43), (1, .int (nI (i + 1))), (2, .ref (47 + i))]) (by rw [show nI i + 1 = nI (i + 1) from nI_add _ _]) ?_
        refine wq_run1 (pc' := 2) (L' := [(0, .ref 43), (1, .int (nI (i + 1)))]) (S' := []) (f' := f1) rfl ?_
        have hz : cIn (f 43 7) (f (47 + i)) = f (47 + i) := by
          rw [← hL, ← h43]
          exact if_neg (fun q => c_22 q.1)
        exact ih (i + 1) _ (by omega) (by rw [ml_n hz, ← hf]) (by omega)
theorem sp_comeIn {f : HI} {n : Nat} (hc : f 43 6 = nI n) (hn24 : n ≤ 24) : Sp 2 28 [.ref 43] f (RetV (mapL (cIn (f 43 7)) f n)) := by
  show wq 2 28 (RetV (mapL (cIn (f 43 7)) f n)) 0 [(0, .ref 43)] [] f
  refine wq_run2 (pc' := 2) (L' := [(0, .ref 43), (1, .int 0)]) (S' := []) (f' := f) rfl ?_
  exact lp_comeIn hc hn24 (n - 0 + 1) 0 f (Nat.zero_le _) ml_0.symm (Nat.lt_succ_self _)
theorem lp_endRun {f : HI} {n : Nat} {run : Int32} (hc : f 43 6 = nI n) (hn24 : n ≤ 24) : ∀ (m9 : Nat) (i : Nat) (f1 : HI), (i ≤ n) → (f1 = mapL (cEn run) f i) → n - i < m9 → wq 2 41 (RetV (mapL (cEn run) f n)) 2 [(0, .ref 43), (1, .int run), (2, .int (nI i))] [] f1 := by
  intro m9
  induction m9 with
  | zero => intro i f1 hi hf hn; exact absurd hn (Nat.not_lt_zero _)
  | succ m9 ih =>
    intro i f1 hi hf hn
    have h43 : f1 43 = f 43 := by rw [hf]; exact ml_lo (by decide)
    have hL : f1 (47 + i) = f (47 + i) := by rw [hf]; exact ml_hi (Nat.le_refl _)
    refine wq_run3 (pc' := 7) (L' := [(0, .ref 43), (1, .int run), (2, .int (nI i))]) (S' := [.int (f1 43 6), .int (nI i)]) (f' := f1) rfl ?_
    refine wq_v (y := (nI n)) (((congrFun h43 6).trans hc)) ?_
    refine wq_if (c := (nI n) ≤ (nI i)) (p1 := 39) (L1 := [(0, .ref 43), (1, .int run), (2, .int (nI i))]) (S1 := []) (p2 := 10) (L2 := [(0, .ref 43), (1, .int run), (2, .int (nI i))]) (S2 := []) rfl (fun c_7 => ?_) (fun c_7 => ?_)
    · have k_7 : n ≤ i := (nI_leI (a := n) (b := i) (by omega) (by omega)).mp c_7
      have e : i = n := by omega
      exact wq_ret rfl ⟨rfl, by rw [hf, e]⟩
    · have k_7 : ¬ n ≤ i := fun q => c_7 ((nI_leI (a := n) (b := i) (by omega) (by omega)).mpr q)
      have hi24 : i < 24 := by omega
      refine wq_run3 (pc' := 15) (L' := [(0, .ref 43), (1, .int run), (2, .int (nI i))]) (S' := [.int (nI i), .ref 44]) (f' := f1) rfl ?_
      refine wq_qld (j := i) (n := 24) (b := (47 + i)) rfl rfl rfl rfl (by omega) (Nat.le_of_ble_eq_true rfl) (lets_at (by omega)) ?_
      refine wq_getI (v := (f1 (47 + i) 17)) rfl (let_O hi24) rfl ?_
      refine wq_run1 (pc' := 20) (L' := [(0, .ref 43), (1, .int run), (2, .int (nI i))]) (S' := [.int run, .int (f1 (47 + i) 17)]) (f' := f1) rfl ?_
      refine wq_if (c := (f1 (47 + i) 17) = run) (p1 := 23) (L1 := [(0, .ref 43), (1, .int run), (2, .int (nI i))]) (S1 := []) (p2 := 33) (L2 := [(0, .ref 43), (1, .int run), (2, .int (nI i))]) (S2 := []) rfl (fun c_20 => ?_) (fun c_20 => ?_)
      · refine wq_run3 (pc' := 28) (L' := [(0, .ref 43), (1, .int run), (2, .int (nI i))]) (S' := [.int (nI i), .ref 44]) (f' := f1) rfl ?_
        refine wq_qld (j := i) (n := 24) (b := (47 + i)) rfl rfl rfl rfl (by omega) (Nat.le_of_ble_eq_true rfl) (lets_at (by omega)) ?_
        refine wq_run1 (pc' := 30) (L' := [(0, .ref 43), (1, .int run), (2, .int (nI i))]) (S' := [.int (-1), .ref (47 + i)]) (f' := f1) rfl ?_
        refine wq_putI rfl (let_O hi24) ?_
        refine wq_h (f' := (up1 f1 (47 + i) (upd (f1 (47 + i)) 17 (-1)))) (up2_eq1 f1 (47 + i) 17 (-1)) ?_
        refine wq_run1 (pc' := 36) (L' := [(0, .ref 43), (1, .int run), (2, .int ((nI i) + 1))]) (S' := []) (f' := (up1 f1 (47 + i) (upd (f1 (47 + i)) 17 (-1)))) rfl ?_
        refine wq_L (L' := [(0, .ref 43), (1, .int run), (2, .int (nI (i + 1)))]) (by rw [show nI i + 1 = nI (i + 1) from nI_add _ _]) ?_
        refine wq_run1 (pc' := 2) (L' := [(0, .ref 43), (1, .int run), (2, .int (nI (i + 1)))]) (S' := []) (f' := (up1 f1 (47 + i) (upd (f1 (47 + i)) 17 (-1)))) rfl ?_
        have hz : cEn run (f (47 + i)) = (upd (f1 (47 + i)) 17 (-1)) := by
          rw [← hL]
          exact if_pos c_20
        exact ih (i + 1) _ (by omega) (by rw [ml_y hz, ← hf]) (by omega)
      · refine wq_run1 (pc' := 36) (L' := [(0, .ref 43), (1, .int run), (2, .int ((nI i) + 1))]) (S' := []) (f' := f1) rfl ?_
        refine wq_L (L' := [(0, .ref 43), (1, .int run), (2, .int (nI (i + 1)))]) (by rw [show nI i + 1 = nI (i + 1) from nI_add _ _]) ?_
        refine wq_run1 (pc' := 2) (L' := [(0, .ref 43), (1, .int run), (2, .int (nI (i + 1)))]) (S' := []) (f' := f1) rfl ?_
        have hz : cEn run (f (47 + i)) = f (47 + i) := by
          rw [← hL]
          exact if_neg (fun q => c_20 q)
        exact ih (i + 1) _ (by omega) (by rw [ml_n hz, ← hf]) (by omega)
theorem sp_endRun {f : HI} {n : Nat} {run : Int32} (hc : f 43 6 = nI n) (hn24 : n ≤ 24) : Sp 2 41 [.ref 43, .int run] f (RetV (mapL (cEn run) f n)) := by
  show wq 2 41 (RetV (mapL (cEn run) f n)) 0 [(0, .ref 43), (1, .int run)] [] f
  refine wq_run2 (pc' := 2) (L' := [(0, .ref 43), (1, .int run), (2, .int 0)]) (S' := []) (f' := f) rfl ?_
  exact lp_endRun hc hn24 (n - 0 + 1) 0 f (Nat.zero_le _) ml_0.symm (Nat.lt_succ_self _)
