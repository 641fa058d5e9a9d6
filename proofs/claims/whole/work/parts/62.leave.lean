/-! the hour: a letter leaves (class) -/
theorem sp_leave0 {f : HI} {W : Nat → Nat → Nat} {w l t o h : Nat} (hl : l < 24) (hL : LaC f W w) (ht : t < 10) (ho : o < 10) (hh : h ≤ 30000) (h43 : f 43 7 = nI h) (h9 : f (47 + l) 9 = nI t) (h10 : f (47 + l) 10 = nI o) (hno : ∀ e, bsE W w t o h = some e → ¬ lvN (W 3 (e / 2)) (W 4 (e / 2)) h = h) : Sp 6 36 [.ref 43, .ref (47 + l)] f (fun v f' => ∃ g, v = none ∧ f' = up1 f 10 g) := by
  show wq 6 36 (fun v f' => ∃ g, v = none ∧ f' = up1 f 10 g) 0 [(0, .ref 43), (1, .ref (47 + l))] [] f
  have hw16 := hL.2.1
  refine wq_run3 (pc' := 5) (L' := [(0, .ref 43), (1, .ref (47 + l))]) (S' := [.ref (47 + l), .ref 2]) (f' := f) rfl ?_
  refine wq_getI (v := (nI t)) rfl (let_O hl) (rfl.trans (h9)) ?_
  refine wq_run1 (pc' := 9) (L' := [(0, .ref 43), (1, .ref (47 + l))]) (S' := [.ref (47 + l), .int (nI t), .ref 2]) (f' := f) rfl ?_
  refine wq_getI (v := (nI o)) rfl (let_O hl) (rfl.trans (h10)) ?_
  refine wq_run2 (pc' := 16) (L' := [(0, .ref 43), (1, .ref (47 + l))]) (S' := [.int (f 43 7), .int (nI o), .int (nI t), .ref 2]) (f' := f) rfl ?_
  refine wq_v (y := (nI h)) (h43) ?_
  refine wq_call (sp_bestEnd (f := f) (a := t) (b := o) (h := h) hL ht ho hh) (Nat.le_of_ble_eq_true rfl) (pc' := 19) (L' := [(0, .ref 43), (1, .ref (47 + l))]) (S' := []) rfl (Nat.le_of_ble_eq_true rfl) rfl rfl (Nat.le_of_ble_eq_true rfl) (Nat.le_of_ble_eq_true rfl) ?_
  rintro v f9 ⟨g2, e0, ef⟩
  subst e0
  subst ef
  refine wq_run3 (pc' := 22) (L' := [(0, .ref 43), (1, .ref (47 + l)), (2, .int (obI (bsE W w t o h)))]) (S' := [.int (-1), .int (obI (bsE W w t o h))]) (f' := (up1 f 10 g2)) rfl ?_
  refine wq_if (c := (obI (bsE W w t o h)) = (-1)) (p1 := 42) (L1 := [(0, .ref 43), (1, .ref (47 + l)), (2, .int (obI (bsE W w t o h)))]) (S1 := []) (p2 := 25) (L2 := [(0, .ref 43), (1, .ref (47 + l)), (2, .int (obI (bsE W w t o h)))]) (S2 := []) rfl (fun c_22 => ?_) (fun c_22 => ?_)
  · exact wq_ret rfl ⟨g2, rfl, rfl⟩
  · obtain ⟨e, hbe⟩ := obI_y c_22
    have hew := bs_lt hbe
    have hwy := hL.2.2.2.2 (e / 2) (by omega)
    refine wq_L (L' := [(0, .ref 43), (1, .ref (47 + l)), (2, .int (nI e))]) (by rw [hbe]; rfl) ?_
    refine wq_run4 (pc' := 31) (L' := [(0, .ref 43), (1, .ref (47 + l)), (2, .int (nI e))]) (S' := [.int 2, .int (nI e), .ref 2]) (f' := (up1 f 10 g2)) rfl ?_
    refine wq_div rfl (by decide) ?_
    refine wq_v (y := (nI (e / 2))) (pk_div (a := e) (d := 2) (by omega) (by omega) (by omega)) ?_
    refine wq_run2 (pc' := 36) (L' := [(0, .ref 43), (1, .ref (47 + l)), (2, .int (nI e))]) (S' := [.int (f 43 7), .int (nI (e / 2)), .ref 2]) (f' := (up1 f 10 g2)) rfl ?_
    refine wq_v (y := (nI h)) (h43) ?_
    refine wq_callI (r := (b2i (lvN (W 3 (e / 2)) (W 4 (e / 2)) h = h))) (sp_leavesIn (f := (up1 f 10 g2)) (W := W) (w := w) (i := (e / 2)) (x := h) hL (by omega) (by omega)) (Nat.le_of_ble_eq_true rfl) (pc' := 39) (L' := [(0, .ref 43), (1, .ref (47 + l)), (2, .int (nI e))]) (S' := []) rfl (Nat.le_of_ble_eq_true rfl) rfl rfl (Nat.le_of_ble_eq_true rfl) (Nat.le_of_ble_eq_true rfl) ?_
    refine wq_if (c := (b2i (lvN (W 3 (e / 2)) (W 4 (e / 2)) h = h)) = 0) (p1 := 42) (L1 := [(0, .ref 43), (1, .ref (47 + l)), (2, .int (nI e))]) (S1 := []) (p2 := 43) (L2 := [(0, .ref 43), (1, .ref (47 + l)), (2, .int (nI e))]) (S2 := []) rfl (fun _ => ?_) (fun q => absurd (b2i_f (hno e hbe)) q)
    exact wq_ret rfl ⟨g2, rfl, rfl⟩
theorem sp_leave1 {f : HI} {W : Nat → Nat → Nat} {w l t o h : Nat} (hl : l < 24) (hL : LaC f W w) (ht : t < 10) (ho : o < 10) (hh : h ≤ 30000) (h43 : f 43 7 = nI h) (h9 : f (47 + l) 9 = nI t) (h10 : f (47 + l) 10 = nI o) {e : Nat} (hbe : bsE W w t o h = some e) (hlv : lvN (W 3 (e / 2)) (W 4 (e / 2)) h = h) : Sp 6 36 [.ref 43, .ref (47 + l)] f (fun v f' => ∃ g2, v = none ∧ f' = (up1 (up1 f (47 + l) (upd (upd (upd (upd (f (47 + l)) 17 (nI e)) 12 (nI (h + (W 2 (e / 2))))) 11 (nI (eQ W e))) 8 1)) 10 g2)) := by
  show wq 6 36 (fun v f' => ∃ g2, v = none ∧ f' = (up1 (up1 f (47 + l) (upd (upd (upd (upd (f (47 + l)) 17 (nI e)) 12 (nI (h + (W 2 (e / 2))))) 11 (nI (eQ W e))) 8 1)) 10 g2)) 0 [(0, .ref 43), (1, .ref (47 + l))] [] f
  have hw16 := hL.2.1
  refine wq_run3 (pc' := 5) (L' := [(0, .ref 43), (1, .ref (47 + l))]) (S' := [.ref (47 + l), .ref 2]) (f' := f) rfl ?_
  refine wq_getI (v := (nI t)) rfl (let_O hl) (rfl.trans (h9)) ?_
  refine wq_run1 (pc' := 9) (L' := [(0, .ref 43), (1, .ref (47 + l))]) (S' := [.ref (47 + l), .int (nI t), .ref 2]) (f' := f) rfl ?_
  refine wq_getI (v := (nI o)) rfl (let_O hl) (rfl.trans (h10)) ?_
  refine wq_run2 (pc' := 16) (L' := [(0, .ref 43), (1, .ref (47 + l))]) (S' := [.int (f 43 7), .int (nI o), .int (nI t), .ref 2]) (f' := f) rfl ?_
  refine wq_v (y := (nI h)) (h43) ?_
  refine wq_call (sp_bestEnd (f := f) (a := t) (b := o) (h := h) hL ht ho hh) (Nat.le_of_ble_eq_true rfl) (pc' := 19) (L' := [(0, .ref 43), (1, .ref (47 + l))]) (S' := []) rfl (Nat.le_of_ble_eq_true rfl) rfl rfl (Nat.le_of_ble_eq_true rfl) (Nat.le_of_ble_eq_true rfl) ?_
  rintro v f9 ⟨g2, e0, ef⟩
  subst e0
  subst ef
  refine wq_run3 (pc' := 22) (L' := [(0, .ref 43), (1, .ref (47 + l)), (2, .int (obI (bsE W w t o h)))]) (S' := [.int (-1), .int (obI (bsE W w t o h))]) (f' := (up1 f 10 g2)) rfl ?_
  refine wq_if (c := (obI (bsE W w t o h)) = (-1)) (p1 := 42) (L1 := [(0, .ref 43), (1, .ref (47 + l)), (2, .int (obI (bsE W w t o h)))]) (S1 := []) (p2 := 25) (L2 := [(0, .ref 43), (1, .ref (47 + l)), (2, .int (obI (bsE W w t o h)))]) (S2 := []) rfl (fun c_22 => ?_) (fun c_22 => ?_)
  · exact absurd c_22 (by rw [hbe]; exact nI_nm (by have := (bs_lt hbe).1; omega))
    
  · obtain ⟨e9, hbe9⟩ := obI_y c_22
    have ee : e9 = e := Option.some.inj (hbe9.symm.trans hbe)
    have hew := bs_lt hbe
    have hwy := hL.2.2.2.2 (e / 2) (by omega)
    have hx := xor1_lt (w := w) (show e < 2 * w by omega)
    refine wq_L (L' := [(0, .ref 43), (1, .ref (47 + l)), (2, .int (nI e))]) (by rw [hbe]; rfl) ?_
    refine wq_run4 (pc' := 31) (L' := [(0, .ref 43), (1, .ref (47 + l)), (2, .int (nI e))]) (S' := [.int 2, .int (nI e), .ref 2]) (f' := (up1 f 10 g2)) rfl ?_
    refine wq_div rfl (by decide) ?_
    refine wq_v (y := (nI (e / 2))) (pk_div (a := e) (d := 2) (by omega) (by omega) (by omega)) ?_
    refine wq_run2 (pc' := 36) (L' := [(0, .ref 43), (1, .ref (47 + l)), (2, .int (nI e))]) (S' := [.int (f 43 7), .int (nI (e / 2)), .ref 2]) (f' := (up1 f 10 g2)) rfl ?_
    refine wq_v (y := (nI h)) (h43) ?_
    refine wq_callI (r := (b2i (lvN (W 3 (e / 2)) (W 4 (e / 2)) h = h))) (sp_leavesIn (f := (up1 f 10 g2)) (W := W) (w := w) (i := (e / 2)) (x := h) hL (by omega) (by omega)) (Nat.le_of_ble_eq_true rfl) (pc' := 39) (L' := [(0, .ref 43), (1, .ref (47 + l)), (2, .int (nI e))]) (S' := []) rfl (Nat.le_of_ble_eq_true rfl) rfl rfl (Nat.le_of_ble_eq_true rfl) (Nat.le_of_ble_eq_true rfl) ?_
    refine wq_if (c := (b2i (lvN (W 3 (e / 2)) (W 4 (e / 2)) h = h)) = 0) (p1 := 42) (L1 := [(0, .ref 43), (1, .ref (47 + l)), (2, .int (nI e))]) (S1 := []) (p2 := 43) (L2 := [(0, .ref 43), (1, .ref (47 + l)), (2, .int (nI e))]) (S2 := []) rfl (fun q => absurd q (fun q => absurd (q.symm.trans (b2i_t hlv)) (by decide))) (fun _ => ?_)
    refine wq_run2 (pc' := 45) (L' := [(0, .ref 43), (1, .ref (47 + l)), (2, .int (nI e))]) (S' := [.int 1, .ref (47 + l)]) (f' := (up1 f 10 g2)) rfl ?_
    refine wq_putI rfl (let_O hl) ?_
    refine wq_h (f' := (up1 (up1 f (47 + l) (upd (f (47 + l)) 8 1)) 10 g2)) ((up2_up1_ne (f := f) (g := g2) (k := 8) (v := 1) (show ((47 + l) : Nat) ≠ 10 by omega)).trans (congrArg (fun z => up1 z 10 g2) (up2_eq1 f (47 + l) 8 1))) ?_
    refine wq_run7 (pc' := 59) (L' := [(0, .ref 43), (1, .ref (47 + l)), (2, .int (nI e))]) (S' := [.int ((nI e) ^^^ 1), .ref 7, .ref (47 + l)]) (f' := (up1 (up1 f (47 + l) (upd (f (47 + l)) 8 1)) 10 g2)) rfl ?_
    refine wq_v (y := (nI (e ^^^ 1))) (nx_xor e 1) ?_
    refine wq_ald (j := (e ^^^ 1)) (n := 32) (v := (nI (eQ W e))) rfl rfl rfl rfl (by omega) (Nat.le_of_ble_eq_true rfl) (((congrFun (up1_f (f := (up1 f (47 + l) (upd (f (47 + l)) 8 1))) (g := g2) (show (7 : Nat) ≠ 10 by decide)) (e ^^^ 1)).trans (congrFun (up1_f (f := f) (g := (upd (f (47 + l)) 8 1)) (show (7 : Nat) ≠ (47 + l) by omega)) (e ^^^ 1))).trans (lac_x (w := w) hL (by omega))) ?_
    refine wq_putI rfl (let_O hl) ?_
    refine wq_h (f' := (up1 (up1 f (47 + l) (upd (upd (f (47 + l)) 11 (nI (eQ W e))) 8 1)) 10 g2)) ((up2_up1_ne (f := (up1 f (47 + l) (upd (f (47 + l)) 8 1))) (g := g2) (k := 11) (v := (nI (eQ W e))) (show ((47 + l) : Nat) ≠ 10 by omega)).trans (congrArg (fun z => up1 z 10 g2) ((up2_up1_eq f (47 + l) (upd (f (47 + l)) 8 1) 11 (nI (eQ W e))).trans (congrArg (fun z => up1 f (47 + l) z) ((upd_sw (g := (f (47 + l))) (v := 1) (w := (nI (eQ W e))) (show (11 : Nat) ≠ 8 by decide)).trans (congrArg (fun z => upd z 8 1) (rfl))))))) ?_
    refine wq_run2 (pc' := 65) (L' := [(0, .ref 43), (1, .ref (47 + l)), (2, .int (nI e))]) (S' := [.ref 43, .ref (47 + l)]) (f' := (up1 (up1 f (47 + l) (upd (upd (f (47 + l)) 11 (nI (eQ W e))) 8 1)) 10 g2)) rfl ?_
    refine wq_getI (v := (nI h)) rfl rfl (((congrFun (up1_f (f := (up1 f (47 + l) (upd (upd (f (47 + l)) 11 (nI (eQ W e))) 8 1))) (g := g2) (show (43 : Nat) ≠ 10 by decide)) 7).trans (congrFun (up1_f (f := f) (g := (upd (upd (f (47 + l)) 11 (nI (eQ W e))) 8 1)) (show (43 : Nat) ≠ (47 + l) by omega)) 7)).trans (h43)) ?_
    refine wq_run5 (pc' := 77) (L' := [(0, .ref 43), (1, .ref (47 + l)), (2, .int (nI e))]) (S' := [.int 2, .int (nI e), .ref 5, .int (nI h), .ref (47 + l)]) (f' := (up1 (up1 f (47 + l) (upd (upd (f (47 + l)) 11 (nI (eQ W e))) 8 1)) 10 g2)) rfl ?_
    refine wq_div rfl (by decide) ?_
    refine wq_v (y := (nI (e / 2))) (pk_div (a := e) (d := 2) (by omega) (by omega) (by omega)) ?_
    refine wq_ald (j := (e / 2)) (n := 16) (v := (nI (W 2 (e / 2)))) rfl rfl rfl rfl (by omega) (Nat.le_of_ble_eq_true rfl) (((congrFun (up1_f (f := (up1 f (47 + l) (upd (upd (f (47 + l)) 11 (nI (eQ W e))) 8 1))) (g := g2) (show (5 : Nat) ≠ 10 by decide)) (e / 2)).trans (congrFun (up1_f (f := f) (g := (upd (upd (f (47 + l)) 11 (nI (eQ W e))) 8 1)) (show (5 : Nat) ≠ (47 + l) by omega)) (e / 2))).trans ((hL.2.2.2.1 (e / 2) (by omega)).1)) ?_
    refine wq_run1 (pc' := 80) (L' := [(0, .ref 43), (1, .ref (47 + l)), (2, .int (nI e))]) (S' := [.int ((nI h) + (nI (W 2 (e / 2)))), .ref (47 + l)]) (f' := (up1 (up1 f (47 + l) (upd (upd (f (47 + l)) 11 (nI (eQ W e))) 8 1)) 10 g2)) rfl ?_
    refine wq_v (y := (nI (h + (W 2 (e / 2))))) (nI_add h (W 2 (e / 2))) ?_
    refine wq_putI rfl (let_O hl) ?_
    refine wq_h (f' := (up1 (up1 f (47 + l) (upd (upd (upd (f (47 + l)) 12 (nI (h + (W 2 (e / 2))))) 11 (nI (eQ W e))) 8 1)) 10 g2)) ((up2_up1_ne (f := (up1 f (47 + l) (upd (upd (f (47 + l)) 11 (nI (eQ W e))) 8 1))) (g := g2) (k := 12) (v := (nI (h + (W 2 (e / 2))))) (show ((47 + l) : Nat) ≠ 10 by omega)).trans (congrArg (fun z => up1 z 10 g2) ((up2_up1_eq f (47 + l) (upd (upd (f (47 + l)) 11 (nI (eQ W e))) 8 1) 12 (nI (h + (W 2 (e / 2))))).trans (congrArg (fun z => up1 f (47 + l) z) ((upd_sw (g := (upd (f (47 + l)) 11 (nI (eQ W e)))) (v := 1) (w := (nI (h + (W 2 (e / 2))))) (show (12 : Nat) ≠ 8 by decide)).trans (congrArg (fun z => upd z 8 1) ((upd_sw (g := (f (47 + l))) (v := (nI (eQ W e))) (w := (nI (h + (W 2 (e / 2))))) (show (12 : Nat) ≠ 11 by decide)).trans (congrArg (fun z => upd z 11 (nI (eQ W e))) (rfl))))))))) ?_
    refine wq_run2 (pc' := 85) (L' := [(0, .ref 43), (1, .ref (47 + l)), (2, .int (nI e))]) (S' := [.int (nI e), .ref (47 + l)]) (f' := (up1 (up1 f (47 + l) (upd (upd (upd (f (47 + l)) 12 (nI (h + (W 2 (e / 2))))) 11 (nI (eQ W e))) 8 1)) 10 g2)) rfl ?_
    refine wq_putI rfl (let_O hl) ?_
    refine wq_h (f' := (up1 (up1 f (47 + l) (upd (upd (upd (upd (f (47 + l)) 17 (nI e)) 12 (nI (h + (W 2 (e / 2))))) 11 (nI (eQ W e))) 8 1)) 10 g2)) ((up2_up1_ne (f := (up1 f (47 + l) (upd (upd (upd (f (47 + l)) 12 (nI (h + (W 2 (e / 2))))) 11 (nI (eQ W e))) 8 1))) (g := g2) (k := 17) (v := (nI e)) (show ((47 + l) : Nat) ≠ 10 by omega)).trans (congrArg (fun z => up1 z 10 g2) ((up2_up1_eq f (47 + l) (upd (upd (upd (f (47 + l)) 12 (nI (h + (W 2 (e / 2))))) 11 (nI (eQ W e))) 8 1) 17 (nI e)).trans (congrArg (fun z => up1 f (47 + l) z) ((upd_sw (g := (upd (upd (f (47 + l)) 12 (nI (h + (W 2 (e / 2))))) 11 (nI (eQ W e)))) (v := 1) (w := (nI e)) (show (17 : Nat) ≠ 8 by decide)).trans (congrArg (fun z => upd z 8 1) ((upd_sw (g := (upd (f (47 + l)) 12 (nI (h + (W 2 (e / 2)))))) (v := (nI (eQ W e))) (w := (nI e)) (show (17 : Nat) ≠ 11 by decide)).trans (congrArg (fun z => upd z 11 (nI (eQ W e))) ((upd_sw (g := (f (47 + l))) (v := (nI (h + (W 2 (e / 2))))) (w := (nI e)) (show (17 : Nat) ≠ 12 by decide)).trans (congrArg (fun z => upd z 12 (nI (h + (W 2 (e / 2))))) (rfl))))))))))) ?_
    exact wq_ret rfl ⟨g2, rfl, rfl⟩
