/-! set, count, met, at: both sides -/
abbrev setR (w : Nat) (v : Int32) : Prop := inR v ((tabB.getD 2 []).getD w 0) ((tabB.getD 3 []).getD w 0)
theorem sp_set0 (f : HI) (v : Int32) (h1 : inR v 0 2) : Sp 2 99 [.ref 0, .int 0, .int v] f (Ret 1 (up2 f 1 0 v)) := by
  show wq 2 99 (Ret 1 (up2 f 1 0 v)) 0 [(0, .ref 0), (1, .int 0), (2, .int v)] [] f
  refine wq_run3 (pc' := 4) (L' := [(0, .ref 0), (1, .int 0), (2, .int v)]) (S' := [.int 6, .int 0, .int 0]) (f' := f) rfl ?_
  refine wq_callI (r := (b2i (inR 0 0 6))) (sp_within f 0 0 6) (Nat.le_of_ble_eq_true rfl) (pc' := 7) (L' := [(0, .ref 0), (1, .int 0), (2, .int v)]) (S' := []) rfl (Nat.le_of_ble_eq_true rfl) rfl rfl (Nat.le_of_ble_eq_true rfl) (Nat.le_of_ble_eq_true rfl) ?_
  refine wq_if (c := (b2i (inR 0 0 6)) = 0) (p1 := 27) (L1 := [(0, .ref 0), (1, .int 0), (2, .int v)]) (S1 := []) (p2 := 10) (L2 := [(0, .ref 0), (1, .int 0), (2, .int v)]) (S2 := []) rfl (fun q => absurd q (b2i_n0.mpr (by decide))) (fun _ => ?_)
  refine wq_run3 (pc' := 15) (L' := [(0, .ref 0), (1, .int 0), (2, .int v)]) (S' := [.int 0, .ref 4000002, .int v]) (f' := f) rfl ?_
  refine wq_tabL (k0 := 2) (j := 0) (v := 0) rfl rfl ⟨Nat.le_of_ble_eq_true rfl, Nat.le_of_ble_eq_true rfl⟩ rfl ?_
  refine wq_run2 (pc' := 20) (L' := [(0, .ref 0), (1, .int 0), (2, .int v)]) (S' := [.int 0, .ref 4000003, .int 0, .int v]) (f' := f) rfl ?_
  refine wq_tabL (k0 := 3) (j := 0) (v := 2) rfl rfl ⟨Nat.le_of_ble_eq_true rfl, Nat.le_of_ble_eq_true rfl⟩ rfl ?_
  refine wq_callI (r := (b2i (inR v 0 2))) (sp_within f v 0 2) (Nat.le_of_ble_eq_true rfl) (pc' := 24) (L' := [(0, .ref 0), (1, .int 0), (2, .int v)]) (S' := []) rfl (Nat.le_of_ble_eq_true rfl) rfl rfl (Nat.le_of_ble_eq_true rfl) (Nat.le_of_ble_eq_true rfl) ?_
  refine wq_if (c := (b2i (inR v 0 2)) = 0) (p1 := 27) (L1 := [(0, .ref 0), (1, .int 0), (2, .int v)]) (S1 := []) (p2 := 30) (L2 := [(0, .ref 0), (1, .int 0), (2, .int v)]) (S2 := []) rfl (fun q => absurd q (b2i_n0.mpr h1)) (fun _ => ?_)
  refine wq_run4 (pc' := 36) (L' := [(0, .ref 0), (1, .int 0), (2, .int v)]) (S' := [.int v, .int 0, .ref 1]) (f' := f) rfl ?_
  refine wq_ist (j := 0) (n := 7) rfl rfl rfl rfl (Nat.le_of_ble_eq_true rfl) (Nat.le_of_ble_eq_true rfl) ?_
  refine wq_run1 (pc' := 38) (L' := [(0, .ref 0), (1, .int 0), (2, .int v)]) (S' := [.int 1]) (f' := (up2 f 1 0 v)) rfl ?_
  exact wq_ret rfl ⟨rfl, rfl⟩
theorem sp_set0n (f : HI) (v : Int32) (h1 : ¬ inR v 0 2) : Sp 2 99 [.ref 0, .int 0, .int v] f (Ret (-3) f) := by
  show wq 2 99 (Ret (-3) f) 0 [(0, .ref 0), (1, .int 0), (2, .int v)] [] f
  refine wq_run3 (pc' := 4) (L' := [(0, .ref 0), (1, .int 0), (2, .int v)]) (S' := [.int 6, .int 0, .int 0]) (f' := f) rfl ?_
  refine wq_callI (r := (b2i (inR 0 0 6))) (sp_within f 0 0 6) (Nat.le_of_ble_eq_true rfl) (pc' := 7) (L' := [(0, .ref 0), (1, .int 0), (2, .int v)]) (S' := []) rfl (Nat.le_of_ble_eq_true rfl) rfl rfl (Nat.le_of_ble_eq_true rfl) (Nat.le_of_ble_eq_true rfl) ?_
  refine wq_if (c := (b2i (inR 0 0 6)) = 0) (p1 := 27) (L1 := [(0, .ref 0), (1, .int 0), (2, .int v)]) (S1 := []) (p2 := 10) (L2 := [(0, .ref 0), (1, .int 0), (2, .int v)]) (S2 := []) rfl (fun q => absurd q (b2i_n0.mpr (by decide))) (fun _ => ?_)
  refine wq_run3 (pc' := 15) (L' := [(0, .ref 0), (1, .int 0), (2, .int v)]) (S' := [.int 0, .ref 4000002, .int v]) (f' := f) rfl ?_
  refine wq_tabL (k0 := 2) (j := 0) (v := 0) rfl rfl ⟨Nat.le_of_ble_eq_true rfl, Nat.le_of_ble_eq_true rfl⟩ rfl ?_
  refine wq_run2 (pc' := 20) (L' := [(0, .ref 0), (1, .int 0), (2, .int v)]) (S' := [.int 0, .ref 4000003, .int 0, .int v]) (f' := f) rfl ?_
  refine wq_tabL (k0 := 3) (j := 0) (v := 2) rfl rfl ⟨Nat.le_of_ble_eq_true rfl, Nat.le_of_ble_eq_true rfl⟩ rfl ?_
  refine wq_callI (r := (b2i (inR v 0 2))) (sp_within f v 0 2) (Nat.le_of_ble_eq_true rfl) (pc' := 24) (L' := [(0, .ref 0), (1, .int 0), (2, .int v)]) (S' := []) rfl (Nat.le_of_ble_eq_true rfl) rfl rfl (Nat.le_of_ble_eq_true rfl) (Nat.le_of_ble_eq_true rfl) ?_
  refine wq_if (c := (b2i (inR v 0 2)) = 0) (p1 := 27) (L1 := [(0, .ref 0), (1, .int 0), (2, .int v)]) (S1 := []) (p2 := 30) (L2 := [(0, .ref 0), (1, .int 0), (2, .int v)]) (S2 := []) rfl (fun _ => ?_) (fun q => absurd (b2i_0.mpr h1) q)
  refine wq_run1 (pc' := 29) (L' := [(0, .ref 0), (1, .int 0), (2, .int v)]) (S' := [.int (-3)]) (f' := f) rfl ?_
  exact wq_ret rfl ⟨rfl, rfl⟩
theorem mp_set0 (f : HI) (v : Int32) (h1 : inR v 0 2) : Sp 2 179 [.ref 92, .int 0, .int v] f (fun v' f' => v' = some (.int 1) ∧ ∃ g, f' = up1 f 92 g ∧ g 42 = v ∧ ∀ k, k ≠ 42 → g k = f 92 k) := by
  show wq 2 179 (fun v' f' => v' = some (.int 1) ∧ ∃ g, f' = up1 f 92 g ∧ g 42 = v ∧ ∀ k, k ≠ 42 → g k = f 92 k) 0 [(0, .ref 92), (1, .int 0), (2, .int v)] [] f
  refine wq_run1 (pc' := 1) (L' := [(0, .ref 92), (1, .int 0), (2, .int v)]) (S' := [.int 0]) (f' := f) rfl ?_
  refine wq_if (c := 0 = 0) (p1 := 4) (L1 := [(0, .ref 92), (1, .int 0), (2, .int v)]) (S1 := []) (p2 := 16) (L2 := [(0, .ref 92), (1, .int 0), (2, .int v)]) (S2 := []) rfl (fun _ => ?_) (fun q => absurd (by decide) q)
  refine wq_run4 (pc' := 10) (L' := [(0, .ref 92), (1, .int 0), (2, .int v)]) (S' := [.long 2, .long 0, .long v.toInt64]) (f' := f) rfl ?_
  refine wq_callI (r := (b2i (inR v 0 2))) (mp_in f v 0 2) (Nat.le_of_ble_eq_true rfl) (pc' := 13) (L' := [(0, .ref 92), (1, .int 0), (2, .int v)]) (S' := []) rfl (Nat.le_of_ble_eq_true rfl) rfl rfl (Nat.le_of_ble_eq_true rfl) (Nat.le_of_ble_eq_true rfl) ?_
  refine wq_if (c := (b2i (inR v 0 2)) = 0) (p1 := 16) (L1 := [(0, .ref 92), (1, .int 0), (2, .int v)]) (S1 := []) (p2 := 123) (L2 := [(0, .ref 92), (1, .int 0), (2, .int v)]) (S2 := []) rfl (fun q => absurd q (b2i_n0.mpr h1)) (fun _ => ?_)
  refine wq_run4 (pc' := 130) (L' := [(0, .ref 92), (1, .int 0), (2, .int v), (3, .int 1)]) (S' := [.int 1]) (f' := f) rfl ?_
  refine wq_if (c := 1 = 0) (p1 := 133) (L1 := [(0, .ref 92), (1, .int 0), (2, .int v), (3, .int 1)]) (S1 := []) (p2 := 136) (L2 := [(0, .ref 92), (1, .int 0), (2, .int v), (3, .int 1)]) (S2 := []) rfl (fun q => absurd q (by decide)) (fun _ => ?_)
  refine wq_run2 (pc' := 138) (L' := [(0, .ref 92), (1, .int 0), (2, .int v), (3, .int 1)]) (S' := [.int 0, .ref 92]) (f' := f) rfl ?_
  refine wq_if (c := 0 = 0) (p1 := 141) (L1 := [(0, .ref 92), (1, .int 0), (2, .int v), (3, .int 1)]) (S1 := [.ref 92]) (p2 := 145) (L2 := [(0, .ref 92), (1, .int 0), (2, .int v), (3, .int 1)]) (S2 := [.ref 92]) rfl (fun _ => ?_) (fun q => absurd (by decide) q)
  refine wq_run2 (pc' := 149) (L' := [(0, .ref 92), (1, .int 0), (2, .int v), (3, .int 1)]) (S' := [.int v, .ref 92]) (f' := f) rfl ?_
  refine wq_putI rfl rfl ?_
  refine wq_h (f' := (up1 f 92 (upd (f 92) 42 v))) (up2_eq1 f 92 42 v) ?_
  refine wq_run3 (pc' := 155) (L' := [(0, .ref 92), (1, .int 0), (2, .int v), (3, .int 1)]) (S' := [.int 1, .int 0, .ref 92]) (f' := (up1 f 92 (upd (f 92) 42 v))) rfl ?_
  refine wq_if (c := 0 = 1) (p1 := 158) (L1 := [(0, .ref 92), (1, .int 0), (2, .int v), (3, .int 1)]) (S1 := [.ref 92]) (p2 := 162) (L2 := [(0, .ref 92), (1, .int 0), (2, .int v), (3, .int 1)]) (S2 := [.ref 92]) rfl (fun q => absurd q (by decide)) (fun _ => ?_)
  refine wq_run2 (pc' := 166) (L' := [(0, .ref 92), (1, .int 0), (2, .int v), (3, .int 1)]) (S' := [.int ((f 92) 43), .ref 92]) (f' := (up1 f 92 (upd (f 92) 42 v))) rfl ?_
  refine wq_putI rfl rfl ?_
  refine wq_h (f' := (up1 f 92 (upd (upd (f 92) 43 ((f 92) 43)) 42 v))) ((up2_up1_eq f 92 (upd (f 92) 42 v) 43 ((f 92) 43)).trans (congrArg (fun z => up1 f 92 z) ((upd_sw (g := (f 92)) (v := v) (w := ((f 92) 43)) (show (43 : Nat) ≠ 42 by decide)).trans (congrArg (fun z => upd z 42 v) (rfl))))) ?_
  refine wq_run3 (pc' := 172) (L' := [(0, .ref 92), (1, .int 0), (2, .int v), (3, .int 1)]) (S' := [.int 2, .int 0, .ref 92]) (f' := (up1 f 92 (upd (upd (f 92) 43 ((f 92) 43)) 42 v))) rfl ?_
  refine wq_if (c := 0 = 2) (p1 := 175) (L1 := [(0, .ref 92), (1, .int 0), (2, .int v), (3, .int 1)]) (S1 := [.ref 92]) (p2 := 179) (L2 := [(0, .ref 92), (1, .int 0), (2, .int v), (3, .int 1)]) (S2 := [.ref 92]) rfl (fun q => absurd q (by decide)) (fun _ => ?_)
  refine wq_run2 (pc' := 183) (L' := [(0, .ref 92), (1, .int 0), (2, .int v), (3, .int 1)]) (S' := [.int ((f 92) 44), .ref 92]) (f' := (up1 f 92 (upd (upd (f 92) 43 ((f 92) 43)) 42 v))) rfl ?_
  refine wq_putI rfl rfl ?_
  refine wq_h (f' := (up1 f 92 (upd (upd (upd (f 92) 44 ((f 92) 44)) 43 ((f 92) 43)) 42 v))) ((up2_up1_eq f 92 (upd (upd (f 92) 43 ((f 92) 43)) 42 v) 44 ((f 92) 44)).trans (congrArg (fun z => up1 f 92 z) ((upd_sw (g := (upd (f 92) 43 ((f 92) 43))) (v := v) (w := ((f 92) 44)) (show (44 : Nat) ≠ 42 by decide)).trans (congrArg (fun z => upd z 42 v) ((upd_sw (g := (f 92)) (v := ((f 92) 43)) (w := ((f 92) 44)) (show (44 : Nat) ≠ 43 by decide)).trans (congrArg (fun z => upd z 43 ((f 92) 43)) (rfl))))))) ?_
  refine wq_run3 (pc' := 189) (L' := [(0, .ref 92), (1, .int 0), (2, .int v), (3, .int 1)]) (S' := [.int 3, .int 0, .ref 92]) (f' := (up1 f 92 (upd (upd (upd (f 92) 44 ((f 92) 44)) 43 ((f 92) 43)) 42 v))) rfl ?_
  refine wq_if (c := 0 = 3) (p1 := 192) (L1 := [(0, .ref 92), (1, .int 0), (2, .int v), (3, .int 1)]) (S1 := [.ref 92]) (p2 := 196) (L2 := [(0, .ref 92), (1, .int 0), (2, .int v), (3, .int 1)]) (S2 := [.ref 92]) rfl (fun q => absurd q (by decide)) (fun _ => ?_)
  refine wq_run2 (pc' := 200) (L' := [(0, .ref 92), (1, .int 0), (2, .int v), (3, .int 1)]) (S' := [.int ((f 92) 45), .ref 92]) (f' := (up1 f 92 (upd (upd (upd (f 92) 44 ((f 92) 44)) 43 ((f 92) 43)) 42 v))) rfl ?_
  refine wq_putI rfl rfl ?_
  refine wq_h (f' := (up1 f 92 (upd (upd (upd (upd (f 92) 45 ((f 92) 45)) 44 ((f 92) 44)) 43 ((f 92) 43)) 42 v))) ((up2_up1_eq f 92 (upd (upd (upd (f 92) 44 ((f 92) 44)) 43 ((f 92) 43)) 42 v) 45 ((f 92) 45)).trans (congrArg (fun z => up1 f 92 z) ((upd_sw (g := (upd (upd (f 92) 44 ((f 92) 44)) 43 ((f 92) 43))) (v := v) (w := ((f 92) 45)) (show (45 : Nat) ≠ 42 by decide)).trans (congrArg (fun z => upd z 42 v) ((upd_sw (g := (upd (f 92) 44 ((f 92) 44))) (v := ((f 92) 43)) (w := ((f 92) 45)) (show (45 : Nat) ≠ 43 by decide)).trans (congrArg (fun z => upd z 43 ((f 92) 43)) ((upd_sw (g := (f 92)) (v := ((f 92) 44)) (w := ((f 92) 45)) (show (45 : Nat) ≠ 44 by decide)).trans (congrArg (fun z => upd z 44 ((f 92) 44)) (rfl))))))))) ?_
  refine wq_run3 (pc' := 206) (L' := [(0, .ref 92), (1, .int 0), (2, .int v), (3, .int 1)]) (S' := [.int 4, .int 0, .ref 92]) (f' := (up1 f 92 (upd (upd (upd (upd (f 92) 45 ((f 92) 45)) 44 ((f 92) 44)) 43 ((f 92) 43)) 42 v))) rfl ?_
  refine wq_if (c := 0 = 4) (p1 := 209) (L1 := [(0, .ref 92), (1, .int 0), (2, .int v), (3, .int 1)]) (S1 := [.ref 92]) (p2 := 213) (L2 := [(0, .ref 92), (1, .int 0), (2, .int v), (3, .int 1)]) (S2 := [.ref 92]) rfl (fun q => absurd q (by decide)) (fun _ => ?_)
  refine wq_run2 (pc' := 217) (L' := [(0, .ref 92), (1, .int 0), (2, .int v), (3, .int 1)]) (S' := [.int ((f 92) 46), .ref 92]) (f' := (up1 f 92 (upd (upd (upd (upd (f 92) 45 ((f 92) 45)) 44 ((f 92) 44)) 43 ((f 92) 43)) 42 v))) rfl ?_
  refine wq_putI rfl rfl ?_
  refine wq_h (f' := (up1 f 92 (upd (upd (upd (upd (upd (f 92) 46 ((f 92) 46)) 45 ((f 92) 45)) 44 ((f 92) 44)) 43 ((f 92) 43)) 42 v))) ((up2_up1_eq f 92 (upd (upd (upd (upd (f 92) 45 ((f 92) 45)) 44 ((f 92) 44)) 43 ((f 92) 43)) 42 v) 46 ((f 92) 46)).trans (congrArg (fun z => up1 f 92 z) ((upd_sw (g := (upd (upd (upd (f 92) 45 ((f 92) 45)) 44 ((f 92) 44)) 43 ((f 92) 43))) (v := v) (w := ((f 92) 46)) (show (46 : Nat) ≠ 42 by decide)).trans (congrArg (fun z => upd z 42 v) ((upd_sw (g := (upd (upd (f 92) 45 ((f 92) 45)) 44 ((f 92) 44))) (v := ((f 92) 43)) (w := ((f 92) 46)) (show (46 : Nat) ≠ 43 by decide)).trans (congrArg (fun z => upd z 43 ((f 92) 43)) ((upd_sw (g := (upd (f 92) 45 ((f 92) 45))) (v := ((f 92) 44)) (w := ((f 92) 46)) (show (46 : Nat) ≠ 44 by decide)).trans (congrArg (fun z => upd z 44 ((f 92) 44)) ((upd_sw (g := (f 92)) (v := ((f 92) 45)) (w := ((f 92) 46)) (show (46 : Nat) ≠ 45 by decide)).trans (congrArg (fun z => upd z 45 ((f 92) 45)) (rfl))))))))))) ?_
  refine wq_run3 (pc' := 223) (L' := [(0, .ref 92), (1, .int 0), (2, .int v), (3, .int 1)]) (S' := [.int 5, .int 0, .ref 92]) (f' := (up1 f 92 (upd (upd (upd (upd (upd (f 92) 46 ((f 92) 46)) 45 ((f 92) 45)) 44 ((f 92) 44)) 43 ((f 92) 43)) 42 v))) rfl ?_
  refine wq_if (c := 0 = 5) (p1 := 226) (L1 := [(0, .ref 92), (1, .int 0), (2, .int v), (3, .int 1)]) (S1 := [.ref 92]) (p2 := 230) (L2 := [(0, .ref 92), (1, .int 0), (2, .int v), (3, .int 1)]) (S2 := [.ref 92]) rfl (fun q => absurd q (by decide)) (fun _ => ?_)
  refine wq_run2 (pc' := 234) (L' := [(0, .ref 92), (1, .int 0), (2, .int v), (3, .int 1)]) (S' := [.int ((f 92) 47), .ref 92]) (f' := (up1 f 92 (upd (upd (upd (upd (upd (f 92) 46 ((f 92) 46)) 45 ((f 92) 45)) 44 ((f 92) 44)) 43 ((f 92) 43)) 42 v))) rfl ?_
  refine wq_putI rfl rfl ?_
  refine wq_h (f' := (up1 f 92 (upd (upd (upd (upd (upd (upd (f 92) 47 ((f 92) 47)) 46 ((f 92) 46)) 45 ((f 92) 45)) 44 ((f 92) 44)) 43 ((f 92) 43)) 42 v))) ((up2_up1_eq f 92 (upd (upd (upd (upd (upd (f 92) 46 ((f 92) 46)) 45 ((f 92) 45)) 44 ((f 92) 44)) 43 ((f 92) 43)) 42 v) 47 ((f 92) 47)).trans (congrArg (fun z => up1 f 92 z) ((upd_sw (g := (upd (upd (upd (upd (f 92) 46 ((f 92) 46)) 45 ((f 92) 45)) 44 ((f 92) 44)) 43 ((f 92) 43))) (v := v) (w := ((f 92) 47)) (show (47 : Nat) ≠ 42 by decide)).trans (congrArg (fun z => upd z 42 v) ((upd_sw (g := (upd (upd (upd (f 92) 46 ((f 92) 46)) 45 ((f 92) 45)) 44 ((f 92) 44))) (v := ((f 92) 43)) (w := ((f 92) 47)) (show (47 : Nat) ≠ 43 by decide)).trans (congrArg (fun z => upd z 43 ((f 92) 43)) ((upd_sw (g := (upd (upd (f 92) 46 ((f 92) 46)) 45 ((f 92) 45))) (v := ((f 92) 44)) (w := ((f 92) 47)) (show (47 : Nat) ≠ 44 by decide)).trans (congrArg (fun z => upd z 44 ((f 92) 44)) ((upd_sw (g := (upd (f 92) 46 ((f 92) 46))) (v := ((f 92) 45)) (w := ((f 92) 47)) (show (47 : Nat) ≠ 45 by decide)).trans (congrArg (fun z => upd z 45 ((f 92) 45)) ((upd_sw (g := (f 92)) (v := ((f 92) 46)) (w := ((f 92) 47)) (show (47 : Nat) ≠ 46 by decide)).trans (congrArg (fun z => upd z 46 ((f 92) 46)) (rfl))))))))))))) ?_
  refine wq_run3 (pc' := 241) (L' := [(0, .ref 92), (1, .int 0), (2, .int v), (3, .int 1)]) (S' := [.int 6, .int 0, .ref 92]) (f' := (up1 f 92 (upd (upd (upd (upd (upd (upd (f 92) 47 ((f 92) 47)) 46 ((f 92) 46)) 45 ((f 92) 45)) 44 ((f 92) 44)) 43 ((f 92) 43)) 42 v))) rfl ?_
  refine wq_if (c := 0 = 6) (p1 := 244) (L1 := [(0, .ref 92), (1, .int 0), (2, .int v), (3, .int 1)]) (S1 := [.ref 92]) (p2 := 248) (L2 := [(0, .ref 92), (1, .int 0), (2, .int v), (3, .int 1)]) (S2 := [.ref 92]) rfl (fun q => absurd q (by decide)) (fun _ => ?_)
  refine wq_run2 (pc' := 252) (L' := [(0, .ref 92), (1, .int 0), (2, .int v), (3, .int 1)]) (S' := [.int ((f 92) 48), .ref 92]) (f' := (up1 f 92 (upd (upd (upd (upd (upd (upd (f 92) 47 ((f 92) 47)) 46 ((f 92) 46)) 45 ((f 92) 45)) 44 ((f 92) 44)) 43 ((f 92) 43)) 42 v))) rfl ?_
  refine wq_putI rfl rfl ?_
  refine wq_h (f' := (up1 f 92 (upd (upd (upd (upd (upd (upd (upd (f 92) 48 ((f 92) 48)) 47 ((f 92) 47)) 46 ((f 92) 46)) 45 ((f 92) 45)) 44 ((f 92) 44)) 43 ((f 92) 43)) 42 v))) ((up2_up1_eq f 92 (upd (upd (upd (upd (upd (upd (f 92) 47 ((f 92) 47)) 46 ((f 92) 46)) 45 ((f 92) 45)) 44 ((f 92) 44)) 43 ((f 92) 43)) 42 v) 48 ((f 92) 48)).trans (congrArg (fun z => up1 f 92 z) ((upd_sw (g := (upd (upd (upd (upd (upd (f 92) 47 ((f 92) 47)) 46 ((f 92) 46)) 45 ((f 92) 45)) 44 ((f 92) 44)) 43 ((f 92) 43))) (v := v) (w := ((f 92) 48)) (show (48 : Nat) ≠ 42 by decide)).trans (congrArg (fun z => upd z 42 v) ((upd_sw (g := (upd (upd (upd (upd (f 92) 47 ((f 92) 47)) 46 ((f 92) 46)) 45 ((f 92) 45)) 44 ((f 92) 44))) (v := ((f 92) 43)) (w := ((f 92) 48)) (show (48 : Nat) ≠ 43 by decide)).trans (congrArg (fun z => upd z 43 ((f 92) 43)) ((upd_sw (g := (upd (upd (upd (f 92) 47 ((f 92) 47)) 46 ((f 92) 46)) 45 ((f 92) 45))) (v := ((f 92) 44)) (w := ((f 92) 48)) (show (48 : Nat) ≠ 44 by decide)).trans (congrArg (fun z => upd z 44 ((f 92) 44)) ((upd_sw (g := (upd (upd (f 92) 47 ((f 92) 47)) 46 ((f 92) 46))) (v := ((f 92) 45)) (w := ((f 92) 48)) (show (48 : Nat) ≠ 45 by decide)).trans (congrArg (fun z => upd z 45 ((f 92) 45)) ((upd_sw (g := (upd (f 92) 47 ((f 92) 47))) (v := ((f 92) 46)) (w := ((f 92) 48)) (show (48 : Nat) ≠ 46 by decide)).trans (congrArg (fun z => upd z 46 ((f 92) 46)) ((upd_sw (g := (f 92)) (v := ((f 92) 47)) (w := ((f 92) 48)) (show (48 : Nat) ≠ 47 by decide)).trans (congrArg (fun z => upd z 47 ((f 92) 47)) (rfl))))))))))))))) ?_
  refine wq_run1 (pc' := 256) (L' := [(0, .ref 92), (1, .int 0), (2, .int v), (3, .int 1)]) (S' := [.int 1]) (f' := (up1 f 92 (upd (upd (upd (upd (upd (upd (upd (f 92) 48 ((f 92) 48)) 47 ((f 92) 47)) 46 ((f 92) 46)) 45 ((f 92) 45)) 44 ((f 92) 44)) 43 ((f 92) 43)) 42 v))) rfl ?_
  refine wq_ret rfl ⟨rfl, _, rfl, rfl, fun k hk => ?_⟩
  unfold upd
  by_cases e42 : k = 42
  · exact absurd e42 hk
  rw [if_neg e42]
  by_cases e43 : k = 43
  · rw [if_pos e43, e43]
  rw [if_neg e43]
  by_cases e44 : k = 44
  · rw [if_pos e44, e44]
  rw [if_neg e44]
  by_cases e45 : k = 45
  · rw [if_pos e45, e45]
  rw [if_neg e45]
  by_cases e46 : k = 46
  · rw [if_pos e46, e46]
  rw [if_neg e46]
  by_cases e47 : k = 47
  · rw [if_pos e47, e47]
  rw [if_neg e47]
  by_cases e48 : k = 48
  · rw [if_pos e48, e48]
  rw [if_neg e48]
theorem mp_set0n (f : HI) (v : Int32) (h1 : ¬ inR v 0 2) : Sp 2 179 [.ref 92, .int 0, .int v] f (Ret (-3) f) := by
  show wq 2 179 (Ret (-3) f) 0 [(0, .ref 92), (1, .int 0), (2, .int v)] [] f
  refine wq_run1 (pc' := 1) (L' := [(0, .ref 92), (1, .int 0), (2, .int v)]) (S' := [.int 0]) (f' := f) rfl ?_
  refine wq_if (c := 0 = 0) (p1 := 4) (L1 := [(0, .ref 92), (1, .int 0), (2, .int v)]) (S1 := []) (p2 := 16) (L2 := [(0, .ref 92), (1, .int 0), (2, .int v)]) (S2 := []) rfl (fun _ => ?_) (fun q => absurd (by decide) q)
  refine wq_run4 (pc' := 10) (L' := [(0, .ref 92), (1, .int 0), (2, .int v)]) (S' := [.long 2, .long 0, .long v.toInt64]) (f' := f) rfl ?_
  refine wq_callI (r := (b2i (inR v 0 2))) (mp_in f v 0 2) (Nat.le_of_ble_eq_true rfl) (pc' := 13) (L' := [(0, .ref 92), (1, .int 0), (2, .int v)]) (S' := []) rfl (Nat.le_of_ble_eq_true rfl) rfl rfl (Nat.le_of_ble_eq_true rfl) (Nat.le_of_ble_eq_true rfl) ?_
  refine wq_if (c := (b2i (inR v 0 2)) = 0) (p1 := 16) (L1 := [(0, .ref 92), (1, .int 0), (2, .int v)]) (S1 := []) (p2 := 123) (L2 := [(0, .ref 92), (1, .int 0), (2, .int v)]) (S2 := []) rfl (fun _ => ?_) (fun q => absurd (b2i_0.mpr h1) q)
  refine wq_run2 (pc' := 18) (L' := [(0, .ref 92), (1, .int 0), (2, .int v)]) (S' := [.int 1, .int 0]) (f' := f) rfl ?_
  refine wq_if (c := 0 = 1) (p1 := 21) (L1 := [(0, .ref 92), (1, .int 0), (2, .int v)]) (S1 := []) (p2 := 33) (L2 := [(0, .ref 92), (1, .int 0), (2, .int v)]) (S2 := []) rfl (fun q => absurd q (by decide)) (fun _ => ?_)
  refine wq_run2 (pc' := 35) (L' := [(0, .ref 92), (1, .int 0), (2, .int v)]) (S' := [.int 2, .int 0]) (f' := f) rfl ?_
  refine wq_if (c := 0 = 2) (p1 := 38) (L1 := [(0, .ref 92), (1, .int 0), (2, .int v)]) (S1 := []) (p2 := 50) (L2 := [(0, .ref 92), (1, .int 0), (2, .int v)]) (S2 := []) rfl (fun q => absurd q (by decide)) (fun _ => ?_)
  refine wq_run2 (pc' := 52) (L' := [(0, .ref 92), (1, .int 0), (2, .int v)]) (S' := [.int 3, .int 0]) (f' := f) rfl ?_
  refine wq_if (c := 0 = 3) (p1 := 55) (L1 := [(0, .ref 92), (1, .int 0), (2, .int v)]) (S1 := []) (p2 := 67) (L2 := [(0, .ref 92), (1, .int 0), (2, .int v)]) (S2 := []) rfl (fun q => absurd q (by decide)) (fun _ => ?_)
  refine wq_run2 (pc' := 69) (L' := [(0, .ref 92), (1, .int 0), (2, .int v)]) (S' := [.int 4, .int 0]) (f' := f) rfl ?_
  refine wq_if (c := 0 = 4) (p1 := 72) (L1 := [(0, .ref 92), (1, .int 0), (2, .int v)]) (S1 := []) (p2 := 84) (L2 := [(0, .ref 92), (1, .int 0), (2, .int v)]) (S2 := []) rfl (fun q => absurd q (by decide)) (fun _ => ?_)
  refine wq_run2 (pc' := 86) (L' := [(0, .ref 92), (1, .int 0), (2, .int v)]) (S' := [.int 5, .int 0]) (f' := f) rfl ?_
  refine wq_if (c := 0 = 5) (p1 := 89) (L1 := [(0, .ref 92), (1, .int 0), (2, .int v)]) (S1 := []) (p2 := 103) (L2 := [(0, .ref 92), (1, .int 0), (2, .int v)]) (S2 := []) rfl (fun q => absurd q (by decide)) (fun _ => ?_)
  refine wq_run2 (pc' := 106) (L' := [(0, .ref 92), (1, .int 0), (2, .int v)]) (S' := [.int 6, .int 0]) (f' := f) rfl ?_
  refine wq_if (c := 0 = 6) (p1 := 109) (L1 := [(0, .ref 92), (1, .int 0), (2, .int v)]) (S1 := []) (p2 := 127) (L2 := [(0, .ref 92), (1, .int 0), (2, .int v)]) (S2 := []) rfl (fun q => absurd q (by decide)) (fun _ => ?_)
  refine wq_run3 (pc' := 130) (L' := [(0, .ref 92), (1, .int 0), (2, .int v), (3, .int 0)]) (S' := [.int 0]) (f' := f) rfl ?_
  refine wq_if (c := 0 = 0) (p1 := 133) (L1 := [(0, .ref 92), (1, .int 0), (2, .int v), (3, .int 0)]) (S1 := []) (p2 := 136) (L2 := [(0, .ref 92), (1, .int 0), (2, .int v), (3, .int 0)]) (S2 := []) rfl (fun _ => ?_) (fun q => absurd (by decide) q)
  refine wq_run1 (pc' := 135) (L' := [(0, .ref 92), (1, .int 0), (2, .int v), (3, .int 0)]) (S' := [.int (-3)]) (f' := f) rfl ?_
  exact wq_ret rfl ⟨rfl, rfl⟩
theorem sp_set1 (f : HI) (v : Int32) (h1 : inR v 0 200) : Sp 2 99 [.ref 0, .int 1, .int v] f (Ret 1 (up2 f 1 1 v)) := by
  show wq 2 99 (Ret 1 (up2 f 1 1 v)) 0 [(0, .ref 0), (1, .int 1), (2, .int v)] [] f
  refine wq_run3 (pc' := 4) (L' := [(0, .ref 0), (1, .int 1), (2, .int v)]) (S' := [.int 6, .int 0, .int 1]) (f' := f) rfl ?_
  refine wq_callI (r := (b2i (inR 1 0 6))) (sp_within f 1 0 6) (Nat.le_of_ble_eq_true rfl) (pc' := 7) (L' := [(0, .ref 0), (1, .int 1), (2, .int v)]) (S' := []) rfl (Nat.le_of_ble_eq_true rfl) rfl rfl (Nat.le_of_ble_eq_true rfl) (Nat.le_of_ble_eq_true rfl) ?_
  refine wq_if (c := (b2i (inR 1 0 6)) = 0) (p1 := 27) (L1 := [(0, .ref 0), (1, .int 1), (2, .int v)]) (S1 := []) (p2 := 10) (L2 := [(0, .ref 0), (1, .int 1), (2, .int v)]) (S2 := []) rfl (fun q => absurd q (b2i_n0.mpr (by decide))) (fun _ => ?_)
  refine wq_run3 (pc' := 15) (L' := [(0, .ref 0), (1, .int 1), (2, .int v)]) (S' := [.int 1, .ref 4000002, .int v]) (f' := f) rfl ?_
  refine wq_tabL (k0 := 2) (j := 1) (v := 0) rfl rfl ⟨Nat.le_of_ble_eq_true rfl, Nat.le_of_ble_eq_true rfl⟩ rfl ?_
  refine wq_run2 (pc' := 20) (L' := [(0, .ref 0), (1, .int 1), (2, .int v)]) (S' := [.int 1, .ref 4000003, .int 0, .int v]) (f' := f) rfl ?_
  refine wq_tabL (k0 := 3) (j := 1) (v := 200) rfl rfl ⟨Nat.le_of_ble_eq_true rfl, Nat.le_of_ble_eq_true rfl⟩ rfl ?_
  refine wq_callI (r := (b2i (inR v 0 200))) (sp_within f v 0 200) (Nat.le_of_ble_eq_true rfl) (pc' := 24) (L' := [(0, .ref 0), (1, .int 1), (2, .int v)]) (S' := []) rfl (Nat.le_of_ble_eq_true rfl) rfl rfl (Nat.le_of_ble_eq_true rfl) (Nat.le_of_ble_eq_true rfl) ?_
  refine wq_if (c := (b2i (inR v 0 200)) = 0) (p1 := 27) (L1 := [(0, .ref 0), (1, .int 1), (2, .int v)]) (S1 := []) (p2 := 30) (L2 := [(0, .ref 0), (1, .int 1), (2, .int v)]) (S2 := []) rfl (fun q => absurd q (b2i_n0.mpr h1)) (fun _ => ?_)
  refine wq_run4 (pc' := 36) (L' := [(0, .ref 0), (1, .int 1), (2, .int v)]) (S' := [.int v, .int 1, .ref 1]) (f' := f) rfl ?_
  refine wq_ist (j := 1) (n := 7) rfl rfl rfl rfl (Nat.le_of_ble_eq_true rfl) (Nat.le_of_ble_eq_true rfl) ?_
  refine wq_run1 (pc' := 38) (L' := [(0, .ref 0), (1, .int 1), (2, .int v)]) (S' := [.int 1]) (f' := (up2 f 1 1 v)) rfl ?_
  exact wq_ret rfl ⟨rfl, rfl⟩
theorem sp_set1n (f : HI) (v : Int32) (h1 : ¬ inR v 0 200) : Sp 2 99 [.ref 0, .int 1, .int v] f (Ret (-3) f) := by
  show wq 2 99 (Ret (-3) f) 0 [(0, .ref 0), (1, .int 1), (2, .int v)] [] f
  refine wq_run3 (pc' := 4) (L' := [(0, .ref 0), (1, .int 1), (2, .int v)]) (S' := [.int 6, .int 0, .int 1]) (f' := f) rfl ?_
  refine wq_callI (r := (b2i (inR 1 0 6))) (sp_within f 1 0 6) (Nat.le_of_ble_eq_true rfl) (pc' := 7) (L' := [(0, .ref 0), (1, .int 1), (2, .int v)]) (S' := []) rfl (Nat.le_of_ble_eq_true rfl) rfl rfl (Nat.le_of_ble_eq_true rfl) (Nat.le_of_ble_eq_true rfl) ?_
  refine wq_if (c := (b2i (inR 1 0 6)) = 0) (p1 := 27) (L1 := [(0, .ref 0), (1, .int 1), (2, .int v)]) (S1 := []) (p2 := 10) (L2 := [(0, .ref 0), (1, .int 1), (2, .int v)]) (S2 := []) rfl (fun q => absurd q (b2i_n0.mpr (by decide))) (fun _ => ?_)
  refine wq_run3 (pc' := 15) (L' := [(0, .ref 0), (1, .int 1), (2, .int v)]) (S' := [.int 1, .ref 4000002, .int v]) (f' := f) rfl ?_
  refine wq_tabL (k0 := 2) (j := 1) (v := 0) rfl rfl ⟨Nat.le_of_ble_eq_true rfl, Nat.le_of_ble_eq_true rfl⟩ rfl ?_
  refine wq_run2 (pc' := 20) (L' := [(0, .ref 0), (1, .int 1), (2, .int v)]) (S' := [.int 1, .ref 4000003, .int 0, .int v]) (f' := f) rfl ?_
  refine wq_tabL (k0 := 3) (j := 1) (v := 200) rfl rfl ⟨Nat.le_of_ble_eq_true rfl, Nat.le_of_ble_eq_true rfl⟩ rfl ?_
  refine wq_callI (r := (b2i (inR v 0 200))) (sp_within f v 0 200) (Nat.le_of_ble_eq_true rfl) (pc' := 24) (L' := [(0, .ref 0), (1, .int 1), (2, .int v)]) (S' := []) rfl (Nat.le_of_ble_eq_true rfl) rfl rfl (Nat.le_of_ble_eq_true rfl) (Nat.le_of_ble_eq_true rfl) ?_
  refine wq_if (c := (b2i (inR v 0 200)) = 0) (p1 := 27) (L1 := [(0, .ref 0), (1, .int 1), (2, .int v)]) (S1 := []) (p2 := 30) (L2 := [(0, .ref 0), (1, .int 1), (2, .int v)]) (S2 := []) rfl (fun _ => ?_) (fun q => absurd (b2i_0.mpr h1) q)
  refine wq_run1 (pc' := 29) (L' := [(0, .ref 0), (1, .int 1), (2, .int v)]) (S' := [.int (-3)]) (f' := f) rfl ?_
  exact wq_ret rfl ⟨rfl, rfl⟩
theorem mp_set1 (f : HI) (v : Int32) (h1 : inR v 0 200) : Sp 2 179 [.ref 92, .int 1, .int v] f (fun v' f' => v' = some (.int 1) ∧ ∃ g, f' = up1 f 92 g ∧ g 43 = v ∧ ∀ k, k ≠ 43 → g k = f 92 k) := by
  show wq 2 179 (fun v' f' => v' = some (.int 1) ∧ ∃ g, f' = up1 f 92 g ∧ g 43 = v ∧ ∀ k, k ≠ 43 → g k = f 92 k) 0 [(0, .ref 92), (1, .int 1), (2, .int v)] [] f
  refine wq_run1 (pc' := 1) (L' := [(0, .ref 92), (1, .int 1), (2, .int v)]) (S' := [.int 1]) (f' := f) rfl ?_
  refine wq_if (c := 1 = 0) (p1 := 4) (L1 := [(0, .ref 92), (1, .int 1), (2, .int v)]) (S1 := []) (p2 := 16) (L2 := [(0, .ref 92), (1, .int 1), (2, .int v)]) (S2 := []) rfl (fun q => absurd q (by decide)) (fun _ => ?_)
  refine wq_run2 (pc' := 18) (L' := [(0, .ref 92), (1, .int 1), (2, .int v)]) (S' := [.int 1, .int 1]) (f' := f) rfl ?_
  refine wq_if (c := 1 = 1) (p1 := 21) (L1 := [(0, .ref 92), (1, .int 1), (2, .int v)]) (S1 := []) (p2 := 33) (L2 := [(0, .ref 92), (1, .int 1), (2, .int v)]) (S2 := []) rfl (fun _ => ?_) (fun q => absurd (by decide) q)
  refine wq_run4 (pc' := 27) (L' := [(0, .ref 92), (1, .int 1), (2, .int v)]) (S' := [.long 200, .long 0, .long v.toInt64]) (f' := f) rfl ?_
  refine wq_callI (r := (b2i (inR v 0 200))) (mp_in f v 0 200) (Nat.le_of_ble_eq_true rfl) (pc' := 30) (L' := [(0, .ref 92), (1, .int 1), (2, .int v)]) (S' := []) rfl (Nat.le_of_ble_eq_true rfl) rfl rfl (Nat.le_of_ble_eq_true rfl) (Nat.le_of_ble_eq_true rfl) ?_
  refine wq_if (c := (b2i (inR v 0 200)) = 0) (p1 := 33) (L1 := [(0, .ref 92), (1, .int 1), (2, .int v)]) (S1 := []) (p2 := 123) (L2 := [(0, .ref 92), (1, .int 1), (2, .int v)]) (S2 := []) rfl (fun q => absurd q (b2i_n0.mpr h1)) (fun _ => ?_)
  refine wq_run4 (pc' := 130) (L' := [(0, .ref 92), (1, .int 1), (2, .int v), (3, .int 1)]) (S' := [.int 1]) (f' := f) rfl ?_
  refine wq_if (c := 1 = 0) (p1 := 133) (L1 := [(0, .ref 92), (1, .int 1), (2, .int v), (3, .int 1)]) (S1 := []) (p2 := 136) (L2 := [(0, .ref 92), (1, .int 1), (2, .int v), (3, .int 1)]) (S2 := []) rfl (fun q => absurd q (by decide)) (fun _ => ?_)
  refine wq_run2 (pc' := 138) (L' := [(0, .ref 92), (1, .int 1), (2, .int v), (3, .int 1)]) (S' := [.int 1, .ref 92]) (f' := f) rfl ?_
  refine wq_if (c := 1 = 0) (p1 := 141) (L1 := [(0, .ref 92), (1, .int 1), (2, .int v), (3, .int 1)]) (S1 := [.ref 92]) (p2 := 145) (L2 := [(0, .ref 92), (1, .int 1), (2, .int v), (3, .int 1)]) (S2 := [.ref 92]) rfl (fun q => absurd q (by decide)) (fun _ => ?_)
  refine wq_run2 (pc' := 149) (L' := [(0, .ref 92), (1, .int 1), (2, .int v), (3, .int 1)]) (S' := [.int (f 92 42), .ref 92]) (f' := f) rfl ?_
  refine wq_putI rfl rfl ?_
  refine wq_h (f' := (up1 f 92 (upd (f 92) 42 (f 92 42)))) (up2_eq1 f 92 42 (f 92 42)) ?_
  refine wq_run3 (pc' := 155) (L' := [(0, .ref 92), (1, .int 1), (2, .int v), (3, .int 1)]) (S' := [.int 1, .int 1, .ref 92]) (f' := (up1 f 92 (upd (f 92) 42 (f 92 42)))) rfl ?_
  refine wq_if (c := 1 = 1) (p1 := 158) (L1 := [(0, .ref 92), (1, .int 1), (2, .int v), (3, .int 1)]) (S1 := [.ref 92]) (p2 := 162) (L2 := [(0, .ref 92), (1, .int 1), (2, .int v), (3, .int 1)]) (S2 := [.ref 92]) rfl (fun _ => ?_) (fun q => absurd (by decide) q)
  refine wq_run2 (pc' := 166) (L' := [(0, .ref 92), (1, .int 1), (2, .int v), (3, .int 1)]) (S' := [.int v, .ref 92]) (f' := (up1 f 92 (upd (f 92) 42 (f 92 42)))) rfl ?_
  refine wq_putI rfl rfl ?_
  refine wq_h (f' := (up1 f 92 (upd (upd (f 92) 43 v) 42 (f 92 42)))) ((up2_up1_eq f 92 (upd (f 92) 42 (f 92 42)) 43 v).trans (congrArg (fun z => up1 f 92 z) ((upd_sw (g := (f 92)) (v := (f 92 42)) (w := v) (show (43 : Nat) ≠ 42 by decide)).trans (congrArg (fun z => upd z 42 (f 92 42)) (rfl))))) ?_
  refine wq_run3 (pc' := 172) (L' := [(0, .ref 92), (1, .int 1), (2, .int v), (3, .int 1)]) (S' := [.int 2, .int 1, .ref 92]) (f' := (up1 f 92 (upd (upd (f 92) 43 v) 42 (f 92 42)))) rfl ?_
  refine wq_if (c := 1 = 2) (p1 := 175) (L1 := [(0, .ref 92), (1, .int 1), (2, .int v), (3, .int 1)]) (S1 := [.ref 92]) (p2 := 179) (L2 := [(0, .ref 92), (1, .int 1), (2, .int v), (3, .int 1)]) (S2 := [.ref 92]) rfl (fun q => absurd q (by decide)) (fun _ => ?_)
  refine wq_run2 (pc' := 183) (L' := [(0, .ref 92), (1, .int 1), (2, .int v), (3, .int 1)]) (S' := [.int ((f 92) 44), .ref 92]) (f' := (up1 f 92 (upd (upd (f 92) 43 v) 42 (f 92 42)))) rfl ?_
  refine wq_putI rfl rfl ?_
  refine wq_h (f' := (up1 f 92 (upd (upd (upd (f 92) 44 ((f 92) 44)) 43 v) 42 (f 92 42)))) ((up2_up1_eq f 92 (upd (upd (f 92) 43 v) 42 (f 92 42)) 44 ((f 92) 44)).trans (congrArg (fun z => up1 f 92 z) ((upd_sw (g := (upd (f 92) 43 v)) (v := (f 92 42)) (w := ((f 92) 44)) (show (44 : Nat) ≠ 42 by decide)).trans (congrArg (fun z => upd z 42 (f 92 42)) ((upd_sw (g := (f 92)) (v := v) (w := ((f 92) 44)) (show (44 : Nat) ≠ 43 by decide)).trans (congrArg (fun z => upd z 43 v) (rfl))))))) ?_
  refine wq_run3 (pc' := 189) (L' := [(0, .ref 92), (1, .int 1), (2, .int v), (3, .int 1)]) (S' := [.int 3, .int 1, .ref 92]) (f' := (up1 f 92 (upd (upd (upd (f 92) 44 ((f 92) 44)) 43 v) 42 (f 92 42)))) rfl ?_
  refine wq_if (c := 1 = 3) (p1 := 192) (L1 := [(0, .ref 92), (1, .int 1), (2, .int v), (3, .int 1)]) (S1 := [.ref 92]) (p2 := 196) (L2 := [(0, .ref 92), (1, .int 1), (2, .int v), (3, .int 1)]) (S2 := [.ref 92]) rfl (fun q => absurd q (by decide)) (fun _ => ?_)
  refine wq_run2 (pc' := 200) (L' := [(0, .ref 92), (1, .int 1), (2, .int v), (3, .int 1)]) (S' := [.int ((f 92) 45), .ref 92]) (f' := (up1 f 92 (upd (upd (upd (f 92) 44 ((f 92) 44)) 43 v) 42 (f 92 42)))) rfl ?_
  refine wq_putI rfl rfl ?_
  refine wq_h (f' := (up1 f 92 (upd (upd (upd (upd (f 92) 45 ((f 92) 45)) 44 ((f 92) 44)) 43 v) 42 (f 92 42)))) ((up2_up1_eq f 92 (upd (upd (upd (f 92) 44 ((f 92) 44)) 43 v) 42 (f 92 42)) 45 ((f 92) 45)).trans (congrArg (fun z => up1 f 92 z) ((upd_sw (g := (upd (upd (f 92) 44 ((f 92) 44)) 43 v)) (v := (f 92 42)) (w := ((f 92) 45)) (show (45 : Nat) ≠ 42 by decide)).trans (congrArg (fun z => upd z 42 (f 92 42)) ((upd_sw (g := (upd (f 92) 44 ((f 92) 44))) (v := v) (w := ((f 92) 45)) (show (45 : Nat) ≠ 43 by decide)).trans (congrArg (fun z => upd z 43 v) ((upd_sw (g := (f 92)) (v := ((f 92) 44)) (w := ((f 92) 45)) (show (45 : Nat) ≠ 44 by decide)).trans (congrArg (fun z => upd z 44 ((f 92) 44)) (rfl))))))))) ?_
  refine wq_run3 (pc' := 206) (L' := [(0, .ref 92), (1, .int 1), (2, .int v), (3, .int 1)]) (S' := [.int 4, .int 1, .ref 92]) (f' := (up1 f 92 (upd (upd (upd (upd (f 92) 45 ((f 92) 45)) 44 ((f 92) 44)) 43 v) 42 (f 92 42)))) rfl ?_
  refine wq_if (c := 1 = 4) (p1 := 209) (L1 := [(0, .ref 92), (1, .int 1), (2, .int v), (3, .int 1)]) (S1 := [.ref 92]) (p2 := 213) (L2 := [(0, .ref 92), (1, .int 1), (2, .int v), (3, .int 1)]) (S2 := [.ref 92]) rfl (fun q => absurd q (by decide)) (fun _ => ?_)
  refine wq_run2 (pc' := 217) (L' := [(0, .ref 92), (1, .int 1), (2, .int v), (3, .int 1)]) (S' := [.int ((f 92) 46), .ref 92]) (f' := (up1 f 92 (upd (upd (upd (upd (f 92) 45 ((f 92) 45)) 44 ((f 92) 44)) 43 v) 42 (f 92 42)))) rfl ?_
  refine wq_putI rfl rfl ?_
  refine wq_h (f' := (up1 f 92 (upd (upd (upd (upd (upd (f 92) 46 ((f 92) 46)) 45 ((f 92) 45)) 44 ((f 92) 44)) 43 v) 42 (f 92 42)))) ((up2_up1_eq f 92 (upd (upd (upd (upd (f 92) 45 ((f 92) 45)) 44 ((f 92) 44)) 43 v) 42 (f 92 42)) 46 ((f 92) 46)).trans (congrArg (fun z => up1 f 92 z) ((upd_sw (g := (upd (upd (upd (f 92) 45 ((f 92) 45)) 44 ((f 92) 44)) 43 v)) (v := (f 92 42)) (w := ((f 92) 46)) (show (46 : Nat) ≠ 42 by decide)).trans (congrArg (fun z => upd z 42 (f 92 42)) ((upd_sw (g := (upd (upd (f 92) 45 ((f 92) 45)) 44 ((f 92) 44))) (v := v) (w := ((f 92) 46)) (show (46 : Nat) ≠ 43 by decide)).trans (congrArg (fun z => upd z 43 v) ((upd_sw (g := (upd (f 92) 45 ((f 92) 45))) (v := ((f 92) 44)) (w := ((f 92) 46)) (show (46 : Nat) ≠ 44 by decide)).trans (congrArg (fun z => upd z 44 ((f 92) 44)) ((upd_sw (g := (f 92)) (v := ((f 92) 45)) (w := ((f 92) 46)) (show (46 : Nat) ≠ 45 by decide)).trans (congrArg (fun z => upd z 45 ((f 92) 45)) (rfl))))))))))) ?_
  refine wq_run3 (pc' := 223) (L' := [(0, .ref 92), (1, .int 1), (2, .int v), (3, .int 1)]) (S' := [.int 5, .int 1, .ref 92]) (f' := (up1 f 92 (upd (upd (upd (upd (upd (f 92) 46 ((f 92) 46)) 45 ((f 92) 45)) 44 ((f 92) 44)) 43 v) 42 (f 92 42)))) rfl ?_
  refine wq_if (c := 1 = 5) (p1 := 226) (L1 := [(0, .ref 92), (1, .int 1), (2, .int v), (3, .int 1)]) (S1 := [.ref 92]) (p2 := 230) (L2 := [(0, .ref 92), (1, .int 1), (2, .int v), (3, .int 1)]) (S2 := [.ref 92]) rfl (fun q => absurd q (by decide)) (fun _ => ?_)
  refine wq_run2 (pc' := 234) (L' := [(0, .ref 92), (1, .int 1), (2, .int v), (3, .int 1)]) (S' := [.int ((f 92) 47), .ref 92]) (f' := (up1 f 92 (upd (upd (upd (upd (upd (f 92) 46 ((f 92) 46)) 45 ((f 92) 45)) 44 ((f 92) 44)) 43 v) 42 (f 92 42)))) rfl ?_
  refine wq_putI rfl rfl ?_
  refine wq_h (f' := (up1 f 92 (upd (upd (upd (upd (upd (upd (f 92) 47 ((f 92) 47)) 46 ((f 92) 46)) 45 ((f 92) 45)) 44 ((f 92) 44)) 43 v) 42 (f 92 42)))) ((up2_up1_eq f 92 (upd (upd (upd (upd (upd (f 92) 46 ((f 92) 46)) 45 ((f 92) 45)) 44 ((f 92) 44)) 43 v) 42 (f 92 42)) 47 ((f 92) 47)).trans (congrArg (fun z => up1 f 92 z) ((upd_sw (g := (upd (upd (upd (upd (f 92) 46 ((f 92) 46)) 45 ((f 92) 45)) 44 ((f 92) 44)) 43 v)) (v := (f 92 42)) (w := ((f 92) 47)) (show (47 : Nat) ≠ 42 by decide)).trans (congrArg (fun z => upd z 42 (f 92 42)) ((upd_sw (g := (upd (upd (upd (f 92) 46 ((f 92) 46)) 45 ((f 92) 45)) 44 ((f 92) 44))) (v := v) (w := ((f 92) 47)) (show (47 : Nat) ≠ 43 by decide)).trans (congrArg (fun z => upd z 43 v) ((upd_sw (g := (upd (upd (f 92) 46 ((f 92) 46)) 45 ((f 92) 45))) (v := ((f 92) 44)) (w := ((f 92) 47)) (show (47 : Nat) ≠ 44 by decide)).trans (congrArg (fun z => upd z 44 ((f 92) 44)) ((upd_sw (g := (upd (f 92) 46 ((f 92) 46))) (v := ((f 92) 45)) (w := ((f 92) 47)) (show (47 : Nat) ≠ 45 by decide)).trans (congrArg (fun z => upd z 45 ((f 92) 45)) ((upd_sw (g := (f 92)) (v := ((f 92) 46)) (w := ((f 92) 47)) (show (47 : Nat) ≠ 46 by decide)).trans (congrArg (fun z => upd z 46 ((f 92) 46)) (rfl))))))))))))) ?_
  refine wq_run3 (pc' := 241) (L' := [(0, .ref 92), (1, .int 1), (2, .int v), (3, .int 1)]) (S' := [.int 6, .int 1, .ref 92]) (f' := (up1 f 92 (upd (upd (upd (upd (upd (upd (f 92) 47 ((f 92) 47)) 46 ((f 92) 46)) 45 ((f 92) 45)) 44 ((f 92) 44)) 43 v) 42 (f 92 42)))) rfl ?_
  refine wq_if (c := 1 = 6) (p1 := 244) (L1 := [(0, .ref 92), (1, .int 1), (2, .int v), (3, .int 1)]) (S1 := [.ref 92]) (p2 := 248) (L2 := [(0, .ref 92), (1, .int 1), (2, .int v), (3, .int 1)]) (S2 := [.ref 92]) rfl (fun q => absurd q (by decide)) (fun _ => ?_)
  refine wq_run2 (pc' := 252) (L' := [(0, .ref 92), (1, .int 1), (2, .int v), (3, .int 1)]) (S' := [.int ((f 92) 48), .ref 92]) (f' := (up1 f 92 (upd (upd (upd (upd (upd (upd (f 92) 47 ((f 92) 47)) 46 ((f 92) 46)) 45 ((f 92) 45)) 44 ((f 92) 44)) 43 v) 42 (f 92 42)))) rfl ?_
  refine wq_putI rfl rfl ?_
  refine wq_h (f' := (up1 f 92 (upd (upd (upd (upd (upd (upd (upd (f 92) 48 ((f 92) 48)) 47 ((f 92) 47)) 46 ((f 92) 46)) 45 ((f 92) 45)) 44 ((f 92) 44)) 43 v) 42 (f 92 42)))) ((up2_up1_eq f 92 (upd (upd (upd (upd (upd (upd (f 92) 47 ((f 92) 47)) 46 ((f 92) 46)) 45 ((f 92) 45)) 44 ((f 92) 44)) 43 v) 42 (f 92 42)) 48 ((f 92) 48)).trans (congrArg (fun z => up1 f 92 z) ((upd_sw (g := (upd (upd (upd (upd (upd (f 92) 47 ((f 92) 47)) 46 ((f 92) 46)) 45 ((f 92) 45)) 44 ((f 92) 44)) 43 v)) (v := (f 92 42)) (w := ((f 92) 48)) (show (48 : Nat) ≠ 42 by decide)).trans (congrArg (fun z => upd z 42 (f 92 42)) ((upd_sw (g := (upd (upd (upd (upd (f 92) 47 ((f 92) 47)) 46 ((f 92) 46)) 45 ((f 92) 45)) 44 ((f 92) 44))) (v := v) (w := ((f 92) 48)) (show (48 : Nat) ≠ 43 by decide)).trans (congrArg (fun z => upd z 43 v) ((upd_sw (g := (upd (upd (upd (f 92) 47 ((f 92) 47)) 46 ((f 92) 46)) 45 ((f 92) 45))) (v := ((f 92) 44)) (w := ((f 92) 48)) (show (48 : Nat) ≠ 44 by decide)).trans (congrArg (fun z => upd z 44 ((f 92) 44)) ((upd_sw (g := (upd (upd (f 92) 47 ((f 92) 47)) 46 ((f 92) 46))) (v := ((f 92) 45)) (w := ((f 92) 48)) (show (48 : Nat) ≠ 45 by decide)).trans (congrArg (fun z => upd z 45 ((f 92) 45)) ((upd_sw (g := (upd (f 92) 47 ((f 92) 47))) (v := ((f 92) 46)) (w := ((f 92) 48)) (show (48 : Nat) ≠ 46 by decide)).trans (congrArg (fun z => upd z 46 ((f 92) 46)) ((upd_sw (g := (f 92)) (v := ((f 92) 47)) (w := ((f 92) 48)) (show (48 : Nat) ≠ 47 by decide)).trans (congrArg (fun z => upd z 47 ((f 92) 47)) (rfl))))))))))))))) ?_
  refine wq_run1 (pc' := 256) (L' := [(0, .ref 92), (1, .int 1), (2, .int v), (3, .int 1)]) (S' := [.int 1]) (f' := (up1 f 92 (upd (upd (upd (upd (upd (upd (upd (f 92) 48 ((f 92) 48)) 47 ((f 92) 47)) 46 ((f 92) 46)) 45 ((f 92) 45)) 44 ((f 92) 44)) 43 v) 42 (f 92 42)))) rfl ?_
  refine wq_ret rfl ⟨rfl, _, rfl, rfl, fun k hk => ?_⟩
  unfold upd
  by_cases e42 : k = 42
  · rw [if_pos e42, e42]
  rw [if_neg e42]
  by_cases e43 : k = 43
  · exact absurd e43 hk
  rw [if_neg e43]
  by_cases e44 : k = 44
  · rw [if_pos e44, e44]
  rw [if_neg e44]
  by_cases e45 : k = 45
  · rw [if_pos e45, e45]
  rw [if_neg e45]
  by_cases e46 : k = 46
  · rw [if_pos e46, e46]
  rw [if_neg e46]
  by_cases e47 : k = 47
  · rw [if_pos e47, e47]
  rw [if_neg e47]
  by_cases e48 : k = 48
  · rw [if_pos e48, e48]
  rw [if_neg e48]
theorem mp_set1n (f : HI) (v : Int32) (h1 : ¬ inR v 0 200) : Sp 2 179 [.ref 92, .int 1, .int v] f (Ret (-3) f) := by
  show wq 2 179 (Ret (-3) f) 0 [(0, .ref 92), (1, .int 1), (2, .int v)] [] f
  refine wq_run1 (pc' := 1) (L' := [(0, .ref 92), (1, .int 1), (2, .int v)]) (S' := [.int 1]) (f' := f) rfl ?_
  refine wq_if (c := 1 = 0) (p1 := 4) (L1 := [(0, .ref 92), (1, .int 1), (2, .int v)]) (S1 := []) (p2 := 16) (L2 := [(0, .ref 92), (1, .int 1), (2, .int v)]) (S2 := []) rfl (fun q => absurd q (by decide)) (fun _ => ?_)
  refine wq_run2 (pc' := 18) (L' := [(0, .ref 92), (1, .int 1), (2, .int v)]) (S' := [.int 1, .int 1]) (f' := f) rfl ?_
  refine wq_if (c := 1 = 1) (p1 := 21) (L1 := [(0, .ref 92), (1, .int 1), (2, .int v)]) (S1 := []) (p2 := 33) (L2 := [(0, .ref 92), (1, .int 1), (2, .int v)]) (S2 := []) rfl (fun _ => ?_) (fun q => absurd (by decide) q)
  refine wq_run4 (pc' := 27) (L' := [(0, .ref 92), (1, .int 1), (2, .int v)]) (S' := [.long 200, .long 0, .long v.toInt64]) (f' := f) rfl ?_
  refine wq_callI (r := (b2i (inR v 0 200))) (mp_in f v 0 200) (Nat.le_of_ble_eq_true rfl) (pc' := 30) (L' := [(0, .ref 92), (1, .int 1), (2, .int v)]) (S' := []) rfl (Nat.le_of_ble_eq_true rfl) rfl rfl (Nat.le_of_ble_eq_true rfl) (Nat.le_of_ble_eq_true rfl) ?_
  refine wq_if (c := (b2i (inR v 0 200)) = 0) (p1 := 33) (L1 := [(0, .ref 92), (1, .int 1), (2, .int v)]) (S1 := []) (p2 := 123) (L2 := [(0, .ref 92), (1, .int 1), (2, .int v)]) (S2 := []) rfl (fun _ => ?_) (fun q => absurd (b2i_0.mpr h1) q)
  refine wq_run2 (pc' := 35) (L' := [(0, .ref 92), (1, .int 1), (2, .int v)]) (S' := [.int 2, .int 1]) (f' := f) rfl ?_
  refine wq_if (c := 1 = 2) (p1 := 38) (L1 := [(0, .ref 92), (1, .int 1), (2, .int v)]) (S1 := []) (p2 := 50) (L2 := [(0, .ref 92), (1, .int 1), (2, .int v)]) (S2 := []) rfl (fun q => absurd q (by decide)) (fun _ => ?_)
  refine wq_run2 (pc' := 52) (L' := [(0, .ref 92), (1, .int 1), (2, .int v)]) (S' := [.int 3, .int 1]) (f' := f) rfl ?_
  refine wq_if (c := 1 = 3) (p1 := 55) (L1 := [(0, .ref 92), (1, .int 1), (2, .int v)]) (S1 := []) (p2 := 67) (L2 := [(0, .ref 92), (1, .int 1), (2, .int v)]) (S2 := []) rfl (fun q => absurd q (by decide)) (fun _ => ?_)
  refine wq_run2 (pc' := 69) (L' := [(0, .ref 92), (1, .int 1), (2, .int v)]) (S' := [.int 4, .int 1]) (f' := f) rfl ?_
  refine wq_if (c := 1 = 4) (p1 := 72) (L1 := [(0, .ref 92), (1, .int 1), (2, .int v)]) (S1 := []) (p2 := 84) (L2 := [(0, .ref 92), (1, .int 1), (2, .int v)]) (S2 := []) rfl (fun q => absurd q (by decide)) (fun _ => ?_)
  refine wq_run2 (pc' := 86) (L' := [(0, .ref 92), (1, .int 1), (2, .int v)]) (S' := [.int 5, .int 1]) (f' := f) rfl ?_
  refine wq_if (c := 1 = 5) (p1 := 89) (L1 := [(0, .ref 92), (1, .int 1), (2, .int v)]) (S1 := []) (p2 := 103) (L2 := [(0, .ref 92), (1, .int 1), (2, .int v)]) (S2 := []) rfl (fun q => absurd q (by decide)) (fun _ => ?_)
  refine wq_run2 (pc' := 106) (L' := [(0, .ref 92), (1, .int 1), (2, .int v)]) (S' := [.int 6, .int 1]) (f' := f) rfl ?_
  refine wq_if (c := 1 = 6) (p1 := 109) (L1 := [(0, .ref 92), (1, .int 1), (2, .int v)]) (S1 := []) (p2 := 127) (L2 := [(0, .ref 92), (1, .int 1), (2, .int v)]) (S2 := []) rfl (fun q => absurd q (by decide)) (fun _ => ?_)
  refine wq_run3 (pc' := 130) (L' := [(0, .ref 92), (1, .int 1), (2, .int v), (3, .int 0)]) (S' := [.int 0]) (f' := f) rfl ?_
  refine wq_if (c := 0 = 0) (p1 := 133) (L1 := [(0, .ref 92), (1, .int 1), (2, .int v), (3, .int 0)]) (S1 := []) (p2 := 136) (L2 := [(0, .ref 92), (1, .int 1), (2, .int v), (3, .int 0)]) (S2 := []) rfl (fun _ => ?_) (fun q => absurd (by decide) q)
  refine wq_run1 (pc' := 135) (L' := [(0, .ref 92), (1, .int 1), (2, .int v), (3, .int 0)]) (S' := [.int (-3)]) (f' := f) rfl ?_
  exact wq_ret rfl ⟨rfl, rfl⟩
theorem sp_set2 (f : HI) (v : Int32) (h1 : inR v 0 100000) : Sp 2 99 [.ref 0, .int 2, .int v] f (Ret 1 (up2 f 1 2 v)) := by
  show wq 2 99 (Ret 1 (up2 f 1 2 v)) 0 [(0, .ref 0), (1, .int 2), (2, .int v)] [] f
  refine wq_run3 (pc' := 4) (L' := [(0, .ref 0), (1, .int 2), (2, .int v)]) (S' := [.int 6, .int 0, .int 2]) (f' := f) rfl ?_
  refine wq_callI (r := (b2i (inR 2 0 6))) (sp_within f 2 0 6) (Nat.le_of_ble_eq_true rfl) (pc' := 7) (L' := [(0, .ref 0), (1, .int 2), (2, .int v)]) (S' := []) rfl (Nat.le_of_ble_eq_true rfl) rfl rfl (Nat.le_of_ble_eq_true rfl) (Nat.le_of_ble_eq_true rfl) ?_
  refine wq_if (c := (b2i (inR 2 0 6)) = 0) (p1 := 27) (L1 := [(0, .ref 0), (1, .int 2), (2, .int v)]) (S1 := []) (p2 := 10) (L2 := [(0, .ref 0), (1, .int 2), (2, .int v)]) (S2 := []) rfl (fun q => absurd q (b2i_n0.mpr (by decide))) (fun _ => ?_)
  refine wq_run3 (pc' := 15) (L' := [(0, .ref 0), (1, .int 2), (2, .int v)]) (S' := [.int 2, .ref 4000002, .int v]) (f' := f) rfl ?_
  refine wq_tabL (k0 := 2) (j := 2) (v := 0) rfl rfl ⟨Nat.le_of_ble_eq_true rfl, Nat.le_of_ble_eq_true rfl⟩ rfl ?_
  refine wq_run2 (pc' := 20) (L' := [(0, .ref 0), (1, .int 2), (2, .int v)]) (S' := [.int 2, .ref 4000003, .int 0, .int v]) (f' := f) rfl ?_
  refine wq_tabL (k0 := 3) (j := 2) (v := 100000) rfl rfl ⟨Nat.le_of_ble_eq_true rfl, Nat.le_of_ble_eq_true rfl⟩ rfl ?_
  refine wq_callI (r := (b2i (inR v 0 100000))) (sp_within f v 0 100000) (Nat.le_of_ble_eq_true rfl) (pc' := 24) (L' := [(0, .ref 0), (1, .int 2), (2, .int v)]) (S' := []) rfl (Nat.le_of_ble_eq_true rfl) rfl rfl (Nat.le_of_ble_eq_true rfl) (Nat.le_of_ble_eq_true rfl) ?_
  refine wq_if (c := (b2i (inR v 0 100000)) = 0) (p1 := 27) (L1 := [(0, .ref 0), (1, .int 2), (2, .int v)]) (S1 := []) (p2 := 30) (L2 := [(0, .ref 0), (1, .int 2), (2, .int v)]) (S2 := []) rfl (fun q => absurd q (b2i_n0.mpr h1)) (fun _ => ?_)
  refine wq_run4 (pc' := 36) (L' := [(0, .ref 0), (1, .int 2), (2, .int v)]) (S' := [.int v, .int 2, .ref 1]) (f' := f) rfl ?_
  refine wq_ist (j := 2) (n := 7) rfl rfl rfl rfl (Nat.le_of_ble_eq_true rfl) (Nat.le_of_ble_eq_true rfl) ?_
  refine wq_run1 (pc' := 38) (L' := [(0, .ref 0), (1, .int 2), (2, .int v)]) (S' := [.int 1]) (f' := (up2 f 1 2 v)) rfl ?_
  exact wq_ret rfl ⟨rfl, rfl⟩
theorem sp_set2n (f : HI) (v : Int32) (h1 : ¬ inR v 0 100000) : Sp 2 99 [.ref 0, .int 2, .int v] f (Ret (-3) f) := by
  show wq 2 99 (Ret (-3) f) 0 [(0, .ref 0), (1, .int 2), (2, .int v)] [] f
  refine wq_run3 (pc' := 4) (L' := [(0, .ref 0), (1, .int 2), (2, .int v)]) (S' := [.int 6, .int 0, .int 2]) (f' := f) rfl ?_
  refine wq_callI (r := (b2i (inR 2 0 6))) (sp_within f 2 0 6) (Nat.le_of_ble_eq_true rfl) (pc' := 7) (L' := [(0, .ref 0), (1, .int 2), (2, .int v)]) (S' := []) rfl (Nat.le_of_ble_eq_true rfl) rfl rfl (Nat.le_of_ble_eq_true rfl) (Nat.le_of_ble_eq_true rfl) ?_
  refine wq_if (c := (b2i (inR 2 0 6)) = 0) (p1 := 27) (L1 := [(0, .ref 0), (1, .int 2), (2, .int v)]) (S1 := []) (p2 := 10) (L2 := [(0, .ref 0), (1, .int 2), (2, .int v)]) (S2 := []) rfl (fun q => absurd q (b2i_n0.mpr (by decide))) (fun _ => ?_)
  refine wq_run3 (pc' := 15) (L' := [(0, .ref 0), (1, .int 2), (2, .int v)]) (S' := [.int 2, .ref 4000002, .int v]) (f' := f) rfl ?_
  refine wq_tabL (k0 := 2) (j := 2) (v := 0) rfl rfl ⟨Nat.le_of_ble_eq_true rfl, Nat.le_of_ble_eq_true rfl⟩ rfl ?_
  refine wq_run2 (pc' := 20) (L' := [(0, .ref 0), (1, .int 2), (2, .int v)]) (S' := [.int 2, .ref 4000003, .int 0, .int v]) (f' := f) rfl ?_
  refine wq_tabL (k0 := 3) (j := 2) (v := 100000) rfl rfl ⟨Nat.le_of_ble_eq_true rfl, Nat.le_of_ble_eq_true rfl⟩ rfl ?_
  refine wq_callI (r := (b2i (inR v 0 100000))) (sp_within f v 0 100000) (Nat.le_of_ble_eq_true rfl) (pc' := 24) (L' := [(0, .ref 0), (1, .int 2), (2, .int v)]) (S' := []) rfl (Nat.le_of_ble_eq_true rfl) rfl rfl (Nat.le_of_ble_eq_true rfl) (Nat.le_of_ble_eq_true rfl) ?_
  refine wq_if (c := (b2i (inR v 0 100000)) = 0) (p1 := 27) (L1 := [(0, .ref 0), (1, .int 2), (2, .int v)]) (S1 := []) (p2 := 30) (L2 := [(0, .ref 0), (1, .int 2), (2, .int v)]) (S2 := []) rfl (fun _ => ?_) (fun q => absurd (b2i_0.mpr h1) q)
  refine wq_run1 (pc' := 29) (L' := [(0, .ref 0), (1, .int 2), (2, .int v)]) (S' := [.int (-3)]) (f' := f) rfl ?_
  exact wq_ret rfl ⟨rfl, rfl⟩
theorem mp_set2 (f : HI) (v : Int32) (h1 : inR v 0 100000) : Sp 2 179 [.ref 92, .int 2, .int v] f (fun v' f' => v' = some (.int 1) ∧ ∃ g, f' = up1 f 92 g ∧ g 44 = v ∧ ∀ k, k ≠ 44 → g k = f 92 k) := by
  show wq 2 179 (fun v' f' => v' = some (.int 1) ∧ ∃ g, f' = up1 f 92 g ∧ g 44 = v ∧ ∀ k, k ≠ 44 → g k = f 92 k) 0 [(0, .ref 92), (1, .int 2), (2, .int v)] [] f
  refine wq_run1 (pc' := 1) (L' := [(0, .ref 92), (1, .int 2), (2, .int v)]) (S' := [.int 2]) (f' := f) rfl ?_
  refine wq_if (c := 2 = 0) (p1 := 4) (L1 := [(0, .ref 92), (1, .int 2), (2, .int v)]) (S1 := []) (p2 := 16) (L2 := [(0, .ref 92), (1, .int 2), (2, .int v)]) (S2 := []) rfl (fun q => absurd q (by decide)) (fun _ => ?_)
  refine wq_run2 (pc' := 18) (L' := [(0, .ref 92), (1, .int 2), (2, .int v)]) (S' := [.int 1, .int 2]) (f' := f) rfl ?_
  refine wq_if (c := 2 = 1) (p1 := 21) (L1 := [(0, .ref 92), (1, .int 2), (2, .int v)]) (S1 := []) (p2 := 33) (L2 := [(0, .ref 92), (1, .int 2), (2, .int v)]) (S2 := []) rfl (fun q => absurd q (by decide)) (fun _ => ?_)
  refine wq_run2 (pc' := 35) (L' := [(0, .ref 92), (1, .int 2), (2, .int v)]) (S' := [.int 2, .int 2]) (f' := f) rfl ?_
  refine wq_if (c := 2 = 2) (p1 := 38) (L1 := [(0, .ref 92), (1, .int 2), (2, .int v)]) (S1 := []) (p2 := 50) (L2 := [(0, .ref 92), (1, .int 2), (2, .int v)]) (S2 := []) rfl (fun _ => ?_) (fun q => absurd (by decide) q)
  refine wq_run4 (pc' := 44) (L' := [(0, .ref 92), (1, .int 2), (2, .int v)]) (S' := [.long 100000, .long 0, .long v.toInt64]) (f' := f) rfl ?_
  refine wq_callI (r := (b2i (inR v 0 100000))) (mp_in f v 0 100000) (Nat.le_of_ble_eq_true rfl) (pc' := 47) (L' := [(0, .ref 92), (1, .int 2), (2, .int v)]) (S' := []) rfl (Nat.le_of_ble_eq_true rfl) rfl rfl (Nat.le_of_ble_eq_true rfl) (Nat.le_of_ble_eq_true rfl) ?_
  refine wq_if (c := (b2i (inR v 0 100000)) = 0) (p1 := 50) (L1 := [(0, .ref 92), (1, .int 2), (2, .int v)]) (S1 := []) (p2 := 123) (L2 := [(0, .ref 92), (1, .int 2), (2, .int v)]) (S2 := []) rfl (fun q => absurd q (b2i_n0.mpr h1)) (fun _ => ?_)
  refine wq_run4 (pc' := 130) (L' := [(0, .ref 92), (1, .int 2), (2, .int v), (3, .int 1)]) (S' := [.int 1]) (f' := f) rfl ?_
  refine wq_if (c := 1 = 0) (p1 := 133) (L1 := [(0, .ref 92), (1, .int 2), (2, .int v), (3, .int 1)]) (S1 := []) (p2 := 136) (L2 := [(0, .ref 92), (1, .int 2), (2, .int v), (3, .int 1)]) (S2 := []) rfl (fun q => absurd q (by decide)) (fun _ => ?_)
  refine wq_run2 (pc' := 138) (L' := [(0, .ref 92), (1, .int 2), (2, .int v), (3, .int 1)]) (S' := [.int 2, .ref 92]) (f' := f) rfl ?_
  refine wq_if (c := 2 = 0) (p1 := 141) (L1 := [(0, .ref 92), (1, .int 2), (2, .int v), (3, .int 1)]) (S1 := [.ref 92]) (p2 := 145) (L2 := [(0, .ref 92), (1, .int 2), (2, .int v), (3, .int 1)]) (S2 := [.ref 92]) rfl (fun q => absurd q (by decide)) (fun _ => ?_)
  refine wq_run2 (pc' := 149) (L' := [(0, .ref 92), (1, .int 2), (2, .int v), (3, .int 1)]) (S' := [.int (f 92 42), .ref 92]) (f' := f) rfl ?_
  refine wq_putI rfl rfl ?_
  refine wq_h (f' := (up1 f 92 (upd (f 92) 42 (f 92 42)))) (up2_eq1 f 92 42 (f 92 42)) ?_
  refine wq_run3 (pc' := 155) (L' := [(0, .ref 92), (1, .int 2), (2, .int v), (3, .int 1)]) (S' := [.int 1, .int 2, .ref 92]) (f' := (up1 f 92 (upd (f 92) 42 (f 92 42)))) rfl ?_
  refine wq_if (c := 2 = 1) (p1 := 158) (L1 := [(0, .ref 92), (1, .int 2), (2, .int v), (3, .int 1)]) (S1 := [.ref 92]) (p2 := 162) (L2 := [(0, .ref 92), (1, .int 2), (2, .int v), (3, .int 1)]) (S2 := [.ref 92]) rfl (fun q => absurd q (by decide)) (fun _ => ?_)
  refine wq_run2 (pc' := 166) (L' := [(0, .ref 92), (1, .int 2), (2, .int v), (3, .int 1)]) (S' := [.int ((f 92) 43), .ref 92]) (f' := (up1 f 92 (upd (f 92) 42 (f 92 42)))) rfl ?_
  refine wq_putI rfl rfl ?_
  refine wq_h (f' := (up1 f 92 (upd (upd (f 92) 43 ((f 92) 43)) 42 (f 92 42)))) ((up2_up1_eq f 92 (upd (f 92) 42 (f 92 42)) 43 ((f 92) 43)).trans (congrArg (fun z => up1 f 92 z) ((upd_sw (g := (f 92)) (v := (f 92 42)) (w := ((f 92) 43)) (show (43 : Nat) ≠ 42 by decide)).trans (congrArg (fun z => upd z 42 (f 92 42)) (rfl))))) ?_
  refine wq_run3 (pc' := 172) (L' := [(0, .ref 92), (1, .int 2), (2, .int v), (3, .int 1)]) (S' := [.int 2, .int 2, .ref 92]) (f' := (up1 f 92 (upd (upd (f 92) 43 ((f 92) 43)) 42 (f 92 42)))) rfl ?_
  refine wq_if (c := 2 = 2) (p1 := 175) (L1 := [(0, .ref 92), (1, .int 2), (2, .int v), (3, .int 1)]) (S1 := [.ref 92]) (p2 := 179) (L2 := [(0, .ref 92), (1, .int 2), (2, .int v), (3, .int 1)]) (S2 := [.ref 92]) rfl (fun _ => ?_) (fun q => absurd (by decide) q)
  refine wq_run2 (pc' := 183) (L' := [(0, .ref 92), (1, .int 2), (2, .int v), (3, .int 1)]) (S' := [.int v, .ref 92]) (f' := (up1 f 92 (upd (upd (f 92) 43 ((f 92) 43)) 42 (f 92 42)))) rfl ?_
  refine wq_putI rfl rfl ?_
  refine wq_h (f' := (up1 f 92 (upd (upd (upd (f 92) 44 v) 43 ((f 92) 43)) 42 (f 92 42)))) ((up2_up1_eq f 92 (upd (upd (f 92) 43 ((f 92) 43)) 42 (f 92 42)) 44 v).trans (congrArg (fun z => up1 f 92 z) ((upd_sw (g := (upd (f 92) 43 ((f 92) 43))) (v := (f 92 42)) (w := v) (show (44 : Nat) ≠ 42 by decide)).trans (congrArg (fun z => upd z 42 (f 92 42)) ((upd_sw (g := (f 92)) (v := ((f 92) 43)) (w := v) (show (44 : Nat) ≠ 43 by decide)).trans (congrArg (fun z => upd z 43 ((f 92) 43)) (rfl))))))) ?_
  refine wq_run3 (pc' := 189) (L' := [(0, .ref 92), (1, .int 2), (2, .int v), (3, .int 1)]) (S' := [.int 3, .int 2, .ref 92]) (f' := (up1 f 92 (upd (upd (upd (f 92) 44 v) 43 ((f 92) 43)) 42 (f 92 42)))) rfl ?_
  refine wq_if (c := 2 = 3) (p1 := 192) (L1 := [(0, .ref 92), (1, .int 2), (2, .int v), (3, .int 1)]) (S1 := [.ref 92]) (p2 := 196) (L2 := [(0, .ref 92), (1, .int 2), (2, .int v), (3, .int 1)]) (S2 := [.ref 92]) rfl (fun q => absurd q (by decide)) (fun _ => ?_)
  refine wq_run2 (pc' := 200) (L' := [(0, .ref 92), (1, .int 2), (2, .int v), (3, .int 1)]) (S' := [.int ((f 92) 45), .ref 92]) (f' := (up1 f 92 (upd (upd (upd (f 92) 44 v) 43 ((f 92) 43)) 42 (f 92 42)))) rfl ?_
  refine wq_putI rfl rfl ?_
  refine wq_h (f' := (up1 f 92 (upd (upd (upd (upd (f 92) 45 ((f 92) 45)) 44 v) 43 ((f 92) 43)) 42 (f 92 42)))) ((up2_up1_eq f 92 (upd (upd (upd (f 92) 44 v) 43 ((f 92) 43)) 42 (f 92 42)) 45 ((f 92) 45)).trans (congrArg (fun z => up1 f 92 z) ((upd_sw (g := (upd (upd (f 92) 44 v) 43 ((f 92) 43))) (v := (f 92 42)) (w := ((f 92) 45)) (show (45 : Nat) ≠ 42 by decide)).trans (congrArg (fun z => upd z 42 (f 92 42)) ((upd_sw (g := (upd (f 92) 44 v)) (v := ((f 92) 43)) (w := ((f 92) 45)) (show (45 : Nat) ≠ 43 by decide)).trans (congrArg (fun z => upd z 43 ((f 92) 43)) ((upd_sw (g := (f 92)) (v := v) (w := ((f 92) 45)) (show (45 : Nat) ≠ 44 by decide)).trans (congrArg (fun z => upd z 44 v) (rfl))))))))) ?_
  refine wq_run3 (pc' := 206) (L' := [(0, .ref 92), (1, .int 2), (2, .int v), (3, .int 1)]) (S' := [.int 4, .int 2, .ref 92]) (f' := (up1 f 92 (upd (upd (upd (upd (f 92) 45 ((f 92) 45)) 44 v) 43 ((f 92) 43)) 42 (f 92 42)))) rfl ?_
  refine wq_if (c := 2 = 4) (p1 := 209) (L1 := [(0, .ref 92), (1, .int 2), (2, .int v), (3, .int 1)]) (S1 := [.ref 92]) (p2 := 213) (L2 := [(0, .ref 92), (1, .int 2), (2, .int v), (3, .int 1)]) (S2 := [.ref 92]) rfl (fun q => absurd q (by decide)) (fun _ => ?_)
  refine wq_run2 (pc' := 217) (L' := [(0, .ref 92), (1, .int 2), (2, .int v), (3, .int 1)]) (S' := [.int ((f 92) 46), .ref 92]) (f' := (up1 f 92 (upd (upd (upd (upd (f 92) 45 ((f 92) 45)) 44 v) 43 ((f 92) 43)) 42 (f 92 42)))) rfl ?_
  refine wq_putI rfl rfl ?_
  refine wq_h (f' := (up1 f 92 (upd (upd (upd (upd (upd (f 92) 46 ((f 92) 46)) 45 ((f 92) 45)) 44 v) 43 ((f 92) 43)) 42 (f 92 42)))) ((up2_up1_eq f 92 (upd (upd (upd (upd (f 92) 45 ((f 92) 45)) 44 v) 43 ((f 92) 43)) 42 (f 92 42)) 46 ((f 92) 46)).trans (congrArg (fun z => up1 f 92 z) ((upd_sw (g := (upd (upd (upd (f 92) 45 ((f 92) 45)) 44 v) 43 ((f 92) 43))) (v := (f 92 42)) (w := ((f 92) 46)) (show (46 : Nat) ≠ 42 by decide)).trans (congrArg (fun z => upd z 42 (f 92 42)) ((upd_sw (g := (upd (upd (f 92) 45 ((f 92) 45)) 44 v)) (v := ((f 92) 43)) (w := ((f 92) 46)) (show (46 : Nat) ≠ 43 by decide)).trans (congrArg (fun z => upd z 43 ((f 92) 43)) ((upd_sw (g := (upd (f 92) 45 ((f 92) 45))) (v := v) (w := ((f 92) 46)) (show (46 : Nat) ≠ 44 by decide)).trans (congrArg (fun z => upd z 44 v) ((upd_sw (g := (f 92)) (v := ((f 92) 45)) (w := ((f 92) 46)) (show (46 : Nat) ≠ 45 by decide)).trans (congrArg (fun z => upd z 45 ((f 92) 45)) (rfl))))))))))) ?_
  refine wq_run3 (pc' := 223) (L' := [(0, .ref 92), (1, .int 2), (2, .int v), (3, .int 1)]) (S' := [.int 5, .int 2, .ref 92]) (f' := (up1 f 92 (upd (upd (upd (upd (upd (f 92) 46 ((f 92) 46)) 45 ((f 92) 45)) 44 v) 43 ((f 92) 43)) 42 (f 92 42)))) rfl ?_
  refine wq_if (c := 2 = 5) (p1 := 226) (L1 := [(0, .ref 92), (1, .int 2), (2, .int v), (3, .int 1)]) (S1 := [.ref 92]) (p2 := 230) (L2 := [(0, .ref 92), (1, .int 2), (2, .int v), (3, .int 1)]) (S2 := [.ref 92]) rfl (fun q => absurd q (by decide)) (fun _ => ?_)
  refine wq_run2 (pc' := 234) (L' := [(0, .ref 92), (1, .int 2), (2, .int v), (3, .int 1)]) (S' := [.int ((f 92) 47), .ref 92]) (f' := (up1 f 92 (upd (upd (upd (upd (upd (f 92) 46 ((f 92) 46)) 45 ((f 92) 45)) 44 v) 43 ((f 92) 43)) 42 (f 92 42)))) rfl ?_
  refine wq_putI rfl rfl ?_
  refine wq_h (f' := (up1 f 92 (upd (upd (upd (upd (upd (upd (f 92) 47 ((f 92) 47)) 46 ((f 92) 46)) 45 ((f 92) 45)) 44 v) 43 ((f 92) 43)) 42 (f 92 42)))) ((up2_up1_eq f 92 (upd (upd (upd (upd (upd (f 92) 46 ((f 92) 46)) 45 ((f 92) 45)) 44 v) 43 ((f 92) 43)) 42 (f 92 42)) 47 ((f 92) 47)).trans (congrArg (fun z => up1 f 92 z) ((upd_sw (g := (upd (upd (upd (upd (f 92) 46 ((f 92) 46)) 45 ((f 92) 45)) 44 v) 43 ((f 92) 43))) (v := (f 92 42)) (w := ((f 92) 47)) (show (47 : Nat) ≠ 42 by decide)).trans (congrArg (fun z => upd z 42 (f 92 42)) ((upd_sw (g := (upd (upd (upd (f 92) 46 ((f 92) 46)) 45 ((f 92) 45)) 44 v)) (v := ((f 92) 43)) (w := ((f 92) 47)) (show (47 : Nat) ≠ 43 by decide)).trans (congrArg (fun z => upd z 43 ((f 92) 43)) ((upd_sw (g := (upd (upd (f 92) 46 ((f 92) 46)) 45 ((f 92) 45))) (v := v) (w := ((f 92) 47)) (show (47 : Nat) ≠ 44 by decide)).trans (congrArg (fun z => upd z 44 v) ((upd_sw (g := (upd (f 92) 46 ((f 92) 46))) (v := ((f 92) 45)) (w := ((f 92) 47)) (show (47 : Nat) ≠ 45 by decide)).trans (congrArg (fun z => upd z 45 ((f 92) 45)) ((upd_sw (g := (f 92)) (v := ((f 92) 46)) (w := ((f 92) 47)) (show (47 : Nat) ≠ 46 by decide)).trans (congrArg (fun z => upd z 46 ((f 92) 46)) (rfl))))))))))))) ?_
  refine wq_run3 (pc' := 241) (L' := [(0, .ref 92), (1, .int 2), (2, .int v), (3, .int 1)]) (S' := [.int 6, .int 2, .ref 92]) (f' := (up1 f 92 (upd (upd (upd (upd (upd (upd (f 92) 47 ((f 92) 47)) 46 ((f 92) 46)) 45 ((f 92) 45)) 44 v) 43 ((f 92) 43)) 42 (f 92 42)))) rfl ?_
  refine wq_if (c := 2 = 6) (p1 := 244) (L1 := [(0, .ref 92), (1, .int 2), (2, .int v), (3, .int 1)]) (S1 := [.ref 92]) (p2 := 248) (L2 := [(0, .ref 92), (1, .int 2), (2, .int v), (3, .int 1)]) (S2 := [.ref 92]) rfl (fun q => absurd q (by decide)) (fun _ => ?_)
  refine wq_run2 (pc' := 252) (L' := [(0, .ref 92), (1, .int 2), (2, .int v), (3, .int 1)]) (S' := [.int ((f 92) 48), .ref 92]) (f' := (up1 f 92 (upd (upd (upd (upd (upd (upd (f 92) 47 ((f 92) 47)) 46 ((f 92) 46)) 45 ((f 92) 45)) 44 v) 43 ((f 92) 43)) 42 (f 92 42)))) rfl ?_
  refine wq_putI rfl rfl ?_
  refine wq_h (f' := (up1 f 92 (upd (upd (upd (upd (upd (upd (upd (f 92) 48 ((f 92) 48)) 47 ((f 92) 47)) 46 ((f 92) 46)) 45 ((f 92) 45)) 44 v) 43 ((f 92) 43)) 42 (f 92 42)))) ((up2_up1_eq f 92 (upd (upd (upd (upd (upd (upd (f 92) 47 ((f 92) 47)) 46 ((f 92) 46)) 45 ((f 92) 45)) 44 v) 43 ((f 92) 43)) 42 (f 92 42)) 48 ((f 92) 48)).trans (congrArg (fun z => up1 f 92 z) ((upd_sw (g := (upd (upd (upd (upd (upd (f 92) 47 ((f 92) 47)) 46 ((f 92) 46)) 45 ((f 92) 45)) 44 v) 43 ((f 92) 43))) (v := (f 92 42)) (w := ((f 92) 48)) (show (48 : Nat) ≠ 42 by decide)).trans (congrArg (fun z => upd z 42 (f 92 42)) ((upd_sw (g := (upd (upd (upd (upd (f 92) 47 ((f 92) 47)) 46 ((f 92) 46)) 45 ((f 92) 45)) 44 v)) (v := ((f 92) 43)) (w := ((f 92) 48)) (show (48 : Nat) ≠ 43 by decide)).trans (congrArg (fun z => upd z 43 ((f 92) 43)) ((upd_sw (g := (upd (upd (upd (f 92) 47 ((f 92) 47)) 46 ((f 92) 46)) 45 ((f 92) 45))) (v := v) (w := ((f 92) 48)) (show (48 : Nat) ≠ 44 by decide)).trans (congrArg (fun z => upd z 44 v) ((upd_sw (g := (upd (upd (f 92) 47 ((f 92) 47)) 46 ((f 92) 46))) (v := ((f 92) 45)) (w := ((f 92) 48)) (show (48 : Nat) ≠ 45 by decide)).trans (congrArg (fun z => upd z 45 ((f 92) 45)) ((upd_sw (g := (upd (f 92) 47 ((f 92) 47))) (v := ((f 92) 46)) (w := ((f 92) 48)) (show (48 : Nat) ≠ 46 by decide)).trans (congrArg (fun z => upd z 46 ((f 92) 46)) ((upd_sw (g := (f 92)) (v := ((f 92) 47)) (w := ((f 92) 48)) (show (48 : Nat) ≠ 47 by decide)).trans (congrArg (fun z => upd z 47 ((f 92) 47)) (rfl))))))))))))))) ?_
  refine wq_run1 (pc' := 256) (L' := [(0, .ref 92), (1, .int 2), (2, .int v), (3, .int 1)]) (S' := [.int 1]) (f' := (up1 f 92 (upd (upd (upd (upd (upd (upd (upd (f 92) 48 ((f 92) 48)) 47 ((f 92) 47)) 46 ((f 92) 46)) 45 ((f 92) 45)) 44 v) 43 ((f 92) 43)) 42 (f 92 42)))) rfl ?_
  refine wq_ret rfl ⟨rfl, _, rfl, rfl, fun k hk => ?_⟩
  unfold upd
  by_cases e42 : k = 42
  · rw [if_pos e42, e42]
  rw [if_neg e42]
  by_cases e43 : k = 43
  · rw [if_pos e43, e43]
  rw [if_neg e43]
  by_cases e44 : k = 44
  · exact absurd e44 hk
  rw [if_neg e44]
  by_cases e45 : k = 45
  · rw [if_pos e45, e45]
  rw [if_neg e45]
  by_cases e46 : k = 46
  · rw [if_pos e46, e46]
  rw [if_neg e46]
  by_cases e47 : k = 47
  · rw [if_pos e47, e47]
  rw [if_neg e47]
  by_cases e48 : k = 48
  · rw [if_pos e48, e48]
  rw [if_neg e48]
theorem mp_set2n (f : HI) (v : Int32) (h1 : ¬ inR v 0 100000) : Sp 2 179 [.ref 92, .int 2, .int v] f (Ret (-3) f) := by
  show wq 2 179 (Ret (-3) f) 0 [(0, .ref 92), (1, .int 2), (2, .int v)] [] f
  refine wq_run1 (pc' := 1) (L' := [(0, .ref 92), (1, .int 2), (2, .int v)]) (S' := [.int 2]) (f' := f) rfl ?_
  refine wq_if (c := 2 = 0) (p1 := 4) (L1 := [(0, .ref 92), (1, .int 2), (2, .int v)]) (S1 := []) (p2 := 16) (L2 := [(0, .ref 92), (1, .int 2), (2, .int v)]) (S2 := []) rfl (fun q => absurd q (by decide)) (fun _ => ?_)
  refine wq_run2 (pc' := 18) (L' := [(0, .ref 92), (1, .int 2), (2, .int v)]) (S' := [.int 1, .int 2]) (f' := f) rfl ?_
  refine wq_if (c := 2 = 1) (p1 := 21) (L1 := [(0, .ref 92), (1, .int 2), (2, .int v)]) (S1 := []) (p2 := 33) (L2 := [(0, .ref 92), (1, .int 2), (2, .int v)]) (S2 := []) rfl (fun q => absurd q (by decide)) (fun _ => ?_)
  refine wq_run2 (pc' := 35) (L' := [(0, .ref 92), (1, .int 2), (2, .int v)]) (S' := [.int 2, .int 2]) (f' := f) rfl ?_
  refine wq_if (c := 2 = 2) (p1 := 38) (L1 := [(0, .ref 92), (1, .int 2), (2, .int v)]) (S1 := []) (p2 := 50) (L2 := [(0, .ref 92), (1, .int 2), (2, .int v)]) (S2 := []) rfl (fun _ => ?_) (fun q => absurd (by decide) q)
  refine wq_run4 (pc' := 44) (L' := [(0, .ref 92), (1, .int 2), (2, .int v)]) (S' := [.long 100000, .long 0, .long v.toInt64]) (f' := f) rfl ?_
  refine wq_callI (r := (b2i (inR v 0 100000))) (mp_in f v 0 100000) (Nat.le_of_ble_eq_true rfl) (pc' := 47) (L' := [(0, .ref 92), (1, .int 2), (2, .int v)]) (S' := []) rfl (Nat.le_of_ble_eq_true rfl) rfl rfl (Nat.le_of_ble_eq_true rfl) (Nat.le_of_ble_eq_true rfl) ?_
  refine wq_if (c := (b2i (inR v 0 100000)) = 0) (p1 := 50) (L1 := [(0, .ref 92), (1, .int 2), (2, .int v)]) (S1 := []) (p2 := 123) (L2 := [(0, .ref 92), (1, .int 2), (2, .int v)]) (S2 := []) rfl (fun _ => ?_) (fun q => absurd (b2i_0.mpr h1) q)
  refine wq_run2 (pc' := 52) (L' := [(0, .ref 92), (1, .int 2), (2, .int v)]) (S' := [.int 3, .int 2]) (f' := f) rfl ?_
  refine wq_if (c := 2 = 3) (p1 := 55) (L1 := [(0, .ref 92), (1, .int 2), (2, .int v)]) (S1 := []) (p2 := 67) (L2 := [(0, .ref 92), (1, .int 2), (2, .int v)]) (S2 := []) rfl (fun q => absurd q (by decide)) (fun _ => ?_)
  refine wq_run2 (pc' := 69) (L' := [(0, .ref 92), (1, .int 2), (2, .int v)]) (S' := [.int 4, .int 2]) (f' := f) rfl ?_
  refine wq_if (c := 2 = 4) (p1 := 72) (L1 := [(0, .ref 92), (1, .int 2), (2, .int v)]) (S1 := []) (p2 := 84) (L2 := [(0, .ref 92), (1, .int 2), (2, .int v)]) (S2 := []) rfl (fun q => absurd q (by decide)) (fun _ => ?_)
  refine wq_run2 (pc' := 86) (L' := [(0, .ref 92), (1, .int 2), (2, .int v)]) (S' := [.int 5, .int 2]) (f' := f) rfl ?_
  refine wq_if (c := 2 = 5) (p1 := 89) (L1 := [(0, .ref 92), (1, .int 2), (2, .int v)]) (S1 := []) (p2 := 103) (L2 := [(0, .ref 92), (1, .int 2), (2, .int v)]) (S2 := []) rfl (fun q => absurd q (by decide)) (fun _ => ?_)
  refine wq_run2 (pc' := 106) (L' := [(0, .ref 92), (1, .int 2), (2, .int v)]) (S' := [.int 6, .int 2]) (f' := f) rfl ?_
  refine wq_if (c := 2 = 6) (p1 := 109) (L1 := [(0, .ref 92), (1, .int 2), (2, .int v)]) (S1 := []) (p2 := 127) (L2 := [(0, .ref 92), (1, .int 2), (2, .int v)]) (S2 := []) rfl (fun q => absurd q (by decide)) (fun _ => ?_)
  refine wq_run3 (pc' := 130) (L' := [(0, .ref 92), (1, .int 2), (2, .int v), (3, .int 0)]) (S' := [.int 0]) (f' := f) rfl ?_
  refine wq_if (c := 0 = 0) (p1 := 133) (L1 := [(0, .ref 92), (1, .int 2), (2, .int v), (3, .int 0)]) (S1 := []) (p2 := 136) (L2 := [(0, .ref 92), (1, .int 2), (2, .int v), (3, .int 0)]) (S2 := []) rfl (fun _ => ?_) (fun q => absurd (by decide) q)
  refine wq_run1 (pc' := 135) (L' := [(0, .ref 92), (1, .int 2), (2, .int v), (3, .int 0)]) (S' := [.int (-3)]) (f' := f) rfl ?_
  exact wq_ret rfl ⟨rfl, rfl⟩
theorem sp_set3 (f : HI) (v : Int32) (h1 : inR v 0 99) : Sp 2 99 [.ref 0, .int 3, .int v] f (Ret 1 (up2 f 1 3 v)) := by
  show wq 2 99 (Ret 1 (up2 f 1 3 v)) 0 [(0, .ref 0), (1, .int 3), (2, .int v)] [] f
  refine wq_run3 (pc' := 4) (L' := [(0, .ref 0), (1, .int 3), (2, .int v)]) (S' := [.int 6, .int 0, .int 3]) (f' := f) rfl ?_
  refine wq_callI (r := (b2i (inR 3 0 6))) (sp_within f 3 0 6) (Nat.le_of_ble_eq_true rfl) (pc' := 7) (L' := [(0, .ref 0), (1, .int 3), (2, .int v)]) (S' := []) rfl (Nat.le_of_ble_eq_true rfl) rfl rfl (Nat.le_of_ble_eq_true rfl) (Nat.le_of_ble_eq_true rfl) ?_
  refine wq_if (c := (b2i (inR 3 0 6)) = 0) (p1 := 27) (L1 := [(0, .ref 0), (1, .int 3), (2, .int v)]) (S1 := []) (p2 := 10) (L2 := [(0, .ref 0), (1, .int 3), (2, .int v)]) (S2 := []) rfl (fun q => absurd q (b2i_n0.mpr (by decide))) (fun _ => ?_)
  refine wq_run3 (pc' := 15) (L' := [(0, .ref 0), (1, .int 3), (2, .int v)]) (S' := [.int 3, .ref 4000002, .int v]) (f' := f) rfl ?_
  refine wq_tabL (k0 := 2) (j := 3) (v := 0) rfl rfl ⟨Nat.le_of_ble_eq_true rfl, Nat.le_of_ble_eq_true rfl⟩ rfl ?_
  refine wq_run2 (pc' := 20) (L' := [(0, .ref 0), (1, .int 3), (2, .int v)]) (S' := [.int 3, .ref 4000003, .int 0, .int v]) (f' := f) rfl ?_
  refine wq_tabL (k0 := 3) (j := 3) (v := 99) rfl rfl ⟨Nat.le_of_ble_eq_true rfl, Nat.le_of_ble_eq_true rfl⟩ rfl ?_
  refine wq_callI (r := (b2i (inR v 0 99))) (sp_within f v 0 99) (Nat.le_of_ble_eq_true rfl) (pc' := 24) (L' := [(0, .ref 0), (1, .int 3), (2, .int v)]) (S' := []) rfl (Nat.le_of_ble_eq_true rfl) rfl rfl (Nat.le_of_ble_eq_true rfl) (Nat.le_of_ble_eq_true rfl) ?_
  refine wq_if (c := (b2i (inR v 0 99)) = 0) (p1 := 27) (L1 := [(0, .ref 0), (1, .int 3), (2, .int v)]) (S1 := []) (p2 := 30) (L2 := [(0, .ref 0), (1, .int 3), (2, .int v)]) (S2 := []) rfl (fun q => absurd q (b2i_n0.mpr h1)) (fun _ => ?_)
  refine wq_run4 (pc' := 36) (L' := [(0, .ref 0), (1, .int 3), (2, .int v)]) (S' := [.int v, .int 3, .ref 1]) (f' := f) rfl ?_
  refine wq_ist (j := 3) (n := 7) rfl rfl rfl rfl (Nat.le_of_ble_eq_true rfl) (Nat.le_of_ble_eq_true rfl) ?_
  refine wq_run1 (pc' := 38) (L' := [(0, .ref 0), (1, .int 3), (2, .int v)]) (S' := [.int 1]) (f' := (up2 f 1 3 v)) rfl ?_
  exact wq_ret rfl ⟨rfl, rfl⟩
theorem sp_set3n (f : HI) (v : Int32) (h1 : ¬ inR v 0 99) : Sp 2 99 [.ref 0, .int 3, .int v] f (Ret (-3) f) := by
  show wq 2 99 (Ret (-3) f) 0 [(0, .ref 0), (1, .int 3), (2, .int v)] [] f
  refine wq_run3 (pc' := 4) (L' := [(0, .ref 0), (1, .int 3), (2, .int v)]) (S' := [.int 6, .int 0, .int 3]) (f' := f) rfl ?_
  refine wq_callI (r := (b2i (inR 3 0 6))) (sp_within f 3 0 6) (Nat.le_of_ble_eq_true rfl) (pc' := 7) (L' := [(0, .ref 0), (1, .int 3), (2, .int v)]) (S' := []) rfl (Nat.le_of_ble_eq_true rfl) rfl rfl (Nat.le_of_ble_eq_true rfl) (Nat.le_of_ble_eq_true rfl) ?_
  refine wq_if (c := (b2i (inR 3 0 6)) = 0) (p1 := 27) (L1 := [(0, .ref 0), (1, .int 3), (2, .int v)]) (S1 := []) (p2 := 10) (L2 := [(0, .ref 0), (1, .int 3), (2, .int v)]) (S2 := []) rfl (fun q => absurd q (b2i_n0.mpr (by decide))) (fun _ => ?_)
  refine wq_run3 (pc' := 15) (L' := [(0, .ref 0), (1, .int 3), (2, .int v)]) (S' := [.int 3, .ref 4000002, .int v]) (f' := f) rfl ?_
  refine wq_tabL (k0 := 2) (j := 3) (v := 0) rfl rfl ⟨Nat.le_of_ble_eq_true rfl, Nat.le_of_ble_eq_true rfl⟩ rfl ?_
  refine wq_run2 (pc' := 20) (L' := [(0, .ref 0), (1, .int 3), (2, .int v)]) (S' := [.int 3, .ref 4000003, .int 0, .int v]) (f' := f) rfl ?_
  refine wq_tabL (k0 := 3) (j := 3) (v := 99) rfl rfl ⟨Nat.le_of_ble_eq_true rfl, Nat.le_of_ble_eq_true rfl⟩ rfl ?_
  refine wq_callI (r := (b2i (inR v 0 99))) (sp_within f v 0 99) (Nat.le_of_ble_eq_true rfl) (pc' := 24) (L' := [(0, .ref 0), (1, .int 3), (2, .int v)]) (S' := []) rfl (Nat.le_of_ble_eq_true rfl) rfl rfl (Nat.le_of_ble_eq_true rfl) (Nat.le_of_ble_eq_true rfl) ?_
  refine wq_if (c := (b2i (inR v 0 99)) = 0) (p1 := 27) (L1 := [(0, .ref 0), (1, .int 3), (2, .int v)]) (S1 := []) (p2 := 30) (L2 := [(0, .ref 0), (1, .int 3), (2, .int v)]) (S2 := []) rfl (fun _ => ?_) (fun q => absurd (b2i_0.mpr h1) q)
  refine wq_run1 (pc' := 29) (L' := [(0, .ref 0), (1, .int 3), (2, .int v)]) (S' := [.int (-3)]) (f' := f) rfl ?_
  exact wq_ret rfl ⟨rfl, rfl⟩
theorem mp_set3 (f : HI) (v : Int32) (h1 : inR v 0 99) : Sp 2 179 [.ref 92, .int 3, .int v] f (fun v' f' => v' = some (.int 1) ∧ ∃ g, f' = up1 f 92 g ∧ g 45 = v ∧ ∀ k, k ≠ 45 → g k = f 92 k) := by
  show wq 2 179 (fun v' f' => v' = some (.int 1) ∧ ∃ g, f' = up1 f 92 g ∧ g 45 = v ∧ ∀ k, k ≠ 45 → g k = f 92 k) 0 [(0, .ref 92), (1, .int 3), (2, .int v)] [] f
  refine wq_run1 (pc' := 1) (L' := [(0, .ref 92), (1, .int 3), (2, .int v)]) (S' := [.int 3]) (f' := f) rfl ?_
  refine wq_if (c := 3 = 0) (p1 := 4) (L1 := [(0, .ref 92), (1, .int 3), (2, .int v)]) (S1 := []) (p2 := 16) (L2 := [(0, .ref 92), (1, .int 3), (2, .int v)]) (S2 := []) rfl (fun q => absurd q (by decide)) (fun _ => ?_)
  refine wq_run2 (pc' := 18) (L' := [(0, .ref 92), (1, .int 3), (2, .int v)]) (S' := [.int 1, .int 3]) (f' := f) rfl ?_
  refine wq_if (c := 3 = 1) (p1 := 21) (L1 := [(0, .ref 92), (1, .int 3), (2, .int v)]) (S1 := []) (p2 := 33) (L2 := [(0, .ref 92), (1, .int 3), (2, .int v)]) (S2 := []) rfl (fun q => absurd q (by decide)) (fun _ => ?_)
  refine wq_run2 (pc' := 35) (L' := [(0, .ref 92), (1, .int 3), (2, .int v)]) (S' := [.int 2, .int 3]) (f' := f) rfl ?_
  refine wq_if (c := 3 = 2) (p1 := 38) (L1 := [(0, .ref 92), (1, .int 3), (2, .int v)]) (S1 := []) (p2 := 50) (L2 := [(0, .ref 92), (1, .int 3), (2, .int v)]) (S2 := []) rfl (fun q => absurd q (by decide)) (fun _ => ?_)
  refine wq_run2 (pc' := 52) (L' := [(0, .ref 92), (1, .int 3), (2, .int v)]) (S' := [.int 3, .int 3]) (f' := f) rfl ?_
  refine wq_if (c := 3 = 3) (p1 := 55) (L1 := [(0, .ref 92), (1, .int 3), (2, .int v)]) (S1 := []) (p2 := 67) (L2 := [(0, .ref 92), (1, .int 3), (2, .int v)]) (S2 := []) rfl (fun _ => ?_) (fun q => absurd (by decide) q)
  refine wq_run4 (pc' := 61) (L' := [(0, .ref 92), (1, .int 3), (2, .int v)]) (S' := [.long 99, .long 0, .long v.toInt64]) (f' := f) rfl ?_
  refine wq_callI (r := (b2i (inR v 0 99))) (mp_in f v 0 99) (Nat.le_of_ble_eq_true rfl) (pc' := 64) (L' := [(0, .ref 92), (1, .int 3), (2, .int v)]) (S' := []) rfl (Nat.le_of_ble_eq_true rfl) rfl rfl (Nat.le_of_ble_eq_true rfl) (Nat.le_of_ble_eq_true rfl) ?_
  refine wq_if (c := (b2i (inR v 0 99)) = 0) (p1 := 67) (L1 := [(0, .ref 92), (1, .int 3), (2, .int v)]) (S1 := []) (p2 := 123) (L2 := [(0, .ref 92), (1, .int 3), (2, .int v)]) (S2 := []) rfl (fun q => absurd q (b2i_n0.mpr h1)) (fun _ => ?_)
  refine wq_run4 (pc' := 130) (L' := [(0, .ref 92), (1, .int 3), (2, .int v), (3, .int 1)]) (S' := [.int 1]) (f' := f) rfl ?_
  refine wq_if (c := 1 = 0) (p1 := 133) (L1 := [(0, .ref 92), (1, .int 3), (2, .int v), (3, .int 1)]) (S1 := []) (p2 := 136) (L2 := [(0, .ref 92), (1, .int 3), (2, .int v), (3, .int 1)]) (S2 := []) rfl (fun q => absurd q (by decide)) (fun _ => ?_)
  refine wq_run2 (pc' := 138) (L' := [(0, .ref 92), (1, .int 3), (2, .int v), (3, .int 1)]) (S' := [.int 3, .ref 92]) (f' := f) rfl ?_
  refine wq_if (c := 3 = 0) (p1 := 141) (L1 := [(0, .ref 92), (1, .int 3), (2, .int v), (3, .int 1)]) (S1 := [.ref 92]) (p2 := 145) (L2 := [(0, .ref 92), (1, .int 3), (2, .int v), (3, .int 1)]) (S2 := [.ref 92]) rfl (fun q => absurd q (by decide)) (fun _ => ?_)
  refine wq_run2 (pc' := 149) (L' := [(0, .ref 92), (1, .int 3), (2, .int v), (3, .int 1)]) (S' := [.int (f 92 42), .ref 92]) (f' := f) rfl ?_
  refine wq_putI rfl rfl ?_
  refine wq_h (f' := (up1 f 92 (upd (f 92) 42 (f 92 42)))) (up2_eq1 f 92 42 (f 92 42)) ?_
  refine wq_run3 (pc' := 155) (L' := [(0, .ref 92), (1, .int 3), (2, .int v), (3, .int 1)]) (S' := [.int 1, .int 3, .ref 92]) (f' := (up1 f 92 (upd (f 92) 42 (f 92 42)))) rfl ?_
  refine wq_if (c := 3 = 1) (p1 := 158) (L1 := [(0, .ref 92), (1, .int 3), (2, .int v), (3, .int 1)]) (S1 := [.ref 92]) (p2 := 162) (L2 := [(0, .ref 92), (1, .int 3), (2, .int v), (3, .int 1)]) (S2 := [.ref 92]) rfl (fun q => absurd q (by decide)) (fun _ => ?_)
  refine wq_run2 (pc' := 166) (L' := [(0, .ref 92), (1, .int 3), (2, .int v), (3, .int 1)]) (S' := [.int ((f 92) 43), .ref 92]) (f' := (up1 f 92 (upd (f 92) 42 (f 92 42)))) rfl ?_
  refine wq_putI rfl rfl ?_
  refine wq_h (f' := (up1 f 92 (upd (upd (f 92) 43 ((f 92) 43)) 42 (f 92 42)))) ((up2_up1_eq f 92 (upd (f 92) 42 (f 92 42)) 43 ((f 92) 43)).trans (congrArg (fun z => up1 f 92 z) ((upd_sw (g := (f 92)) (v := (f 92 42)) (w := ((f 92) 43)) (show (43 : Nat) ≠ 42 by decide)).trans (congrArg (fun z => upd z 42 (f 92 42)) (rfl))))) ?_
  refine wq_run3 (pc' := 172) (L' := [(0, .ref 92), (1, .int 3), (2, .int v), (3, .int 1)]) (S' := [.int 2, .int 3, .ref 92]) (f' := (up1 f 92 (upd (upd (f 92) 43 ((f 92) 43)) 42 (f 92 42)))) rfl ?_
  refine wq_if (c := 3 = 2) (p1 := 175) (L1 := [(0, .ref 92), (1, .int 3), (2, .int v), (3, .int 1)]) (S1 := [.ref 92]) (p2 := 179) (L2 := [(0, .ref 92), (1, .int 3), (2, .int v), (3, .int 1)]) (S2 := [.ref 92]) rfl (fun q => absurd q (by decide)) (fun _ => ?_)
  refine wq_run2 (pc' := 183) (L' := [(0, .ref 92), (1, .int 3), (2, .int v), (3, .int 1)]) (S' := [.int ((f 92) 44), .ref 92]) (f' := (up1 f 92 (upd (upd (f 92) 43 ((f 92) 43)) 42 (f 92 42)))) rfl ?_
  refine wq_putI rfl rfl ?_
  refine wq_h (f' := (up1 f 92 (upd (upd (upd (f 92) 44 ((f 92) 44)) 43 ((f 92) 43)) 42 (f 92 42)))) ((up2_up1_eq f 92 (upd (upd (f 92) 43 ((f 92) 43)) 42 (f 92 42)) 44 ((f 92) 44)).trans (congrArg (fun z => up1 f 92 z) ((upd_sw (g := (upd (f 92) 43 ((f 92) 43))) (v := (f 92 42)) (w := ((f 92) 44)) (show (44 : Nat) ≠ 42 by decide)).trans (congrArg (fun z => upd z 42 (f 92 42)) ((upd_sw (g := (f 92)) (v := ((f 92) 43)) (w := ((f 92) 44)) (show (44 : Nat) ≠ 43 by decide)).trans (congrArg (fun z => upd z 43 ((f 92) 43)) (rfl))))))) ?_
  refine wq_run3 (pc' := 189) (L' := [(0, .ref 92), (1, .int 3), (2, .int v), (3, .int 1)]) (S' := [.int 3, .int 3, .ref 92]) (f' := (up1 f 92 (upd (upd (upd (f 92) 44 ((f 92) 44)) 43 ((f 92) 43)) 42 (f 92 42)))) rfl ?_
  refine wq_if (c := 3 = 3) (p1 := 192) (L1 := [(0, .ref 92), (1, .int 3), (2, .int v), (3, .int 1)]) (S1 := [.ref 92]) (p2 := 196) (L2 := [(0, .ref 92), (1, .int 3), (2, .int v), (3, .int 1)]) (S2 := [.ref 92]) rfl (fun _ => ?_) (fun q => absurd (by decide) q)
  refine wq_run2 (pc' := 200) (L' := [(0, .ref 92), (1, .int 3), (2, .int v), (3, .int 1)]) (S' := [.int v, .ref 92]) (f' := (up1 f 92 (upd (upd (upd (f 92) 44 ((f 92) 44)) 43 ((f 92) 43)) 42 (f 92 42)))) rfl ?_
  refine wq_putI rfl rfl ?_
  refine wq_h (f' := (up1 f 92 (upd (upd (upd (upd (f 92) 45 v) 44 ((f 92) 44)) 43 ((f 92) 43)) 42 (f 92 42)))) ((up2_up1_eq f 92 (upd (upd (upd (f 92) 44 ((f 92) 44)) 43 ((f 92) 43)) 42 (f 92 42)) 45 v).trans (congrArg (fun z => up1 f 92 z) ((upd_sw (g := (upd (upd (f 92) 44 ((f 92) 44)) 43 ((f 92) 43))) (v := (f 92 42)) (w := v) (show (45 : Nat) ≠ 42 by decide)).trans (congrArg (fun z => upd z 42 (f 92 42)) ((upd_sw (g := (upd (f 92) 44 ((f 92) 44))) (v := ((f 92) 43)) (w := v) (show (45 : Nat) ≠ 43 by decide)).trans (congrArg (fun z => upd z 43 ((f 92) 43)) ((upd_sw (g := (f 92)) (v := ((f 92) 44)) (w := v) (show (45 : Nat) ≠ 44 by decide)).trans (congrArg (fun z => upd z 44 ((f 92) 44)) (rfl))))))))) ?_
  refine wq_run3 (pc' := 206) (L' := [(0, .ref 92), (1, .int 3), (2, .int v), (3, .int 1)]) (S' := [.int 4, .int 3, .ref 92]) (f' := (up1 f 92 (upd (upd (upd (upd (f 92) 45 v) 44 ((f 92) 44)) 43 ((f 92) 43)) 42 (f 92 42)))) rfl ?_
  refine wq_if (c := 3 = 4) (p1 := 209) (L1 := [(0, .ref 92), (1, .int 3), (2, .int v), (3, .int 1)]) (S1 := [.ref 92]) (p2 := 213) (L2 := [(0, .ref 92), (1, .int 3), (2, .int v), (3, .int 1)]) (S2 := [.ref 92]) rfl (fun q => absurd q (by decide)) (fun _ => ?_)
  refine wq_run2 (pc' := 217) (L' := [(0, .ref 92), (1, .int 3), (2, .int v), (3, .int 1)]) (S' := [.int ((f 92) 46), .ref 92]) (f' := (up1 f 92 (upd (upd (upd (upd (f 92) 45 v) 44 ((f 92) 44)) 43 ((f 92) 43)) 42 (f 92 42)))) rfl ?_
  refine wq_putI rfl rfl ?_
  refine wq_h (f' := (up1 f 92 (upd (upd (upd (upd (upd (f 92) 46 ((f 92) 46)) 45 v) 44 ((f 92) 44)) 43 ((f 92) 43)) 42 (f 92 42)))) ((up2_up1_eq f 92 (upd (upd (upd (upd (f 92) 45 v) 44 ((f 92) 44)) 43 ((f 92) 43)) 42 (f 92 42)) 46 ((f 92) 46)).trans (congrArg (fun z => up1 f 92 z) ((upd_sw (g := (upd (upd (upd (f 92) 45 v) 44 ((f 92) 44)) 43 ((f 92) 43))) (v := (f 92 42)) (w := ((f 92) 46)) (show (46 : Nat) ≠ 42 by decide)).trans (congrArg (fun z => upd z 42 (f 92 42)) ((upd_sw (g := (upd (upd (f 92) 45 v) 44 ((f 92) 44))) (v := ((f 92) 43)) (w := ((f 92) 46)) (show (46 : Nat) ≠ 43 by decide)).trans (congrArg (fun z => upd z 43 ((f 92) 43)) ((upd_sw (g := (upd (f 92) 45 v)) (v := ((f 92) 44)) (w := ((f 92) 46)) (show (46 : Nat) ≠ 44 by decide)).trans (congrArg (fun z => upd z 44 ((f 92) 44)) ((upd_sw (g := (f 92)) (v := v) (w := ((f 92) 46)) (show (46 : Nat) ≠ 45 by decide)).trans (congrArg (fun z => upd z 45 v) (rfl))))))))))) ?_
  refine wq_run3 (pc' := 223) (L' := [(0, .ref 92), (1, .int 3), (2, .int v), (3, .int 1)]) (S' := [.int 5, .int 3, .ref 92]) (f' := (up1 f 92 (upd (upd (upd (upd (upd (f 92) 46 ((f 92) 46)) 45 v) 44 ((f 92) 44)) 43 ((f 92) 43)) 42 (f 92 42)))) rfl ?_
  refine wq_if (c := 3 = 5) (p1 := 226) (L1 := [(0, .ref 92), (1, .int 3), (2, .int v), (3, .int 1)]) (S1 := [.ref 92]) (p2 := 230) (L2 := [(0, .ref 92), (1, .int 3), (2, .int v), (3, .int 1)]) (S2 := [.ref 92]) rfl (fun q => absurd q (by decide)) (fun _ => ?_)
  refine wq_run2 (pc' := 234) (L' := [(0, .ref 92), (1, .int 3), (2, .int v), (3, .int 1)]) (S' := [.int ((f 92) 47), .ref 92]) (f' := (up1 f 92 (upd (upd (upd (upd (upd (f 92) 46 ((f 92) 46)) 45 v) 44 ((f 92) 44)) 43 ((f 92) 43)) 42 (f 92 42)))) rfl ?_
  refine wq_putI rfl rfl ?_
  refine wq_h (f' := (up1 f 92 (upd (upd (upd (upd (upd (upd (f 92) 47 ((f 92) 47)) 46 ((f 92) 46)) 45 v) 44 ((f 92) 44)) 43 ((f 92) 43)) 42 (f 92 42)))) ((up2_up1_eq f 92 (upd (upd (upd (upd (upd (f 92) 46 ((f 92) 46)) 45 v) 44 ((f 92) 44)) 43 ((f 92) 43)) 42 (f 92 42)) 47 ((f 92) 47)).trans (congrArg (fun z => up1 f 92 z) ((upd_sw (g := (upd (upd (upd (upd (f 92) 46 ((f 92) 46)) 45 v) 44 ((f 92) 44)) 43 ((f 92) 43))) (v := (f 92 42)) (w := ((f 92) 47)) (show (47 : Nat) ≠ 42 by decide)).trans (congrArg (fun z => upd z 42 (f 92 42)) ((upd_sw (g := (upd (upd (upd (f 92) 46 ((f 92) 46)) 45 v) 44 ((f 92) 44))) (v := ((f 92) 43)) (w := ((f 92) 47)) (show (47 : Nat) ≠ 43 by decide)).trans (congrArg (fun z => upd z 43 ((f 92) 43)) ((upd_sw (g := (upd (upd (f 92) 46 ((f 92) 46)) 45 v)) (v := ((f 92) 44)) (w := ((f 92) 47)) (show (47 : Nat) ≠ 44 by decide)).trans (congrArg (fun z => upd z 44 ((f 92) 44)) ((upd_sw (g := (upd (f 92) 46 ((f 92) 46))) (v := v) (w := ((f 92) 47)) (show (47 : Nat) ≠ 45 by decide)).trans (congrArg (fun z => upd z 45 v) ((upd_sw (g := (f 92)) (v := ((f 92) 46)) (w := ((f 92) 47)) (show (47 : Nat) ≠ 46 by decide)).trans (congrArg (fun z => upd z 46 ((f 92) 46)) (rfl))))))))))))) ?_
  refine wq_run3 (pc' := 241) (L' := [(0, .ref 92), (1, .int 3), (2, .int v), (3, .int 1)]) (S' := [.int 6, .int 3, .ref 92]) (f' := (up1 f 92 (upd (upd (upd (upd (upd (upd (f 92) 47 ((f 92) 47)) 46 ((f 92) 46)) 45 v) 44 ((f 92) 44)) 43 ((f 92) 43)) 42 (f 92 42)))) rfl ?_
  refine wq_if (c := 3 = 6) (p1 := 244) (L1 := [(0, .ref 92), (1, .int 3), (2, .int v), (3, .int 1)]) (S1 := [.ref 92]) (p2 := 248) (L2 := [(0, .ref 92), (1, .int 3), (2, .int v), (3, .int 1)]) (S2 := [.ref 92]) rfl (fun q => absurd q (by decide)) (fun _ => ?_)
  refine wq_run2 (pc' := 252) (L' := [(0, .ref 92), (1, .int 3), (2, .int v), (3, .int 1)]) (S' := [.int ((f 92) 48), .ref 92]) (f' := (up1 f 92 (upd (upd (upd (upd (upd (upd (f 92) 47 ((f 92) 47)) 46 ((f 92) 46)) 45 v) 44 ((f 92) 44)) 43 ((f 92) 43)) 42 (f 92 42)))) rfl ?_
  refine wq_putI rfl rfl ?_
  refine wq_h (f' := (up1 f 92 (upd (upd (upd (upd (upd (upd (upd (f 92) 48 ((f 92) 48)) 47 ((f 92) 47)) 46 ((f 92) 46)) 45 v) 44 ((f 92) 44)) 43 ((f 92) 43)) 42 (f 92 42)))) ((up2_up1_eq f 92 (upd (upd (upd (upd (upd (upd (f 92) 47 ((f 92) 47)) 46 ((f 92) 46)) 45 v) 44 ((f 92) 44)) 43 ((f 92) 43)) 42 (f 92 42)) 48 ((f 92) 48)).trans (congrArg (fun z => up1 f 92 z) ((upd_sw (g := (upd (upd (upd (upd (upd (f 92) 47 ((f 92) 47)) 46 ((f 92) 46)) 45 v) 44 ((f 92) 44)) 43 ((f 92) 43))) (v := (f 92 42)) (w := ((f 92) 48)) (show (48 : Nat) ≠ 42 by decide)).trans (congrArg (fun z => upd z 42 (f 92 42)) ((upd_sw (g := (upd (upd (upd (upd (f 92) 47 ((f 92) 47)) 46 ((f 92) 46)) 45 v) 44 ((f 92) 44))) (v := ((f 92) 43)) (w := ((f 92) 48)) (show (48 : Nat) ≠ 43 by decide)).trans (congrArg (fun z => upd z 43 ((f 92) 43)) ((upd_sw (g := (upd (upd (upd (f 92) 47 ((f 92) 47)) 46 ((f 92) 46)) 45 v)) (v := ((f 92) 44)) (w := ((f 92) 48)) (show (48 : Nat) ≠ 44 by decide)).trans (congrArg (fun z => upd z 44 ((f 92) 44)) ((upd_sw (g := (upd (upd (f 92) 47 ((f 92) 47)) 46 ((f 92) 46))) (v := v) (w := ((f 92) 48)) (show (48 : Nat) ≠ 45 by decide)).trans (congrArg (fun z => upd z 45 v) ((upd_sw (g := (upd (f 92) 47 ((f 92) 47))) (v := ((f 92) 46)) (w := ((f 92) 48)) (show (48 : Nat) ≠ 46 by decide)).trans (congrArg (fun z => upd z 46 ((f 92) 46)) ((upd_sw (g := (f 92)) (v := ((f 92) 47)) (w := ((f 92) 48)) (show (48 : Nat) ≠ 47 by decide)).trans (congrArg (fun z => upd z 47 ((f 92) 47)) (rfl))))))))))))))) ?_
  refine wq_run1 (pc' := 256) (L' := [(0, .ref 92), (1, .int 3), (2, .int v), (3, .int 1)]) (S' := [.int 1]) (f' := (up1 f 92 (upd (upd (upd (upd (upd (upd (upd (f 92) 48 ((f 92) 48)) 47 ((f 92) 47)) 46 ((f 92) 46)) 45 v) 44 ((f 92) 44)) 43 ((f 92) 43)) 42 (f 92 42)))) rfl ?_
  refine wq_ret rfl ⟨rfl, _, rfl, rfl, fun k hk => ?_⟩
  unfold upd
  by_cases e42 : k = 42
  · rw [if_pos e42, e42]
  rw [if_neg e42]
  by_cases e43 : k = 43
  · rw [if_pos e43, e43]
  rw [if_neg e43]
  by_cases e44 : k = 44
  · rw [if_pos e44, e44]
  rw [if_neg e44]
  by_cases e45 : k = 45
  · exact absurd e45 hk
  rw [if_neg e45]
  by_cases e46 : k = 46
  · rw [if_pos e46, e46]
  rw [if_neg e46]
  by_cases e47 : k = 47
  · rw [if_pos e47, e47]
  rw [if_neg e47]
  by_cases e48 : k = 48
  · rw [if_pos e48, e48]
  rw [if_neg e48]
theorem mp_set3n (f : HI) (v : Int32) (h1 : ¬ inR v 0 99) : Sp 2 179 [.ref 92, .int 3, .int v] f (Ret (-3) f) := by
  show wq 2 179 (Ret (-3) f) 0 [(0, .ref 92), (1, .int 3), (2, .int v)] [] f
  refine wq_run1 (pc' := 1) (L' := [(0, .ref 92), (1, .int 3), (2, .int v)]) (S' := [.int 3]) (f' := f) rfl ?_
  refine wq_if (c := 3 = 0) (p1 := 4) (L1 := [(0, .ref 92), (1, .int 3), (2, .int v)]) (S1 := []) (p2 := 16) (L2 := [(0, .ref 92), (1, .int 3), (2, .int v)]) (S2 := []) rfl (fun q => absurd q (by decide)) (fun _ => ?_)
  refine wq_run2 (pc' := 18) (L' := [(0, .ref 92), (1, .int 3), (2, .int v)]) (S' := [.int 1, .int 3]) (f' := f) rfl ?_
  refine wq_if (c := 3 = 1) (p1 := 21) (L1 := [(0, .ref 92), (1, .int 3), (2, .int v)]) (S1 := []) (p2 := 33) (L2 := [(0, .ref 92), (1, .int 3), (2, .int v)]) (S2 := []) rfl (fun q => absurd q (by decide)) (fun _ => ?_)
  refine wq_run2 (pc' := 35) (L' := [(0, .ref 92), (1, .int 3), (2, .int v)]) (S' := [.int 2, .int 3]) (f' := f) rfl ?_
  refine wq_if (c := 3 = 2) (p1 := 38) (L1 := [(0, .ref 92), (1, .int 3), (2, .int v)]) (S1 := []) (p2 := 50) (L2 := [(0, .ref 92), (1, .int 3), (2, .int v)]) (S2 := []) rfl (fun q => absurd q (by decide)) (fun _ => ?_)
  refine wq_run2 (pc' := 52) (L' := [(0, .ref 92), (1, .int 3), (2, .int v)]) (S' := [.int 3, .int 3]) (f' := f) rfl ?_
  refine wq_if (c := 3 = 3) (p1 := 55) (L1 := [(0, .ref 92), (1, .int 3), (2, .int v)]) (S1 := []) (p2 := 67) (L2 := [(0, .ref 92), (1, .int 3), (2, .int v)]) (S2 := []) rfl (fun _ => ?_) (fun q => absurd (by decide) q)
  refine wq_run4 (pc' := 61) (L' := [(0, .ref 92), (1, .int 3), (2, .int v)]) (S' := [.long 99, .long 0, .long v.toInt64]) (f' := f) rfl ?_
  refine wq_callI (r := (b2i (inR v 0 99))) (mp_in f v 0 99) (Nat.le_of_ble_eq_true rfl) (pc' := 64) (L' := [(0, .ref 92), (1, .int 3), (2, .int v)]) (S' := []) rfl (Nat.le_of_ble_eq_true rfl) rfl rfl (Nat.le_of_ble_eq_true rfl) (Nat.le_of_ble_eq_true rfl) ?_
  refine wq_if (c := (b2i (inR v 0 99)) = 0) (p1 := 67) (L1 := [(0, .ref 92), (1, .int 3), (2, .int v)]) (S1 := []) (p2 := 123) (L2 := [(0, .ref 92), (1, .int 3), (2, .int v)]) (S2 := []) rfl (fun _ => ?_) (fun q => absurd (b2i_0.mpr h1) q)
  refine wq_run2 (pc' := 69) (L' := [(0, .ref 92), (1, .int 3), (2, .int v)]) (S' := [.int 4, .int 3]) (f' := f) rfl ?_
  refine wq_if (c := 3 = 4) (p1 := 72) (L1 := [(0, .ref 92), (1, .int 3), (2, .int v)]) (S1 := []) (p2 := 84) (L2 := [(0, .ref 92), (1, .int 3), (2, .int v)]) (S2 := []) rfl (fun q => absurd q (by decide)) (fun _ => ?_)
  refine wq_run2 (pc' := 86) (L' := [(0, .ref 92), (1, .int 3), (2, .int v)]) (S' := [.int 5, .int 3]) (f' := f) rfl ?_
  refine wq_if (c := 3 = 5) (p1 := 89) (L1 := [(0, .ref 92), (1, .int 3), (2, .int v)]) (S1 := []) (p2 := 103) (L2 := [(0, .ref 92), (1, .int 3), (2, .int v)]) (S2 := []) rfl (fun q => absurd q (by decide)) (fun _ => ?_)
  refine wq_run2 (pc' := 106) (L' := [(0, .ref 92), (1, .int 3), (2, .int v)]) (S' := [.int 6, .int 3]) (f' := f) rfl ?_
  refine wq_if (c := 3 = 6) (p1 := 109) (L1 := [(0, .ref 92), (1, .int 3), (2, .int v)]) (S1 := []) (p2 := 127) (L2 := [(0, .ref 92), (1, .int 3), (2, .int v)]) (S2 := []) rfl (fun q => absurd q (by decide)) (fun _ => ?_)
  refine wq_run3 (pc' := 130) (L' := [(0, .ref 92), (1, .int 3), (2, .int v), (3, .int 0)]) (S' := [.int 0]) (f' := f) rfl ?_
  refine wq_if (c := 0 = 0) (p1 := 133) (L1 := [(0, .ref 92), (1, .int 3), (2, .int v), (3, .int 0)]) (S1 := []) (p2 := 136) (L2 := [(0, .ref 92), (1, .int 3), (2, .int v), (3, .int 0)]) (S2 := []) rfl (fun _ => ?_) (fun q => absurd (by decide) q)
  refine wq_run1 (pc' := 135) (L' := [(0, .ref 92), (1, .int 3), (2, .int v), (3, .int 0)]) (S' := [.int (-3)]) (f' := f) rfl ?_
  exact wq_ret rfl ⟨rfl, rfl⟩
theorem sp_set4 (f : HI) (v : Int32) (h1 : inR v 0 9) : Sp 2 99 [.ref 0, .int 4, .int v] f (Ret 1 (up2 f 1 4 v)) := by
  show wq 2 99 (Ret 1 (up2 f 1 4 v)) 0 [(0, .ref 0), (1, .int 4), (2, .int v)] [] f
  refine wq_run3 (pc' := 4) (L' := [(0, .ref 0), (1, .int 4), (2, .int v)]) (S' := [.int 6, .int 0, .int 4]) (f' := f) rfl ?_
  refine wq_callI (r := (b2i (inR 4 0 6))) (sp_within f 4 0 6) (Nat.le_of_ble_eq_true rfl) (pc' := 7) (L' := [(0, .ref 0), (1, .int 4), (2, .int v)]) (S' := []) rfl (Nat.le_of_ble_eq_true rfl) rfl rfl (Nat.le_of_ble_eq_true rfl) (Nat.le_of_ble_eq_true rfl) ?_
  refine wq_if (c := (b2i (inR 4 0 6)) = 0) (p1 := 27) (L1 := [(0, .ref 0), (1, .int 4), (2, .int v)]) (S1 := []) (p2 := 10) (L2 := [(0, .ref 0), (1, .int 4), (2, .int v)]) (S2 := []) rfl (fun q => absurd q (b2i_n0.mpr (by decide))) (fun _ => ?_)
  refine wq_run3 (pc' := 15) (L' := [(0, .ref 0), (1, .int 4), (2, .int v)]) (S' := [.int 4, .ref 4000002, .int v]) (f' := f) rfl ?_
  refine wq_tabL (k0 := 2) (j := 4) (v := 0) rfl rfl ⟨Nat.le_of_ble_eq_true rfl, Nat.le_of_ble_eq_true rfl⟩ rfl ?_
  refine wq_run2 (pc' := 20) (L' := [(0, .ref 0), (1, .int 4), (2, .int v)]) (S' := [.int 4, .ref 4000003, .int 0, .int v]) (f' := f) rfl ?_
  refine wq_tabL (k0 := 3) (j := 4) (v := 9) rfl rfl ⟨Nat.le_of_ble_eq_true rfl, Nat.le_of_ble_eq_true rfl⟩ rfl ?_
  refine wq_callI (r := (b2i (inR v 0 9))) (sp_within f v 0 9) (Nat.le_of_ble_eq_true rfl) (pc' := 24) (L' := [(0, .ref 0), (1, .int 4), (2, .int v)]) (S' := []) rfl (Nat.le_of_ble_eq_true rfl) rfl rfl (Nat.le_of_ble_eq_true rfl) (Nat.le_of_ble_eq_true rfl) ?_
  refine wq_if (c := (b2i (inR v 0 9)) = 0) (p1 := 27) (L1 := [(0, .ref 0), (1, .int 4), (2, .int v)]) (S1 := []) (p2 := 30) (L2 := [(0, .ref 0), (1, .int 4), (2, .int v)]) (S2 := []) rfl (fun q => absurd q (b2i_n0.mpr h1)) (fun _ => ?_)
  refine wq_run4 (pc' := 36) (L' := [(0, .ref 0), (1, .int 4), (2, .int v)]) (S' := [.int v, .int 4, .ref 1]) (f' := f) rfl ?_
  refine wq_ist (j := 4) (n := 7) rfl rfl rfl rfl (Nat.le_of_ble_eq_true rfl) (Nat.le_of_ble_eq_true rfl) ?_
  refine wq_run1 (pc' := 38) (L' := [(0, .ref 0), (1, .int 4), (2, .int v)]) (S' := [.int 1]) (f' := (up2 f 1 4 v)) rfl ?_
  exact wq_ret rfl ⟨rfl, rfl⟩
theorem sp_set4n (f : HI) (v : Int32) (h1 : ¬ inR v 0 9) : Sp 2 99 [.ref 0, .int 4, .int v] f (Ret (-3) f) := by
  show wq 2 99 (Ret (-3) f) 0 [(0, .ref 0), (1, .int 4), (2, .int v)] [] f
  refine wq_run3 (pc' := 4) (L' := [(0, .ref 0), (1, .int 4), (2, .int v)]) (S' := [.int 6, .int 0, .int 4]) (f' := f) rfl ?_
  refine wq_callI (r := (b2i (inR 4 0 6))) (sp_within f 4 0 6) (Nat.le_of_ble_eq_true rfl) (pc' := 7) (L' := [(0, .ref 0), (1, .int 4), (2, .int v)]) (S' := []) rfl (Nat.le_of_ble_eq_true rfl) rfl rfl (Nat.le_of_ble_eq_true rfl) (Nat.le_of_ble_eq_true rfl) ?_
  refine wq_if (c := (b2i (inR 4 0 6)) = 0) (p1 := 27) (L1 := [(0, .ref 0), (1, .int 4), (2, .int v)]) (S1 := []) (p2 := 10) (L2 := [(0, .ref 0), (1, .int 4), (2, .int v)]) (S2 := []) rfl (fun q => absurd q (b2i_n0.mpr (by decide))) (fun _ => ?_)
  refine wq_run3 (pc' := 15) (L' := [(0, .ref 0), (1, .int 4), (2, .int v)]) (S' := [.int 4, .ref 4000002, .int v]) (f' := f) rfl ?_
  refine wq_tabL (k0 := 2) (j := 4) (v := 0) rfl rfl ⟨Nat.le_of_ble_eq_true rfl, Nat.le_of_ble_eq_true rfl⟩ rfl ?_
  refine wq_run2 (pc' := 20) (L' := [(0, .ref 0), (1, .int 4), (2, .int v)]) (S' := [.int 4, .ref 4000003, .int 0, .int v]) (f' := f) rfl ?_
  refine wq_tabL (k0 := 3) (j := 4) (v := 9) rfl rfl ⟨Nat.le_of_ble_eq_true rfl, Nat.le_of_ble_eq_true rfl⟩ rfl ?_
  refine wq_callI (r := (b2i (inR v 0 9))) (sp_within f v 0 9) (Nat.le_of_ble_eq_true rfl) (pc' := 24) (L' := [(0, .ref 0), (1, .int 4), (2, .int v)]) (S' := []) rfl (Nat.le_of_ble_eq_true rfl) rfl rfl (Nat.le_of_ble_eq_true rfl) (Nat.le_of_ble_eq_true rfl) ?_
  refine wq_if (c := (b2i (inR v 0 9)) = 0) (p1 := 27) (L1 := [(0, .ref 0), (1, .int 4), (2, .int v)]) (S1 := []) (p2 := 30) (L2 := [(0, .ref 0), (1, .int 4), (2, .int v)]) (S2 := []) rfl (fun _ => ?_) (fun q => absurd (b2i_0.mpr h1) q)
  refine wq_run1 (pc' := 29) (L' := [(0, .ref 0), (1, .int 4), (2, .int v)]) (S' := [.int (-3)]) (f' := f) rfl ?_
  exact wq_ret rfl ⟨rfl, rfl⟩
theorem mp_set4 (f : HI) (v : Int32) (h1 : inR v 0 9) : Sp 2 179 [.ref 92, .int 4, .int v] f (fun v' f' => v' = some (.int 1) ∧ ∃ g, f' = up1 f 92 g ∧ g 46 = v ∧ ∀ k, k ≠ 46 → g k = f 92 k) := by
  show wq 2 179 (fun v' f' => v' = some (.int 1) ∧ ∃ g, f' = up1 f 92 g ∧ g 46 = v ∧ ∀ k, k ≠ 46 → g k = f 92 k) 0 [(0, .ref 92), (1, .int 4), (2, .int v)] [] f
  refine wq_run1 (pc' := 1) (L' := [(0, .ref 92), (1, .int 4), (2, .int v)]) (S' := [.int 4]) (f' := f) rfl ?_
  refine wq_if (c := 4 = 0) (p1 := 4) (L1 := [(0, .ref 92), (1, .int 4), (2, .int v)]) (S1 := []) (p2 := 16) (L2 := [(0, .ref 92), (1, .int 4), (2, .int v)]) (S2 := []) rfl (fun q => absurd q (by decide)) (fun _ => ?_)
  refine wq_run2 (pc' := 18) (L' := [(0, .ref 92), (1, .int 4), (2, .int v)]) (S' := [.int 1, .int 4]) (f' := f) rfl ?_
  refine wq_if (c := 4 = 1) (p1 := 21) (L1 := [(0, .ref 92), (1, .int 4), (2, .int v)]) (S1 := []) (p2 := 33) (L2 := [(0, .ref 92), (1, .int 4), (2, .int v)]) (S2 := []) rfl (fun q => absurd q (by decide)) (fun _ => ?_)
  refine wq_run2 (pc' := 35) (L' := [(0, .ref 92), (1, .int 4), (2, .int v)]) (S' := [.int 2, .int 4]) (f' := f) rfl ?_
  refine wq_if (c := 4 = 2) (p1 := 38) (L1 := [(0, .ref 92), (1, .int 4), (2, .int v)]) (S1 := []) (p2 := 50) (L2 := [(0, .ref 92), (1, .int 4), (2, .int v)]) (S2 := []) rfl (fun q => absurd q (by decide)) (fun _ => ?_)
  refine wq_run2 (pc' := 52) (L' := [(0, .ref 92), (1, .int 4), (2, .int v)]) (S' := [.int 3, .int 4]) (f' := f) rfl ?_
  refine wq_if (c := 4 = 3) (p1 := 55) (L1 := [(0, .ref 92), (1, .int 4), (2, .int v)]) (S1 := []) (p2 := 67) (L2 := [(0, .ref 92), (1, .int 4), (2, .int v)]) (S2 := []) rfl (fun q => absurd q (by decide)) (fun _ => ?_)
  refine wq_run2 (pc' := 69) (L' := [(0, .ref 92), (1, .int 4), (2, .int v)]) (S' := [.int 4, .int 4]) (f' := f) rfl ?_
  refine wq_if (c := 4 = 4) (p1 := 72) (L1 := [(0, .ref 92), (1, .int 4), (2, .int v)]) (S1 := []) (p2 := 84) (L2 := [(0, .ref 92), (1, .int 4), (2, .int v)]) (S2 := []) rfl (fun _ => ?_) (fun q => absurd (by decide) q)
  refine wq_run4 (pc' := 78) (L' := [(0, .ref 92), (1, .int 4), (2, .int v)]) (S' := [.long 9, .long 0, .long v.toInt64]) (f' := f) rfl ?_
  refine wq_callI (r := (b2i (inR v 0 9))) (mp_in f v 0 9) (Nat.le_of_ble_eq_true rfl) (pc' := 81) (L' := [(0, .ref 92), (1, .int 4), (2, .int v)]) (S' := []) rfl (Nat.le_of_ble_eq_true rfl) rfl rfl (Nat.le_of_ble_eq_true rfl) (Nat.le_of_ble_eq_true rfl) ?_
  refine wq_if (c := (b2i (inR v 0 9)) = 0) (p1 := 84) (L1 := [(0, .ref 92), (1, .int 4), (2, .int v)]) (S1 := []) (p2 := 123) (L2 := [(0, .ref 92), (1, .int 4), (2, .int v)]) (S2 := []) rfl (fun q => absurd q (b2i_n0.mpr h1)) (fun _ => ?_)
  refine wq_run4 (pc' := 130) (L' := [(0, .ref 92), (1, .int 4), (2, .int v), (3, .int 1)]) (S' := [.int 1]) (f' := f) rfl ?_
  refine wq_if (c := 1 = 0) (p1 := 133) (L1 := [(0, .ref 92), (1, .int 4), (2, .int v), (3, .int 1)]) (S1 := []) (p2 := 136) (L2 := [(0, .ref 92), (1, .int 4), (2, .int v), (3, .int 1)]) (S2 := []) rfl (fun q => absurd q (by decide)) (fun _ => ?_)
  refine wq_run2 (pc' := 138) (L' := [(0, .ref 92), (1, .int 4), (2, .int v), (3, .int 1)]) (S' := [.int 4, .ref 92]) (f' := f) rfl ?_
  refine wq_if (c := 4 = 0) (p1 := 141) (L1 := [(0, .ref 92), (1, .int 4), (2, .int v), (3, .int 1)]) (S1 := [.ref 92]) (p2 := 145) (L2 := [(0, .ref 92), (1, .int 4), (2, .int v), (3, .int 1)]) (S2 := [.ref 92]) rfl (fun q => absurd q (by decide)) (fun _ => ?_)
  refine wq_run2 (pc' := 149) (L' := [(0, .ref 92), (1, .int 4), (2, .int v), (3, .int 1)]) (S' := [.int (f 92 42), .ref 92]) (f' := f) rfl ?_
  refine wq_putI rfl rfl ?_
  refine wq_h (f' := (up1 f 92 (upd (f 92) 42 (f 92 42)))) (up2_eq1 f 92 42 (f 92 42)) ?_
  refine wq_run3 (pc' := 155) (L' := [(0, .ref 92), (1, .int 4), (2, .int v), (3, .int 1)]) (S' := [.int 1, .int 4, .ref 92]) (f' := (up1 f 92 (upd (f 92) 42 (f 92 42)))) rfl ?_
  refine wq_if (c := 4 = 1) (p1 := 158) (L1 := [(0, .ref 92), (1, .int 4), (2, .int v), (3, .int 1)]) (S1 := [.ref 92]) (p2 := 162) (L2 := [(0, .ref 92), (1, .int 4), (2, .int v), (3, .int 1)]) (S2 := [.ref 92]) rfl (fun q => absurd q (by decide)) (fun _ => ?_)
  refine wq_run2 (pc' := 166) (L' := [(0, .ref 92), (1, .int 4), (2, .int v), (3, .int 1)]) (S' := [.int ((f 92) 43), .ref 92]) (f' := (up1 f 92 (upd (f 92) 42 (f 92 42)))) rfl ?_
  refine wq_putI rfl rfl ?_
  refine wq_h (f' := (up1 f 92 (upd (upd (f 92) 43 ((f 92) 43)) 42 (f 92 42)))) ((up2_up1_eq f 92 (upd (f 92) 42 (f 92 42)) 43 ((f 92) 43)).trans (congrArg (fun z => up1 f 92 z) ((upd_sw (g := (f 92)) (v := (f 92 42)) (w := ((f 92) 43)) (show (43 : Nat) ≠ 42 by decide)).trans (congrArg (fun z => upd z 42 (f 92 42)) (rfl))))) ?_
  refine wq_run3 (pc' := 172) (L' := [(0, .ref 92), (1, .int 4), (2, .int v), (3, .int 1)]) (S' := [.int 2, .int 4, .ref 92]) (f' := (up1 f 92 (upd (upd (f 92) 43 ((f 92) 43)) 42 (f 92 42)))) rfl ?_
  refine wq_if (c := 4 = 2) (p1 := 175) (L1 := [(0, .ref 92), (1, .int 4), (2, .int v), (3, .int 1)]) (S1 := [.ref 92]) (p2 := 179) (L2 := [(0, .ref 92), (1, .int 4), (2, .int v), (3, .int 1)]) (S2 := [.ref 92]) rfl (fun q => absurd q (by decide)) (fun _ => ?_)
  refine wq_run2 (pc' := 183) (L' := [(0, .ref 92), (1, .int 4), (2, .int v), (3, .int 1)]) (S' := [.int ((f 92) 44), .ref 92]) (f' := (up1 f 92 (upd (upd (f 92) 43 ((f 92) 43)) 42 (f 92 42)))) rfl ?_
  refine wq_putI rfl rfl ?_
  refine wq_h (f' := (up1 f 92 (upd (upd (upd (f 92) 44 ((f 92) 44)) 43 ((f 92) 43)) 42 (f 92 42)))) ((up2_up1_eq f 92 (upd (upd (f 92) 43 ((f 92) 43)) 42 (f 92 42)) 44 ((f 92) 44)).trans (congrArg (fun z => up1 f 92 z) ((upd_sw (g := (upd (f 92) 43 ((f 92) 43))) (v := (f 92 42)) (w := ((f 92) 44)) (show (44 : Nat) ≠ 42 by decide)).trans (congrArg (fun z => upd z 42 (f 92 42)) ((upd_sw (g := (f 92)) (v := ((f 92) 43)) (w := ((f 92) 44)) (show (44 : Nat) ≠ 43 by decide)).trans (congrArg (fun z => upd z 43 ((f 92) 43)) (rfl))))))) ?_
  refine wq_run3 (pc' := 189) (L' := [(0, .ref 92), (1, .int 4), (2, .int v), (3, .int 1)]) (S' := [.int 3, .int 4, .ref 92]) (f' := (up1 f 92 (upd (upd (upd (f 92) 44 ((f 92) 44)) 43 ((f 92) 43)) 42 (f 92 42)))) rfl ?_
  refine wq_if (c := 4 = 3) (p1 := 192) (L1 := [(0, .ref 92), (1, .int 4), (2, .int v), (3, .int 1)]) (S1 := [.ref 92]) (p2 := 196) (L2 := [(0, .ref 92), (1, .int 4), (2, .int v), (3, .int 1)]) (S2 := [.ref 92]) rfl (fun q => absurd q (by decide)) (fun _ => ?_)
  refine wq_run2 (pc' := 200) (L' := [(0, .ref 92), (1, .int 4), (2, .int v), (3, .int 1)]) (S' := [.int ((f 92) 45), .ref 92]) (f' := (up1 f 92 (upd (upd (upd (f 92) 44 ((f 92) 44)) 43 ((f 92) 43)) 42 (f 92 42)))) rfl ?_
  refine wq_putI rfl rfl ?_
  refine wq_h (f' := (up1 f 92 (upd (upd (upd (upd (f 92) 45 ((f 92) 45)) 44 ((f 92) 44)) 43 ((f 92) 43)) 42 (f 92 42)))) ((up2_up1_eq f 92 (upd (upd (upd (f 92) 44 ((f 92) 44)) 43 ((f 92) 43)) 42 (f 92 42)) 45 ((f 92) 45)).trans (congrArg (fun z => up1 f 92 z) ((upd_sw (g := (upd (upd (f 92) 44 ((f 92) 44)) 43 ((f 92) 43))) (v := (f 92 42)) (w := ((f 92) 45)) (show (45 : Nat) ≠ 42 by decide)).trans (congrArg (fun z => upd z 42 (f 92 42)) ((upd_sw (g := (upd (f 92) 44 ((f 92) 44))) (v := ((f 92) 43)) (w := ((f 92) 45)) (show (45 : Nat) ≠ 43 by decide)).trans (congrArg (fun z => upd z 43 ((f 92) 43)) ((upd_sw (g := (f 92)) (v := ((f 92) 44)) (w := ((f 92) 45)) (show (45 : Nat) ≠ 44 by decide)).trans (congrArg (fun z => upd z 44 ((f 92) 44)) (rfl))))))))) ?_
  refine wq_run3 (pc' := 206) (L' := [(0, .ref 92), (1, .int 4), (2, .int v), (3, .int 1)]) (S' := [.int 4, .int 4, .ref 92]) (f' := (up1 f 92 (upd (upd (upd (upd (f 92) 45 ((f 92) 45)) 44 ((f 92) 44)) 43 ((f 92) 43)) 42 (f 92 42)))) rfl ?_
  refine wq_if (c := 4 = 4) (p1 := 209) (L1 := [(0, .ref 92), (1, .int 4), (2, .int v), (3, .int 1)]) (S1 := [.ref 92]) (p2 := 213) (L2 := [(0, .ref 92), (1, .int 4), (2, .int v), (3, .int 1)]) (S2 := [.ref 92]) rfl (fun _ => ?_) (fun q => absurd (by decide) q)
  refine wq_run2 (pc' := 217) (L' := [(0, .ref 92), (1, .int 4), (2, .int v), (3, .int 1)]) (S' := [.int v, .ref 92]) (f' := (up1 f 92 (upd (upd (upd (upd (f 92) 45 ((f 92) 45)) 44 ((f 92) 44)) 43 ((f 92) 43)) 42 (f 92 42)))) rfl ?_
  refine wq_putI rfl rfl ?_
  refine wq_h (f' := (up1 f 92 (upd (upd (upd (upd (upd (f 92) 46 v) 45 ((f 92) 45)) 44 ((f 92) 44)) 43 ((f 92) 43)) 42 (f 92 42)))) ((up2_up1_eq f 92 (upd (upd (upd (upd (f 92) 45 ((f 92) 45)) 44 ((f 92) 44)) 43 ((f 92) 43)) 42 (f 92 42)) 46 v).trans (congrArg (fun z => up1 f 92 z) ((upd_sw (g := (upd (upd (upd (f 92) 45 ((f 92) 45)) 44 ((f 92) 44)) 43 ((f 92) 43))) (v := (f 92 42)) (w := v) (show (46 : Nat) ≠ 42 by decide)).trans (congrArg (fun z => upd z 42 (f 92 42)) ((upd_sw (g := (upd (upd (f 92) 45 ((f 92) 45)) 44 ((f 92) 44))) (v := ((f 92) 43)) (w := v) (show (46 : Nat) ≠ 43 by decide)).trans (congrArg (fun z => upd z 43 ((f 92) 43)) ((upd_sw (g := (upd (f 92) 45 ((f 92) 45))) (v := ((f 92) 44)) (w := v) (show (46 : Nat) ≠ 44 by decide)).trans (congrArg (fun z => upd z 44 ((f 92) 44)) ((upd_sw (g := (f 92)) (v := ((f 92) 45)) (w := v) (show (46 : Nat) ≠ 45 by decide)).trans (congrArg (fun z => upd z 45 ((f 92) 45)) (rfl))))))))))) ?_
  refine wq_run3 (pc' := 223) (L' := [(0, .ref 92), (1, .int 4), (2, .int v), (3, .int 1)]) (S' := [.int 5, .int 4, .ref 92]) (f' := (up1 f 92 (upd (upd (upd (upd (upd (f 92) 46 v) 45 ((f 92) 45)) 44 ((f 92) 44)) 43 ((f 92) 43)) 42 (f 92 42)))) rfl ?_
  refine wq_if (c := 4 = 5) (p1 := 226) (L1 := [(0, .ref 92), (1, .int 4), (2, .int v), (3, .int 1)]) (S1 := [.ref 92]) (p2 := 230) (L2 := [(0, .ref 92), (1, .int 4), (2, .int v), (3, .int 1)]) (S2 := [.ref 92]) rfl (fun q => absurd q (by decide)) (fun _ => ?_)
  refine wq_run2 (pc' := 234) (L' := [(0, .ref 92), (1, .int 4), (2, .int v), (3, .int 1)]) (S' := [.int ((f 92) 47), .ref 92]) (f' := (up1 f 92 (upd (upd (upd (upd (upd (f 92) 46 v) 45 ((f 92) 45)) 44 ((f 92) 44)) 43 ((f 92) 43)) 42 (f 92 42)))) rfl ?_
  refine wq_putI rfl rfl ?_
  refine wq_h (f' := (up1 f 92 (upd (upd (upd (upd (upd (upd (f 92) 47 ((f 92) 47)) 46 v) 45 ((f 92) 45)) 44 ((f 92) 44)) 43 ((f 92) 43)) 42 (f 92 42)))) ((up2_up1_eq f 92 (upd (upd (upd (upd (upd (f 92) 46 v) 45 ((f 92) 45)) 44 ((f 92) 44)) 43 ((f 92) 43)) 42 (f 92 42)) 47 ((f 92) 47)).trans (congrArg (fun z => up1 f 92 z) ((upd_sw (g := (upd (upd (upd (upd (f 92) 46 v) 45 ((f 92) 45)) 44 ((f 92) 44)) 43 ((f 92) 43))) (v := (f 92 42)) (w := ((f 92) 47)) (show (47 : Nat) ≠ 42 by decide)).trans (congrArg (fun z => upd z 42 (f 92 42)) ((upd_sw (g := (upd (upd (upd (f 92) 46 v) 45 ((f 92) 45)) 44 ((f 92) 44))) (v := ((f 92) 43)) (w := ((f 92) 47)) (show (47 : Nat) ≠ 43 by decide)).trans (congrArg (fun z => upd z 43 ((f 92) 43)) ((upd_sw (g := (upd (upd (f 92) 46 v) 45 ((f 92) 45))) (v := ((f 92) 44)) (w := ((f 92) 47)) (show (47 : Nat) ≠ 44 by decide)).trans (congrArg (fun z => upd z 44 ((f 92) 44)) ((upd_sw (g := (upd (f 92) 46 v)) (v := ((f 92) 45)) (w := ((f 92) 47)) (show (47 : Nat) ≠ 45 by decide)).trans (congrArg (fun z => upd z 45 ((f 92) 45)) ((upd_sw (g := (f 92)) (v := v) (w := ((f 92) 47)) (show (47 : Nat) ≠ 46 by decide)).trans (congrArg (fun z => upd z 46 v) (rfl))))))))))))) ?_
  refine wq_run3 (pc' := 241) (L' := [(0, .ref 92), (1, .int 4), (2, .int v), (3, .int 1)]) (S' := [.int 6, .int 4, .ref 92]) (f' := (up1 f 92 (upd (upd (upd (upd (upd (upd (f 92) 47 ((f 92) 47)) 46 v) 45 ((f 92) 45)) 44 ((f 92) 44)) 43 ((f 92) 43)) 42 (f 92 42)))) rfl ?_
  refine wq_if (c := 4 = 6) (p1 := 244) (L1 := [(0, .ref 92), (1, .int 4), (2, .int v), (3, .int 1)]) (S1 := [.ref 92]) (p2 := 248) (L2 := [(0, .ref 92), (1, .int 4), (2, .int v), (3, .int 1)]) (S2 := [.ref 92]) rfl (fun q => absurd q (by decide)) (fun _ => ?_)
  refine wq_run2 (pc' := 252) (L' := [(0, .ref 92), (1, .int 4), (2, .int v), (3, .int 1)]) (S' := [.int ((f 92) 48), .ref 92]) (f' := (up1 f 92 (upd (upd (upd (upd (upd (upd (f 92) 47 ((f 92) 47)) 46 v) 45 ((f 92) 45)) 44 ((f 92) 44)) 43 ((f 92) 43)) 42 (f 92 42)))) rfl ?_
  refine wq_putI rfl rfl ?_
  refine wq_h (f' := (up1 f 92 (upd (upd (upd (upd (upd (upd (upd (f 92) 48 ((f 92) 48)) 47 ((f 92) 47)) 46 v) 45 ((f 92) 45)) 44 ((f 92) 44)) 43 ((f 92) 43)) 42 (f 92 42)))) ((up2_up1_eq f 92 (upd (upd (upd (upd (upd (upd (f 92) 47 ((f 92) 47)) 46 v) 45 ((f 92) 45)) 44 ((f 92) 44)) 43 ((f 92) 43)) 42 (f 92 42)) 48 ((f 92) 48)).trans (congrArg (fun z => up1 f 92 z) ((upd_sw (g := (upd (upd (upd (upd (upd (f 92) 47 ((f 92) 47)) 46 v) 45 ((f 92) 45)) 44 ((f 92) 44)) 43 ((f 92) 43))) (v := (f 92 42)) (w := ((f 92) 48)) (show (48 : Nat) ≠ 42 by decide)).trans (congrArg (fun z => upd z 42 (f 92 42)) ((upd_sw (g := (upd (upd (upd (upd (f 92) 47 ((f 92) 47)) 46 v) 45 ((f 92) 45)) 44 ((f 92) 44))) (v := ((f 92) 43)) (w := ((f 92) 48)) (show (48 : Nat) ≠ 43 by decide)).trans (congrArg (fun z => upd z 43 ((f 92) 43)) ((upd_sw (g := (upd (upd (upd (f 92) 47 ((f 92) 47)) 46 v) 45 ((f 92) 45))) (v := ((f 92) 44)) (w := ((f 92) 48)) (show (48 : Nat) ≠ 44 by decide)).trans (congrArg (fun z => upd z 44 ((f 92) 44)) ((upd_sw (g := (upd (upd (f 92) 47 ((f 92) 47)) 46 v)) (v := ((f 92) 45)) (w := ((f 92) 48)) (show (48 : Nat) ≠ 45 by decide)).trans (congrArg (fun z => upd z 45 ((f 92) 45)) ((upd_sw (g := (upd (f 92) 47 ((f 92) 47))) (v := v) (w := ((f 92) 48)) (show (48 : Nat) ≠ 46 by decide)).trans (congrArg (fun z => upd z 46 v) ((upd_sw (g := (f 92)) (v := ((f 92) 47)) (w := ((f 92) 48)) (show (48 : Nat) ≠ 47 by decide)).trans (congrArg (fun z => upd z 47 ((f 92) 47)) (rfl))))))))))))))) ?_
  refine wq_run1 (pc' := 256) (L' := [(0, .ref 92), (1, .int 4), (2, .int v), (3, .int 1)]) (S' := [.int 1]) (f' := (up1 f 92 (upd (upd (upd (upd (upd (upd (upd (f 92) 48 ((f 92) 48)) 47 ((f 92) 47)) 46 v) 45 ((f 92) 45)) 44 ((f 92) 44)) 43 ((f 92) 43)) 42 (f 92 42)))) rfl ?_
  refine wq_ret rfl ⟨rfl, _, rfl, rfl, fun k hk => ?_⟩
  unfold upd
  by_cases e42 : k = 42
  · rw [if_pos e42, e42]
  rw [if_neg e42]
  by_cases e43 : k = 43
  · rw [if_pos e43, e43]
  rw [if_neg e43]
  by_cases e44 : k = 44
  · rw [if_pos e44, e44]
  rw [if_neg e44]
  by_cases e45 : k = 45
  · rw [if_pos e45, e45]
  rw [if_neg e45]
  by_cases e46 : k = 46
  · exact absurd e46 hk
  rw [if_neg e46]
  by_cases e47 : k = 47
  · rw [if_pos e47, e47]
  rw [if_neg e47]
  by_cases e48 : k = 48
  · rw [if_pos e48, e48]
  rw [if_neg e48]
theorem mp_set4n (f : HI) (v : Int32) (h1 : ¬ inR v 0 9) : Sp 2 179 [.ref 92, .int 4, .int v] f (Ret (-3) f) := by
  show wq 2 179 (Ret (-3) f) 0 [(0, .ref 92), (1, .int 4), (2, .int v)] [] f
  refine wq_run1 (pc' := 1) (L' := [(0, .ref 92), (1, .int 4), (2, .int v)]) (S' := [.int 4]) (f' := f) rfl ?_
  refine wq_if (c := 4 = 0) (p1 := 4) (L1 := [(0, .ref 92), (1, .int 4), (2, .int v)]) (S1 := []) (p2 := 16) (L2 := [(0, .ref 92), (1, .int 4), (2, .int v)]) (S2 := []) rfl (fun q => absurd q (by decide)) (fun _ => ?_)
  refine wq_run2 (pc' := 18) (L' := [(0, .ref 92), (1, .int 4), (2, .int v)]) (S' := [.int 1, .int 4]) (f' := f) rfl ?_
  refine wq_if (c := 4 = 1) (p1 := 21) (L1 := [(0, .ref 92), (1, .int 4), (2, .int v)]) (S1 := []) (p2 := 33) (L2 := [(0, .ref 92), (1, .int 4), (2, .int v)]) (S2 := []) rfl (fun q => absurd q (by decide)) (fun _ => ?_)
  refine wq_run2 (pc' := 35) (L' := [(0, .ref 92), (1, .int 4), (2, .int v)]) (S' := [.int 2, .int 4]) (f' := f) rfl ?_
  refine wq_if (c := 4 = 2) (p1 := 38) (L1 := [(0, .ref 92), (1, .int 4), (2, .int v)]) (S1 := []) (p2 := 50) (L2 := [(0, .ref 92), (1, .int 4), (2, .int v)]) (S2 := []) rfl (fun q => absurd q (by decide)) (fun _ => ?_)
  refine wq_run2 (pc' := 52) (L' := [(0, .ref 92), (1, .int 4), (2, .int v)]) (S' := [.int 3, .int 4]) (f' := f) rfl ?_
  refine wq_if (c := 4 = 3) (p1 := 55) (L1 := [(0, .ref 92), (1, .int 4), (2, .int v)]) (S1 := []) (p2 := 67) (L2 := [(0, .ref 92), (1, .int 4), (2, .int v)]) (S2 := []) rfl (fun q => absurd q (by decide)) (fun _ => ?_)
  refine wq_run2 (pc' := 69) (L' := [(0, .ref 92), (1, .int 4), (2, .int v)]) (S' := [.int 4, .int 4]) (f' := f) rfl ?_
  refine wq_if (c := 4 = 4) (p1 := 72) (L1 := [(0, .ref 92), (1, .int 4), (2, .int v)]) (S1 := []) (p2 := 84) (L2 := [(0, .ref 92), (1, .int 4), (2, .int v)]) (S2 := []) rfl (fun _ => ?_) (fun q => absurd (by decide) q)
  refine wq_run4 (pc' := 78) (L' := [(0, .ref 92), (1, .int 4), (2, .int v)]) (S' := [.long 9, .long 0, .long v.toInt64]) (f' := f) rfl ?_
  refine wq_callI (r := (b2i (inR v 0 9))) (mp_in f v 0 9) (Nat.le_of_ble_eq_true rfl) (pc' := 81) (L' := [(0, .ref 92), (1, .int 4), (2, .int v)]) (S' := []) rfl (Nat.le_of_ble_eq_true rfl) rfl rfl (Nat.le_of_ble_eq_true rfl) (Nat.le_of_ble_eq_true rfl) ?_
  refine wq_if (c := (b2i (inR v 0 9)) = 0) (p1 := 84) (L1 := [(0, .ref 92), (1, .int 4), (2, .int v)]) (S1 := []) (p2 := 123) (L2 := [(0, .ref 92), (1, .int 4), (2, .int v)]) (S2 := []) rfl (fun _ => ?_) (fun q => absurd (b2i_0.mpr h1) q)
  refine wq_run2 (pc' := 86) (L' := [(0, .ref 92), (1, .int 4), (2, .int v)]) (S' := [.int 5, .int 4]) (f' := f) rfl ?_
  refine wq_if (c := 4 = 5) (p1 := 89) (L1 := [(0, .ref 92), (1, .int 4), (2, .int v)]) (S1 := []) (p2 := 103) (L2 := [(0, .ref 92), (1, .int 4), (2, .int v)]) (S2 := []) rfl (fun q => absurd q (by decide)) (fun _ => ?_)
  refine wq_run2 (pc' := 106) (L' := [(0, .ref 92), (1, .int 4), (2, .int v)]) (S' := [.int 6, .int 4]) (f' := f) rfl ?_
  refine wq_if (c := 4 = 6) (p1 := 109) (L1 := [(0, .ref 92), (1, .int 4), (2, .int v)]) (S1 := []) (p2 := 127) (L2 := [(0, .ref 92), (1, .int 4), (2, .int v)]) (S2 := []) rfl (fun q => absurd q (by decide)) (fun _ => ?_)
  refine wq_run3 (pc' := 130) (L' := [(0, .ref 92), (1, .int 4), (2, .int v), (3, .int 0)]) (S' := [.int 0]) (f' := f) rfl ?_
  refine wq_if (c := 0 = 0) (p1 := 133) (L1 := [(0, .ref 92), (1, .int 4), (2, .int v), (3, .int 0)]) (S1 := []) (p2 := 136) (L2 := [(0, .ref 92), (1, .int 4), (2, .int v), (3, .int 0)]) (S2 := []) rfl (fun _ => ?_) (fun q => absurd (by decide) q)
  refine wq_run1 (pc' := 135) (L' := [(0, .ref 92), (1, .int 4), (2, .int v), (3, .int 0)]) (S' := [.int (-3)]) (f' := f) rfl ?_
  exact wq_ret rfl ⟨rfl, rfl⟩
theorem sp_set5 (f : HI) (v : Int32) (h1 : inR v (-1000000) 1000000) : Sp 2 99 [.ref 0, .int 5, .int v] f (Ret 1 (up2 f 1 5 v)) := by
  show wq 2 99 (Ret 1 (up2 f 1 5 v)) 0 [(0, .ref 0), (1, .int 5), (2, .int v)] [] f
  refine wq_run3 (pc' := 4) (L' := [(0, .ref 0), (1, .int 5), (2, .int v)]) (S' := [.int 6, .int 0, .int 5]) (f' := f) rfl ?_
  refine wq_callI (r := (b2i (inR 5 0 6))) (sp_within f 5 0 6) (Nat.le_of_ble_eq_true rfl) (pc' := 7) (L' := [(0, .ref 0), (1, .int 5), (2, .int v)]) (S' := []) rfl (Nat.le_of_ble_eq_true rfl) rfl rfl (Nat.le_of_ble_eq_true rfl) (Nat.le_of_ble_eq_true rfl) ?_
  refine wq_if (c := (b2i (inR 5 0 6)) = 0) (p1 := 27) (L1 := [(0, .ref 0), (1, .int 5), (2, .int v)]) (S1 := []) (p2 := 10) (L2 := [(0, .ref 0), (1, .int 5), (2, .int v)]) (S2 := []) rfl (fun q => absurd q (b2i_n0.mpr (by decide))) (fun _ => ?_)
  refine wq_run3 (pc' := 15) (L' := [(0, .ref 0), (1, .int 5), (2, .int v)]) (S' := [.int 5, .ref 4000002, .int v]) (f' := f) rfl ?_
  refine wq_tabL (k0 := 2) (j := 5) (v := (-1000000)) rfl rfl ⟨Nat.le_of_ble_eq_true rfl, Nat.le_of_ble_eq_true rfl⟩ rfl ?_
  refine wq_run2 (pc' := 20) (L' := [(0, .ref 0), (1, .int 5), (2, .int v)]) (S' := [.int 5, .ref 4000003, .int (-1000000), .int v]) (f' := f) rfl ?_
  refine wq_tabL (k0 := 3) (j := 5) (v := 1000000) rfl rfl ⟨Nat.le_of_ble_eq_true rfl, Nat.le_of_ble_eq_true rfl⟩ rfl ?_
  refine wq_callI (r := (b2i (inR v (-1000000) 1000000))) (sp_within f v (-1000000) 1000000) (Nat.le_of_ble_eq_true rfl) (pc' := 24) (L' := [(0, .ref 0), (1, .int 5), (2, .int v)]) (S' := []) rfl (Nat.le_of_ble_eq_true rfl) rfl rfl (Nat.le_of_ble_eq_true rfl) (Nat.le_of_ble_eq_true rfl) ?_
  refine wq_if (c := (b2i (inR v (-1000000) 1000000)) = 0) (p1 := 27) (L1 := [(0, .ref 0), (1, .int 5), (2, .int v)]) (S1 := []) (p2 := 30) (L2 := [(0, .ref 0), (1, .int 5), (2, .int v)]) (S2 := []) rfl (fun q => absurd q (b2i_n0.mpr h1)) (fun _ => ?_)
  refine wq_run4 (pc' := 36) (L' := [(0, .ref 0), (1, .int 5), (2, .int v)]) (S' := [.int v, .int 5, .ref 1]) (f' := f) rfl ?_
  refine wq_ist (j := 5) (n := 7) rfl rfl rfl rfl (Nat.le_of_ble_eq_true rfl) (Nat.le_of_ble_eq_true rfl) ?_
  refine wq_run1 (pc' := 38) (L' := [(0, .ref 0), (1, .int 5), (2, .int v)]) (S' := [.int 1]) (f' := (up2 f 1 5 v)) rfl ?_
  exact wq_ret rfl ⟨rfl, rfl⟩
theorem sp_set5n (f : HI) (v : Int32) (h1 : ¬ inR v (-1000000) 1000000) : Sp 2 99 [.ref 0, .int 5, .int v] f (Ret (-3) f) := by
  show wq 2 99 (Ret (-3) f) 0 [(0, .ref 0), (1, .int 5), (2, .int v)] [] f
  refine wq_run3 (pc' := 4) (L' := [(0, .ref 0), (1, .int 5), (2, .int v)]) (S' := [.int 6, .int 0, .int 5]) (f' := f) rfl ?_
  refine wq_callI (r := (b2i (inR 5 0 6))) (sp_within f 5 0 6) (Nat.le_of_ble_eq_true rfl) (pc' := 7) (L' := [(0, .ref 0), (1, .int 5), (2, .int v)]) (S' := []) rfl (Nat.le_of_ble_eq_true rfl) rfl rfl (Nat.le_of_ble_eq_true rfl) (Nat.le_of_ble_eq_true rfl) ?_
  refine wq_if (c := (b2i (inR 5 0 6)) = 0) (p1 := 27) (L1 := [(0, .ref 0), (1, .int 5), (2, .int v)]) (S1 := []) (p2 := 10) (L2 := [(0, .ref 0), (1, .int 5), (2, .int v)]) (S2 := []) rfl (fun q => absurd q (b2i_n0.mpr (by decide))) (fun _ => ?_)
  refine wq_run3 (pc' := 15) (L' := [(0, .ref 0), (1, .int 5), (2, .int v)]) (S' := [.int 5, .ref 4000002, .int v]) (f' := f) rfl ?_
  refine wq_tabL (k0 := 2) (j := 5) (v := (-1000000)) rfl rfl ⟨Nat.le_of_ble_eq_true rfl, Nat.le_of_ble_eq_true rfl⟩ rfl ?_
  refine wq_run2 (pc' := 20) (L' := [(0, .ref 0), (1, .int 5), (2, .int v)]) (S' := [.int 5, .ref 4000003, .int (-1000000), .int v]) (f' := f) rfl ?_
  refine wq_tabL (k0 := 3) (j := 5) (v := 1000000) rfl rfl ⟨Nat.le_of_ble_eq_true rfl, Nat.le_of_ble_eq_true rfl⟩ rfl ?_
  refine wq_callI (r := (b2i (inR v (-1000000) 1000000))) (sp_within f v (-1000000) 1000000) (Nat.le_of_ble_eq_true rfl) (pc' := 24) (L' := [(0, .ref 0), (1, .int 5), (2, .int v)]) (S' := []) rfl (Nat.le_of_ble_eq_true rfl) rfl rfl (Nat.le_of_ble_eq_true rfl) (Nat.le_of_ble_eq_true rfl) ?_
  refine wq_if (c := (b2i (inR v (-1000000) 1000000)) = 0) (p1 := 27) (L1 := [(0, .ref 0), (1, .int 5), (2, .int v)]) (S1 := []) (p2 := 30) (L2 := [(0, .ref 0), (1, .int 5), (2, .int v)]) (S2 := []) rfl (fun _ => ?_) (fun q => absurd (b2i_0.mpr h1) q)
  refine wq_run1 (pc' := 29) (L' := [(0, .ref 0), (1, .int 5), (2, .int v)]) (S' := [.int (-3)]) (f' := f) rfl ?_
  exact wq_ret rfl ⟨rfl, rfl⟩
theorem mp_set5 (f : HI) (v : Int32) (h1 : inR v (-1000000) 1000000) : Sp 2 179 [.ref 92, .int 5, .int v] f (fun v' f' => v' = some (.int 1) ∧ ∃ g, f' = up1 f 92 g ∧ g 47 = v ∧ ∀ k, k ≠ 47 → g k = f 92 k) := by
  show wq 2 179 (fun v' f' => v' = some (.int 1) ∧ ∃ g, f' = up1 f 92 g ∧ g 47 = v ∧ ∀ k, k ≠ 47 → g k = f 92 k) 0 [(0, .ref 92), (1, .int 5), (2, .int v)] [] f
  refine wq_run1 (pc' := 1) (L' := [(0, .ref 92), (1, .int 5), (2, .int v)]) (S' := [.int 5]) (f' := f) rfl ?_
  refine wq_if (c := 5 = 0) (p1 := 4) (L1 := [(0, .ref 92), (1, .int 5), (2, .int v)]) (S1 := []) (p2 := 16) (L2 := [(0, .ref 92), (1, .int 5), (2, .int v)]) (S2 := []) rfl (fun q => absurd q (by decide)) (fun _ => ?_)
  refine wq_run2 (pc' := 18) (L' := [(0, .ref 92), (1, .int 5), (2, .int v)]) (S' := [.int 1, .int 5]) (f' := f) rfl ?_
  refine wq_if (c := 5 = 1) (p1 := 21) (L1 := [(0, .ref 92), (1, .int 5), (2, .int v)]) (S1 := []) (p2 := 33) (L2 := [(0, .ref 92), (1, .int 5), (2, .int v)]) (S2 := []) rfl (fun q => absurd q (by decide)) (fun _ => ?_)
  refine wq_run2 (pc' := 35) (L' := [(0, .ref 92), (1, .int 5), (2, .int v)]) (S' := [.int 2, .int 5]) (f' := f) rfl ?_
  refine wq_if (c := 5 = 2) (p1 := 38) (L1 := [(0, .ref 92), (1, .int 5), (2, .int v)]) (S1 := []) (p2 := 50) (L2 := [(0, .ref 92), (1, .int 5), (2, .int v)]) (S2 := []) rfl (fun q => absurd q (by decide)) (fun _ => ?_)
  refine wq_run2 (pc' := 52) (L' := [(0, .ref 92), (1, .int 5), (2, .int v)]) (S' := [.int 3, .int 5]) (f' := f) rfl ?_
  refine wq_if (c := 5 = 3) (p1 := 55) (L1 := [(0, .ref 92), (1, .int 5), (2, .int v)]) (S1 := []) (p2 := 67) (L2 := [(0, .ref 92), (1, .int 5), (2, .int v)]) (S2 := []) rfl (fun q => absurd q (by decide)) (fun _ => ?_)
  refine wq_run2 (pc' := 69) (L' := [(0, .ref 92), (1, .int 5), (2, .int v)]) (S' := [.int 4, .int 5]) (f' := f) rfl ?_
  refine wq_if (c := 5 = 4) (p1 := 72) (L1 := [(0, .ref 92), (1, .int 5), (2, .int v)]) (S1 := []) (p2 := 84) (L2 := [(0, .ref 92), (1, .int 5), (2, .int v)]) (S2 := []) rfl (fun q => absurd q (by decide)) (fun _ => ?_)
  refine wq_run2 (pc' := 86) (L' := [(0, .ref 92), (1, .int 5), (2, .int v)]) (S' := [.int 5, .int 5]) (f' := f) rfl ?_
  refine wq_if (c := 5 = 5) (p1 := 89) (L1 := [(0, .ref 92), (1, .int 5), (2, .int v)]) (S1 := []) (p2 := 103) (L2 := [(0, .ref 92), (1, .int 5), (2, .int v)]) (S2 := []) rfl (fun _ => ?_) (fun q => absurd (by decide) q)
  refine wq_run4 (pc' := 97) (L' := [(0, .ref 92), (1, .int 5), (2, .int v)]) (S' := [.long 1000000, .long (-1000000), .long v.toInt64]) (f' := f) rfl ?_
  refine wq_callI (r := (b2i (inR v (-1000000) 1000000))) (mp_in f v (-1000000) 1000000) (Nat.le_of_ble_eq_true rfl) (pc' := 100) (L' := [(0, .ref 92), (1, .int 5), (2, .int v)]) (S' := []) rfl (Nat.le_of_ble_eq_true rfl) rfl rfl (Nat.le_of_ble_eq_true rfl) (Nat.le_of_ble_eq_true rfl) ?_
  refine wq_if (c := (b2i (inR v (-1000000) 1000000)) = 0) (p1 := 103) (L1 := [(0, .ref 92), (1, .int 5), (2, .int v)]) (S1 := []) (p2 := 123) (L2 := [(0, .ref 92), (1, .int 5), (2, .int v)]) (S2 := []) rfl (fun q => absurd q (b2i_n0.mpr h1)) (fun _ => ?_)
  refine wq_run4 (pc' := 130) (L' := [(0, .ref 92), (1, .int 5), (2, .int v), (3, .int 1)]) (S' := [.int 1]) (f' := f) rfl ?_
  refine wq_if (c := 1 = 0) (p1 := 133) (L1 := [(0, .ref 92), (1, .int 5), (2, .int v), (3, .int 1)]) (S1 := []) (p2 := 136) (L2 := [(0, .ref 92), (1, .int 5), (2, .int v), (3, .int 1)]) (S2 := []) rfl (fun q => absurd q (by decide)) (fun _ => ?_)
  refine wq_run2 (pc' := 138) (L' := [(0, .ref 92), (1, .int 5), (2, .int v), (3, .int 1)]) (S' := [.int 5, .ref 92]) (f' := f) rfl ?_
  refine wq_if (c := 5 = 0) (p1 := 141) (L1 := [(0, .ref 92), (1, .int 5), (2, .int v), (3, .int 1)]) (S1 := [.ref 92]) (p2 := 145) (L2 := [(0, .ref 92), (1, .int 5), (2, .int v), (3, .int 1)]) (S2 := [.ref 92]) rfl (fun q => absurd q (by decide)) (fun _ => ?_)
  refine wq_run2 (pc' := 149) (L' := [(0, .ref 92), (1, .int 5), (2, .int v), (3, .int 1)]) (S' := [.int (f 92 42), .ref 92]) (f' := f) rfl ?_
  refine wq_putI rfl rfl ?_
  refine wq_h (f' := (up1 f 92 (upd (f 92) 42 (f 92 42)))) (up2_eq1 f 92 42 (f 92 42)) ?_
  refine wq_run3 (pc' := 155) (L' := [(0, .ref 92), (1, .int 5), (2, .int v), (3, .int 1)]) (S' := [.int 1, .int 5, .ref 92]) (f' := (up1 f 92 (upd (f 92) 42 (f 92 42)))) rfl ?_
  refine wq_if (c := 5 = 1) (p1 := 158) (L1 := [(0, .ref 92), (1, .int 5), (2, .int v), (3, .int 1)]) (S1 := [.ref 92]) (p2 := 162) (L2 := [(0, .ref 92), (1, .int 5), (2, .int v), (3, .int 1)]) (S2 := [.ref 92]) rfl (fun q => absurd q (by decide)) (fun _ => ?_)
  refine wq_run2 (pc' := 166) (L' := [(0, .ref 92), (1, .int 5), (2, .int v), (3, .int 1)]) (S' := [.int ((f 92) 43), .ref 92]) (f' := (up1 f 92 (upd (f 92) 42 (f 92 42)))) rfl ?_
  refine wq_putI rfl rfl ?_
  refine wq_h (f' := (up1 f 92 (upd (upd (f 92) 43 ((f 92) 43)) 42 (f 92 42)))) ((up2_up1_eq f 92 (upd (f 92) 42 (f 92 42)) 43 ((f 92) 43)).trans (congrArg (fun z => up1 f 92 z) ((upd_sw (g := (f 92)) (v := (f 92 42)) (w := ((f 92) 43)) (show (43 : Nat) ≠ 42 by decide)).trans (congrArg (fun z => upd z 42 (f 92 42)) (rfl))))) ?_
  refine wq_run3 (pc' := 172) (L' := [(0, .ref 92), (1, .int 5), (2, .int v), (3, .int 1)]) (S' := [.int 2, .int 5, .ref 92]) (f' := (up1 f 92 (upd (upd (f 92) 43 ((f 92) 43)) 42 (f 92 42)))) rfl ?_
  refine wq_if (c := 5 = 2) (p1 := 175) (L1 := [(0, .ref 92), (1, .int 5), (2, .int v), (3, .int 1)]) (S1 := [.ref 92]) (p2 := 179) (L2 := [(0, .ref 92), (1, .int 5), (2, .int v), (3, .int 1)]) (S2 := [.ref 92]) rfl (fun q => absurd q (by decide)) (fun _ => ?_)
  refine wq_run2 (pc' := 183) (L' := [(0, .ref 92), (1, .int 5), (2, .int v), (3, .int 1)]) (S' := [.int ((f 92) 44), .ref 92]) (f' := (up1 f 92 (upd (upd (f 92) 43 ((f 92) 43)) 42 (f 92 42)))) rfl ?_
  refine wq_putI rfl rfl ?_
  refine wq_h (f' := (up1 f 92 (upd (upd (upd (f 92) 44 ((f 92) 44)) 43 ((f 92) 43)) 42 (f 92 42)))) ((up2_up1_eq f 92 (upd (upd (f 92) 43 ((f 92) 43)) 42 (f 92 42)) 44 ((f 92) 44)).trans (congrArg (fun z => up1 f 92 z) ((upd_sw (g := (upd (f 92) 43 ((f 92) 43))) (v := (f 92 42)) (w := ((f 92) 44)) (show (44 : Nat) ≠ 42 by decide)).trans (congrArg (fun z => upd z 42 (f 92 42)) ((upd_sw (g := (f 92)) (v := ((f 92) 43)) (w := ((f 92) 44)) (show (44 : Nat) ≠ 43 by decide)).trans (congrArg (fun z => upd z 43 ((f 92) 43)) (rfl))))))) ?_
  refine wq_run3 (pc' := 189) (L' := [(0, .ref 92), (1, .int 5), (2, .int v), (3, .int 1)]) (S' := [.int 3, .int 5, .ref 92]) (f' := (up1 f 92 (upd (upd (upd (f 92) 44 ((f 92) 44)) 43 ((f 92) 43)) 42 (f 92 42)))) rfl ?_
  refine wq_if (c := 5 = 3) (p1 := 192) (L1 := [(0, .ref 92), (1, .int 5), (2, .int v), (3, .int 1)]) (S1 := [.ref 92]) (p2 := 196) (L2 := [(0, .ref 92), (1, .int 5), (2, .int v), (3, .int 1)]) (S2 := [.ref 92]) rfl (fun q => absurd q (by decide)) (fun _ => ?_)
  refine wq_run2 (pc' := 200) (L' := [(0, .ref 92), (1, .int 5), (2, .int v), (3, .int 1)]) (S' := [.int ((f 92) 45), .ref 92]) (f' := (up1 f 92 (upd (upd (upd (f 92) 44 ((f 92) 44)) 43 ((f 92) 43)) 42 (f 92 42)))) rfl ?_
  refine wq_putI rfl rfl ?_
  refine wq_h (f' := (up1 f 92 (upd (upd (upd (upd (f 92) 45 ((f 92) 45)) 44 ((f 92) 44)) 43 ((f 92) 43)) 42 (f 92 42)))) ((up2_up1_eq f 92 (upd (upd (upd (f 92) 44 ((f 92) 44)) 43 ((f 92) 43)) 42 (f 92 42)) 45 ((f 92) 45)).trans (congrArg (fun z => up1 f 92 z) ((upd_sw (g := (upd (upd (f 92) 44 ((f 92) 44)) 43 ((f 92) 43))) (v := (f 92 42)) (w := ((f 92) 45)) (show (45 : Nat) ≠ 42 by decide)).trans (congrArg (fun z => upd z 42 (f 92 42)) ((upd_sw (g := (upd (f 92) 44 ((f 92) 44))) (v := ((f 92) 43)) (w := ((f 92) 45)) (show (45 : Nat) ≠ 43 by decide)).trans (congrArg (fun z => upd z 43 ((f 92) 43)) ((upd_sw (g := (f 92)) (v := ((f 92) 44)) (w := ((f 92) 45)) (show (45 : Nat) ≠ 44 by decide)).trans (congrArg (fun z => upd z 44 ((f 92) 44)) (rfl))))))))) ?_
  refine wq_run3 (pc' := 206) (L' := [(0, .ref 92), (1, .int 5), (2, .int v), (3, .int 1)]) (S' := [.int 4, .int 5, .ref 92]) (f' := (up1 f 92 (upd (upd (upd (upd (f 92) 45 ((f 92) 45)) 44 ((f 92) 44)) 43 ((f 92) 43)) 42 (f 92 42)))) rfl ?_
  refine wq_if (c := 5 = 4) (p1 := 209) (L1 := [(0, .ref 92), (1, .int 5), (2, .int v), (3, .int 1)]) (S1 := [.ref 92]) (p2 := 213) (L2 := [(0, .ref 92), (1, .int 5), (2, .int v), (3, .int 1)]) (S2 := [.ref 92]) rfl (fun q => absurd q (by decide)) (fun _ => ?_)
  refine wq_run2 (pc' := 217) (L' := [(0, .ref 92), (1, .int 5), (2, .int v), (3, .int 1)]) (S' := [.int ((f 92) 46), .ref 92]) (f' := (up1 f 92 (upd (upd (upd (upd (f 92) 45 ((f 92) 45)) 44 ((f 92) 44)) 43 ((f 92) 43)) 42 (f 92 42)))) rfl ?_
  refine wq_putI rfl rfl ?_
  refine wq_h (f' := (up1 f 92 (upd (upd (upd (upd (upd (f 92) 46 ((f 92) 46)) 45 ((f 92) 45)) 44 ((f 92) 44)) 43 ((f 92) 43)) 42 (f 92 42)))) ((up2_up1_eq f 92 (upd (upd (upd (upd (f 92) 45 ((f 92) 45)) 44 ((f 92) 44)) 43 ((f 92) 43)) 42 (f 92 42)) 46 ((f 92) 46)).trans (congrArg (fun z => up1 f 92 z) ((upd_sw (g := (upd (upd (upd (f 92) 45 ((f 92) 45)) 44 ((f 92) 44)) 43 ((f 92) 43))) (v := (f 92 42)) (w := ((f 92) 46)) (show (46 : Nat) ≠ 42 by decide)).trans (congrArg (fun z => upd z 42 (f 92 42)) ((upd_sw (g := (upd (upd (f 92) 45 ((f 92) 45)) 44 ((f 92) 44))) (v := ((f 92) 43)) (w := ((f 92) 46)) (show (46 : Nat) ≠ 43 by decide)).trans (congrArg (fun z => upd z 43 ((f 92) 43)) ((upd_sw (g := (upd (f 92) 45 ((f 92) 45))) (v := ((f 92) 44)) (w := ((f 92) 46)) (show (46 : Nat) ≠ 44 by decide)).trans (congrArg (fun z => upd z 44 ((f 92) 44)) ((upd_sw (g := (f 92)) (v := ((f 92) 45)) (w := ((f 92) 46)) (show (46 : Nat) ≠ 45 by decide)).trans (congrArg (fun z => upd z 45 ((f 92) 45)) (rfl))))))))))) ?_
  refine wq_run3 (pc' := 223) (L' := [(0, .ref 92), (1, .int 5), (2, .int v), (3, .int 1)]) (S' := [.int 5, .int 5, .ref 92]) (f' := (up1 f 92 (upd (upd (upd (upd (upd (f 92) 46 ((f 92) 46)) 45 ((f 92) 45)) 44 ((f 92) 44)) 43 ((f 92) 43)) 42 (f 92 42)))) rfl ?_
  refine wq_if (c := 5 = 5) (p1 := 226) (L1 := [(0, .ref 92), (1, .int 5), (2, .int v), (3, .int 1)]) (S1 := [.ref 92]) (p2 := 230) (L2 := [(0, .ref 92), (1, .int 5), (2, .int v), (3, .int 1)]) (S2 := [.ref 92]) rfl (fun _ => ?_) (fun q => absurd (by decide) q)
  refine wq_run2 (pc' := 234) (L' := [(0, .ref 92), (1, .int 5), (2, .int v), (3, .int 1)]) (S' := [.int v, .ref 92]) (f' := (up1 f 92 (upd (upd (upd (upd (upd (f 92) 46 ((f 92) 46)) 45 ((f 92) 45)) 44 ((f 92) 44)) 43 ((f 92) 43)) 42 (f 92 42)))) rfl ?_
  refine wq_putI rfl rfl ?_
  refine wq_h (f' := (up1 f 92 (upd (upd (upd (upd (upd (upd (f 92) 47 v) 46 ((f 92) 46)) 45 ((f 92) 45)) 44 ((f 92) 44)) 43 ((f 92) 43)) 42 (f 92 42)))) ((up2_up1_eq f 92 (upd (upd (upd (upd (upd (f 92) 46 ((f 92) 46)) 45 ((f 92) 45)) 44 ((f 92) 44)) 43 ((f 92) 43)) 42 (f 92 42)) 47 v).trans (congrArg (fun z => up1 f 92 z) ((upd_sw (g := (upd (upd (upd (upd (f 92) 46 ((f 92) 46)) 45 ((f 92) 45)) 44 ((f 92) 44)) 43 ((f 92) 43))) (v := (f 92 42)) (w := v) (show (47 : Nat) ≠ 42 by decide)).trans (congrArg (fun z => upd z 42 (f 92 42)) ((upd_sw (g := (upd (upd (upd (f 92) 46 ((f 92) 46)) 45 ((f 92) 45)) 44 ((f 92) 44))) (v := ((f 92) 43)) (w := v) (show (47 : Nat) ≠ 43 by decide)).trans (congrArg (fun z => upd z 43 ((f 92) 43)) ((upd_sw (g := (upd (upd (f 92) 46 ((f 92) 46)) 45 ((f 92) 45))) (v := ((f 92) 44)) (w := v) (show (47 : Nat) ≠ 44 by decide)).trans (congrArg (fun z => upd z 44 ((f 92) 44)) ((upd_sw (g := (upd (f 92) 46 ((f 92) 46))) (v := ((f 92) 45)) (w := v) (show (47 : Nat) ≠ 45 by decide)).trans (congrArg (fun z => upd z 45 ((f 92) 45)) ((upd_sw (g := (f 92)) (v := ((f 92) 46)) (w := v) (show (47 : Nat) ≠ 46 by decide)).trans (congrArg (fun z => upd z 46 ((f 92) 46)) (rfl))))))))))))) ?_
  refine wq_run3 (pc' := 241) (L' := [(0, .ref 92), (1, .int 5), (2, .int v), (3, .int 1)]) (S' := [.int 6, .int 5, .ref 92]) (f' := (up1 f 92 (upd (upd (upd (upd (upd (upd (f 92) 47 v) 46 ((f 92) 46)) 45 ((f 92) 45)) 44 ((f 92) 44)) 43 ((f 92) 43)) 42 (f 92 42)))) rfl ?_
  refine wq_if (c := 5 = 6) (p1 := 244) (L1 := [(0, .ref 92), (1, .int 5), (2, .int v), (3, .int 1)]) (S1 := [.ref 92]) (p2 := 248) (L2 := [(0, .ref 92), (1, .int 5), (2, .int v), (3, .int 1)]) (S2 := [.ref 92]) rfl (fun q => absurd q (by decide)) (fun _ => ?_)
  refine wq_run2 (pc' := 252) (L' := [(0, .ref 92), (1, .int 5), (2, .int v), (3, .int 1)]) (S' := [.int ((f 92) 48), .ref 92]) (f' := (up1 f 92 (upd (upd (upd (upd (upd (upd (f 92) 47 v) 46 ((f 92) 46)) 45 ((f 92) 45)) 44 ((f 92) 44)) 43 ((f 92) 43)) 42 (f 92 42)))) rfl ?_
  refine wq_putI rfl rfl ?_
  refine wq_h (f' := (up1 f 92 (upd (upd (upd (upd (upd (upd (upd (f 92) 48 ((f 92) 48)) 47 v) 46 ((f 92) 46)) 45 ((f 92) 45)) 44 ((f 92) 44)) 43 ((f 92) 43)) 42 (f 92 42)))) ((up2_up1_eq f 92 (upd (upd (upd (upd (upd (upd (f 92) 47 v) 46 ((f 92) 46)) 45 ((f 92) 45)) 44 ((f 92) 44)) 43 ((f 92) 43)) 42 (f 92 42)) 48 ((f 92) 48)).trans (congrArg (fun z => up1 f 92 z) ((upd_sw (g := (upd (upd (upd (upd (upd (f 92) 47 v) 46 ((f 92) 46)) 45 ((f 92) 45)) 44 ((f 92) 44)) 43 ((f 92) 43))) (v := (f 92 42)) (w := ((f 92) 48)) (show (48 : Nat) ≠ 42 by decide)).trans (congrArg (fun z => upd z 42 (f 92 42)) ((upd_sw (g := (upd (upd (upd (upd (f 92) 47 v) 46 ((f 92) 46)) 45 ((f 92) 45)) 44 ((f 92) 44))) (v := ((f 92) 43)) (w := ((f 92) 48)) (show (48 : Nat) ≠ 43 by decide)).trans (congrArg (fun z => upd z 43 ((f 92) 43)) ((upd_sw (g := (upd (upd (upd (f 92) 47 v) 46 ((f 92) 46)) 45 ((f 92) 45))) (v := ((f 92) 44)) (w := ((f 92) 48)) (show (48 : Nat) ≠ 44 by decide)).trans (congrArg (fun z => upd z 44 ((f 92) 44)) ((upd_sw (g := (upd (upd (f 92) 47 v) 46 ((f 92) 46))) (v := ((f 92) 45)) (w := ((f 92) 48)) (show (48 : Nat) ≠ 45 by decide)).trans (congrArg (fun z => upd z 45 ((f 92) 45)) ((upd_sw (g := (upd (f 92) 47 v)) (v := ((f 92) 46)) (w := ((f 92) 48)) (show (48 : Nat) ≠ 46 by decide)).trans (congrArg (fun z => upd z 46 ((f 92) 46)) ((upd_sw (g := (f 92)) (v := v) (w := ((f 92) 48)) (show (48 : Nat) ≠ 47 by decide)).trans (congrArg (fun z => upd z 47 v) (rfl))))))))))))))) ?_
  refine wq_run1 (pc' := 256) (L' := [(0, .ref 92), (1, .int 5), (2, .int v), (3, .int 1)]) (S' := [.int 1]) (f' := (up1 f 92 (upd (upd (upd (upd (upd (upd (upd (f 92) 48 ((f 92) 48)) 47 v) 46 ((f 92) 46)) 45 ((f 92) 45)) 44 ((f 92) 44)) 43 ((f 92) 43)) 42 (f 92 42)))) rfl ?_
  refine wq_ret rfl ⟨rfl, _, rfl, rfl, fun k hk => ?_⟩
  unfold upd
  by_cases e42 : k = 42
  · rw [if_pos e42, e42]
  rw [if_neg e42]
  by_cases e43 : k = 43
  · rw [if_pos e43, e43]
  rw [if_neg e43]
  by_cases e44 : k = 44
  · rw [if_pos e44, e44]
  rw [if_neg e44]
  by_cases e45 : k = 45
  · rw [if_pos e45, e45]
  rw [if_neg e45]
  by_cases e46 : k = 46
  · rw [if_pos e46, e46]
  rw [if_neg e46]
  by_cases e47 : k = 47
  · exact absurd e47 hk
  rw [if_neg e47]
  by_cases e48 : k = 48
  · rw [if_pos e48, e48]
  rw [if_neg e48]
theorem mp_set5n (f : HI) (v : Int32) (h1 : ¬ inR v (-1000000) 1000000) : Sp 2 179 [.ref 92, .int 5, .int v] f (Ret (-3) f) := by
  show wq 2 179 (Ret (-3) f) 0 [(0, .ref 92), (1, .int 5), (2, .int v)] [] f
  refine wq_run1 (pc' := 1) (L' := [(0, .ref 92), (1, .int 5), (2, .int v)]) (S' := [.int 5]) (f' := f) rfl ?_
  refine wq_if (c := 5 = 0) (p1 := 4) (L1 := [(0, .ref 92), (1, .int 5), (2, .int v)]) (S1 := []) (p2 := 16) (L2 := [(0, .ref 92), (1, .int 5), (2, .int v)]) (S2 := []) rfl (fun q => absurd q (by decide)) (fun _ => ?_)
  refine wq_run2 (pc' := 18) (L' := [(0, .ref 92), (1, .int 5), (2, .int v)]) (S' := [.int 1, .int 5]) (f' := f) rfl ?_
  refine wq_if (c := 5 = 1) (p1 := 21) (L1 := [(0, .ref 92), (1, .int 5), (2, .int v)]) (S1 := []) (p2 := 33) (L2 := [(0, .ref 92), (1, .int 5), (2, .int v)]) (S2 := []) rfl (fun q => absurd q (by decide)) (fun _ => ?_)
  refine wq_run2 (pc' := 35) (L' := [(0, .ref 92), (1, .int 5), (2, .int v)]) (S' := [.int 2, .int 5]) (f' := f) rfl ?_
  refine wq_if (c := 5 = 2) (p1 := 38) (L1 := [(0, .ref 92), (1, .int 5), (2, .int v)]) (S1 := []) (p2 := 50) (L2 := [(0, .ref 92), (1, .int 5), (2, .int v)]) (S2 := []) rfl (fun q => absurd q (by decide)) (fun _ => ?_)
  refine wq_run2 (pc' := 52) (L' := [(0, .ref 92), (1, .int 5), (2, .int v)]) (S' := [.int 3, .int 5]) (f' := f) rfl ?_
  refine wq_if (c := 5 = 3) (p1 := 55) (L1 := [(0, .ref 92), (1, .int 5), (2, .int v)]) (S1 := []) (p2 := 67) (L2 := [(0, .ref 92), (1, .int 5), (2, .int v)]) (S2 := []) rfl (fun q => absurd q (by decide)) (fun _ => ?_)
  refine wq_run2 (pc' := 69) (L' := [(0, .ref 92), (1, .int 5), (2, .int v)]) (S' := [.int 4, .int 5]) (f' := f) rfl ?_
  refine wq_if (c := 5 = 4) (p1 := 72) (L1 := [(0, .ref 92), (1, .int 5), (2, .int v)]) (S1 := []) (p2 := 84) (L2 := [(0, .ref 92), (1, .int 5), (2, .int v)]) (S2 := []) rfl (fun q => absurd q (by decide)) (fun _ => ?_)
  refine wq_run2 (pc' := 86) (L' := [(0, .ref 92), (1, .int 5), (2, .int v)]) (S' := [.int 5, .int 5]) (f' := f) rfl ?_
  refine wq_if (c := 5 = 5) (p1 := 89) (L1 := [(0, .ref 92), (1, .int 5), (2, .int v)]) (S1 := []) (p2 := 103) (L2 := [(0, .ref 92), (1, .int 5), (2, .int v)]) (S2 := []) rfl (fun _ => ?_) (fun q => absurd (by decide) q)
  refine wq_run4 (pc' := 97) (L' := [(0, .ref 92), (1, .int 5), (2, .int v)]) (S' := [.long 1000000, .long (-1000000), .long v.toInt64]) (f' := f) rfl ?_
  refine wq_callI (r := (b2i (inR v (-1000000) 1000000))) (mp_in f v (-1000000) 1000000) (Nat.le_of_ble_eq_true rfl) (pc' := 100) (L' := [(0, .ref 92), (1, .int 5), (2, .int v)]) (S' := []) rfl (Nat.le_of_ble_eq_true rfl) rfl rfl (Nat.le_of_ble_eq_true rfl) (Nat.le_of_ble_eq_true rfl) ?_
  refine wq_if (c := (b2i (inR v (-1000000) 1000000)) = 0) (p1 := 103) (L1 := [(0, .ref 92), (1, .int 5), (2, .int v)]) (S1 := []) (p2 := 123) (L2 := [(0, .ref 92), (1, .int 5), (2, .int v)]) (S2 := []) rfl (fun _ => ?_) (fun q => absurd (b2i_0.mpr h1) q)
  refine wq_run2 (pc' := 106) (L' := [(0, .ref 92), (1, .int 5), (2, .int v)]) (S' := [.int 6, .int 5]) (f' := f) rfl ?_
  refine wq_if (c := 5 = 6) (p1 := 109) (L1 := [(0, .ref 92), (1, .int 5), (2, .int v)]) (S1 := []) (p2 := 127) (L2 := [(0, .ref 92), (1, .int 5), (2, .int v)]) (S2 := []) rfl (fun q => absurd q (by decide)) (fun _ => ?_)
  refine wq_run3 (pc' := 130) (L' := [(0, .ref 92), (1, .int 5), (2, .int v), (3, .int 0)]) (S' := [.int 0]) (f' := f) rfl ?_
  refine wq_if (c := 0 = 0) (p1 := 133) (L1 := [(0, .ref 92), (1, .int 5), (2, .int v), (3, .int 0)]) (S1 := []) (p2 := 136) (L2 := [(0, .ref 92), (1, .int 5), (2, .int v), (3, .int 0)]) (S2 := []) rfl (fun _ => ?_) (fun q => absurd (by decide) q)
  refine wq_run1 (pc' := 135) (L' := [(0, .ref 92), (1, .int 5), (2, .int v), (3, .int 0)]) (S' := [.int (-3)]) (f' := f) rfl ?_
  exact wq_ret rfl ⟨rfl, rfl⟩
theorem sp_set6 (f : HI) (v : Int32) (h1 : inR v (-1) 99) : Sp 2 99 [.ref 0, .int 6, .int v] f (Ret 1 (up2 f 1 6 v)) := by
  show wq 2 99 (Ret 1 (up2 f 1 6 v)) 0 [(0, .ref 0), (1, .int 6), (2, .int v)] [] f
  refine wq_run3 (pc' := 4) (L' := [(0, .ref 0), (1, .int 6), (2, .int v)]) (S' := [.int 6, .int 0, .int 6]) (f' := f) rfl ?_
  refine wq_callI (r := (b2i (inR 6 0 6))) (sp_within f 6 0 6) (Nat.le_of_ble_eq_true rfl) (pc' := 7) (L' := [(0, .ref 0), (1, .int 6), (2, .int v)]) (S' := []) rfl (Nat.le_of_ble_eq_true rfl) rfl rfl (Nat.le_of_ble_eq_true rfl) (Nat.le_of_ble_eq_true rfl) ?_
  refine wq_if (c := (b2i (inR 6 0 6)) = 0) (p1 := 27) (L1 := [(0, .ref 0), (1, .int 6), (2, .int v)]) (S1 := []) (p2 := 10) (L2 := [(0, .ref 0), (1, .int 6), (2, .int v)]) (S2 := []) rfl (fun q => absurd q (b2i_n0.mpr (by decide))) (fun _ => ?_)
  refine wq_run3 (pc' := 15) (L' := [(0, .ref 0), (1, .int 6), (2, .int v)]) (S' := [.int 6, .ref 4000002, .int v]) (f' := f) rfl ?_
  refine wq_tabL (k0 := 2) (j := 6) (v := (-1)) rfl rfl ⟨Nat.le_of_ble_eq_true rfl, Nat.le_of_ble_eq_true rfl⟩ rfl ?_
  refine wq_run2 (pc' := 20) (L' := [(0, .ref 0), (1, .int 6), (2, .int v)]) (S' := [.int 6, .ref 4000003, .int (-1), .int v]) (f' := f) rfl ?_
  refine wq_tabL (k0 := 3) (j := 6) (v := 99) rfl rfl ⟨Nat.le_of_ble_eq_true rfl, Nat.le_of_ble_eq_true rfl⟩ rfl ?_
  refine wq_callI (r := (b2i (inR v (-1) 99))) (sp_within f v (-1) 99) (Nat.le_of_ble_eq_true rfl) (pc' := 24) (L' := [(0, .ref 0), (1, .int 6), (2, .int v)]) (S' := []) rfl (Nat.le_of_ble_eq_true rfl) rfl rfl (Nat.le_of_ble_eq_true rfl) (Nat.le_of_ble_eq_true rfl) ?_
  refine wq_if (c := (b2i (inR v (-1) 99)) = 0) (p1 := 27) (L1 := [(0, .ref 0), (1, .int 6), (2, .int v)]) (S1 := []) (p2 := 30) (L2 := [(0, .ref 0), (1, .int 6), (2, .int v)]) (S2 := []) rfl (fun q => absurd q (b2i_n0.mpr h1)) (fun _ => ?_)
  refine wq_run4 (pc' := 36) (L' := [(0, .ref 0), (1, .int 6), (2, .int v)]) (S' := [.int v, .int 6, .ref 1]) (f' := f) rfl ?_
  refine wq_ist (j := 6) (n := 7) rfl rfl rfl rfl (Nat.le_of_ble_eq_true rfl) (Nat.le_of_ble_eq_true rfl) ?_
  refine wq_run1 (pc' := 38) (L' := [(0, .ref 0), (1, .int 6), (2, .int v)]) (S' := [.int 1]) (f' := (up2 f 1 6 v)) rfl ?_
  exact wq_ret rfl ⟨rfl, rfl⟩
theorem sp_set6n (f : HI) (v : Int32) (h1 : ¬ inR v (-1) 99) : Sp 2 99 [.ref 0, .int 6, .int v] f (Ret (-3) f) := by
  show wq 2 99 (Ret (-3) f) 0 [(0, .ref 0), (1, .int 6), (2, .int v)] [] f
  refine wq_run3 (pc' := 4) (L' := [(0, .ref 0), (1, .int 6), (2, .int v)]) (S' := [.int 6, .int 0, .int 6]) (f' := f) rfl ?_
  refine wq_callI (r := (b2i (inR 6 0 6))) (sp_within f 6 0 6) (Nat.le_of_ble_eq_true rfl) (pc' := 7) (L' := [(0, .ref 0), (1, .int 6), (2, .int v)]) (S' := []) rfl (Nat.le_of_ble_eq_true rfl) rfl rfl (Nat.le_of_ble_eq_true rfl) (Nat.le_of_ble_eq_true rfl) ?_
  refine wq_if (c := (b2i (inR 6 0 6)) = 0) (p1 := 27) (L1 := [(0, .ref 0), (1, .int 6), (2, .int v)]) (S1 := []) (p2 := 10) (L2 := [(0, .ref 0), (1, .int 6), (2, .int v)]) (S2 := []) rfl (fun q => absurd q (b2i_n0.mpr (by decide))) (fun _ => ?_)
  refine wq_run3 (pc' := 15) (L' := [(0, .ref 0), (1, .int 6), (2, .int v)]) (S' := [.int 6, .ref 4000002, .int v]) (f' := f) rfl ?_
  refine wq_tabL (k0 := 2) (j := 6) (v := (-1)) rfl rfl ⟨Nat.le_of_ble_eq_true rfl, Nat.le_of_ble_eq_true rfl⟩ rfl ?_
  refine wq_run2 (pc' := 20) (L' := [(0, .ref 0), (1, .int 6), (2, .int v)]) (S' := [.int 6, .ref 4000003, .int (-1), .int v]) (f' := f) rfl ?_
  refine wq_tabL (k0 := 3) (j := 6) (v := 99) rfl rfl ⟨Nat.le_of_ble_eq_true rfl, Nat.le_of_ble_eq_true rfl⟩ rfl ?_
  refine wq_callI (r := (b2i (inR v (-1) 99))) (sp_within f v (-1) 99) (Nat.le_of_ble_eq_true rfl) (pc' := 24) (L' := [(0, .ref 0), (1, .int 6), (2, .int v)]) (S' := []) rfl (Nat.le_of_ble_eq_true rfl) rfl rfl (Nat.le_of_ble_eq_true rfl) (Nat.le_of_ble_eq_true rfl) ?_
  refine wq_if (c := (b2i (inR v (-1) 99)) = 0) (p1 := 27) (L1 := [(0, .ref 0), (1, .int 6), (2, .int v)]) (S1 := []) (p2 := 30) (L2 := [(0, .ref 0), (1, .int 6), (2, .int v)]) (S2 := []) rfl (fun _ => ?_) (fun q => absurd (b2i_0.mpr h1) q)
  refine wq_run1 (pc' := 29) (L' := [(0, .ref 0), (1, .int 6), (2, .int v)]) (S' := [.int (-3)]) (f' := f) rfl ?_
  exact wq_ret rfl ⟨rfl, rfl⟩
theorem mp_set6 (f : HI) (v : Int32) (h1 : inR v (-1) 99) : Sp 2 179 [.ref 92, .int 6, .int v] f (fun v' f' => v' = some (.int 1) ∧ ∃ g, f' = up1 f 92 g ∧ g 48 = v ∧ ∀ k, k ≠ 48 → g k = f 92 k) := by
  show wq 2 179 (fun v' f' => v' = some (.int 1) ∧ ∃ g, f' = up1 f 92 g ∧ g 48 = v ∧ ∀ k, k ≠ 48 → g k = f 92 k) 0 [(0, .ref 92), (1, .int 6), (2, .int v)] [] f
  refine wq_run1 (pc' := 1) (L' := [(0, .ref 92), (1, .int 6), (2, .int v)]) (S' := [.int 6]) (f' := f) rfl ?_
  refine wq_if (c := 6 = 0) (p1 := 4) (L1 := [(0, .ref 92), (1, .int 6), (2, .int v)]) (S1 := []) (p2 := 16) (L2 := [(0, .ref 92), (1, .int 6), (2, .int v)]) (S2 := []) rfl (fun q => absurd q (by decide)) (fun _ => ?_)
  refine wq_run2 (pc' := 18) (L' := [(0, .ref 92), (1, .int 6), (2, .int v)]) (S' := [.int 1, .int 6]) (f' := f) rfl ?_
  refine wq_if (c := 6 = 1) (p1 := 21) (L1 := [(0, .ref 92), (1, .int 6), (2, .int v)]) (S1 := []) (p2 := 33) (L2 := [(0, .ref 92), (1, .int 6), (2, .int v)]) (S2 := []) rfl (fun q => absurd q (by decide)) (fun _ => ?_)
  refine wq_run2 (pc' := 35) (L' := [(0, .ref 92), (1, .int 6), (2, .int v)]) (S' := [.int 2, .int 6]) (f' := f) rfl ?_
  refine wq_if (c := 6 = 2) (p1 := 38) (L1 := [(0, .ref 92), (1, .int 6), (2, .int v)]) (S1 := []) (p2 := 50) (L2 := [(0, .ref 92), (1, .int 6), (2, .int v)]) (S2 := []) rfl (fun q => absurd q (by decide)) (fun _ => ?_)
  refine wq_run2 (pc' := 52) (L' := [(0, .ref 92), (1, .int 6), (2, .int v)]) (S' := [.int 3, .int 6]) (f' := f) rfl ?_
  refine wq_if (c := 6 = 3) (p1 := 55) (L1 := [(0, .ref 92), (1, .int 6), (2, .int v)]) (S1 := []) (p2 := 67) (L2 := [(0, .ref 92), (1, .int 6), (2, .int v)]) (S2 := []) rfl (fun q => absurd q (by decide)) (fun _ => ?_)
  refine wq_run2 (pc' := 69) (L' := [(0, .ref 92), (1, .int 6), (2, .int v)]) (S' := [.int 4, .int 6]) (f' := f) rfl ?_
  refine wq_if (c := 6 = 4) (p1 := 72) (L1 := [(0, .ref 92), (1, .int 6), (2, .int v)]) (S1 := []) (p2 := 84) (L2 := [(0, .ref 92), (1, .int 6), (2, .int v)]) (S2 := []) rfl (fun q => absurd q (by decide)) (fun _ => ?_)
  refine wq_run2 (pc' := 86) (L' := [(0, .ref 92), (1, .int 6), (2, .int v)]) (S' := [.int 5, .int 6]) (f' := f) rfl ?_
  refine wq_if (c := 6 = 5) (p1 := 89) (L1 := [(0, .ref 92), (1, .int 6), (2, .int v)]) (S1 := []) (p2 := 103) (L2 := [(0, .ref 92), (1, .int 6), (2, .int v)]) (S2 := []) rfl (fun q => absurd q (by decide)) (fun _ => ?_)
  refine wq_run2 (pc' := 106) (L' := [(0, .ref 92), (1, .int 6), (2, .int v)]) (S' := [.int 6, .int 6]) (f' := f) rfl ?_
  refine wq_if (c := 6 = 6) (p1 := 109) (L1 := [(0, .ref 92), (1, .int 6), (2, .int v)]) (S1 := []) (p2 := 127) (L2 := [(0, .ref 92), (1, .int 6), (2, .int v)]) (S2 := []) rfl (fun _ => ?_) (fun q => absurd (by decide) q)
  refine wq_run4 (pc' := 117) (L' := [(0, .ref 92), (1, .int 6), (2, .int v)]) (S' := [.long 99, .long (-1), .long v.toInt64]) (f' := f) rfl ?_
  refine wq_callI (r := (b2i (inR v (-1) 99))) (mp_in f v (-1) 99) (Nat.le_of_ble_eq_true rfl) (pc' := 120) (L' := [(0, .ref 92), (1, .int 6), (2, .int v)]) (S' := []) rfl (Nat.le_of_ble_eq_true rfl) rfl rfl (Nat.le_of_ble_eq_true rfl) (Nat.le_of_ble_eq_true rfl) ?_
  refine wq_if (c := (b2i (inR v (-1) 99)) = 0) (p1 := 127) (L1 := [(0, .ref 92), (1, .int 6), (2, .int v)]) (S1 := []) (p2 := 123) (L2 := [(0, .ref 92), (1, .int 6), (2, .int v)]) (S2 := []) rfl (fun q => absurd q (b2i_n0.mpr h1)) (fun _ => ?_)
  refine wq_run4 (pc' := 130) (L' := [(0, .ref 92), (1, .int 6), (2, .int v), (3, .int 1)]) (S' := [.int 1]) (f' := f) rfl ?_
  refine wq_if (c := 1 = 0) (p1 := 133) (L1 := [(0, .ref 92), (1, .int 6), (2, .int v), (3, .int 1)]) (S1 := []) (p2 := 136) (L2 := [(0, .ref 92), (1, .int 6), (2, .int v), (3, .int 1)]) (S2 := []) rfl (fun q => absurd q (by decide)) (fun _ => ?_)
  refine wq_run2 (pc' := 138) (L' := [(0, .ref 92), (1, .int 6), (2, .int v), (3, .int 1)]) (S' := [.int 6, .ref 92]) (f' := f) rfl ?_
  refine wq_if (c := 6 = 0) (p1 := 141) (L1 := [(0, .ref 92), (1, .int 6), (2, .int v), (3, .int 1)]) (S1 := [.ref 92]) (p2 := 145) (L2 := [(0, .ref 92), (1, .int 6), (2, .int v), (3, .int 1)]) (S2 := [.ref 92]) rfl (fun q => absurd q (by decide)) (fun _ => ?_)
  refine wq_run2 (pc' := 149) (L' := [(0, .ref 92), (1, .int 6), (2, .int v), (3, .int 1)]) (S' := [.int (f 92 42), .ref 92]) (f' := f) rfl ?_
  refine wq_putI rfl rfl ?_
  refine wq_h (f' := (up1 f 92 (upd (f 92) 42 (f 92 42)))) (up2_eq1 f 92 42 (f 92 42)) ?_
  refine wq_run3 (pc' := 155) (L' := [(0, .ref 92), (1, .int 6), (2, .int v), (3, .int 1)]) (S' := [.int 1, .int 6, .ref 92]) (f' := (up1 f 92 (upd (f 92) 42 (f 92 42)))) rfl ?_
  refine wq_if (c := 6 = 1) (p1 := 158) (L1 := [(0, .ref 92), (1, .int 6), (2, .int v), (3, .int 1)]) (S1 := [.ref 92]) (p2 := 162) (L2 := [(0, .ref 92), (1, .int 6), (2, .int v), (3, .int 1)]) (S2 := [.ref 92]) rfl (fun q => absurd q (by decide)) (fun _ => ?_)
  refine wq_run2 (pc' := 166) (L' := [(0, .ref 92), (1, .int 6), (2, .int v), (3, .int 1)]) (S' := [.int ((f 92) 43), .ref 92]) (f' := (up1 f 92 (upd (f 92) 42 (f 92 42)))) rfl ?_
  refine wq_putI rfl rfl ?_
  refine wq_h (f' := (up1 f 92 (upd (upd (f 92) 43 ((f 92) 43)) 42 (f 92 42)))) ((up2_up1_eq f 92 (upd (f 92) 42 (f 92 42)) 43 ((f 92) 43)).trans (congrArg (fun z => up1 f 92 z) ((upd_sw (g := (f 92)) (v := (f 92 42)) (w := ((f 92) 43)) (show (43 : Nat) ≠ 42 by decide)).trans (congrArg (fun z => upd z 42 (f 92 42)) (rfl))))) ?_
  refine wq_run3 (pc' := 172) (L' := [(0, .ref 92), (1, .int 6), (2, .int v), (3, .int 1)]) (S' := [.int 2, .int 6, .ref 92]) (f' := (up1 f 92 (upd (upd (f 92) 43 ((f 92) 43)) 42 (f 92 42)))) rfl ?_
  refine wq_if (c := 6 = 2) (p1 := 175) (L1 := [(0, .ref 92), (1, .int 6), (2, .int v), (3, .int 1)]) (S1 := [.ref 92]) (p2 := 179) (L2 := [(0, .ref 92), (1, .int 6), (2, .int v), (3, .int 1)]) (S2 := [.ref 92]) rfl (fun q => absurd q (by decide)) (fun _ => ?_)
  refine wq_run2 (pc' := 183) (L' := [(0, .ref 92), (1, .int 6), (2, .int v), (3, .int 1)]) (S' := [.int ((f 92) 44), .ref 92]) (f' := (up1 f 92 (upd (upd (f 92) 43 ((f 92) 43)) 42 (f 92 42)))) rfl ?_
  refine wq_putI rfl rfl ?_
  refine wq_h (f' := (up1 f 92 (upd (upd (upd (f 92) 44 ((f 92) 44)) 43 ((f 92) 43)) 42 (f 92 42)))) ((up2_up1_eq f 92 (upd (upd (f 92) 43 ((f 92) 43)) 42 (f 92 42)) 44 ((f 92) 44)).trans (congrArg (fun z => up1 f 92 z) ((upd_sw (g := (upd (f 92) 43 ((f 92) 43))) (v := (f 92 42)) (w := ((f 92) 44)) (show (44 : Nat) ≠ 42 by decide)).trans (congrArg (fun z => upd z 42 (f 92 42)) ((upd_sw (g := (f 92)) (v := ((f 92) 43)) (w := ((f 92) 44)) (show (44 : Nat) ≠ 43 by decide)).trans (congrArg (fun z => upd z 43 ((f 92) 43)) (rfl))))))) ?_
  refine wq_run3 (pc' := 189) (L' := [(0, .ref 92), (1, .int 6), (2, .int v), (3, .int 1)]) (S' := [.int 3, .int 6, .ref 92]) (f' := (up1 f 92 (upd (upd (upd (f 92) 44 ((f 92) 44)) 43 ((f 92) 43)) 42 (f 92 42)))) rfl ?_
  refine wq_if (c := 6 = 3) (p1 := 192) (L1 := [(0, .ref 92), (1, .int 6), (2, .int v), (3, .int 1)]) (S1 := [.ref 92]) (p2 := 196) (L2 := [(0, .ref 92), (1, .int 6), (2, .int v), (3, .int 1)]) (S2 := [.ref 92]) rfl (fun q => absurd q (by decide)) (fun _ => ?_)
  refine wq_run2 (pc' := 200) (L' := [(0, .ref 92), (1, .int 6), (2, .int v), (3, .int 1)]) (S' := [.int ((f 92) 45), .ref 92]) (f' := (up1 f 92 (upd (upd (upd (f 92) 44 ((f 92) 44)) 43 ((f 92) 43)) 42 (f 92 42)))) rfl ?_
  refine wq_putI rfl rfl ?_
  refine wq_h (f' := (up1 f 92 (upd (upd (upd (upd (f 92) 45 ((f 92) 45)) 44 ((f 92) 44)) 43 ((f 92) 43)) 42 (f 92 42)))) ((up2_up1_eq f 92 (upd (upd (upd (f 92) 44 ((f 92) 44)) 43 ((f 92) 43)) 42 (f 92 42)) 45 ((f 92) 45)).trans (congrArg (fun z => up1 f 92 z) ((upd_sw (g := (upd (upd (f 92) 44 ((f 92) 44)) 43 ((f 92) 43))) (v := (f 92 42)) (w := ((f 92) 45)) (show (45 : Nat) ≠ 42 by decide)).trans (congrArg (fun z => upd z 42 (f 92 42)) ((upd_sw (g := (upd (f 92) 44 ((f 92) 44))) (v := ((f 92) 43)) (w := ((f 92) 45)) (show (45 : Nat) ≠ 43 by decide)).trans (congrArg (fun z => upd z 43 ((f 92) 43)) ((upd_sw (g := (f 92)) (v := ((f 92) 44)) (w := ((f 92) 45)) (show (45 : Nat) ≠ 44 by decide)).trans (congrArg (fun z => upd z 44 ((f 92) 44)) (rfl))))))))) ?_
  refine wq_run3 (pc' := 206) (L' := [(0, .ref 92), (1, .int 6), (2, .int v), (3, .int 1)]) (S' := [.int 4, .int 6, .ref 92]) (f' := (up1 f 92 (upd (upd (upd (upd (f 92) 45 ((f 92) 45)) 44 ((f 92) 44)) 43 ((f 92) 43)) 42 (f 92 42)))) rfl ?_
  refine wq_if (c := 6 = 4) (p1 := 209) (L1 := [(0, .ref 92), (1, .int 6), (2, .int v), (3, .int 1)]) (S1 := [.ref 92]) (p2 := 213) (L2 := [(0, .ref 92), (1, .int 6), (2, .int v), (3, .int 1)]) (S2 := [.ref 92]) rfl (fun q => absurd q (by decide)) (fun _ => ?_)
  refine wq_run2 (pc' := 217) (L' := [(0, .ref 92), (1, .int 6), (2, .int v), (3, .int 1)]) (S' := [.int ((f 92) 46), .ref 92]) (f' := (up1 f 92 (upd (upd (upd (upd (f 92) 45 ((f 92) 45)) 44 ((f 92) 44)) 43 ((f 92) 43)) 42 (f 92 42)))) rfl ?_
  refine wq_putI rfl rfl ?_
  refine wq_h (f' := (up1 f 92 (upd (upd (upd (upd (upd (f 92) 46 ((f 92) 46)) 45 ((f 92) 45)) 44 ((f 92) 44)) 43 ((f 92) 43)) 42 (f 92 42)))) ((up2_up1_eq f 92 (upd (upd (upd (upd (f 92) 45 ((f 92) 45)) 44 ((f 92) 44)) 43 ((f 92) 43)) 42 (f 92 42)) 46 ((f 92) 46)).trans (congrArg (fun z => up1 f 92 z) ((upd_sw (g := (upd (upd (upd (f 92) 45 ((f 92) 45)) 44 ((f 92) 44)) 43 ((f 92) 43))) (v := (f 92 42)) (w := ((f 92) 46)) (show (46 : Nat) ≠ 42 by decide)).trans (congrArg (fun z => upd z 42 (f 92 42)) ((upd_sw (g := (upd (upd (f 92) 45 ((f 92) 45)) 44 ((f 92) 44))) (v := ((f 92) 43)) (w := ((f 92) 46)) (show (46 : Nat) ≠ 43 by decide)).trans (congrArg (fun z => upd z 43 ((f 92) 43)) ((upd_sw (g := (upd (f 92) 45 ((f 92) 45))) (v := ((f 92) 44)) (w := ((f 92) 46)) (show (46 : Nat) ≠ 44 by decide)).trans (congrArg (fun z => upd z 44 ((f 92) 44)) ((upd_sw (g := (f 92)) (v := ((f 92) 45)) (w := ((f 92) 46)) (show (46 : Nat) ≠ 45 by decide)).trans (congrArg (fun z => upd z 45 ((f 92) 45)) (rfl))))))))))) ?_
  refine wq_run3 (pc' := 223) (L' := [(0, .ref 92), (1, .int 6), (2, .int v), (3, .int 1)]) (S' := [.int 5, .int 6, .ref 92]) (f' := (up1 f 92 (upd (upd (upd (upd (upd (f 92) 46 ((f 92) 46)) 45 ((f 92) 45)) 44 ((f 92) 44)) 43 ((f 92) 43)) 42 (f 92 42)))) rfl ?_
  refine wq_if (c := 6 = 5) (p1 := 226) (L1 := [(0, .ref 92), (1, .int 6), (2, .int v), (3, .int 1)]) (S1 := [.ref 92]) (p2 := 230) (L2 := [(0, .ref 92), (1, .int 6), (2, .int v), (3, .int 1)]) (S2 := [.ref 92]) rfl (fun q => absurd q (by decide)) (fun _ => ?_)
  refine wq_run2 (pc' := 234) (L' := [(0, .ref 92), (1, .int 6), (2, .int v), (3, .int 1)]) (S' := [.int ((f 92) 47), .ref 92]) (f' := (up1 f 92 (upd (upd (upd (upd (upd (f 92) 46 ((f 92) 46)) 45 ((f 92) 45)) 44 ((f 92) 44)) 43 ((f 92) 43)) 42 (f 92 42)))) rfl ?_
  refine wq_putI rfl rfl ?_
  refine wq_h (f' := (up1 f 92 (upd (upd (upd (upd (upd (upd (f 92) 47 ((f 92) 47)) 46 ((f 92) 46)) 45 ((f 92) 45)) 44 ((f 92) 44)) 43 ((f 92) 43)) 42 (f 92 42)))) ((up2_up1_eq f 92 (upd (upd (upd (upd (upd (f 92) 46 ((f 92) 46)) 45 ((f 92) 45)) 44 ((f 92) 44)) 43 ((f 92) 43)) 42 (f 92 42)) 47 ((f 92) 47)).trans (congrArg (fun z => up1 f 92 z) ((upd_sw (g := (upd (upd (upd (upd (f 92) 46 ((f 92) 46)) 45 ((f 92) 45)) 44 ((f 92) 44)) 43 ((f 92) 43))) (v := (f 92 42)) (w := ((f 92) 47)) (show (47 : Nat) ≠ 42 by decide)).trans (congrArg (fun z => upd z 42 (f 92 42)) ((upd_sw (g := (upd (upd (upd (f 92) 46 ((f 92) 46)) 45 ((f 92) 45)) 44 ((f 92) 44))) (v := ((f 92) 43)) (w := ((f 92) 47)) (show (47 : Nat) ≠ 43 by decide)).trans (congrArg (fun z => upd z 43 ((f 92) 43)) ((upd_sw (g := (upd (upd (f 92) 46 ((f 92) 46)) 45 ((f 92) 45))) (v := ((f 92) 44)) (w := ((f 92) 47)) (show (47 : Nat) ≠ 44 by decide)).trans (congrArg (fun z => upd z 44 ((f 92) 44)) ((upd_sw (g := (upd (f 92) 46 ((f 92) 46))) (v := ((f 92) 45)) (w := ((f 92) 47)) (show (47 : Nat) ≠ 45 by decide)).trans (congrArg (fun z => upd z 45 ((f 92) 45)) ((upd_sw (g := (f 92)) (v := ((f 92) 46)) (w := ((f 92) 47)) (show (47 : Nat) ≠ 46 by decide)).trans (congrArg (fun z => upd z 46 ((f 92) 46)) (rfl))))))))))))) ?_
  refine wq_run3 (pc' := 241) (L' := [(0, .ref 92), (1, .int 6), (2, .int v), (3, .int 1)]) (S' := [.int 6, .int 6, .ref 92]) (f' := (up1 f 92 (upd (upd (upd (upd (upd (upd (f 92) 47 ((f 92) 47)) 46 ((f 92) 46)) 45 ((f 92) 45)) 44 ((f 92) 44)) 43 ((f 92) 43)) 42 (f 92 42)))) rfl ?_
  refine wq_if (c := 6 = 6) (p1 := 244) (L1 := [(0, .ref 92), (1, .int 6), (2, .int v), (3, .int 1)]) (S1 := [.ref 92]) (p2 := 248) (L2 := [(0, .ref 92), (1, .int 6), (2, .int v), (3, .int 1)]) (S2 := [.ref 92]) rfl (fun _ => ?_) (fun q => absurd (by decide) q)
  refine wq_run2 (pc' := 252) (L' := [(0, .ref 92), (1, .int 6), (2, .int v), (3, .int 1)]) (S' := [.int v, .ref 92]) (f' := (up1 f 92 (upd (upd (upd (upd (upd (upd (f 92) 47 ((f 92) 47)) 46 ((f 92) 46)) 45 ((f 92) 45)) 44 ((f 92) 44)) 43 ((f 92) 43)) 42 (f 92 42)))) rfl ?_
  refine wq_putI rfl rfl ?_
  refine wq_h (f' := (up1 f 92 (upd (upd (upd (upd (upd (upd (upd (f 92) 48 v) 47 ((f 92) 47)) 46 ((f 92) 46)) 45 ((f 92) 45)) 44 ((f 92) 44)) 43 ((f 92) 43)) 42 (f 92 42)))) ((up2_up1_eq f 92 (upd (upd (upd (upd (upd (upd (f 92) 47 ((f 92) 47)) 46 ((f 92) 46)) 45 ((f 92) 45)) 44 ((f 92) 44)) 43 ((f 92) 43)) 42 (f 92 42)) 48 v).trans (congrArg (fun z => up1 f 92 z) ((upd_sw (g := (upd (upd (upd (upd (upd (f 92) 47 ((f 92) 47)) 46 ((f 92) 46)) 45 ((f 92) 45)) 44 ((f 92) 44)) 43 ((f 92) 43))) (v := (f 92 42)) (w := v) (show (48 : Nat) ≠ 42 by decide)).trans (congrArg (fun z => upd z 42 (f 92 42)) ((upd_sw (g := (upd (upd (upd (upd (f 92) 47 ((f 92) 47)) 46 ((f 92) 46)) 45 ((f 92) 45)) 44 ((f 92) 44))) (v := ((f 92) 43)) (w := v) (show (48 : Nat) ≠ 43 by decide)).trans (congrArg (fun z => upd z 43 ((f 92) 43)) ((upd_sw (g := (upd (upd (upd (f 92) 47 ((f 92) 47)) 46 ((f 92) 46)) 45 ((f 92) 45))) (v := ((f 92) 44)) (w := v) (show (48 : Nat) ≠ 44 by decide)).trans (congrArg (fun z => upd z 44 ((f 92) 44)) ((upd_sw (g := (upd (upd (f 92) 47 ((f 92) 47)) 46 ((f 92) 46))) (v := ((f 92) 45)) (w := v) (show (48 : Nat) ≠ 45 by decide)).trans (congrArg (fun z => upd z 45 ((f 92) 45)) ((upd_sw (g := (upd (f 92) 47 ((f 92) 47))) (v := ((f 92) 46)) (w := v) (show (48 : Nat) ≠ 46 by decide)).trans (congrArg (fun z => upd z 46 ((f 92) 46)) ((upd_sw (g := (f 92)) (v := ((f 92) 47)) (w := v) (show (48 : Nat) ≠ 47 by decide)).trans (congrArg (fun z => upd z 47 ((f 92) 47)) (rfl))))))))))))))) ?_
  refine wq_run1 (pc' := 256) (L' := [(0, .ref 92), (1, .int 6), (2, .int v), (3, .int 1)]) (S' := [.int 1]) (f' := (up1 f 92 (upd (upd (upd (upd (upd (upd (upd (f 92) 48 v) 47 ((f 92) 47)) 46 ((f 92) 46)) 45 ((f 92) 45)) 44 ((f 92) 44)) 43 ((f 92) 43)) 42 (f 92 42)))) rfl ?_
  refine wq_ret rfl ⟨rfl, _, rfl, rfl, fun k hk => ?_⟩
  unfold upd
  by_cases e42 : k = 42
  · rw [if_pos e42, e42]
  rw [if_neg e42]
  by_cases e43 : k = 43
  · rw [if_pos e43, e43]
  rw [if_neg e43]
  by_cases e44 : k = 44
  · rw [if_pos e44, e44]
  rw [if_neg e44]
  by_cases e45 : k = 45
  · rw [if_pos e45, e45]
  rw [if_neg e45]
  by_cases e46 : k = 46
  · rw [if_pos e46, e46]
  rw [if_neg e46]
  by_cases e47 : k = 47
  · rw [if_pos e47, e47]
  rw [if_neg e47]
  by_cases e48 : k = 48
  · exact absurd e48 hk
  rw [if_neg e48]
theorem mp_set6n (f : HI) (v : Int32) (h1 : ¬ inR v (-1) 99) : Sp 2 179 [.ref 92, .int 6, .int v] f (Ret (-3) f) := by
  show wq 2 179 (Ret (-3) f) 0 [(0, .ref 92), (1, .int 6), (2, .int v)] [] f
  refine wq_run1 (pc' := 1) (L' := [(0, .ref 92), (1, .int 6), (2, .int v)]) (S' := [.int 6]) (f' := f) rfl ?_
  refine wq_if (c := 6 = 0) (p1 := 4) (L1 := [(0, .ref 92), (1, .int 6), (2, .int v)]) (S1 := []) (p2 := 16) (L2 := [(0, .ref 92), (1, .int 6), (2, .int v)]) (S2 := []) rfl (fun q => absurd q (by decide)) (fun _ => ?_)
  refine wq_run2 (pc' := 18) (L' := [(0, .ref 92), (1, .int 6), (2, .int v)]) (S' := [.int 1, .int 6]) (f' := f) rfl ?_
  refine wq_if (c := 6 = 1) (p1 := 21) (L1 := [(0, .ref 92), (1, .int 6), (2, .int v)]) (S1 := []) (p2 := 33) (L2 := [(0, .ref 92), (1, .int 6), (2, .int v)]) (S2 := []) rfl (fun q => absurd q (by decide)) (fun _ => ?_)
  refine wq_run2 (pc' := 35) (L' := [(0, .ref 92), (1, .int 6), (2, .int v)]) (S' := [.int 2, .int 6]) (f' := f) rfl ?_
  refine wq_if (c := 6 = 2) (p1 := 38) (L1 := [(0, .ref 92), (1, .int 6), (2, .int v)]) (S1 := []) (p2 := 50) (L2 := [(0, .ref 92), (1, .int 6), (2, .int v)]) (S2 := []) rfl (fun q => absurd q (by decide)) (fun _ => ?_)
  refine wq_run2 (pc' := 52) (L' := [(0, .ref 92), (1, .int 6), (2, .int v)]) (S' := [.int 3, .int 6]) (f' := f) rfl ?_
  refine wq_if (c := 6 = 3) (p1 := 55) (L1 := [(0, .ref 92), (1, .int 6), (2, .int v)]) (S1 := []) (p2 := 67) (L2 := [(0, .ref 92), (1, .int 6), (2, .int v)]) (S2 := []) rfl (fun q => absurd q (by decide)) (fun _ => ?_)
  refine wq_run2 (pc' := 69) (L' := [(0, .ref 92), (1, .int 6), (2, .int v)]) (S' := [.int 4, .int 6]) (f' := f) rfl ?_
  refine wq_if (c := 6 = 4) (p1 := 72) (L1 := [(0, .ref 92), (1, .int 6), (2, .int v)]) (S1 := []) (p2 := 84) (L2 := [(0, .ref 92), (1, .int 6), (2, .int v)]) (S2 := []) rfl (fun q => absurd q (by decide)) (fun _ => ?_)
  refine wq_run2 (pc' := 86) (L' := [(0, .ref 92), (1, .int 6), (2, .int v)]) (S' := [.int 5, .int 6]) (f' := f) rfl ?_
  refine wq_if (c := 6 = 5) (p1 := 89) (L1 := [(0, .ref 92), (1, .int 6), (2, .int v)]) (S1 := []) (p2 := 103) (L2 := [(0, .ref 92), (1, .int 6), (2, .int v)]) (S2 := []) rfl (fun q => absurd q (by decide)) (fun _ => ?_)
  refine wq_run2 (pc' := 106) (L' := [(0, .ref 92), (1, .int 6), (2, .int v)]) (S' := [.int 6, .int 6]) (f' := f) rfl ?_
  refine wq_if (c := 6 = 6) (p1 := 109) (L1 := [(0, .ref 92), (1, .int 6), (2, .int v)]) (S1 := []) (p2 := 127) (L2 := [(0, .ref 92), (1, .int 6), (2, .int v)]) (S2 := []) rfl (fun _ => ?_) (fun q => absurd (by decide) q)
  refine wq_run4 (pc' := 117) (L' := [(0, .ref 92), (1, .int 6), (2, .int v)]) (S' := [.long 99, .long (-1), .long v.toInt64]) (f' := f) rfl ?_
  refine wq_callI (r := (b2i (inR v (-1) 99))) (mp_in f v (-1) 99) (Nat.le_of_ble_eq_true rfl) (pc' := 120) (L' := [(0, .ref 92), (1, .int 6), (2, .int v)]) (S' := []) rfl (Nat.le_of_ble_eq_true rfl) rfl rfl (Nat.le_of_ble_eq_true rfl) (Nat.le_of_ble_eq_true rfl) ?_
  refine wq_if (c := (b2i (inR v (-1) 99)) = 0) (p1 := 127) (L1 := [(0, .ref 92), (1, .int 6), (2, .int v)]) (S1 := []) (p2 := 123) (L2 := [(0, .ref 92), (1, .int 6), (2, .int v)]) (S2 := []) rfl (fun _ => ?_) (fun q => absurd (b2i_0.mpr h1) q)
  refine wq_run3 (pc' := 130) (L' := [(0, .ref 92), (1, .int 6), (2, .int v), (3, .int 0)]) (S' := [.int 0]) (f' := f) rfl ?_
  refine wq_if (c := 0 = 0) (p1 := 133) (L1 := [(0, .ref 92), (1, .int 6), (2, .int v), (3, .int 0)]) (S1 := []) (p2 := 136) (L2 := [(0, .ref 92), (1, .int 6), (2, .int v), (3, .int 0)]) (S2 := []) rfl (fun _ => ?_) (fun q => absurd (by decide) q)
  refine wq_run1 (pc' := 135) (L' := [(0, .ref 92), (1, .int 6), (2, .int v), (3, .int 0)]) (S' := [.int (-3)]) (f' := f) rfl ?_
  exact wq_ret rfl ⟨rfl, rfl⟩
theorem sp_setX (f : HI) (w v : Int32) (h1 : ¬ inR w 0 6) : Sp 2 99 [.ref 0, .int w, .int v] f (Ret (-3) f) := by
  show wq 2 99 (Ret (-3) f) 0 [(0, .ref 0), (1, .int w), (2, .int v)] [] f
  refine wq_run3 (pc' := 4) (L' := [(0, .ref 0), (1, .int w), (2, .int v)]) (S' := [.int 6, .int 0, .int w]) (f' := f) rfl ?_
  refine wq_callI (r := (b2i (inR w 0 6))) (sp_within f w 0 6) (Nat.le_of_ble_eq_true rfl) (pc' := 7) (L' := [(0, .ref 0), (1, .int w), (2, .int v)]) (S' := []) rfl (Nat.le_of_ble_eq_true rfl) rfl rfl (Nat.le_of_ble_eq_true rfl) (Nat.le_of_ble_eq_true rfl) ?_
  refine wq_if (c := (b2i (inR w 0 6)) = 0) (p1 := 27) (L1 := [(0, .ref 0), (1, .int w), (2, .int v)]) (S1 := []) (p2 := 10) (L2 := [(0, .ref 0), (1, .int w), (2, .int v)]) (S2 := []) rfl (fun _ => ?_) (fun q => absurd (b2i_0.mpr h1) q)
  refine wq_run1 (pc' := 29) (L' := [(0, .ref 0), (1, .int w), (2, .int v)]) (S' := [.int (-3)]) (f' := f) rfl ?_
  exact wq_ret rfl ⟨rfl, rfl⟩
theorem mp_setX (f : HI) (w v : Int32) (h1 : ¬ inR w 0 6) : Sp 2 179 [.ref 92, .int w, .int v] f (Ret (-3) f) := by
  show wq 2 179 (Ret (-3) f) 0 [(0, .ref 92), (1, .int w), (2, .int v)] [] f
  refine wq_run1 (pc' := 1) (L' := [(0, .ref 92), (1, .int w), (2, .int v)]) (S' := [.int w]) (f' := f) rfl ?_
  refine wq_if (c := w = 0) (p1 := 4) (L1 := [(0, .ref 92), (1, .int w), (2, .int v)]) (S1 := []) (p2 := 16) (L2 := [(0, .ref 92), (1, .int w), (2, .int v)]) (S2 := []) rfl (fun q => absurd q (fun q => h1 (by rw [q]; decide))) (fun _ => ?_)
  refine wq_run2 (pc' := 18) (L' := [(0, .ref 92), (1, .int w), (2, .int v)]) (S' := [.int 1, .int w]) (f' := f) rfl ?_
  refine wq_if (c := w = 1) (p1 := 21) (L1 := [(0, .ref 92), (1, .int w), (2, .int v)]) (S1 := []) (p2 := 33) (L2 := [(0, .ref 92), (1, .int w), (2, .int v)]) (S2 := []) rfl (fun q => absurd q (fun q => h1 (by rw [q]; decide))) (fun _ => ?_)
  refine wq_run2 (pc' := 35) (L' := [(0, .ref 92), (1, .int w), (2, .int v)]) (S' := [.int 2, .int w]) (f' := f) rfl ?_
  refine wq_if (c := w = 2) (p1 := 38) (L1 := [(0, .ref 92), (1, .int w), (2, .int v)]) (S1 := []) (p2 := 50) (L2 := [(0, .ref 92), (1, .int w), (2, .int v)]) (S2 := []) rfl (fun q => absurd q (fun q => h1 (by rw [q]; decide))) (fun _ => ?_)
  refine wq_run2 (pc' := 52) (L' := [(0, .ref 92), (1, .int w), (2, .int v)]) (S' := [.int 3, .int w]) (f' := f) rfl ?_
  refine wq_if (c := w = 3) (p1 := 55) (L1 := [(0, .ref 92), (1, .int w), (2, .int v)]) (S1 := []) (p2 := 67) (L2 := [(0, .ref 92), (1, .int w), (2, .int v)]) (S2 := []) rfl (fun q => absurd q (fun q => h1 (by rw [q]; decide))) (fun _ => ?_)
  refine wq_run2 (pc' := 69) (L' := [(0, .ref 92), (1, .int w), (2, .int v)]) (S' := [.int 4, .int w]) (f' := f) rfl ?_
  refine wq_if (c := w = 4) (p1 := 72) (L1 := [(0, .ref 92), (1, .int w), (2, .int v)]) (S1 := []) (p2 := 84) (L2 := [(0, .ref 92), (1, .int w), (2, .int v)]) (S2 := []) rfl (fun q => absurd q (fun q => h1 (by rw [q]; decide))) (fun _ => ?_)
  refine wq_run2 (pc' := 86) (L' := [(0, .ref 92), (1, .int w), (2, .int v)]) (S' := [.int 5, .int w]) (f' := f) rfl ?_
  refine wq_if (c := w = 5) (p1 := 89) (L1 := [(0, .ref 92), (1, .int w), (2, .int v)]) (S1 := []) (p2 := 103) (L2 := [(0, .ref 92), (1, .int w), (2, .int v)]) (S2 := []) rfl (fun q => absurd q (fun q => h1 (by rw [q]; decide))) (fun _ => ?_)
  refine wq_run2 (pc' := 106) (L' := [(0, .ref 92), (1, .int w), (2, .int v)]) (S' := [.int 6, .int w]) (f' := f) rfl ?_
  refine wq_if (c := w = 6) (p1 := 109) (L1 := [(0, .ref 92), (1, .int w), (2, .int v)]) (S1 := []) (p2 := 127) (L2 := [(0, .ref 92), (1, .int w), (2, .int v)]) (S2 := []) rfl (fun q => absurd q (fun q => h1 (by rw [q]; decide))) (fun _ => ?_)
  refine wq_run3 (pc' := 130) (L' := [(0, .ref 92), (1, .int w), (2, .int v), (3, .int 0)]) (S' := [.int 0]) (f' := f) rfl ?_
  refine wq_if (c := 0 = 0) (p1 := 133) (L1 := [(0, .ref 92), (1, .int w), (2, .int v), (3, .int 0)]) (S1 := []) (p2 := 136) (L2 := [(0, .ref 92), (1, .int w), (2, .int v), (3, .int 0)]) (S2 := []) rfl (fun _ => ?_) (fun q => absurd rfl q)
  refine wq_run1 (pc' := 135) (L' := [(0, .ref 92), (1, .int w), (2, .int v), (3, .int 0)]) (S' := [.int (-3)]) (f' := f) rfl ?_
  exact wq_ret rfl ⟨rfl, rfl⟩
theorem sp_count0 (f : HI) : Sp 1 117 [.ref 0, .int 0] f (Ret (f 43 7) f) := by
  show wq 1 117 (Ret (f 43 7) f) 0 [(0, .ref 0), (1, .int 0)] [] f
  refine wq_run1 (pc' := 1) (L' := [(0, .ref 0), (1, .int 0)]) (S' := [.int 0]) (f' := f) rfl ?_
  refine wq_tabIn (t := 64) rfl (by decide) (by decide) ?_
  refine wq_run3 (pc' := 71) (L' := [(0, .ref 0), (1, .int 0)]) (S' := [.int (f 43 7)]) (f' := f) rfl ?_
  exact wq_ret rfl ⟨rfl, rfl⟩
theorem mp_count0 (f : HI) : Sp 1 213 [.ref 92, .int 0] f (Ret (f 92 8) f) := by
  show wq 1 213 (Ret (f 92 8) f) 0 [(0, .ref 92), (1, .int 0)] [] f
  refine wq_run1 (pc' := 1) (L' := [(0, .ref 92), (1, .int 0)]) (S' := [.int 0]) (f' := f) rfl ?_
  refine wq_tabIn (t := 64) rfl (by decide) (by decide) ?_
  refine wq_run2 (pc' := 68) (L' := [(0, .ref 92), (1, .int 0)]) (S' := [.int (f 92 8)]) (f' := f) rfl ?_
  exact wq_ret rfl ⟨rfl, rfl⟩
theorem sp_count1 (f : HI) : Sp 1 117 [.ref 0, .int 1] f (Ret (f 2 7) f) := by
  show wq 1 117 (Ret (f 2 7) f) 0 [(0, .ref 0), (1, .int 1)] [] f
  refine wq_run1 (pc' := 1) (L' := [(0, .ref 0), (1, .int 1)]) (S' := [.int 1]) (f' := f) rfl ?_
  refine wq_tabIn (t := 72) rfl (by decide) (by decide) ?_
  refine wq_run3 (pc' := 79) (L' := [(0, .ref 0), (1, .int 1)]) (S' := [.int (f 2 7)]) (f' := f) rfl ?_
  exact wq_ret rfl ⟨rfl, rfl⟩
theorem mp_count1 (f : HI) : Sp 1 213 [.ref 92, .int 1] f (Ret (f 92 7) f) := by
  show wq 1 213 (Ret (f 92 7) f) 0 [(0, .ref 92), (1, .int 1)] [] f
  refine wq_run1 (pc' := 1) (L' := [(0, .ref 92), (1, .int 1)]) (S' := [.int 1]) (f' := f) rfl ?_
  refine wq_tabIn (t := 69) rfl (by decide) (by decide) ?_
  refine wq_run2 (pc' := 73) (L' := [(0, .ref 92), (1, .int 1)]) (S' := [.int (f 92 7)]) (f' := f) rfl ?_
  exact wq_ret rfl ⟨rfl, rfl⟩
theorem sp_count2 (f : HI) : Sp 1 117 [.ref 0, .int 2] f (Ret (f 16 1) f) := by
  show wq 1 117 (Ret (f 16 1) f) 0 [(0, .ref 0), (1, .int 2)] [] f
  refine wq_run1 (pc' := 1) (L' := [(0, .ref 0), (1, .int 2)]) (S' := [.int 2]) (f' := f) rfl ?_
  refine wq_tabIn (t := 80) rfl (by decide) (by decide) ?_
  refine wq_run3 (pc' := 87) (L' := [(0, .ref 0), (1, .int 2)]) (S' := [.int (f 16 1)]) (f' := f) rfl ?_
  exact wq_ret rfl ⟨rfl, rfl⟩
theorem mp_count2 (f : HI) : Sp 1 213 [.ref 92, .int 2] f (Ret (f 92 17) f) := by
  show wq 1 213 (Ret (f 92 17) f) 0 [(0, .ref 92), (1, .int 2)] [] f
  refine wq_run1 (pc' := 1) (L' := [(0, .ref 92), (1, .int 2)]) (S' := [.int 2]) (f' := f) rfl ?_
  refine wq_tabIn (t := 74) rfl (by decide) (by decide) ?_
  refine wq_run2 (pc' := 78) (L' := [(0, .ref 92), (1, .int 2)]) (S' := [.int (f 92 17)]) (f' := f) rfl ?_
  exact wq_ret rfl ⟨rfl, rfl⟩
theorem sp_count3 (f : HI) : Sp 1 117 [.ref 0, .int 3] f (Ret (f 43 6) f) := by
  show wq 1 117 (Ret (f 43 6) f) 0 [(0, .ref 0), (1, .int 3)] [] f
  refine wq_run1 (pc' := 1) (L' := [(0, .ref 0), (1, .int 3)]) (S' := [.int 3]) (f' := f) rfl ?_
  refine wq_tabIn (t := 88) rfl (by decide) (by decide) ?_
  refine wq_run3 (pc' := 95) (L' := [(0, .ref 0), (1, .int 3)]) (S' := [.int (f 43 6)]) (f' := f) rfl ?_
  exact wq_ret rfl ⟨rfl, rfl⟩
theorem mp_count3 (f : HI) : Sp 1 213 [.ref 92, .int 3] f (Ret (f 92 35) f) := by
  show wq 1 213 (Ret (f 92 35) f) 0 [(0, .ref 92), (1, .int 3)] [] f
  refine wq_run1 (pc' := 1) (L' := [(0, .ref 92), (1, .int 3)]) (S' := [.int 3]) (f' := f) rfl ?_
  refine wq_tabIn (t := 79) rfl (by decide) (by decide) ?_
  refine wq_run2 (pc' := 83) (L' := [(0, .ref 92), (1, .int 3)]) (S' := [.int (f 92 35)]) (f' := f) rfl ?_
  exact wq_ret rfl ⟨rfl, rfl⟩
theorem sp_count4 (f : HI) : Sp 1 117 [.ref 0, .int 4] f (Ret (f 11 1) f) := by
  show wq 1 117 (Ret (f 11 1) f) 0 [(0, .ref 0), (1, .int 4)] [] f
  refine wq_run1 (pc' := 1) (L' := [(0, .ref 0), (1, .int 4)]) (S' := [.int 4]) (f' := f) rfl ?_
  refine wq_tabIn (t := 96) rfl (by decide) (by decide) ?_
  refine wq_run3 (pc' := 103) (L' := [(0, .ref 0), (1, .int 4)]) (S' := [.int (f 11 1)]) (f' := f) rfl ?_
  exact wq_ret rfl ⟨rfl, rfl⟩
theorem mp_count4 (f : HI) : Sp 1 213 [.ref 92, .int 4] f (Ret (f 92 10) f) := by
  show wq 1 213 (Ret (f 92 10) f) 0 [(0, .ref 92), (1, .int 4)] [] f
  refine wq_run1 (pc' := 1) (L' := [(0, .ref 92), (1, .int 4)]) (S' := [.int 4]) (f' := f) rfl ?_
  refine wq_tabIn (t := 84) rfl (by decide) (by decide) ?_
  refine wq_run2 (pc' := 88) (L' := [(0, .ref 92), (1, .int 4)]) (S' := [.int (f 92 10)]) (f' := f) rfl ?_
  exact wq_ret rfl ⟨rfl, rfl⟩
theorem sp_count5 (f : HI) : Sp 1 117 [.ref 0, .int 5] f (Ret (f 43 8) f) := by
  show wq 1 117 (Ret (f 43 8) f) 0 [(0, .ref 0), (1, .int 5)] [] f
  refine wq_run1 (pc' := 1) (L' := [(0, .ref 0), (1, .int 5)]) (S' := [.int 5]) (f' := f) rfl ?_
  refine wq_tabIn (t := 104) rfl (by decide) (by decide) ?_
  refine wq_run3 (pc' := 111) (L' := [(0, .ref 0), (1, .int 5)]) (S' := [.int (f 43 8)]) (f' := f) rfl ?_
  exact wq_ret rfl ⟨rfl, rfl⟩
theorem mp_count5 (f : HI) : Sp 1 213 [.ref 92, .int 5] f (Ret (f 92 38) f) := by
  show wq 1 213 (Ret (f 92 38) f) 0 [(0, .ref 92), (1, .int 5)] [] f
  refine wq_run1 (pc' := 1) (L' := [(0, .ref 92), (1, .int 5)]) (S' := [.int 5]) (f' := f) rfl ?_
  refine wq_tabIn (t := 89) rfl (by decide) (by decide) ?_
  refine wq_run2 (pc' := 93) (L' := [(0, .ref 92), (1, .int 5)]) (S' := [.int (f 92 38)]) (f' := f) rfl ?_
  exact wq_ret rfl ⟨rfl, rfl⟩
theorem sp_count6 (f : HI) : Sp 1 117 [.ref 0, .int 6] f (Ret (f 43 9) f) := by
  show wq 1 117 (Ret (f 43 9) f) 0 [(0, .ref 0), (1, .int 6)] [] f
  refine wq_run1 (pc' := 1) (L' := [(0, .ref 0), (1, .int 6)]) (S' := [.int 6]) (f' := f) rfl ?_
  refine wq_tabIn (t := 112) rfl (by decide) (by decide) ?_
  refine wq_run3 (pc' := 119) (L' := [(0, .ref 0), (1, .int 6)]) (S' := [.int (f 43 9)]) (f' := f) rfl ?_
  exact wq_ret rfl ⟨rfl, rfl⟩
theorem mp_count6 (f : HI) : Sp 1 213 [.ref 92, .int 6] f (Ret (f 92 39) f) := by
  show wq 1 213 (Ret (f 92 39) f) 0 [(0, .ref 92), (1, .int 6)] [] f
  refine wq_run1 (pc' := 1) (L' := [(0, .ref 92), (1, .int 6)]) (S' := [.int 6]) (f' := f) rfl ?_
  refine wq_tabIn (t := 94) rfl (by decide) (by decide) ?_
  refine wq_run2 (pc' := 98) (L' := [(0, .ref 92), (1, .int 6)]) (S' := [.int (f 92 39)]) (f' := f) rfl ?_
  exact wq_ret rfl ⟨rfl, rfl⟩
theorem sp_count7 (f : HI) : Sp 1 117 [.ref 0, .int 7] f (Ret (f 43 10) f) := by
  show wq 1 117 (Ret (f 43 10) f) 0 [(0, .ref 0), (1, .int 7)] [] f
  refine wq_run1 (pc' := 1) (L' := [(0, .ref 0), (1, .int 7)]) (S' := [.int 7]) (f' := f) rfl ?_
  refine wq_tabIn (t := 120) rfl (by decide) (by decide) ?_
  refine wq_run3 (pc' := 127) (L' := [(0, .ref 0), (1, .int 7)]) (S' := [.int (f 43 10)]) (f' := f) rfl ?_
  exact wq_ret rfl ⟨rfl, rfl⟩
theorem mp_count7 (f : HI) : Sp 1 213 [.ref 92, .int 7] f (Ret (f 92 40) f) := by
  show wq 1 213 (Ret (f 92 40) f) 0 [(0, .ref 92), (1, .int 7)] [] f
  refine wq_run1 (pc' := 1) (L' := [(0, .ref 92), (1, .int 7)]) (S' := [.int 7]) (f' := f) rfl ?_
  refine wq_tabIn (t := 99) rfl (by decide) (by decide) ?_
  refine wq_run2 (pc' := 103) (L' := [(0, .ref 92), (1, .int 7)]) (S' := [.int (f 92 40)]) (f' := f) rfl ?_
  exact wq_ret rfl ⟨rfl, rfl⟩
theorem sp_count8 (f : HI) : Sp 1 117 [.ref 0, .int 8] f (Ret (f 43 11) f) := by
  show wq 1 117 (Ret (f 43 11) f) 0 [(0, .ref 0), (1, .int 8)] [] f
  refine wq_run1 (pc' := 1) (L' := [(0, .ref 0), (1, .int 8)]) (S' := [.int 8]) (f' := f) rfl ?_
  refine wq_tabIn (t := 128) rfl (by decide) (by decide) ?_
  refine wq_run3 (pc' := 135) (L' := [(0, .ref 0), (1, .int 8)]) (S' := [.int (f 43 11)]) (f' := f) rfl ?_
  exact wq_ret rfl ⟨rfl, rfl⟩
theorem mp_count8 (f : HI) : Sp 1 213 [.ref 92, .int 8] f (Ret (f 92 41) f) := by
  show wq 1 213 (Ret (f 92 41) f) 0 [(0, .ref 92), (1, .int 8)] [] f
  refine wq_run1 (pc' := 1) (L' := [(0, .ref 92), (1, .int 8)]) (S' := [.int 8]) (f' := f) rfl ?_
  refine wq_tabIn (t := 104) rfl (by decide) (by decide) ?_
  refine wq_run2 (pc' := 108) (L' := [(0, .ref 92), (1, .int 8)]) (S' := [.int (f 92 41)]) (f' := f) rfl ?_
  exact wq_ret rfl ⟨rfl, rfl⟩
theorem sp_count9 (f : HI) : Sp 1 117 [.ref 0, .int 9] f (Ret (f 83 6) f) := by
  show wq 1 117 (Ret (f 83 6) f) 0 [(0, .ref 0), (1, .int 9)] [] f
  refine wq_run1 (pc' := 1) (L' := [(0, .ref 0), (1, .int 9)]) (S' := [.int 9]) (f' := f) rfl ?_
  refine wq_tabIn (t := 136) rfl (by decide) (by decide) ?_
  refine wq_run3 (pc' := 143) (L' := [(0, .ref 0), (1, .int 9)]) (S' := [.int (f 83 6)]) (f' := f) rfl ?_
  exact wq_ret rfl ⟨rfl, rfl⟩
theorem mp_count9 (f : HI) : Sp 1 213 [.ref 92, .int 9] f (Ret (f 92 61) f) := by
  show wq 1 213 (Ret (f 92 61) f) 0 [(0, .ref 92), (1, .int 9)] [] f
  refine wq_run1 (pc' := 1) (L' := [(0, .ref 92), (1, .int 9)]) (S' := [.int 9]) (f' := f) rfl ?_
  refine wq_tabIn (t := 109) rfl (by decide) (by decide) ?_
  refine wq_run2 (pc' := 113) (L' := [(0, .ref 92), (1, .int 9)]) (S' := [.int (f 92 61)]) (f' := f) rfl ?_
  exact wq_ret rfl ⟨rfl, rfl⟩
theorem sp_count10 (f : HI) : Sp 1 117 [.ref 0, .int 10] f (Ret (f 83 8) f) := by
  show wq 1 117 (Ret (f 83 8) f) 0 [(0, .ref 0), (1, .int 10)] [] f
  refine wq_run1 (pc' := 1) (L' := [(0, .ref 0), (1, .int 10)]) (S' := [.int 10]) (f' := f) rfl ?_
  refine wq_tabIn (t := 144) rfl (by decide) (by decide) ?_
  refine wq_run3 (pc' := 151) (L' := [(0, .ref 0), (1, .int 10)]) (S' := [.int (f 83 8)]) (f' := f) rfl ?_
  exact wq_ret rfl ⟨rfl, rfl⟩
theorem mp_count10 (f : HI) : Sp 1 213 [.ref 92, .int 10] f (Ret (f 92 63) f) := by
  show wq 1 213 (Ret (f 92 63) f) 0 [(0, .ref 92), (1, .int 10)] [] f
  refine wq_run1 (pc' := 1) (L' := [(0, .ref 92), (1, .int 10)]) (S' := [.int 10]) (f' := f) rfl ?_
  refine wq_tabIn (t := 114) rfl (by decide) (by decide) ?_
  refine wq_run2 (pc' := 118) (L' := [(0, .ref 92), (1, .int 10)]) (S' := [.int (f 92 63)]) (f' := f) rfl ?_
  exact wq_ret rfl ⟨rfl, rfl⟩
theorem sp_count11 (f : HI) : Sp 1 117 [.ref 0, .int 11] f (Ret (f 77 2) f) := by
  show wq 1 117 (Ret (f 77 2) f) 0 [(0, .ref 0), (1, .int 11)] [] f
  refine wq_run1 (pc' := 1) (L' := [(0, .ref 0), (1, .int 11)]) (S' := [.int 11]) (f' := f) rfl ?_
  refine wq_tabIn (t := 152) rfl (by decide) (by decide) ?_
  refine wq_run3 (pc' := 159) (L' := [(0, .ref 0), (1, .int 11)]) (S' := [.int (f 77 2)]) (f' := f) rfl ?_
  exact wq_ret rfl ⟨rfl, rfl⟩
theorem mp_count11 (f : HI) : Sp 1 213 [.ref 92, .int 11] f (Ret (f 92 54) f) := by
  show wq 1 213 (Ret (f 92 54) f) 0 [(0, .ref 92), (1, .int 11)] [] f
  refine wq_run1 (pc' := 1) (L' := [(0, .ref 92), (1, .int 11)]) (S' := [.int 11]) (f' := f) rfl ?_
  refine wq_tabIn (t := 119) rfl (by decide) (by decide) ?_
  refine wq_run2 (pc' := 123) (L' := [(0, .ref 92), (1, .int 11)]) (S' := [.int (f 92 54)]) (f' := f) rfl ?_
  exact wq_ret rfl ⟨rfl, rfl⟩
theorem sp_countX (f : HI) {w : Int32} (h1 : w.toInt < 0 ∨ 11 < w.toInt) : Sp 1 117 [.ref 0, .int w] f (Ret (-3) f) := by
  show wq 1 117 (Ret (-3) f) 0 [(0, .ref 0), (1, .int w)] [] f
  refine wq_run1 (pc' := 1) (L' := [(0, .ref 0), (1, .int w)]) (S' := [.int w]) (f' := f) rfl ?_
  refine wq_tabOut rfl h1 ?_
  refine wq_run1 (pc' := 162) (L' := [(0, .ref 0), (1, .int w)]) (S' := [.int (-3)]) (f' := f) rfl ?_
  exact wq_ret rfl ⟨rfl, rfl⟩
theorem mp_countX (f : HI) {w : Int32} (h1 : w.toInt < 0 ∨ 11 < w.toInt) : Sp 1 213 [.ref 92, .int w] f (Ret (-3) f) := by
  show wq 1 213 (Ret (-3) f) 0 [(0, .ref 92), (1, .int w)] [] f
  refine wq_run1 (pc' := 1) (L' := [(0, .ref 92), (1, .int w)]) (S' := [.int w]) (f' := f) rfl ?_
  refine wq_tabOut rfl h1 ?_
  refine wq_run1 (pc' := 126) (L' := [(0, .ref 92), (1, .int w)]) (S' := [.int (-3)]) (f' := f) rfl ?_
  exact wq_ret rfl ⟨rfl, rfl⟩
theorem sp_at0 (f : HI) {l : Nat} (hl : l < 24) (hA : inR (nI l) 0 (f 43 6 - 1)) : Sp 3 96 [.ref 0, .int (nI l), .int 0] f (Ret (f (47 + l) 8) f) := by
  show wq 3 96 (Ret (f (47 + l) 8) f) 0 [(0, .ref 0), (1, .int (nI l)), (2, .int 0)] [] f
  refine wq_run2 (pc' := 2) (L' := [(0, .ref 0), (1, .int (nI l)), (2, .int 0)]) (S' := [.int (nI l), .ref 0]) (f' := f) rfl ?_
  refine wq_callI (r := (b2i (inR (nI l) 0 ((f 43 6) - 1)))) (sp_isLetter f (nI l)) (Nat.le_of_ble_eq_true rfl) (pc' := 5) (L' := [(0, .ref 0), (1, .int (nI l)), (2, .int 0)]) (S' := []) rfl (Nat.le_of_ble_eq_true rfl) rfl rfl (Nat.le_of_ble_eq_true rfl) (Nat.le_of_ble_eq_true rfl) ?_
  refine wq_if (c := (b2i (inR (nI l) 0 ((f 43 6) - 1))) = 0) (p1 := 8) (L1 := [(0, .ref 0), (1, .int (nI l)), (2, .int 0)]) (S1 := []) (p2 := 11) (L2 := [(0, .ref 0), (1, .int (nI l)), (2, .int 0)]) (S2 := []) rfl (fun q => absurd q (b2i_n0.mpr hA)) (fun _ => ?_)
  refine wq_run4 (pc' := 19) (L' := [(0, .ref 0), (1, .int (nI l)), (2, .int 0)]) (S' := [.int (nI l), .ref 44]) (f' := f) rfl ?_
  refine wq_qld (j := l) (n := 24) (b := (47 + l)) rfl rfl rfl rfl hl (Nat.le_of_ble_eq_true rfl) (lets_at hl) ?_
  refine wq_run2 (pc' := 22) (L' := [(0, .ref 0), (1, .int (nI l)), (2, .int 0), (3, .ref (47 + l))]) (S' := [.int 0]) (f' := f) rfl ?_
  refine wq_tabIn (t := 64) rfl (by decide) (by decide) ?_
  refine wq_run1 (pc' := 65) (L' := [(0, .ref 0), (1, .int (nI l)), (2, .int 0), (3, .ref (47 + l))]) (S' := [.ref (47 + l)]) (f' := f) rfl ?_
  refine wq_getI (v := (f (47 + l) 8)) rfl (let_O hl) rfl ?_
  exact wq_ret rfl ⟨rfl, rfl⟩
theorem mp_at0 (f : HI) {l : Nat} (hl : l < 24) (hA : inR (nI l) 0 (f 92 35 - 1)) : Sp 3 176 [.ref 92, .int (nI l), .int 0] f (Ret (f 115 l) f) := by
  show wq 3 176 (Ret (f 115 l) f) 0 [(0, .ref 92), (1, .int (nI l)), (2, .int 0)] [] f
  refine wq_run2 (pc' := 2) (L' := [(0, .ref 92), (1, .int (nI l)), (2, .int 0)]) (S' := [.int (nI l), .ref 92]) (f' := f) rfl ?_
  refine wq_callI (r := (b2i (inR (nI l) 0 ((f 92 35) - 1)))) (mp_isLetter f (nI l)) (Nat.le_of_ble_eq_true rfl) (pc' := 5) (L' := [(0, .ref 92), (1, .int (nI l)), (2, .int 0)]) (S' := []) rfl (Nat.le_of_ble_eq_true rfl) rfl rfl (Nat.le_of_ble_eq_true rfl) (Nat.le_of_ble_eq_true rfl) ?_
  refine wq_if (c := (b2i (inR (nI l) 0 ((f 92 35) - 1))) = 0) (p1 := 8) (L1 := [(0, .ref 92), (1, .int (nI l)), (2, .int 0)]) (S1 := []) (p2 := 11) (L2 := [(0, .ref 92), (1, .int (nI l)), (2, .int 0)]) (S2 := []) rfl (fun q => absurd q (b2i_n0.mpr hA)) (fun _ => ?_)
  refine wq_run1 (pc' := 12) (L' := [(0, .ref 92), (1, .int (nI l)), (2, .int 0)]) (S' := [.int 0]) (f' := f) rfl ?_
  refine wq_tabIn (t := 56) rfl (by decide) (by decide) ?_
  refine wq_run3 (pc' := 61) (L' := [(0, .ref 92), (1, .int (nI l)), (2, .int 0)]) (S' := [.int (nI l), .ref 115]) (f' := f) rfl ?_
  refine wq_ald (j := l) (n := 24) (v := (f 115 l)) rfl rfl rfl rfl hl (Nat.le_of_ble_eq_true rfl) rfl ?_
  exact wq_ret rfl ⟨rfl, rfl⟩
theorem sp_at1 (f : HI) {l : Nat} (hl : l < 24) (hA : inR (nI l) 0 (f 43 6 - 1)) : Sp 3 96 [.ref 0, .int (nI l), .int 1] f (Ret (f (47 + l) 9) f) := by
  show wq 3 96 (Ret (f (47 + l) 9) f) 0 [(0, .ref 0), (1, .int (nI l)), (2, .int 1)] [] f
  refine wq_run2 (pc' := 2) (L' := [(0, .ref 0), (1, .int (nI l)), (2, .int 1)]) (S' := [.int (nI l), .ref 0]) (f' := f) rfl ?_
  refine wq_callI (r := (b2i (inR (nI l) 0 ((f 43 6) - 1)))) (sp_isLetter f (nI l)) (Nat.le_of_ble_eq_true rfl) (pc' := 5) (L' := [(0, .ref 0), (1, .int (nI l)), (2, .int 1)]) (S' := []) rfl (Nat.le_of_ble_eq_true rfl) rfl rfl (Nat.le_of_ble_eq_true rfl) (Nat.le_of_ble_eq_true rfl) ?_
  refine wq_if (c := (b2i (inR (nI l) 0 ((f 43 6) - 1))) = 0) (p1 := 8) (L1 := [(0, .ref 0), (1, .int (nI l)), (2, .int 1)]) (S1 := []) (p2 := 11) (L2 := [(0, .ref 0), (1, .int (nI l)), (2, .int 1)]) (S2 := []) rfl (fun q => absurd q (b2i_n0.mpr hA)) (fun _ => ?_)
  refine wq_run4 (pc' := 19) (L' := [(0, .ref 0), (1, .int (nI l)), (2, .int 1)]) (S' := [.int (nI l), .ref 44]) (f' := f) rfl ?_
  refine wq_qld (j := l) (n := 24) (b := (47 + l)) rfl rfl rfl rfl hl (Nat.le_of_ble_eq_true rfl) (lets_at hl) ?_
  refine wq_run2 (pc' := 22) (L' := [(0, .ref 0), (1, .int (nI l)), (2, .int 1), (3, .ref (47 + l))]) (S' := [.int 1]) (f' := f) rfl ?_
  refine wq_tabIn (t := 69) rfl (by decide) (by decide) ?_
  refine wq_run1 (pc' := 70) (L' := [(0, .ref 0), (1, .int (nI l)), (2, .int 1), (3, .ref (47 + l))]) (S' := [.ref (47 + l)]) (f' := f) rfl ?_
  refine wq_getI (v := (f (47 + l) 9)) rfl (let_O hl) rfl ?_
  exact wq_ret rfl ⟨rfl, rfl⟩
theorem mp_at1 (f : HI) {l : Nat} (hl : l < 24) (hA : inR (nI l) 0 (f 92 35 - 1)) : Sp 3 176 [.ref 92, .int (nI l), .int 1] f (Ret (f 116 l) f) := by
  show wq 3 176 (Ret (f 116 l) f) 0 [(0, .ref 92), (1, .int (nI l)), (2, .int 1)] [] f
  refine wq_run2 (pc' := 2) (L' := [(0, .ref 92), (1, .int (nI l)), (2, .int 1)]) (S' := [.int (nI l), .ref 92]) (f' := f) rfl ?_
  refine wq_callI (r := (b2i (inR (nI l) 0 ((f 92 35) - 1)))) (mp_isLetter f (nI l)) (Nat.le_of_ble_eq_true rfl) (pc' := 5) (L' := [(0, .ref 92), (1, .int (nI l)), (2, .int 1)]) (S' := []) rfl (Nat.le_of_ble_eq_true rfl) rfl rfl (Nat.le_of_ble_eq_true rfl) (Nat.le_of_ble_eq_true rfl) ?_
  refine wq_if (c := (b2i (inR (nI l) 0 ((f 92 35) - 1))) = 0) (p1 := 8) (L1 := [(0, .ref 92), (1, .int (nI l)), (2, .int 1)]) (S1 := []) (p2 := 11) (L2 := [(0, .ref 92), (1, .int (nI l)), (2, .int 1)]) (S2 := []) rfl (fun q => absurd q (b2i_n0.mpr hA)) (fun _ => ?_)
  refine wq_run1 (pc' := 12) (L' := [(0, .ref 92), (1, .int (nI l)), (2, .int 1)]) (S' := [.int 1]) (f' := f) rfl ?_
  refine wq_tabIn (t := 63) rfl (by decide) (by decide) ?_
  refine wq_run3 (pc' := 68) (L' := [(0, .ref 92), (1, .int (nI l)), (2, .int 1)]) (S' := [.int (nI l), .ref 116]) (f' := f) rfl ?_
  refine wq_ald (j := l) (n := 24) (v := (f 116 l)) rfl rfl rfl rfl hl (Nat.le_of_ble_eq_true rfl) rfl ?_
  exact wq_ret rfl ⟨rfl, rfl⟩
theorem sp_at2 (f : HI) {l : Nat} (hl : l < 24) (hA : inR (nI l) 0 (f 43 6 - 1)) : Sp 3 96 [.ref 0, .int (nI l), .int 2] f (Ret (if f (47 + l) 13 = 0 then 0 else 1) f) := by
  show wq 3 96 (Ret (if f (47 + l) 13 = 0 then 0 else 1) f) 0 [(0, .ref 0), (1, .int (nI l)), (2, .int 2)] [] f
  refine wq_run2 (pc' := 2) (L' := [(0, .ref 0), (1, .int (nI l)), (2, .int 2)]) (S' := [.int (nI l), .ref 0]) (f' := f) rfl ?_
  refine wq_callI (r := (b2i (inR (nI l) 0 ((f 43 6) - 1)))) (sp_isLetter f (nI l)) (Nat.le_of_ble_eq_true rfl) (pc' := 5) (L' := [(0, .ref 0), (1, .int (nI l)), (2, .int 2)]) (S' := []) rfl (Nat.le_of_ble_eq_true rfl) rfl rfl (Nat.le_of_ble_eq_true rfl) (Nat.le_of_ble_eq_true rfl) ?_
  refine wq_if (c := (b2i (inR (nI l) 0 ((f 43 6) - 1))) = 0) (p1 := 8) (L1 := [(0, .ref 0), (1, .int (nI l)), (2, .int 2)]) (S1 := []) (p2 := 11) (L2 := [(0, .ref 0), (1, .int (nI l)), (2, .int 2)]) (S2 := []) rfl (fun q => absurd q (b2i_n0.mpr hA)) (fun _ => ?_)
  refine wq_run4 (pc' := 19) (L' := [(0, .ref 0), (1, .int (nI l)), (2, .int 2)]) (S' := [.int (nI l), .ref 44]) (f' := f) rfl ?_
  refine wq_qld (j := l) (n := 24) (b := (47 + l)) rfl rfl rfl rfl hl (Nat.le_of_ble_eq_true rfl) (lets_at hl) ?_
  refine wq_run2 (pc' := 22) (L' := [(0, .ref 0), (1, .int (nI l)), (2, .int 2), (3, .ref (47 + l))]) (S' := [.int 2]) (f' := f) rfl ?_
  refine wq_tabIn (t := 74) rfl (by decide) (by decide) ?_
  refine wq_run1 (pc' := 75) (L' := [(0, .ref 0), (1, .int (nI l)), (2, .int 2), (3, .ref (47 + l))]) (S' := [.ref (47 + l)]) (f' := f) rfl ?_
  refine wq_getI (v := (f (47 + l) 13)) rfl (let_O hl) rfl ?_
  refine wq_if (c := (f (47 + l) 13) = 0) (p1 := 85) (L1 := [(0, .ref 0), (1, .int (nI l)), (2, .int 2), (3, .ref (47 + l))]) (S1 := []) (p2 := 81) (L2 := [(0, .ref 0), (1, .int (nI l)), (2, .int 2), (3, .ref (47 + l))]) (S2 := []) rfl (fun c_78 => ?_) (fun c_78 => ?_)
  · refine wq_run1 (pc' := 86) (L' := [(0, .ref 0), (1, .int (nI l)), (2, .int 2), (3, .ref (47 + l))]) (S' := [.int 0]) (f' := f) rfl ?_
    exact wq_ret rfl (Ret.of (if_pos c_78).symm rfl)
  · refine wq_run2 (pc' := 86) (L' := [(0, .ref 0), (1, .int (nI l)), (2, .int 2), (3, .ref (47 + l))]) (S' := [.int 1]) (f' := f) rfl ?_
    exact wq_ret rfl (Ret.of (if_neg c_78).symm rfl)
theorem mp_at2 (f : HI) {l : Nat} (hl : l < 24) (hA : inR (nI l) 0 (f 92 35 - 1)) : Sp 3 176 [.ref 92, .int (nI l), .int 2] f (Ret (if f 119 l = 0 then 0 else 1) f) := by
  show wq 3 176 (Ret (if f 119 l = 0 then 0 else 1) f) 0 [(0, .ref 92), (1, .int (nI l)), (2, .int 2)] [] f
  refine wq_run2 (pc' := 2) (L' := [(0, .ref 92), (1, .int (nI l)), (2, .int 2)]) (S' := [.int (nI l), .ref 92]) (f' := f) rfl ?_
  refine wq_callI (r := (b2i (inR (nI l) 0 ((f 92 35) - 1)))) (mp_isLetter f (nI l)) (Nat.le_of_ble_eq_true rfl) (pc' := 5) (L' := [(0, .ref 92), (1, .int (nI l)), (2, .int 2)]) (S' := []) rfl (Nat.le_of_ble_eq_true rfl) rfl rfl (Nat.le_of_ble_eq_true rfl) (Nat.le_of_ble_eq_true rfl) ?_
  refine wq_if (c := (b2i (inR (nI l) 0 ((f 92 35) - 1))) = 0) (p1 := 8) (L1 := [(0, .ref 92), (1, .int (nI l)), (2, .int 2)]) (S1 := []) (p2 := 11) (L2 := [(0, .ref 92), (1, .int (nI l)), (2, .int 2)]) (S2 := []) rfl (fun q => absurd q (b2i_n0.mpr hA)) (fun _ => ?_)
  refine wq_run1 (pc' := 12) (L' := [(0, .ref 92), (1, .int (nI l)), (2, .int 2)]) (S' := [.int 2]) (f' := f) rfl ?_
  refine wq_tabIn (t := 70) rfl (by decide) (by decide) ?_
  refine wq_run3 (pc' := 75) (L' := [(0, .ref 92), (1, .int (nI l)), (2, .int 2)]) (S' := [.int (nI l), .ref 119]) (f' := f) rfl ?_
  refine wq_ald (j := l) (n := 24) (v := (f 119 l)) rfl rfl rfl rfl hl (Nat.le_of_ble_eq_true rfl) rfl ?_
  refine wq_if (c := (f 119 l) = 0) (p1 := 83) (L1 := [(0, .ref 92), (1, .int (nI l)), (2, .int 2)]) (S1 := []) (p2 := 79) (L2 := [(0, .ref 92), (1, .int (nI l)), (2, .int 2)]) (S2 := []) rfl (fun c_76 => ?_) (fun c_76 => ?_)
  · refine wq_run1 (pc' := 84) (L' := [(0, .ref 92), (1, .int (nI l)), (2, .int 2)]) (S' := [.int 0]) (f' := f) rfl ?_
    exact wq_ret rfl (Ret.of (if_pos c_76).symm rfl)
  · refine wq_run2 (pc' := 84) (L' := [(0, .ref 92), (1, .int (nI l)), (2, .int 2)]) (S' := [.int 1]) (f' := f) rfl ?_
    exact wq_ret rfl (Ret.of (if_neg c_76).symm rfl)
theorem sp_at3 (f : HI) {l : Nat} (hl : l < 24) (hA : inR (nI l) 0 (f 43 6 - 1)) : Sp 3 96 [.ref 0, .int (nI l), .int 3] f (Ret (f (47 + l) 14) f) := by
  show wq 3 96 (Ret (f (47 + l) 14) f) 0 [(0, .ref 0), (1, .int (nI l)), (2, .int 3)] [] f
  refine wq_run2 (pc' := 2) (L' := [(0, .ref 0), (1, .int (nI l)), (2, .int 3)]) (S' := [.int (nI l), .ref 0]) (f' := f) rfl ?_
  refine wq_callI (r := (b2i (inR (nI l) 0 ((f 43 6) - 1)))) (sp_isLetter f (nI l)) (Nat.le_of_ble_eq_true rfl) (pc' := 5) (L' := [(0, .ref 0), (1, .int (nI l)), (2, .int 3)]) (S' := []) rfl (Nat.le_of_ble_eq_true rfl) rfl rfl (Nat.le_of_ble_eq_true rfl) (Nat.le_of_ble_eq_true rfl) ?_
  refine wq_if (c := (b2i (inR (nI l) 0 ((f 43 6) - 1))) = 0) (p1 := 8) (L1 := [(0, .ref 0), (1, .int (nI l)), (2, .int 3)]) (S1 := []) (p2 := 11) (L2 := [(0, .ref 0), (1, .int (nI l)), (2, .int 3)]) (S2 := []) rfl (fun q => absurd q (b2i_n0.mpr hA)) (fun _ => ?_)
  refine wq_run4 (pc' := 19) (L' := [(0, .ref 0), (1, .int (nI l)), (2, .int 3)]) (S' := [.int (nI l), .ref 44]) (f' := f) rfl ?_
  refine wq_qld (j := l) (n := 24) (b := (47 + l)) rfl rfl rfl rfl hl (Nat.le_of_ble_eq_true rfl) (lets_at hl) ?_
  refine wq_run2 (pc' := 22) (L' := [(0, .ref 0), (1, .int (nI l)), (2, .int 3), (3, .ref (47 + l))]) (S' := [.int 3]) (f' := f) rfl ?_
  refine wq_tabIn (t := 87) rfl (by decide) (by decide) ?_
  refine wq_run1 (pc' := 88) (L' := [(0, .ref 0), (1, .int (nI l)), (2, .int 3), (3, .ref (47 + l))]) (S' := [.ref (47 + l)]) (f' := f) rfl ?_
  refine wq_getI (v := (f (47 + l) 14)) rfl (let_O hl) rfl ?_
  exact wq_ret rfl ⟨rfl, rfl⟩
theorem mp_at3 (f : HI) {l : Nat} (hl : l < 24) (hA : inR (nI l) 0 (f 92 35 - 1)) : Sp 3 176 [.ref 92, .int (nI l), .int 3] f (Ret (f 120 l) f) := by
  show wq 3 176 (Ret (f 120 l) f) 0 [(0, .ref 92), (1, .int (nI l)), (2, .int 3)] [] f
  refine wq_run2 (pc' := 2) (L' := [(0, .ref 92), (1, .int (nI l)), (2, .int 3)]) (S' := [.int (nI l), .ref 92]) (f' := f) rfl ?_
  refine wq_callI (r := (b2i (inR (nI l) 0 ((f 92 35) - 1)))) (mp_isLetter f (nI l)) (Nat.le_of_ble_eq_true rfl) (pc' := 5) (L' := [(0, .ref 92), (1, .int (nI l)), (2, .int 3)]) (S' := []) rfl (Nat.le_of_ble_eq_true rfl) rfl rfl (Nat.le_of_ble_eq_true rfl) (Nat.le_of_ble_eq_true rfl) ?_
  refine wq_if (c := (b2i (inR (nI l) 0 ((f 92 35) - 1))) = 0) (p1 := 8) (L1 := [(0, .ref 92), (1, .int (nI l)), (2, .int 3)]) (S1 := []) (p2 := 11) (L2 := [(0, .ref 92), (1, .int (nI l)), (2, .int 3)]) (S2 := []) rfl (fun q => absurd q (b2i_n0.mpr hA)) (fun _ => ?_)
  refine wq_run1 (pc' := 12) (L' := [(0, .ref 92), (1, .int (nI l)), (2, .int 3)]) (S' := [.int 3]) (f' := f) rfl ?_
  refine wq_tabIn (t := 85) rfl (by decide) (by decide) ?_
  refine wq_run3 (pc' := 90) (L' := [(0, .ref 92), (1, .int (nI l)), (2, .int 3)]) (S' := [.int (nI l), .ref 120]) (f' := f) rfl ?_
  refine wq_ald (j := l) (n := 24) (v := (f 120 l)) rfl rfl rfl rfl hl (Nat.le_of_ble_eq_true rfl) rfl ?_
  exact wq_ret rfl ⟨rfl, rfl⟩
theorem sp_at4 (f : HI) {l : Nat} (hl : l < 24) (hA : inR (nI l) 0 (f 43 6 - 1)) : Sp 3 96 [.ref 0, .int (nI l), .int 4] f (Ret (f (47 + l) 15) f) := by
  show wq 3 96 (Ret (f (47 + l) 15) f) 0 [(0, .ref 0), (1, .int (nI l)), (2, .int 4)] [] f
  refine wq_run2 (pc' := 2) (L' := [(0, .ref 0), (1, .int (nI l)), (2, .int 4)]) (S' := [.int (nI l), .ref 0]) (f' := f) rfl ?_
  refine wq_callI (r := (b2i (inR (nI l) 0 ((f 43 6) - 1)))) (sp_isLetter f (nI l)) (Nat.le_of_ble_eq_true rfl) (pc' := 5) (L' := [(0, .ref 0), (1, .int (nI l)), (2, .int 4)]) (S' := []) rfl (Nat.le_of_ble_eq_true rfl) rfl rfl (Nat.le_of_ble_eq_true rfl) (Nat.le_of_ble_eq_true rfl) ?_
  refine wq_if (c := (b2i (inR (nI l) 0 ((f 43 6) - 1))) = 0) (p1 := 8) (L1 := [(0, .ref 0), (1, .int (nI l)), (2, .int 4)]) (S1 := []) (p2 := 11) (L2 := [(0, .ref 0), (1, .int (nI l)), (2, .int 4)]) (S2 := []) rfl (fun q => absurd q (b2i_n0.mpr hA)) (fun _ => ?_)
  refine wq_run4 (pc' := 19) (L' := [(0, .ref 0), (1, .int (nI l)), (2, .int 4)]) (S' := [.int (nI l), .ref 44]) (f' := f) rfl ?_
  refine wq_qld (j := l) (n := 24) (b := (47 + l)) rfl rfl rfl rfl hl (Nat.le_of_ble_eq_true rfl) (lets_at hl) ?_
  refine wq_run2 (pc' := 22) (L' := [(0, .ref 0), (1, .int (nI l)), (2, .int 4), (3, .ref (47 + l))]) (S' := [.int 4]) (f' := f) rfl ?_
  refine wq_tabIn (t := 92) rfl (by decide) (by decide) ?_
  refine wq_run1 (pc' := 93) (L' := [(0, .ref 0), (1, .int (nI l)), (2, .int 4), (3, .ref (47 + l))]) (S' := [.ref (47 + l)]) (f' := f) rfl ?_
  refine wq_getI (v := (f (47 + l) 15)) rfl (let_O hl) rfl ?_
  exact wq_ret rfl ⟨rfl, rfl⟩
theorem mp_at4 (f : HI) {l : Nat} (hl : l < 24) (hA : inR (nI l) 0 (f 92 35 - 1)) : Sp 3 176 [.ref 92, .int (nI l), .int 4] f (Ret (f 121 l) f) := by
  show wq 3 176 (Ret (f 121 l) f) 0 [(0, .ref 92), (1, .int (nI l)), (2, .int 4)] [] f
  refine wq_run2 (pc' := 2) (L' := [(0, .ref 92), (1, .int (nI l)), (2, .int 4)]) (S' := [.int (nI l), .ref 92]) (f' := f) rfl ?_
  refine wq_callI (r := (b2i (inR (nI l) 0 ((f 92 35) - 1)))) (mp_isLetter f (nI l)) (Nat.le_of_ble_eq_true rfl) (pc' := 5) (L' := [(0, .ref 92), (1, .int (nI l)), (2, .int 4)]) (S' := []) rfl (Nat.le_of_ble_eq_true rfl) rfl rfl (Nat.le_of_ble_eq_true rfl) (Nat.le_of_ble_eq_true rfl) ?_
  refine wq_if (c := (b2i (inR (nI l) 0 ((f 92 35) - 1))) = 0) (p1 := 8) (L1 := [(0, .ref 92), (1, .int (nI l)), (2, .int 4)]) (S1 := []) (p2 := 11) (L2 := [(0, .ref 92), (1, .int (nI l)), (2, .int 4)]) (S2 := []) rfl (fun q => absurd q (b2i_n0.mpr hA)) (fun _ => ?_)
  refine wq_run1 (pc' := 12) (L' := [(0, .ref 92), (1, .int (nI l)), (2, .int 4)]) (S' := [.int 4]) (f' := f) rfl ?_
  refine wq_tabIn (t := 92) rfl (by decide) (by decide) ?_
  refine wq_run3 (pc' := 97) (L' := [(0, .ref 92), (1, .int (nI l)), (2, .int 4)]) (S' := [.int (nI l), .ref 121]) (f' := f) rfl ?_
  refine wq_ald (j := l) (n := 24) (v := (f 121 l)) rfl rfl rfl rfl hl (Nat.le_of_ble_eq_true rfl) rfl ?_
  exact wq_ret rfl ⟨rfl, rfl⟩
theorem sp_at5 (f : HI) {l : Nat} (hl : l < 24) (hA : inR (nI l) 0 (f 43 6 - 1)) : Sp 3 96 [.ref 0, .int (nI l), .int 5] f (Ret (f (47 + l) 7) f) := by
  show wq 3 96 (Ret (f (47 + l) 7) f) 0 [(0, .ref 0), (1, .int (nI l)), (2, .int 5)] [] f
  refine wq_run2 (pc' := 2) (L' := [(0, .ref 0), (1, .int (nI l)), (2, .int 5)]) (S' := [.int (nI l), .ref 0]) (f' := f) rfl ?_
  refine wq_callI (r := (b2i (inR (nI l) 0 ((f 43 6) - 1)))) (sp_isLetter f (nI l)) (Nat.le_of_ble_eq_true rfl) (pc' := 5) (L' := [(0, .ref 0), (1, .int (nI l)), (2, .int 5)]) (S' := []) rfl (Nat.le_of_ble_eq_true rfl) rfl rfl (Nat.le_of_ble_eq_true rfl) (Nat.le_of_ble_eq_true rfl) ?_
  refine wq_if (c := (b2i (inR (nI l) 0 ((f 43 6) - 1))) = 0) (p1 := 8) (L1 := [(0, .ref 0), (1, .int (nI l)), (2, .int 5)]) (S1 := []) (p2 := 11) (L2 := [(0, .ref 0), (1, .int (nI l)), (2, .int 5)]) (S2 := []) rfl (fun q => absurd q (b2i_n0.mpr hA)) (fun _ => ?_)
  refine wq_run4 (pc' := 19) (L' := [(0, .ref 0), (1, .int (nI l)), (2, .int 5)]) (S' := [.int (nI l), .ref 44]) (f' := f) rfl ?_
  refine wq_qld (j := l) (n := 24) (b := (47 + l)) rfl rfl rfl rfl hl (Nat.le_of_ble_eq_true rfl) (lets_at hl) ?_
  refine wq_run2 (pc' := 22) (L' := [(0, .ref 0), (1, .int (nI l)), (2, .int 5), (3, .ref (47 + l))]) (S' := [.int 5]) (f' := f) rfl ?_
  refine wq_tabIn (t := 97) rfl (by decide) (by decide) ?_
  refine wq_run1 (pc' := 98) (L' := [(0, .ref 0), (1, .int (nI l)), (2, .int 5), (3, .ref (47 + l))]) (S' := [.ref (47 + l)]) (f' := f) rfl ?_
  refine wq_getI (v := (f (47 + l) 7)) rfl (let_O hl) rfl ?_
  exact wq_ret rfl ⟨rfl, rfl⟩
theorem mp_at5 (f : HI) {l : Nat} (hl : l < 24) (hA : inR (nI l) 0 (f 92 35 - 1)) : Sp 3 176 [.ref 92, .int (nI l), .int 5] f (Ret (f 114 l) f) := by
  show wq 3 176 (Ret (f 114 l) f) 0 [(0, .ref 92), (1, .int (nI l)), (2, .int 5)] [] f
  refine wq_run2 (pc' := 2) (L' := [(0, .ref 92), (1, .int (nI l)), (2, .int 5)]) (S' := [.int (nI l), .ref 92]) (f' := f) rfl ?_
  refine wq_callI (r := (b2i (inR (nI l) 0 ((f 92 35) - 1)))) (mp_isLetter f (nI l)) (Nat.le_of_ble_eq_true rfl) (pc' := 5) (L' := [(0, .ref 92), (1, .int (nI l)), (2, .int 5)]) (S' := []) rfl (Nat.le_of_ble_eq_true rfl) rfl rfl (Nat.le_of_ble_eq_true rfl) (Nat.le_of_ble_eq_true rfl) ?_
  refine wq_if (c := (b2i (inR (nI l) 0 ((f 92 35) - 1))) = 0) (p1 := 8) (L1 := [(0, .ref 92), (1, .int (nI l)), (2, .int 5)]) (S1 := []) (p2 := 11) (L2 := [(0, .ref 92), (1, .int (nI l)), (2, .int 5)]) (S2 := []) rfl (fun q => absurd q (b2i_n0.mpr hA)) (fun _ => ?_)
  refine wq_run1 (pc' := 12) (L' := [(0, .ref 92), (1, .int (nI l)), (2, .int 5)]) (S' := [.int 5]) (f' := f) rfl ?_
  refine wq_tabIn (t := 99) rfl (by decide) (by decide) ?_
  refine wq_run3 (pc' := 104) (L' := [(0, .ref 92), (1, .int (nI l)), (2, .int 5)]) (S' := [.int (nI l), .ref 114]) (f' := f) rfl ?_
  refine wq_ald (j := l) (n := 24) (v := (f 114 l)) rfl rfl rfl rfl hl (Nat.le_of_ble_eq_true rfl) rfl ?_
  exact wq_ret rfl ⟨rfl, rfl⟩
theorem sp_at6 (f : HI) {l : Nat} (hl : l < 24) (hA : inR (nI l) 0 (f 43 6 - 1)) : Sp 3 96 [.ref 0, .int (nI l), .int 6] f (Ret (f (47 + l) 16) f) := by
  show wq 3 96 (Ret (f (47 + l) 16) f) 0 [(0, .ref 0), (1, .int (nI l)), (2, .int 6)] [] f
  refine wq_run2 (pc' := 2) (L' := [(0, .ref 0), (1, .int (nI l)), (2, .int 6)]) (S' := [.int (nI l), .ref 0]) (f' := f) rfl ?_
  refine wq_callI (r := (b2i (inR (nI l) 0 ((f 43 6) - 1)))) (sp_isLetter f (nI l)) (Nat.le_of_ble_eq_true rfl) (pc' := 5) (L' := [(0, .ref 0), (1, .int (nI l)), (2, .int 6)]) (S' := []) rfl (Nat.le_of_ble_eq_true rfl) rfl rfl (Nat.le_of_ble_eq_true rfl) (Nat.le_of_ble_eq_true rfl) ?_
  refine wq_if (c := (b2i (inR (nI l) 0 ((f 43 6) - 1))) = 0) (p1 := 8) (L1 := [(0, .ref 0), (1, .int (nI l)), (2, .int 6)]) (S1 := []) (p2 := 11) (L2 := [(0, .ref 0), (1, .int (nI l)), (2, .int 6)]) (S2 := []) rfl (fun q => absurd q (b2i_n0.mpr hA)) (fun _ => ?_)
  refine wq_run4 (pc' := 19) (L' := [(0, .ref 0), (1, .int (nI l)), (2, .int 6)]) (S' := [.int (nI l), .ref 44]) (f' := f) rfl ?_
  refine wq_qld (j := l) (n := 24) (b := (47 + l)) rfl rfl rfl rfl hl (Nat.le_of_ble_eq_true rfl) (lets_at hl) ?_
  refine wq_run2 (pc' := 22) (L' := [(0, .ref 0), (1, .int (nI l)), (2, .int 6), (3, .ref (47 + l))]) (S' := [.int 6]) (f' := f) rfl ?_
  refine wq_tabIn (t := 102) rfl (by decide) (by decide) ?_
  refine wq_run1 (pc' := 103) (L' := [(0, .ref 0), (1, .int (nI l)), (2, .int 6), (3, .ref (47 + l))]) (S' := [.ref (47 + l)]) (f' := f) rfl ?_
  refine wq_getI (v := (f (47 + l) 16)) rfl (let_O hl) rfl ?_
  exact wq_ret rfl ⟨rfl, rfl⟩
theorem mp_at6 (f : HI) {l : Nat} (hl : l < 24) (hA : inR (nI l) 0 (f 92 35 - 1)) : Sp 3 176 [.ref 92, .int (nI l), .int 6] f (Ret (f 122 l) f) := by
  show wq 3 176 (Ret (f 122 l) f) 0 [(0, .ref 92), (1, .int (nI l)), (2, .int 6)] [] f
  refine wq_run2 (pc' := 2) (L' := [(0, .ref 92), (1, .int (nI l)), (2, .int 6)]) (S' := [.int (nI l), .ref 92]) (f' := f) rfl ?_
  refine wq_callI (r := (b2i (inR (nI l) 0 ((f 92 35) - 1)))) (mp_isLetter f (nI l)) (Nat.le_of_ble_eq_true rfl) (pc' := 5) (L' := [(0, .ref 92), (1, .int (nI l)), (2, .int 6)]) (S' := []) rfl (Nat.le_of_ble_eq_true rfl) rfl rfl (Nat.le_of_ble_eq_true rfl) (Nat.le_of_ble_eq_true rfl) ?_
  refine wq_if (c := (b2i (inR (nI l) 0 ((f 92 35) - 1))) = 0) (p1 := 8) (L1 := [(0, .ref 92), (1, .int (nI l)), (2, .int 6)]) (S1 := []) (p2 := 11) (L2 := [(0, .ref 92), (1, .int (nI l)), (2, .int 6)]) (S2 := []) rfl (fun q => absurd q (b2i_n0.mpr hA)) (fun _ => ?_)
  refine wq_run1 (pc' := 12) (L' := [(0, .ref 92), (1, .int (nI l)), (2, .int 6)]) (S' := [.int 6]) (f' := f) rfl ?_
  refine wq_tabIn (t := 106) rfl (by decide) (by decide) ?_
  refine wq_run3 (pc' := 111) (L' := [(0, .ref 92), (1, .int (nI l)), (2, .int 6)]) (S' := [.int (nI l), .ref 122]) (f' := f) rfl ?_
  refine wq_ald (j := l) (n := 24) (v := (f 122 l)) rfl rfl rfl rfl hl (Nat.le_of_ble_eq_true rfl) rfl ?_
  exact wq_ret rfl ⟨rfl, rfl⟩
theorem sp_atX (f : HI) {l : Nat} {w : Int32} (hl : l < 24) (hA : inR (nI l) 0 (f 43 6 - 1)) (h1 : w.toInt < 0 ∨ 6 < w.toInt) : Sp 3 96 [.ref 0, .int (nI l), .int w] f (Ret (-3) f) := by
  show wq 3 96 (Ret (-3) f) 0 [(0, .ref 0), (1, .int (nI l)), (2, .int w)] [] f
  refine wq_run2 (pc' := 2) (L' := [(0, .ref 0), (1, .int (nI l)), (2, .int w)]) (S' := [.int (nI l), .ref 0]) (f' := f) rfl ?_
  refine wq_callI (r := (b2i (inR (nI l) 0 ((f 43 6) - 1)))) (sp_isLetter f (nI l)) (Nat.le_of_ble_eq_true rfl) (pc' := 5) (L' := [(0, .ref 0), (1, .int (nI l)), (2, .int w)]) (S' := []) rfl (Nat.le_of_ble_eq_true rfl) rfl rfl (Nat.le_of_ble_eq_true rfl) (Nat.le_of_ble_eq_true rfl) ?_
  refine wq_if (c := (b2i (inR (nI l) 0 ((f 43 6) - 1))) = 0) (p1 := 8) (L1 := [(0, .ref 0), (1, .int (nI l)), (2, .int w)]) (S1 := []) (p2 := 11) (L2 := [(0, .ref 0), (1, .int (nI l)), (2, .int w)]) (S2 := []) rfl (fun q => absurd q (b2i_n0.mpr hA)) (fun _ => ?_)
  refine wq_run4 (pc' := 19) (L' := [(0, .ref 0), (1, .int (nI l)), (2, .int w)]) (S' := [.int (nI l), .ref 44]) (f' := f) rfl ?_
  refine wq_qld (j := l) (n := 24) (b := (47 + l)) rfl rfl rfl rfl hl (Nat.le_of_ble_eq_true rfl) (lets_at hl) ?_
  refine wq_run2 (pc' := 22) (L' := [(0, .ref 0), (1, .int (nI l)), (2, .int w), (3, .ref (47 + l))]) (S' := [.int w]) (f' := f) rfl ?_
  refine wq_tabOut rfl h1 ?_
  refine wq_run1 (pc' := 109) (L' := [(0, .ref 0), (1, .int (nI l)), (2, .int w), (3, .ref (47 + l))]) (S' := [.int (-3)]) (f' := f) rfl ?_
  exact wq_ret rfl ⟨rfl, rfl⟩
theorem mp_atX (f : HI) {l : Nat} {w : Int32} (hA : inR (nI l) 0 (f 92 35 - 1)) (h1 : w.toInt < 0 ∨ 6 < w.toInt) : Sp 3 176 [.ref 92, .int (nI l), .int w] f (Ret (-3) f) := by
  show wq 3 176 (Ret (-3) f) 0 [(0, .ref 92), (1, .int (nI l)), (2, .int w)] [] f
  refine wq_run2 (pc' := 2) (L' := [(0, .ref 92), (1, .int (nI l)), (2, .int w)]) (S' := [.int (nI l), .ref 92]) (f' := f) rfl ?_
  refine wq_callI (r := (b2i (inR (nI l) 0 ((f 92 35) - 1)))) (mp_isLetter f (nI l)) (Nat.le_of_ble_eq_true rfl) (pc' := 5) (L' := [(0, .ref 92), (1, .int (nI l)), (2, .int w)]) (S' := []) rfl (Nat.le_of_ble_eq_true rfl) rfl rfl (Nat.le_of_ble_eq_true rfl) (Nat.le_of_ble_eq_true rfl) ?_
  refine wq_if (c := (b2i (inR (nI l) 0 ((f 92 35) - 1))) = 0) (p1 := 8) (L1 := [(0, .ref 92), (1, .int (nI l)), (2, .int w)]) (S1 := []) (p2 := 11) (L2 := [(0, .ref 92), (1, .int (nI l)), (2, .int w)]) (S2 := []) rfl (fun q => absurd q (b2i_n0.mpr hA)) (fun _ => ?_)
  refine wq_run1 (pc' := 12) (L' := [(0, .ref 92), (1, .int (nI l)), (2, .int w)]) (S' := [.int w]) (f' := f) rfl ?_
  refine wq_tabOut rfl h1 ?_
  refine wq_run1 (pc' := 115) (L' := [(0, .ref 92), (1, .int (nI l)), (2, .int w)]) (S' := [.int (-3)]) (f' := f) rfl ?_
  exact wq_ret rfl ⟨rfl, rfl⟩
theorem sp_atU (f : HI) {a w : Int32} (h1 : ¬ inR a 0 (f 43 6 - 1)) : Sp 3 96 [.ref 0, .int a, .int w] f (Ret (-2) f) := by
  show wq 3 96 (Ret (-2) f) 0 [(0, .ref 0), (1, .int a), (2, .int w)] [] f
  refine wq_run2 (pc' := 2) (L' := [(0, .ref 0), (1, .int a), (2, .int w)]) (S' := [.int a, .ref 0]) (f' := f) rfl ?_
  refine wq_callI (r := (b2i (inR a 0 ((f 43 6) - 1)))) (sp_isLetter f a) (Nat.le_of_ble_eq_true rfl) (pc' := 5) (L' := [(0, .ref 0), (1, .int a), (2, .int w)]) (S' := []) rfl (Nat.le_of_ble_eq_true rfl) rfl rfl (Nat.le_of_ble_eq_true rfl) (Nat.le_of_ble_eq_true rfl) ?_
  refine wq_if (c := (b2i (inR a 0 ((f 43 6) - 1))) = 0) (p1 := 8) (L1 := [(0, .ref 0), (1, .int a), (2, .int w)]) (S1 := []) (p2 := 11) (L2 := [(0, .ref 0), (1, .int a), (2, .int w)]) (S2 := []) rfl (fun _ => ?_) (fun q => absurd (b2i_0.mpr h1) q)
  refine wq_run1 (pc' := 10) (L' := [(0, .ref 0), (1, .int a), (2, .int w)]) (S' := [.int (-2)]) (f' := f) rfl ?_
  exact wq_ret rfl ⟨rfl, rfl⟩
theorem mp_atU (f : HI) {a w : Int32} (h1 : ¬ inR a 0 (f 92 35 - 1)) : Sp 3 176 [.ref 92, .int a, .int w] f (Ret (-2) f) := by
  show wq 3 176 (Ret (-2) f) 0 [(0, .ref 92), (1, .int a), (2, .int w)] [] f
  refine wq_run2 (pc' := 2) (L' := [(0, .ref 92), (1, .int a), (2, .int w)]) (S' := [.int a, .ref 92]) (f' := f) rfl ?_
  refine wq_callI (r := (b2i (inR a 0 ((f 92 35) - 1)))) (mp_isLetter f a) (Nat.le_of_ble_eq_true rfl) (pc' := 5) (L' := [(0, .ref 92), (1, .int a), (2, .int w)]) (S' := []) rfl (Nat.le_of_ble_eq_true rfl) rfl rfl (Nat.le_of_ble_eq_true rfl) (Nat.le_of_ble_eq_true rfl) ?_
  refine wq_if (c := (b2i (inR a 0 ((f 92 35) - 1))) = 0) (p1 := 8) (L1 := [(0, .ref 92), (1, .int a), (2, .int w)]) (S1 := []) (p2 := 11) (L2 := [(0, .ref 92), (1, .int a), (2, .int w)]) (S2 := []) rfl (fun _ => ?_) (fun q => absurd (b2i_0.mpr h1) q)
  refine wq_run1 (pc' := 10) (L' := [(0, .ref 92), (1, .int a), (2, .int w)]) (S' := [.int (-2)]) (f' := f) rfl ?_
  exact wq_ret rfl ⟨rfl, rfl⟩
theorem sp_whyU (f : HI) {a w : Int32} (h1 : ¬ inR a 0 (f 16 1 - 1)) : Sp 3 93 [.ref 0, .int a, .int w] f (Ret (-2) f) := by
  show wq 3 93 (Ret (-2) f) 0 [(0, .ref 0), (1, .int a), (2, .int w)] [] f
  refine wq_run2 (pc' := 2) (L' := [(0, .ref 0), (1, .int a), (2, .int w)]) (S' := [.int a, .ref 0]) (f' := f) rfl ?_
  refine wq_callI (r := (b2i (inR a 0 ((f 16 1) - 1)))) (sp_isAct f a) (Nat.le_of_ble_eq_true rfl) (pc' := 5) (L' := [(0, .ref 0), (1, .int a), (2, .int w)]) (S' := []) rfl (Nat.le_of_ble_eq_true rfl) rfl rfl (Nat.le_of_ble_eq_true rfl) (Nat.le_of_ble_eq_true rfl) ?_
  refine wq_if (c := (b2i (inR a 0 ((f 16 1) - 1))) = 0) (p1 := 8) (L1 := [(0, .ref 0), (1, .int a), (2, .int w)]) (S1 := []) (p2 := 11) (L2 := [(0, .ref 0), (1, .int a), (2, .int w)]) (S2 := []) rfl (fun _ => ?_) (fun q => absurd (b2i_0.mpr h1) q)
  refine wq_run1 (pc' := 10) (L' := [(0, .ref 0), (1, .int a), (2, .int w)]) (S' := [.int (-2)]) (f' := f) rfl ?_
  exact wq_ret rfl ⟨rfl, rfl⟩
theorem mp_whyU (f : HI) {a w : Int32} (h1 : ¬ inR a 0 (f 92 17 - 1)) : Sp 3 161 [.ref 92, .int a, .int w] f (Ret (-2) f) := by
  show wq 3 161 (Ret (-2) f) 0 [(0, .ref 92), (1, .int a), (2, .int w)] [] f
  refine wq_run2 (pc' := 2) (L' := [(0, .ref 92), (1, .int a), (2, .int w)]) (S' := [.int a, .ref 92]) (f' := f) rfl ?_
  refine wq_callI (r := (b2i (inR a 0 ((f 92 17) - 1)))) (mp_isAct f a) (Nat.le_of_ble_eq_true rfl) (pc' := 5) (L' := [(0, .ref 92), (1, .int a), (2, .int w)]) (S' := []) rfl (Nat.le_of_ble_eq_true rfl) rfl rfl (Nat.le_of_ble_eq_true rfl) (Nat.le_of_ble_eq_true rfl) ?_
  refine wq_if (c := (b2i (inR a 0 ((f 92 17) - 1))) = 0) (p1 := 8) (L1 := [(0, .ref 92), (1, .int a), (2, .int w)]) (S1 := []) (p2 := 11) (L2 := [(0, .ref 92), (1, .int a), (2, .int w)]) (S2 := []) rfl (fun _ => ?_) (fun q => absurd (b2i_0.mpr h1) q)
  refine wq_run1 (pc' := 10) (L' := [(0, .ref 92), (1, .int a), (2, .int w)]) (S' := [.int (-2)]) (f' := f) rfl ?_
  exact wq_ret rfl ⟨rfl, rfl⟩
theorem sp_underU (f : HI) {a w : Int32} (h1 : ¬ inR a 0 (f 16 1 - 1)) : Sp 3 112 [.ref 0, .int a, .int w] f (Ret (-2) f) := by
  show wq 3 112 (Ret (-2) f) 0 [(0, .ref 0), (1, .int a), (2, .int w)] [] f
  refine wq_run2 (pc' := 2) (L' := [(0, .ref 0), (1, .int a), (2, .int w)]) (S' := [.int a, .ref 0]) (f' := f) rfl ?_
  refine wq_callI (r := (b2i (inR a 0 ((f 16 1) - 1)))) (sp_isAct f a) (Nat.le_of_ble_eq_true rfl) (pc' := 5) (L' := [(0, .ref 0), (1, .int a), (2, .int w)]) (S' := []) rfl (Nat.le_of_ble_eq_true rfl) rfl rfl (Nat.le_of_ble_eq_true rfl) (Nat.le_of_ble_eq_true rfl) ?_
  refine wq_if (c := (b2i (inR a 0 ((f 16 1) - 1))) = 0) (p1 := 8) (L1 := [(0, .ref 0), (1, .int a), (2, .int w)]) (S1 := []) (p2 := 11) (L2 := [(0, .ref 0), (1, .int a), (2, .int w)]) (S2 := []) rfl (fun _ => ?_) (fun q => absurd (b2i_0.mpr h1) q)
  refine wq_run1 (pc' := 10) (L' := [(0, .ref 0), (1, .int a), (2, .int w)]) (S' := [.int (-2)]) (f' := f) rfl ?_
  exact wq_ret rfl ⟨rfl, rfl⟩
theorem mp_underU (f : HI) {a w : Int32} (h1 : ¬ inR a 0 (f 92 17 - 1)) : Sp 3 205 [.ref 92, .int a, .int w] f (Ret (-2) f) := by
  show wq 3 205 (Ret (-2) f) 0 [(0, .ref 92), (1, .int a), (2, .int w)] [] f
  refine wq_run2 (pc' := 2) (L' := [(0, .ref 92), (1, .int a), (2, .int w)]) (S' := [.int a, .ref 92]) (f' := f) rfl ?_
  refine wq_callI (r := (b2i (inR a 0 ((f 92 17) - 1)))) (mp_isAct f a) (Nat.le_of_ble_eq_true rfl) (pc' := 5) (L' := [(0, .ref 92), (1, .int a), (2, .int w)]) (S' := []) rfl (Nat.le_of_ble_eq_true rfl) rfl rfl (Nat.le_of_ble_eq_true rfl) (Nat.le_of_ble_eq_true rfl) ?_
  refine wq_if (c := (b2i (inR a 0 ((f 92 17) - 1))) = 0) (p1 := 8) (L1 := [(0, .ref 92), (1, .int a), (2, .int w)]) (S1 := []) (p2 := 11) (L2 := [(0, .ref 92), (1, .int a), (2, .int w)]) (S2 := []) rfl (fun _ => ?_) (fun q => absurd (b2i_0.mpr h1) q)
  refine wq_run1 (pc' := 10) (L' := [(0, .ref 92), (1, .int a), (2, .int w)]) (S' := [.int (-2)]) (f' := f) rfl ?_
  exact wq_ret rfl ⟨rfl, rfl⟩
theorem sp_met1 (f : HI) {m t h : Int32} (h1 : ¬ (inR m 0 5 ∧ inR t 0 9)) : Sp 3 100 [.ref 0, .int m, .int t, .int h] f (Ret (-2) f) := by
  show wq 3 100 (Ret (-2) f) 0 [(0, .ref 0), (1, .int m), (2, .int t), (3, .int h)] [] f
  refine wq_run1 (pc' := 1) (L' := [(0, .ref 0), (1, .int m), (2, .int t), (3, .int h)]) (S' := [.int m]) (f' := f) rfl ?_
  refine wq_callI (r := (b2i (inR m 0 5))) (sp_isMember f m) (Nat.le_of_ble_eq_true rfl) (pc' := 4) (L' := [(0, .ref 0), (1, .int m), (2, .int t), (3, .int h)]) (S' := []) rfl (Nat.le_of_ble_eq_true rfl) rfl rfl (Nat.le_of_ble_eq_true rfl) (Nat.le_of_ble_eq_true rfl) ?_
  refine wq_if (c := (b2i (inR m 0 5)) = 0) (p1 := 14) (L1 := [(0, .ref 0), (1, .int m), (2, .int t), (3, .int h)]) (S1 := []) (p2 := 7) (L2 := [(0, .ref 0), (1, .int m), (2, .int t), (3, .int h)]) (S2 := []) rfl (fun c_4 => ?_) (fun c_4 => ?_)
  · have h_4 := b2i_0.mp c_4
    refine wq_run1 (pc' := 16) (L' := [(0, .ref 0), (1, .int m), (2, .int t), (3, .int h)]) (S' := [.int (-2)]) (f' := f) rfl ?_
    exact wq_ret rfl ⟨rfl, rfl⟩
  · have h_4 := b2i_n0.mp c_4
    refine wq_run1 (pc' := 8) (L' := [(0, .ref 0), (1, .int m), (2, .int t), (3, .int h)]) (S' := [.int t]) (f' := f) rfl ?_
    refine wq_callI (r := (b2i (inR t 0 9))) (sp_isTown f t) (Nat.le_of_ble_eq_true rfl) (pc' := 11) (L' := [(0, .ref 0), (1, .int m), (2, .int t), (3, .int h)]) (S' := []) rfl (Nat.le_of_ble_eq_true rfl) rfl rfl (Nat.le_of_ble_eq_true rfl) (Nat.le_of_ble_eq_true rfl) ?_
    refine wq_if (c := (b2i (inR t 0 9)) = 0) (p1 := 14) (L1 := [(0, .ref 0), (1, .int m), (2, .int t), (3, .int h)]) (S1 := []) (p2 := 17) (L2 := [(0, .ref 0), (1, .int m), (2, .int t), (3, .int h)]) (S2 := []) rfl (fun c_11 => ?_) (fun c_11 => ?_)
    · have h_11 := b2i_0.mp c_11
      refine wq_run1 (pc' := 16) (L' := [(0, .ref 0), (1, .int m), (2, .int t), (3, .int h)]) (S' := [.int (-2)]) (f' := f) rfl ?_
      exact wq_ret rfl ⟨rfl, rfl⟩
    · have h_11 := b2i_n0.mp c_11
      exact absurd ⟨h_4, h_11⟩ h1
theorem sp_met2 (f : HI) {m t h : Int32} (h1 : inR m 0 5 ∧ inR t 0 9) (h2 : ¬ inR h 0 9000) : Sp 3 100 [.ref 0, .int m, .int t, .int h] f (Ret (-3) f) := by
  show wq 3 100 (Ret (-3) f) 0 [(0, .ref 0), (1, .int m), (2, .int t), (3, .int h)] [] f
  refine wq_run1 (pc' := 1) (L' := [(0, .ref 0), (1, .int m), (2, .int t), (3, .int h)]) (S' := [.int m]) (f' := f) rfl ?_
  refine wq_callI (r := (b2i (inR m 0 5))) (sp_isMember f m) (Nat.le_of_ble_eq_true rfl) (pc' := 4) (L' := [(0, .ref 0), (1, .int m), (2, .int t), (3, .int h)]) (S' := []) rfl (Nat.le_of_ble_eq_true rfl) rfl rfl (Nat.le_of_ble_eq_true rfl) (Nat.le_of_ble_eq_true rfl) ?_
  refine wq_if (c := (b2i (inR m 0 5)) = 0) (p1 := 14) (L1 := [(0, .ref 0), (1, .int m), (2, .int t), (3, .int h)]) (S1 := []) (p2 := 7) (L2 := [(0, .ref 0), (1, .int m), (2, .int t), (3, .int h)]) (S2 := []) rfl (fun q => absurd q (b2i_n0.mpr h1.1)) (fun _ => ?_)
  refine wq_run1 (pc' := 8) (L' := [(0, .ref 0), (1, .int m), (2, .int t), (3, .int h)]) (S' := [.int t]) (f' := f) rfl ?_
  refine wq_callI (r := (b2i (inR t 0 9))) (sp_isTown f t) (Nat.le_of_ble_eq_true rfl) (pc' := 11) (L' := [(0, .ref 0), (1, .int m), (2, .int t), (3, .int h)]) (S' := []) rfl (Nat.le_of_ble_eq_true rfl) rfl rfl (Nat.le_of_ble_eq_true rfl) (Nat.le_of_ble_eq_true rfl) ?_
  refine wq_if (c := (b2i (inR t 0 9)) = 0) (p1 := 14) (L1 := [(0, .ref 0), (1, .int m), (2, .int t), (3, .int h)]) (S1 := []) (p2 := 17) (L2 := [(0, .ref 0), (1, .int m), (2, .int t), (3, .int h)]) (S2 := []) rfl (fun q => absurd q (b2i_n0.mpr h1.2)) (fun _ => ?_)
  refine wq_run3 (pc' := 22) (L' := [(0, .ref 0), (1, .int m), (2, .int t), (3, .int h)]) (S' := [.int 9000, .int 0, .int h]) (f' := f) rfl ?_
  refine wq_callI (r := (b2i (inR h 0 9000))) (sp_within f h 0 9000) (Nat.le_of_ble_eq_true rfl) (pc' := 25) (L' := [(0, .ref 0), (1, .int m), (2, .int t), (3, .int h)]) (S' := []) rfl (Nat.le_of_ble_eq_true rfl) rfl rfl (Nat.le_of_ble_eq_true rfl) (Nat.le_of_ble_eq_true rfl) ?_
  refine wq_if (c := (b2i (inR h 0 9000)) = 0) (p1 := 28) (L1 := [(0, .ref 0), (1, .int m), (2, .int t), (3, .int h)]) (S1 := []) (p2 := 31) (L2 := [(0, .ref 0), (1, .int m), (2, .int t), (3, .int h)]) (S2 := []) rfl (fun _ => ?_) (fun q => absurd (b2i_0.mpr h2) q)
  refine wq_run1 (pc' := 30) (L' := [(0, .ref 0), (1, .int m), (2, .int t), (3, .int h)]) (S' := [.int (-3)]) (f' := f) rfl ?_
  exact wq_ret rfl ⟨rfl, rfl⟩
theorem sp_met3 (f : HI) {m t h : Int32} {c : Nat} (h1 : inR m 0 5 ∧ inR t 0 9) (h2 : inR h 0 9000) (hc : f 71 6 = nI c) (hc2 : c = 12) : Sp 3 100 [.ref 0, .int m, .int t, .int h] f (Ret (-5) f) := by
  show wq 3 100 (Ret (-5) f) 0 [(0, .ref 0), (1, .int m), (2, .int t), (3, .int h)] [] f
  refine wq_run1 (pc' := 1) (L' := [(0, .ref 0), (1, .int m), (2, .int t), (3, .int h)]) (S' := [.int m]) (f' := f) rfl ?_
  refine wq_callI (r := (b2i (inR m 0 5))) (sp_isMember f m) (Nat.le_of_ble_eq_true rfl) (pc' := 4) (L' := [(0, .ref 0), (1, .int m), (2, .int t), (3, .int h)]) (S' := []) rfl (Nat.le_of_ble_eq_true rfl) rfl rfl (Nat.le_of_ble_eq_true rfl) (Nat.le_of_ble_eq_true rfl) ?_
  refine wq_if (c := (b2i (inR m 0 5)) = 0) (p1 := 14) (L1 := [(0, .ref 0), (1, .int m), (2, .int t), (3, .int h)]) (S1 := []) (p2 := 7) (L2 := [(0, .ref 0), (1, .int m), (2, .int t), (3, .int h)]) (S2 := []) rfl (fun q => absurd q (b2i_n0.mpr h1.1)) (fun _ => ?_)
  refine wq_run1 (pc' := 8) (L' := [(0, .ref 0), (1, .int m), (2, .int t), (3, .int h)]) (S' := [.int t]) (f' := f) rfl ?_
  refine wq_callI (r := (b2i (inR t 0 9))) (sp_isTown f t) (Nat.le_of_ble_eq_true rfl) (pc' := 11) (L' := [(0, .ref 0), (1, .int m), (2, .int t), (3, .int h)]) (S' := []) rfl (Nat.le_of_ble_eq_true rfl) rfl rfl (Nat.le_of_ble_eq_true rfl) (Nat.le_of_ble_eq_true rfl) ?_
  refine wq_if (c := (b2i (inR t 0 9)) = 0) (p1 := 14) (L1 := [(0, .ref 0), (1, .int m), (2, .int t), (3, .int h)]) (S1 := []) (p2 := 17) (L2 := [(0, .ref 0), (1, .int m), (2, .int t), (3, .int h)]) (S2 := []) rfl (fun q => absurd q (b2i_n0.mpr h1.2)) (fun _ => ?_)
  refine wq_run3 (pc' := 22) (L' := [(0, .ref 0), (1, .int m), (2, .int t), (3, .int h)]) (S' := [.int 9000, .int 0, .int h]) (f' := f) rfl ?_
  refine wq_callI (r := (b2i (inR h 0 9000))) (sp_within f h 0 9000) (Nat.le_of_ble_eq_true rfl) (pc' := 25) (L' := [(0, .ref 0), (1, .int m), (2, .int t), (3, .int h)]) (S' := []) rfl (Nat.le_of_ble_eq_true rfl) rfl rfl (Nat.le_of_ble_eq_true rfl) (Nat.le_of_ble_eq_true rfl) ?_
  refine wq_if (c := (b2i (inR h 0 9000)) = 0) (p1 := 28) (L1 := [(0, .ref 0), (1, .int m), (2, .int t), (3, .int h)]) (S1 := []) (p2 := 31) (L2 := [(0, .ref 0), (1, .int m), (2, .int t), (3, .int h)]) (S2 := []) rfl (fun q => absurd q (b2i_n0.mpr h2)) (fun _ => ?_)
  refine wq_run3 (pc' := 38) (L' := [(0, .ref 0), (1, .int m), (2, .int t), (3, .int h)]) (S' := [.int (f 71 6)]) (f' := f) rfl ?_
  refine wq_v (y := (nI c)) (hc) ?_
  refine wq_run1 (pc' := 40) (L' := [(0, .ref 0), (1, .int m), (2, .int t), (3, .int h)]) (S' := [.int 12, .int (nI c)]) (f' := f) rfl ?_
  refine wq_if (c := (nI c) < 12) (p1 := 46) (L1 := [(0, .ref 0), (1, .int m), (2, .int t), (3, .int h)]) (S1 := []) (p2 := 43) (L2 := [(0, .ref 0), (1, .int m), (2, .int t), (3, .int h)]) (S2 := []) rfl (fun q => absurd q (fun q => absurd ((nI_ltI (a := c) (b := 12) (by omega) (by omega)).mp q) (by omega))) (fun _ => ?_)
  refine wq_run1 (pc' := 45) (L' := [(0, .ref 0), (1, .int m), (2, .int t), (3, .int h)]) (S' := [.int (-5)]) (f' := f) rfl ?_
  exact wq_ret rfl ⟨rfl, rfl⟩
theorem sp_addMeeting (f : HI) {m t h : Int32} {c : Nat} (hc : f 71 6 = nI c) (hc2 : c < 12) : Sp 1 74 [.ref 71, .int m, .int t, .int h] f (Ret (nI (c + 1)) (up1 (up1 (up1 (up1 f 71 (upd (f 71) 6 (nI (c + 1)))) 74 (upd (f 74) c h)) 73 (upd (f 73) c t)) 72 (upd (f 72) c m))) := by
  show wq 1 74 (Ret (nI (c + 1)) (up1 (up1 (up1 (up1 f 71 (upd (f 71) 6 (nI (c + 1)))) 74 (upd (f 74) c h)) 73 (upd (f 73) c t)) 72 (upd (f 72) c m))) 0 [(0, .ref 71), (1, .int m), (2, .int t), (3, .int h)] [] f
  refine wq_run4 (pc' := 8) (L' := [(0, .ref 71), (1, .int m), (2, .int t), (3, .int h)]) (S' := [.int (f 71 6), .ref 72]) (f' := f) rfl ?_
  refine wq_v (y := (nI c)) (hc) ?_
  refine wq_run1 (pc' := 9) (L' := [(0, .ref 71), (1, .int m), (2, .int t), (3, .int h)]) (S' := [.int m, .int (nI c), .ref 72]) (f' := f) rfl ?_
  refine wq_ist (j := c) (n := 12) rfl rfl rfl rfl (by omega) (Nat.le_of_ble_eq_true rfl) ?_
  refine wq_h (f' := (up1 f 72 (upd (f 72) c m))) (up2_eq1 f 72 c m) ?_
  refine wq_run4 (pc' := 18) (L' := [(0, .ref 71), (1, .int m), (2, .int t), (3, .int h)]) (S' := [.int (f 71 6), .ref 73]) (f' := (up1 f 72 (upd (f 72) c m))) rfl ?_
  refine wq_v (y := (nI c)) (hc) ?_
  refine wq_run1 (pc' := 19) (L' := [(0, .ref 71), (1, .int m), (2, .int t), (3, .int h)]) (S' := [.int t, .int (nI c), .ref 73]) (f' := (up1 f 72 (upd (f 72) c m))) rfl ?_
  refine wq_ist (j := c) (n := 12) rfl rfl rfl rfl (by omega) (Nat.le_of_ble_eq_true rfl) ?_
  refine wq_h (f' := (up1 (up1 f 73 (upd (f 73) c t)) 72 (upd (f 72) c m))) ((up2_up1_ne (f := f) (g := (upd (f 72) c m)) (k := c) (v := t) (show (73 : Nat) ≠ 72 by decide)).trans (congrArg (fun z => up1 z 72 (upd (f 72) c m)) (up2_eq1 f 73 c t))) ?_
  refine wq_run4 (pc' := 28) (L' := [(0, .ref 71), (1, .int m), (2, .int t), (3, .int h)]) (S' := [.int (f 71 6), .ref 74]) (f' := (up1 (up1 f 73 (upd (f 73) c t)) 72 (upd (f 72) c m))) rfl ?_
  refine wq_v (y := (nI c)) (hc) ?_
  refine wq_run1 (pc' := 29) (L' := [(0, .ref 71), (1, .int m), (2, .int t), (3, .int h)]) (S' := [.int h, .int (nI c), .ref 74]) (f' := (up1 (up1 f 73 (upd (f 73) c t)) 72 (upd (f 72) c m))) rfl ?_
  refine wq_ist (j := c) (n := 12) rfl rfl rfl rfl (by omega) (Nat.le_of_ble_eq_true rfl) ?_
  refine wq_h (f' := (up1 (up1 (up1 f 74 (upd (f 74) c h)) 73 (upd (f 73) c t)) 72 (upd (f 72) c m))) ((up2_up1_ne (f := (up1 f 73 (upd (f 73) c t))) (g := (upd (f 72) c m)) (k := c) (v := h) (show (74 : Nat) ≠ 72 by decide)).trans (congrArg (fun z => up1 z 72 (upd (f 72) c m)) ((up2_up1_ne (f := f) (g := (upd (f 73) c t)) (k := c) (v := h) (show (74 : Nat) ≠ 73 by decide)).trans (congrArg (fun z => up1 z 73 (upd (f 73) c t)) (up2_eq1 f 74 c h))))) ?_
  refine wq_run3 (pc' := 35) (L' := [(0, .ref 71), (1, .int m), (2, .int t), (3, .int h)]) (S' := [.int (f 71 6), .ref 71]) (f' := (up1 (up1 (up1 f 74 (upd (f 74) c h)) 73 (upd (f 73) c t)) 72 (upd (f 72) c m))) rfl ?_
  refine wq_v (y := (nI c)) (hc) ?_
  refine wq_run2 (pc' := 37) (L' := [(0, .ref 71), (1, .int m), (2, .int t), (3, .int h)]) (S' := [.int ((nI c) + 1), .ref 71]) (f' := (up1 (up1 (up1 f 74 (upd (f 74) c h)) 73 (upd (f 73) c t)) 72 (upd (f 72) c m))) rfl ?_
  refine wq_v (y := (nI (c + 1))) (nI_add c 1) ?_
  refine wq_putI rfl rfl ?_
  refine wq_h (f' := (up1 (up1 (up1 (up1 f 71 (upd (f 71) 6 (nI (c + 1)))) 74 (upd (f 74) c h)) 73 (upd (f 73) c t)) 72 (upd (f 72) c m))) ((up2_up1_ne (f := (up1 (up1 f 74 (upd (f 74) c h)) 73 (upd (f 73) c t))) (g := (upd (f 72) c m)) (k := 6) (v := (nI (c + 1))) (show (71 : Nat) ≠ 72 by decide)).trans (congrArg (fun z => up1 z 72 (upd (f 72) c m)) ((up2_up1_ne (f := (up1 f 74 (upd (f 74) c h))) (g := (upd (f 73) c t)) (k := 6) (v := (nI (c + 1))) (show (71 : Nat) ≠ 73 by decide)).trans (congrArg (fun z => up1 z 73 (upd (f 73) c t)) ((up2_up1_ne (f := f) (g := (upd (f 74) c h)) (k := 6) (v := (nI (c + 1))) (show (71 : Nat) ≠ 74 by decide)).trans (congrArg (fun z => up1 z 74 (upd (f 74) c h)) (up2_eq1 f 71 6 (nI (c + 1))))))))) ?_
  refine wq_run2 (pc' := 44) (L' := [(0, .ref 71), (1, .int m), (2, .int t), (3, .int h)]) (S' := [.int (nI (c + 1))]) (f' := (up1 (up1 (up1 (up1 f 71 (upd (f 71) 6 (nI (c + 1)))) 74 (upd (f 74) c h)) 73 (upd (f 73) c t)) 72 (upd (f 72) c m))) rfl ?_
  exact wq_ret rfl ⟨rfl, rfl⟩
theorem sp_met4 (f : HI) {m t h : Int32} {c : Nat} (h1 : inR m 0 5 ∧ inR t 0 9) (h2 : inR h 0 9000) (hc : f 71 6 = nI c) (hc2 : c < 12) : Sp 3 100 [.ref 0, .int m, .int t, .int h] f (Ret (nI (c + 1)) (up1 (up1 (up1 (up1 f 71 (upd (f 71) 6 (nI (c + 1)))) 74 (upd (f 74) c h)) 73 (upd (f 73) c t)) 72 (upd (f 72) c m))) := by
  show wq 3 100 (Ret (nI (c + 1)) (up1 (up1 (up1 (up1 f 71 (upd (f 71) 6 (nI (c + 1)))) 74 (upd (f 74) c h)) 73 (upd (f 73) c t)) 72 (upd (f 72) c m))) 0 [(0, .ref 0), (1, .int m), (2, .int t), (3, .int h)] [] f
  refine wq_run1 (pc' := 1) (L' := [(0, .ref 0), (1, .int m), (2, .int t), (3, .int h)]) (S' := [.int m]) (f' := f) rfl ?_
  refine wq_callI (r := (b2i (inR m 0 5))) (sp_isMember f m) (Nat.le_of_ble_eq_true rfl) (pc' := 4) (L' := [(0, .ref 0), (1, .int m), (2, .int t), (3, .int h)]) (S' := []) rfl (Nat.le_of_ble_eq_true rfl) rfl rfl (Nat.le_of_ble_eq_true rfl) (Nat.le_of_ble_eq_true rfl) ?_
  refine wq_if (c := (b2i (inR m 0 5)) = 0) (p1 := 14) (L1 := [(0, .ref 0), (1, .int m), (2, .int t), (3, .int h)]) (S1 := []) (p2 := 7) (L2 := [(0, .ref 0), (1, .int m), (2, .int t), (3, .int h)]) (S2 := []) rfl (fun q => absurd q (b2i_n0.mpr h1.1)) (fun _ => ?_)
  refine wq_run1 (pc' := 8) (L' := [(0, .ref 0), (1, .int m), (2, .int t), (3, .int h)]) (S' := [.int t]) (f' := f) rfl ?_
  refine wq_callI (r := (b2i (inR t 0 9))) (sp_isTown f t) (Nat.le_of_ble_eq_true rfl) (pc' := 11) (L' := [(0, .ref 0), (1, .int m), (2, .int t), (3, .int h)]) (S' := []) rfl (Nat.le_of_ble_eq_true rfl) rfl rfl (Nat.le_of_ble_eq_true rfl) (Nat.le_of_ble_eq_true rfl) ?_
  refine wq_if (c := (b2i (inR t 0 9)) = 0) (p1 := 14) (L1 := [(0, .ref 0), (1, .int m), (2, .int t), (3, .int h)]) (S1 := []) (p2 := 17) (L2 := [(0, .ref 0), (1, .int m), (2, .int t), (3, .int h)]) (S2 := []) rfl (fun q => absurd q (b2i_n0.mpr h1.2)) (fun _ => ?_)
  refine wq_run3 (pc' := 22) (L' := [(0, .ref 0), (1, .int m), (2, .int t), (3, .int h)]) (S' := [.int 9000, .int 0, .int h]) (f' := f) rfl ?_
  refine wq_callI (r := (b2i (inR h 0 9000))) (sp_within f h 0 9000) (Nat.le_of_ble_eq_true rfl) (pc' := 25) (L' := [(0, .ref 0), (1, .int m), (2, .int t), (3, .int h)]) (S' := []) rfl (Nat.le_of_ble_eq_true rfl) rfl rfl (Nat.le_of_ble_eq_true rfl) (Nat.le_of_ble_eq_true rfl) ?_
  refine wq_if (c := (b2i (inR h 0 9000)) = 0) (p1 := 28) (L1 := [(0, .ref 0), (1, .int m), (2, .int t), (3, .int h)]) (S1 := []) (p2 := 31) (L2 := [(0, .ref 0), (1, .int m), (2, .int t), (3, .int h)]) (S2 := []) rfl (fun q => absurd q (b2i_n0.mpr h2)) (fun _ => ?_)
  refine wq_run3 (pc' := 38) (L' := [(0, .ref 0), (1, .int m), (2, .int t), (3, .int h)]) (S' := [.int (f 71 6)]) (f' := f) rfl ?_
  refine wq_v (y := (nI c)) (hc) ?_
  refine wq_run1 (pc' := 40) (L' := [(0, .ref 0), (1, .int m), (2, .int t), (3, .int h)]) (S' := [.int 12, .int (nI c)]) (f' := f) rfl ?_
  refine wq_if (c := (nI c) < 12) (p1 := 46) (L1 := [(0, .ref 0), (1, .int m), (2, .int t), (3, .int h)]) (S1 := []) (p2 := 43) (L2 := [(0, .ref 0), (1, .int m), (2, .int t), (3, .int h)]) (S2 := []) rfl (fun _ => ?_) (fun q => absurd ((nI_ltI (a := c) (b := 12) (by omega) (by omega)).mpr (by omega)) q)
  refine wq_run5 (pc' := 53) (L' := [(0, .ref 0), (1, .int m), (2, .int t), (3, .int h)]) (S' := [.int h, .int t, .int m, .ref 71]) (f' := f) rfl ?_
  refine wq_callI (r := (nI (c + 1))) (g := (up1 (up1 (up1 (up1 f 71 (upd (f 71) 6 (nI (c + 1)))) 74 (upd (f 74) c h)) 73 (upd (f 73) c t)) 72 (upd (f 72) c m))) (sp_addMeeting f hc hc2) (Nat.le_of_ble_eq_true rfl) (pc' := 56) (L' := [(0, .ref 0), (1, .int m), (2, .int t), (3, .int h)]) (S' := []) rfl (Nat.le_of_ble_eq_true rfl) rfl rfl (Nat.le_of_ble_eq_true rfl) (Nat.le_of_ble_eq_true rfl) ?_
  exact wq_ret rfl ⟨rfl, rfl⟩
theorem mp_met1 (f : HI) {m t h : Int32} (h1 : ¬ (inR m 0 5 ∧ inR t 0 9)) : Sp 3 180 [.ref 92, .int m, .int t, .int h] f (Ret (-2) f) := by
  show wq 3 180 (Ret (-2) f) 0 [(0, .ref 92), (1, .int m), (2, .int t), (3, .int h)] [] f
  refine wq_run1 (pc' := 1) (L' := [(0, .ref 92), (1, .int m), (2, .int t), (3, .int h)]) (S' := [.int m]) (f' := f) rfl ?_
  refine wq_callI (r := (b2i (inR m 0 5))) (mp_isMember f m) (Nat.le_of_ble_eq_true rfl) (pc' := 4) (L' := [(0, .ref 92), (1, .int m), (2, .int t), (3, .int h)]) (S' := []) rfl (Nat.le_of_ble_eq_true rfl) rfl rfl (Nat.le_of_ble_eq_true rfl) (Nat.le_of_ble_eq_true rfl) ?_
  refine wq_if (c := (b2i (inR m 0 5)) = 0) (p1 := 14) (L1 := [(0, .ref 92), (1, .int m), (2, .int t), (3, .int h)]) (S1 := []) (p2 := 7) (L2 := [(0, .ref 92), (1, .int m), (2, .int t), (3, .int h)]) (S2 := []) rfl (fun c_4 => ?_) (fun c_4 => ?_)
  · have h_4 := b2i_0.mp c_4
    refine wq_run1 (pc' := 16) (L' := [(0, .ref 92), (1, .int m), (2, .int t), (3, .int h)]) (S' := [.int (-2)]) (f' := f) rfl ?_
    exact wq_ret rfl ⟨rfl, rfl⟩
  · have h_4 := b2i_n0.mp c_4
    refine wq_run1 (pc' := 8) (L' := [(0, .ref 92), (1, .int m), (2, .int t), (3, .int h)]) (S' := [.int t]) (f' := f) rfl ?_
    refine wq_callI (r := (b2i (inR t 0 9))) (mp_isTown f t) (Nat.le_of_ble_eq_true rfl) (pc' := 11) (L' := [(0, .ref 92), (1, .int m), (2, .int t), (3, .int h)]) (S' := []) rfl (Nat.le_of_ble_eq_true rfl) rfl rfl (Nat.le_of_ble_eq_true rfl) (Nat.le_of_ble_eq_true rfl) ?_
    refine wq_if (c := (b2i (inR t 0 9)) = 0) (p1 := 14) (L1 := [(0, .ref 92), (1, .int m), (2, .int t), (3, .int h)]) (S1 := []) (p2 := 17) (L2 := [(0, .ref 92), (1, .int m), (2, .int t), (3, .int h)]) (S2 := []) rfl (fun c_11 => ?_) (fun c_11 => ?_)
    · have h_11 := b2i_0.mp c_11
      refine wq_run1 (pc' := 16) (L' := [(0, .ref 92), (1, .int m), (2, .int t), (3, .int h)]) (S' := [.int (-2)]) (f' := f) rfl ?_
      exact wq_ret rfl ⟨rfl, rfl⟩
    · have h_11 := b2i_n0.mp c_11
      exact absurd ⟨h_4, h_11⟩ h1
theorem mp_met2 (f : HI) {m t h : Int32} (h1 : inR m 0 5 ∧ inR t 0 9) (h2 : ¬ inR h 0 9000) : Sp 3 180 [.ref 92, .int m, .int t, .int h] f (Ret (-3) f) := by
  show wq 3 180 (Ret (-3) f) 0 [(0, .ref 92), (1, .int m), (2, .int t), (3, .int h)] [] f
  refine wq_run1 (pc' := 1) (L' := [(0, .ref 92), (1, .int m), (2, .int t), (3, .int h)]) (S' := [.int m]) (f' := f) rfl ?_
  refine wq_callI (r := (b2i (inR m 0 5))) (mp_isMember f m) (Nat.le_of_ble_eq_true rfl) (pc' := 4) (L' := [(0, .ref 92), (1, .int m), (2, .int t), (3, .int h)]) (S' := []) rfl (Nat.le_of_ble_eq_true rfl) rfl rfl (Nat.le_of_ble_eq_true rfl) (Nat.le_of_ble_eq_true rfl) ?_
  refine wq_if (c := (b2i (inR m 0 5)) = 0) (p1 := 14) (L1 := [(0, .ref 92), (1, .int m), (2, .int t), (3, .int h)]) (S1 := []) (p2 := 7) (L2 := [(0, .ref 92), (1, .int m), (2, .int t), (3, .int h)]) (S2 := []) rfl (fun q => absurd q (b2i_n0.mpr h1.1)) (fun _ => ?_)
  refine wq_run1 (pc' := 8) (L' := [(0, .ref 92), (1, .int m), (2, .int t), (3, .int h)]) (S' := [.int t]) (f' := f) rfl ?_
  refine wq_callI (r := (b2i (inR t 0 9))) (mp_isTown f t) (Nat.le_of_ble_eq_true rfl) (pc' := 11) (L' := [(0, .ref 92), (1, .int m), (2, .int t), (3, .int h)]) (S' := []) rfl (Nat.le_of_ble_eq_true rfl) rfl rfl (Nat.le_of_ble_eq_true rfl) (Nat.le_of_ble_eq_true rfl) ?_
  refine wq_if (c := (b2i (inR t 0 9)) = 0) (p1 := 14) (L1 := [(0, .ref 92), (1, .int m), (2, .int t), (3, .int h)]) (S1 := []) (p2 := 17) (L2 := [(0, .ref 92), (1, .int m), (2, .int t), (3, .int h)]) (S2 := []) rfl (fun q => absurd q (b2i_n0.mpr h1.2)) (fun _ => ?_)
  refine wq_run4 (pc' := 23) (L' := [(0, .ref 92), (1, .int m), (2, .int t), (3, .int h)]) (S' := [.long 9000, .long 0, .long h.toInt64]) (f' := f) rfl ?_
  refine wq_callI (r := (b2i (inR h 0 9000))) (mp_in f h 0 9000) (Nat.le_of_ble_eq_true rfl) (pc' := 26) (L' := [(0, .ref 92), (1, .int m), (2, .int t), (3, .int h)]) (S' := []) rfl (Nat.le_of_ble_eq_true rfl) rfl rfl (Nat.le_of_ble_eq_true rfl) (Nat.le_of_ble_eq_true rfl) ?_
  refine wq_if (c := (b2i (inR h 0 9000)) = 0) (p1 := 29) (L1 := [(0, .ref 92), (1, .int m), (2, .int t), (3, .int h)]) (S1 := []) (p2 := 32) (L2 := [(0, .ref 92), (1, .int m), (2, .int t), (3, .int h)]) (S2 := []) rfl (fun _ => ?_) (fun q => absurd (b2i_0.mpr h2) q)
  refine wq_run1 (pc' := 31) (L' := [(0, .ref 92), (1, .int m), (2, .int t), (3, .int h)]) (S' := [.int (-3)]) (f' := f) rfl ?_
  exact wq_ret rfl ⟨rfl, rfl⟩
theorem mp_met3 (f : HI) {m t h : Int32} {c : Nat} (h1 : inR m 0 5 ∧ inR t 0 9) (h2 : inR h 0 9000) (hc : f 92 52 = nI c) (hc2 : c = 12) : Sp 3 180 [.ref 92, .int m, .int t, .int h] f (Ret (-5) f) := by
  show wq 3 180 (Ret (-5) f) 0 [(0, .ref 92), (1, .int m), (2, .int t), (3, .int h)] [] f
  refine wq_run1 (pc' := 1) (L' := [(0, .ref 92), (1, .int m), (2, .int t), (3, .int h)]) (S' := [.int m]) (f' := f) rfl ?_
  refine wq_callI (r := (b2i (inR m 0 5))) (mp_isMember f m) (Nat.le_of_ble_eq_true rfl) (pc' := 4) (L' := [(0, .ref 92), (1, .int m), (2, .int t), (3, .int h)]) (S' := []) rfl (Nat.le_of_ble_eq_true rfl) rfl rfl (Nat.le_of_ble_eq_true rfl) (Nat.le_of_ble_eq_true rfl) ?_
  refine wq_if (c := (b2i (inR m 0 5)) = 0) (p1 := 14) (L1 := [(0, .ref 92), (1, .int m), (2, .int t), (3, .int h)]) (S1 := []) (p2 := 7) (L2 := [(0, .ref 92), (1, .int m), (2, .int t), (3, .int h)]) (S2 := []) rfl (fun q => absurd q (b2i_n0.mpr h1.1)) (fun _ => ?_)
  refine wq_run1 (pc' := 8) (L' := [(0, .ref 92), (1, .int m), (2, .int t), (3, .int h)]) (S' := [.int t]) (f' := f) rfl ?_
  refine wq_callI (r := (b2i (inR t 0 9))) (mp_isTown f t) (Nat.le_of_ble_eq_true rfl) (pc' := 11) (L' := [(0, .ref 92), (1, .int m), (2, .int t), (3, .int h)]) (S' := []) rfl (Nat.le_of_ble_eq_true rfl) rfl rfl (Nat.le_of_ble_eq_true rfl) (Nat.le_of_ble_eq_true rfl) ?_
  refine wq_if (c := (b2i (inR t 0 9)) = 0) (p1 := 14) (L1 := [(0, .ref 92), (1, .int m), (2, .int t), (3, .int h)]) (S1 := []) (p2 := 17) (L2 := [(0, .ref 92), (1, .int m), (2, .int t), (3, .int h)]) (S2 := []) rfl (fun q => absurd q (b2i_n0.mpr h1.2)) (fun _ => ?_)
  refine wq_run4 (pc' := 23) (L' := [(0, .ref 92), (1, .int m), (2, .int t), (3, .int h)]) (S' := [.long 9000, .long 0, .long h.toInt64]) (f' := f) rfl ?_
  refine wq_callI (r := (b2i (inR h 0 9000))) (mp_in f h 0 9000) (Nat.le_of_ble_eq_true rfl) (pc' := 26) (L' := [(0, .ref 92), (1, .int m), (2, .int t), (3, .int h)]) (S' := []) rfl (Nat.le_of_ble_eq_true rfl) rfl rfl (Nat.le_of_ble_eq_true rfl) (Nat.le_of_ble_eq_true rfl) ?_
  refine wq_if (c := (b2i (inR h 0 9000)) = 0) (p1 := 29) (L1 := [(0, .ref 92), (1, .int m), (2, .int t), (3, .int h)]) (S1 := []) (p2 := 32) (L2 := [(0, .ref 92), (1, .int m), (2, .int t), (3, .int h)]) (S2 := []) rfl (fun q => absurd q (b2i_n0.mpr h2)) (fun _ => ?_)
  refine wq_run2 (pc' := 36) (L' := [(0, .ref 92), (1, .int m), (2, .int t), (3, .int h)]) (S' := [.int (f 92 52)]) (f' := f) rfl ?_
  refine wq_v (y := (nI c)) (hc) ?_
  refine wq_run1 (pc' := 38) (L' := [(0, .ref 92), (1, .int m), (2, .int t), (3, .int h)]) (S' := [.int 12, .int (nI c)]) (f' := f) rfl ?_
  refine wq_if (c := (nI c) = 12) (p1 := 41) (L1 := [(0, .ref 92), (1, .int m), (2, .int t), (3, .int h)]) (S1 := []) (p2 := 44) (L2 := [(0, .ref 92), (1, .int m), (2, .int t), (3, .int h)]) (S2 := []) rfl (fun _ => ?_) (fun q => absurd ((nI_eq (a := c) (b := 12) (by omega) (by omega)).mpr (by omega)) q)
  refine wq_run1 (pc' := 43) (L' := [(0, .ref 92), (1, .int m), (2, .int t), (3, .int h)]) (S' := [.int (-5)]) (f' := f) rfl ?_
  exact wq_ret rfl ⟨rfl, rfl⟩
theorem mp_met4 (f : HI) {m t h : Int32} {c : Nat} (h1 : inR m 0 5 ∧ inR t 0 9) (h2 : inR h 0 9000) (hc : f 92 52 = nI c) (hc2 : c < 12) : Sp 3 180 [.ref 92, .int m, .int t, .int h] f (Ret (nI (c + 1)) (up1 (up1 (up1 (up1 f 92 (upd (f 92) 52 (nI (c + 1)))) 128 (upd (f 128) c h)) 127 (upd (f 127) c t)) 126 (upd (f 126) c m))) := by
  show wq 3 180 (Ret (nI (c + 1)) (up1 (up1 (up1 (up1 f 92 (upd (f 92) 52 (nI (c + 1)))) 128 (upd (f 128) c h)) 127 (upd (f 127) c t)) 126 (upd (f 126) c m))) 0 [(0, .ref 92), (1, .int m), (2, .int t), (3, .int h)] [] f
  refine wq_run1 (pc' := 1) (L' := [(0, .ref 92), (1, .int m), (2, .int t), (3, .int h)]) (S' := [.int m]) (f' := f) rfl ?_
  refine wq_callI (r := (b2i (inR m 0 5))) (mp_isMember f m) (Nat.le_of_ble_eq_true rfl) (pc' := 4) (L' := [(0, .ref 92), (1, .int m), (2, .int t), (3, .int h)]) (S' := []) rfl (Nat.le_of_ble_eq_true rfl) rfl rfl (Nat.le_of_ble_eq_true rfl) (Nat.le_of_ble_eq_true rfl) ?_
  refine wq_if (c := (b2i (inR m 0 5)) = 0) (p1 := 14) (L1 := [(0, .ref 92), (1, .int m), (2, .int t), (3, .int h)]) (S1 := []) (p2 := 7) (L2 := [(0, .ref 92), (1, .int m), (2, .int t), (3, .int h)]) (S2 := []) rfl (fun q => absurd q (b2i_n0.mpr h1.1)) (fun _ => ?_)
  refine wq_run1 (pc' := 8) (L' := [(0, .ref 92), (1, .int m), (2, .int t), (3, .int h)]) (S' := [.int t]) (f' := f) rfl ?_
  refine wq_callI (r := (b2i (inR t 0 9))) (mp_isTown f t) (Nat.le_of_ble_eq_true rfl) (pc' := 11) (L' := [(0, .ref 92), (1, .int m), (2, .int t), (3, .int h)]) (S' := []) rfl (Nat.le_of_ble_eq_true rfl) rfl rfl (Nat.le_of_ble_eq_true rfl) (Nat.le_of_ble_eq_true rfl) ?_
  refine wq_if (c := (b2i (inR t 0 9)) = 0) (p1 := 14) (L1 := [(0, .ref 92), (1, .int m), (2, .int t), (3, .int h)]) (S1 := []) (p2 := 17) (L2 := [(0, .ref 92), (1, .int m), (2, .int t), (3, .int h)]) (S2 := []) rfl (fun q => absurd q (b2i_n0.mpr h1.2)) (fun _ => ?_)
  refine wq_run4 (pc' := 23) (L' := [(0, .ref 92), (1, .int m), (2, .int t), (3, .int h)]) (S' := [.long 9000, .long 0, .long h.toInt64]) (f' := f) rfl ?_
  refine wq_callI (r := (b2i (inR h 0 9000))) (mp_in f h 0 9000) (Nat.le_of_ble_eq_true rfl) (pc' := 26) (L' := [(0, .ref 92), (1, .int m), (2, .int t), (3, .int h)]) (S' := []) rfl (Nat.le_of_ble_eq_true rfl) rfl rfl (Nat.le_of_ble_eq_true rfl) (Nat.le_of_ble_eq_true rfl) ?_
  refine wq_if (c := (b2i (inR h 0 9000)) = 0) (p1 := 29) (L1 := [(0, .ref 92), (1, .int m), (2, .int t), (3, .int h)]) (S1 := []) (p2 := 32) (L2 := [(0, .ref 92), (1, .int m), (2, .int t), (3, .int h)]) (S2 := []) rfl (fun q => absurd q (b2i_n0.mpr h2)) (fun _ => ?_)
  refine wq_run2 (pc' := 36) (L' := [(0, .ref 92), (1, .int m), (2, .int t), (3, .int h)]) (S' := [.int (f 92 52)]) (f' := f) rfl ?_
  refine wq_v (y := (nI c)) (hc) ?_
  refine wq_run1 (pc' := 38) (L' := [(0, .ref 92), (1, .int m), (2, .int t), (3, .int h)]) (S' := [.int 12, .int (nI c)]) (f' := f) rfl ?_
  refine wq_if (c := (nI c) = 12) (p1 := 41) (L1 := [(0, .ref 92), (1, .int m), (2, .int t), (3, .int h)]) (S1 := []) (p2 := 44) (L2 := [(0, .ref 92), (1, .int m), (2, .int t), (3, .int h)]) (S2 := []) rfl (fun q => absurd q (fun q => absurd ((nI_eq (a := c) (b := 12) (by omega) (by omega)).mp q) (by omega))) (fun _ => ?_)
  refine wq_run4 (pc' := 52) (L' := [(0, .ref 92), (1, .int m), (2, .int t), (3, .int h)]) (S' := [.int (f 92 52), .ref 126]) (f' := f) rfl ?_
  refine wq_v (y := (nI c)) (hc) ?_
  refine wq_run1 (pc' := 53) (L' := [(0, .ref 92), (1, .int m), (2, .int t), (3, .int h)]) (S' := [.int m, .int (nI c), .ref 126]) (f' := f) rfl ?_
  refine wq_ist (j := c) (n := 12) rfl rfl rfl rfl (by omega) (Nat.le_of_ble_eq_true rfl) ?_
  refine wq_h (f' := (up1 f 126 (upd (f 126) c m))) (up2_eq1 f 126 c m) ?_
  refine wq_run4 (pc' := 62) (L' := [(0, .ref 92), (1, .int m), (2, .int t), (3, .int h)]) (S' := [.int (f 92 52), .ref 127]) (f' := (up1 f 126 (upd (f 126) c m))) rfl ?_
  refine wq_v (y := (nI c)) (hc) ?_
  refine wq_run1 (pc' := 63) (L' := [(0, .ref 92), (1, .int m), (2, .int t), (3, .int h)]) (S' := [.int t, .int (nI c), .ref 127]) (f' := (up1 f 126 (upd (f 126) c m))) rfl ?_
  refine wq_ist (j := c) (n := 12) rfl rfl rfl rfl (by omega) (Nat.le_of_ble_eq_true rfl) ?_
  refine wq_h (f' := (up1 (up1 f 127 (upd (f 127) c t)) 126 (upd (f 126) c m))) ((up2_up1_ne (f := f) (g := (upd (f 126) c m)) (k := c) (v := t) (show (127 : Nat) ≠ 126 by decide)).trans (congrArg (fun z => up1 z 126 (upd (f 126) c m)) (up2_eq1 f 127 c t))) ?_
  refine wq_run4 (pc' := 72) (L' := [(0, .ref 92), (1, .int m), (2, .int t), (3, .int h)]) (S' := [.int (f 92 52), .ref 128]) (f' := (up1 (up1 f 127 (upd (f 127) c t)) 126 (upd (f 126) c m))) rfl ?_
  refine wq_v (y := (nI c)) (hc) ?_
  refine wq_run1 (pc' := 73) (L' := [(0, .ref 92), (1, .int m), (2, .int t), (3, .int h)]) (S' := [.int h, .int (nI c), .ref 128]) (f' := (up1 (up1 f 127 (upd (f 127) c t)) 126 (upd (f 126) c m))) rfl ?_
  refine wq_ist (j := c) (n := 12) rfl rfl rfl rfl (by omega) (Nat.le_of_ble_eq_true rfl) ?_
  refine wq_h (f' := (up1 (up1 (up1 f 128 (upd (f 128) c h)) 127 (upd (f 127) c t)) 126 (upd (f 126) c m))) ((up2_up1_ne (f := (up1 f 127 (upd (f 127) c t))) (g := (upd (f 126) c m)) (k := c) (v := h) (show (128 : Nat) ≠ 126 by decide)).trans (congrArg (fun z => up1 z 126 (upd (f 126) c m)) ((up2_up1_ne (f := f) (g := (upd (f 127) c t)) (k := c) (v := h) (show (128 : Nat) ≠ 127 by decide)).trans (congrArg (fun z => up1 z 127 (upd (f 127) c t)) (up2_eq1 f 128 c h))))) ?_
  refine wq_run3 (pc' := 79) (L' := [(0, .ref 92), (1, .int m), (2, .int t), (3, .int h)]) (S' := [.int (f 92 52), .ref 92]) (f' := (up1 (up1 (up1 f 128 (upd (f 128) c h)) 127 (upd (f 127) c t)) 126 (upd (f 126) c m))) rfl ?_
  refine wq_v (y := (nI c)) (hc) ?_
  refine wq_run2 (pc' := 81) (L' := [(0, .ref 92), (1, .int m), (2, .int t), (3, .int h)]) (S' := [.int ((nI c) + 1), .ref 92]) (f' := (up1 (up1 (up1 f 128 (upd (f 128) c h)) 127 (upd (f 127) c t)) 126 (upd (f 126) c m))) rfl ?_
  refine wq_v (y := (nI (c + 1))) (nI_add c 1) ?_
  refine wq_putI rfl rfl ?_
  refine wq_h (f' := (up1 (up1 (up1 (up1 f 92 (upd (f 92) 52 (nI (c + 1)))) 128 (upd (f 128) c h)) 127 (upd (f 127) c t)) 126 (upd (f 126) c m))) ((up2_up1_ne (f := (up1 (up1 f 128 (upd (f 128) c h)) 127 (upd (f 127) c t))) (g := (upd (f 126) c m)) (k := 52) (v := (nI (c + 1))) (show (92 : Nat) ≠ 126 by decide)).trans (congrArg (fun z => up1 z 126 (upd (f 126) c m)) ((up2_up1_ne (f := (up1 f 128 (upd (f 128) c h))) (g := (upd (f 127) c t)) (k := 52) (v := (nI (c + 1))) (show (92 : Nat) ≠ 127 by decide)).trans (congrArg (fun z => up1 z 127 (upd (f 127) c t)) ((up2_up1_ne (f := f) (g := (upd (f 128) c h)) (k := 52) (v := (nI (c + 1))) (show (92 : Nat) ≠ 128 by decide)).trans (congrArg (fun z => up1 z 128 (upd (f 128) c h)) (up2_eq1 f 92 52 (nI (c + 1))))))))) ?_
  refine wq_run2 (pc' := 88) (L' := [(0, .ref 92), (1, .int m), (2, .int t), (3, .int h)]) (S' := [.int (nI (c + 1))]) (f' := (up1 (up1 (up1 (up1 f 92 (upd (f 92) 52 (nI (c + 1)))) 128 (upd (f 128) c h)) 127 (upd (f 127) c t)) 126 (upd (f 126) c m))) rfl ?_
  exact wq_ret rfl ⟨rfl, rfl⟩
