/-! the hour: all letters leave (class) -/
abbrev LvS (S : Nat → HI) (W : Nat → Nat → Nat) (w h i : Nat) : Prop := (¬ S i (47 + i) 8 = 0 ∧ S (i + 1) = S i) ∨ (S i (47 + i) 8 = 0 ∧ ∃ t o, t < 10 ∧ o < 10 ∧ S i (47 + i) 9 = nI t ∧ S i (47 + i) 10 = nI o ∧ S (i + 1) = up1 (S i) (47 + i) (lvO W h (S i (47 + i)) (bsE W w t o h)))
theorem wv10 {f : HI} {l : Nat} {a g g2 : Nat → Int32} : up1 (up1 (up1 f 10 g) (47 + l) a) 10 g2 = up1 (up1 f (47 + l) a) 10 g2 := by
  funext r
  by_cases c : r = 10
  · rw [c, up1_s, up1_s]
  · rw [up1_f c, up1_f c]
    by_cases c2 : r = 47 + l
    · rw [c2, up1_s, up1_s]
    · rw [up1_f c2, up1_f c2, up1_f c]
theorem lp_leaveTowns {S : Nat → HI} {W : Nat → Nat → Nat} {w n h : Nat} (hn24 : n ≤ 24) (hh : h ≤ 30000) (hc : ∀ i, i ≤ n → S i 43 6 = nI n ∧ S i 43 7 = nI h ∧ LaC (S i) W w) (hS : ∀ i, i < n → LvS S W w h i) : ∀ (m9 : Nat) (i : Nat) (g : Nat → Int32) (f1 : HI), (i ≤ n) → (f1 = up1 (S i) 10 g) → n - i < m9 → wq 7 35 (fun v f' => ∃ g, v = none ∧ f' = up1 (S n) 10 g) 2 [(0, .ref 43), (1, .int (nI i))] [] f1 := by
  intro m9
  induction m9 with
  | zero => intro i g f1 hi hf hn; exact absurd hn (Nat.not_lt_zero _)
  | succ m9 ih =>
    intro i g f1 hi hf hn
    have hci := hc i hi
    have h43 : f1 43 = S i 43 := by rw [hf]; exact up1_f (by decide)
    have hrw : f1 (47 + i) = S i (47 + i) := by rw [hf]; exact up1_f (by omega)
    have hLf : LaC f1 W w := by rw [hf]; exact hci.2.2
    have h7 : f1 43 7 = nI h := (congrFun h43 7).trans hci.2.1
    refine wq_run3 (pc' := 7) (L' := [(0, .ref 43), (1, .int (nI i))]) (S' := [.int (f1 43 6), .int (nI i)]) (f' := f1) rfl ?_
    refine wq_v (y := (nI n)) (((congrFun h43 6).trans hci.1)) ?_
    refine wq_if (c := (nI n) ≤ (nI i)) (p1 := 53) (L1 := [(0, .ref 43), (1, .int (nI i))]) (S1 := []) (p2 := 10) (L2 := [(0, .ref 43), (1, .int (nI i))]) (S2 := []) rfl (fun c_7 => ?_) (fun c_7 => ?_)
    · have k_7 : n ≤ i := (nI_leI (a := n) (b := i) (by omega) (by omega)).mp c_7
      have e1 : i = n := by omega
      exact wq_ret rfl ⟨g, rfl, by rw [hf, e1]⟩
    · have k_7 : ¬ n ≤ i := fun q => c_7 ((nI_leI (a := n) (b := i) (by omega) (by omega)).mpr q)
      have hi24 : i < 24 := by omega
      refine wq_run3 (pc' := 15) (L' := [(0, .ref 43), (1, .int (nI i))]) (S' := [.int (nI i), .ref 44]) (f' := f1) rfl ?_
      refine wq_qld (j := i) (n := 24) (b := (47 + i)) rfl rfl rfl rfl (by omega) (Nat.le_of_ble_eq_true rfl) (lets_at (by omega)) ?_
      refine wq_run2 (pc' := 18) (L' := [(0, .ref 43), (1, .int (nI i)), (2, .ref (47 + i))]) (S' := [.ref (47 + i)]) (f' := f1) rfl ?_
      refine wq_getI (v := (f1 (47 + i) 8)) rfl (let_O hi24) rfl ?_
      refine wq_if (c := (f1 (47 + i) 8) = 0) (p1 := 24) (L1 := [(0, .ref 43), (1, .int (nI i)), (2, .ref (47 + i))]) (S1 := []) (p2 := 47) (L2 := [(0, .ref 43), (1, .int (nI i)), (2, .ref (47 + i))]) (S2 := []) rfl (fun c_21 => ?_) (fun c_21 => ?_)
      · rw [hrw] at c_21
        obtain ⟨_, t, o, ht, ho, k9, k10, kS⟩ := (hS i (by omega)).resolve_left (fun q => q.1 c_21)
        have j9 : f1 (47 + i) 9 = nI t := (congrFun hrw 9).trans k9
        have j10 : f1 (47 + i) 10 = nI o := (congrFun hrw 10).trans k10
        refine wq_run3 (pc' := 29) (L' := [(0, .ref 43), (1, .int (nI i)), (2, .ref (47 + i))]) (S' := [.ref (47 + i), .ref 2]) (f' := f1) rfl ?_
        refine wq_getI (v := (nI t)) rfl (let_O hi24) (rfl.trans (j9)) ?_
        refine wq_run2 (pc' := 36) (L' := [(0, .ref 43), (1, .int (nI i)), (2, .ref (47 + i))]) (S' := [.int (f1 43 7), .int (nI t), .ref 2]) (f' := f1) rfl ?_
        refine wq_v (y := (nI h)) (h7) ?_
        refine wq_call (sp_anyLeaves (f := f1) (W := W) (w := w) (t := t) (x := h) hLf ht (by omega)) (Nat.le_of_ble_eq_true rfl) (pc' := 39) (L' := [(0, .ref 43), (1, .int (nI i)), (2, .ref (47 + i))]) (S' := []) rfl (Nat.le_of_ble_eq_true rfl) rfl rfl (Nat.le_of_ble_eq_true rfl) (Nat.le_of_ble_eq_true rfl) ?_
        rintro v f9 ⟨r, e0, ef, hr9⟩
        subst e0
        rw [ef]
        refine wq_if (c := r = 0) (p1 := 47) (L1 := [(0, .ref 43), (1, .int (nI i)), (2, .ref (47 + i))]) (S1 := []) (p2 := 42) (L2 := [(0, .ref 43), (1, .int (nI i)), (2, .ref (47 + i))]) (S2 := []) rfl (fun c_39 => ?_) (fun c_39 => ?_)
        · refine wq_run1 (pc' := 50) (L' := [(0, .ref 43), (1, .int ((nI i) + 1)), (2, .ref (47 + i))]) (S' := []) (f' := f1) rfl ?_
          refine wq_L (L' := [(0, .ref 43), (1, .int (nI (i + 1))), (2, .ref (47 + i))]) (by rw [show nI i + 1 = nI (i + 1) from nI_add _ _]) ?_
          refine wq_run1 (pc' := 2) (L' := [(0, .ref 43), (1, .int (nI (i + 1)))]) (S' := []) (f' := f1) rfl ?_
          have kz := lvO_n (W := W) (h := h) (g := S i (47 + i)) (b := bsE W w t o h) (fun e q => hr9 c_39 e (bs_lt q).1 (bs_lt q).2)
          rw [kz, up1_id] at kS
          exact ih (i + 1) g f1 (by omega) (by rw [kS]; exact hf) (by omega)
        · refine wq_run2 (pc' := 44) (L' := [(0, .ref 43), (1, .int (nI i)), (2, .ref (47 + i))]) (S' := [.ref (47 + i), .ref 43]) (f' := f1) rfl ?_
          refine wq_call (sp_leaveA (f := f1) (l := i) hi24 hLf ht ho hh h7 j9 j10) (Nat.le_of_ble_eq_true rfl) (pc' := 47) (L' := [(0, .ref 43), (1, .int (nI i)), (2, .ref (47 + i))]) (S' := []) rfl (Nat.le_of_ble_eq_true rfl) rfl rfl (Nat.le_of_ble_eq_true rfl) (Nat.le_of_ble_eq_true rfl) ?_
          rintro v f9 ⟨g2, e0, ef⟩
          rw [hrw, hf, wv10, ← kS] at ef
          subst e0
          subst ef
          refine wq_run1 (pc' := 50) (L' := [(0, .ref 43), (1, .int ((nI i) + 1)), (2, .ref (47 + i))]) (S' := []) (f' := (up1 (S (i + 1)) 10 g2)) rfl ?_
          refine wq_L (L' := [(0, .ref 43), (1, .int (nI (i + 1))), (2, .ref (47 + i))]) (by rw [show nI i + 1 = nI (i + 1) from nI_add _ _]) ?_
          refine wq_run1 (pc' := 2) (L' := [(0, .ref 43), (1, .int (nI (i + 1)))]) (S' := []) (f' := (up1 (S (i + 1)) 10 g2)) rfl ?_
          exact ih (i + 1) g2 _ (by omega) rfl (by omega)
      · rw [hrw] at c_21
        have kS := ((hS i (by omega)).resolve_right (fun q => c_21 q.1)).2
        refine wq_run1 (pc' := 50) (L' := [(0, .ref 43), (1, .int ((nI i) + 1)), (2, .ref (47 + i))]) (S' := []) (f' := f1) rfl ?_
        refine wq_L (L' := [(0, .ref 43), (1, .int (nI (i + 1))), (2, .ref (47 + i))]) (by rw [show nI i + 1 = nI (i + 1) from nI_add _ _]) ?_
        refine wq_run1 (pc' := 2) (L' := [(0, .ref 43), (1, .int (nI (i + 1)))]) (S' := []) (f' := f1) rfl ?_
        exact ih (i + 1) g f1 (by omega) (by rw [kS]; exact hf) (by omega)
theorem sp_leaveTowns {S : Nat → HI} {W : Nat → Nat → Nat} {w n h : Nat} (hn24 : n ≤ 24) (hh : h ≤ 30000) (hc : ∀ i, i ≤ n → S i 43 6 = nI n ∧ S i 43 7 = nI h ∧ LaC (S i) W w) (hS : ∀ i, i < n → LvS S W w h i) (g : Nat → Int32) : Sp 7 35 [.ref 43] (up1 (S 0) 10 g) (fun v f' => ∃ g, v = none ∧ f' = up1 (S n) 10 g) := by
  show wq 7 35 (fun v f' => ∃ g, v = none ∧ f' = up1 (S n) 10 g) 0 [(0, .ref 43)] [] (up1 (S 0) 10 g)
  refine wq_run2 (pc' := 2) (L' := [(0, .ref 43), (1, .int 0)]) (S' := []) (f' := (up1 (S 0) 10 g)) rfl ?_
  exact lp_leaveTowns hn24 hh hc hS (n - 0 + 1) 0 _ _ (Nat.zero_le _) rfl (Nat.lt_succ_self _)
