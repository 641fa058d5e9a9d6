/-! the hour: all letters at the doors (class) -/
def ofH (f : HI) (l a b : Nat) (ow : Int32) : HI := if tkP ow (f (47 + l) 4) (f 45 b) (f (47 + l) 5) (f (47 + l) 6) ((f 46 (a * 10 + b) >>> (f (47 + l) 6 &&& 31)) &&& 1) then (up1 (up1 (up1 f 45 (upd (f 45) b ((f 45) b - ow))) 43 (upd (upd (f 43) 11 ((f 43 11) + 1)) 8 ((upd (f 43) 11 ((f 43 11) + 1)) 8 + ow))) (47 + l) (upd (upd (upd (f (47 + l)) 16 (f 43 7)) 8 2) 14 ((upd (upd (f (47 + l)) 16 (f 43 7)) 8 2) 14 + ow))) else (up1 (up1 f 43 (upd (f 43) 10 ((f 43 10) + 1))) (47 + l) (upd (upd (f (47 + l)) 10 (nI a)) 13 1))
theorem sp_offerA {f : HI} {l a b : Nat} (hl : l < 24) (ha : a < 10) (hb : b < 10) (h0 : f (47 + l) 0 = nI a) (h1 : f (47 + l) 1 = nI b) (ow : Int32) : Sp 3 31 [.ref 43, .ref (47 + l), .int ow] f (RetV (ofH f l a b ow)) := by
  by_cases c : tkP ow (f (47 + l) 4) (f 45 b) (f (47 + l) 5) (f (47 + l) 6) ((f 46 (a * 10 + b) >>> (f (47 + l) 6 &&& 31)) &&& 1)
  · rw [show ofH f l a b ow = _ from if_pos c]
    exact sp_offer1 hl ha hb h0 h1 ow c
  · rw [show ofH f l a b ow = _ from if_neg c]
    exact sp_offer0 hl ha hb h0 h1 ow c
def DrS (S : Nat → HI) (i : Nat) : Prop := (¬ (S i (47 + i) 8 = 0 ∧ S i (47 + i) 9 = S i (47 + i) 10) ∧ S (i + 1) = S i) ∨ ((S i (47 + i) 8 = 0 ∧ S i (47 + i) 9 = S i (47 + i) 10) ∧ ((¬ S i (47 + i) 13 = 0 ∧ S (i + 1) = up1 (S i) (47 + i) (upd (upd (S i (47 + i)) 16 (S i 43 7)) 8 3)) ∨ (S i (47 + i) 13 = 0 ∧ ∃ a b ow, a < 10 ∧ b < 10 ∧ S i (47 + i) 0 = nI a ∧ S i (47 + i) 1 = nI b ∧ Sp 4 30 [.ref 43, .ref (47 + i), .int (nI i)] (S i) (Ret ow (S i)) ∧ S (i + 1) = ofH (S i) i a b ow)))
theorem lp_goToDoors {S : Nat → HI} {n : Nat} (hn24 : n ≤ 24) (hc : ∀ i, i ≤ n → S i 43 6 = nI n) (hS : ∀ i, i < n → DrS S i) : ∀ (m9 : Nat) (i : Nat) (f1 : HI), (i ≤ n) → (f1 = S i) → n - i < m9 → wq 5 29 (RetV (S n)) 2 [(0, .ref 43), (1, .int (nI i))] [] f1 := by
  intro m9
  induction m9 with
  | zero => intro i f1 hi hf hn; exact absurd hn (Nat.not_lt_zero _)
  | succ m9 ih =>
    intro i f1 hi hf hn
    refine wq_run3 (pc' := 7) (L' := [(0, .ref 43), (1, .int (nI i))]) (S' := [.int (f1 43 6), .int (nI i)]) (f' := f1) rfl ?_
    refine wq_v (y := (nI n)) (((by rw [hf]; exact hc i hi))) ?_
    refine wq_if (c := (nI n) ≤ (nI i)) (p1 := 78) (L1 := [(0, .ref 43), (1, .int (nI i))]) (S1 := []) (p2 := 10) (L2 := [(0, .ref 43), (1, .int (nI i))]) (S2 := []) rfl (fun c_7 => ?_) (fun c_7 => ?_)
    · have k_7 : n ≤ i := (nI_leI (a := n) (b := i) (by omega) (by omega)).mp c_7
      have e1 : i = n := by omega
      exact wq_ret rfl ⟨rfl, by rw [hf, e1]⟩
    · have k_7 : ¬ n ≤ i := fun q => c_7 ((nI_leI (a := n) (b := i) (by omega) (by omega)).mpr q)
      have hi24 : i < 24 := by omega
      have hs := hS i (by omega)
      unfold DrS at hs
      rw [← hf] at hs
      refine wq_run3 (pc' := 15) (L' := [(0, .ref 43), (1, .int (nI i))]) (S' := [.int (nI i), .ref 44]) (f' := f1) rfl ?_
      refine wq_qld (j := i) (n := 24) (b := (47 + i)) rfl rfl rfl rfl (by omega) (Nat.le_of_ble_eq_true rfl) (lets_at (by omega)) ?_
      refine wq_run2 (pc' := 18) (L' := [(0, .ref 43), (1, .int (nI i)), (2, .ref (47 + i))]) (S' := [.ref (47 + i)]) (f' := f1) rfl ?_
      refine wq_getI (v := (f1 (47 + i) 8)) rfl (let_O hi24) rfl ?_
      refine wq_if (c := (f1 (47 + i) 8) = 0) (p1 := 24) (L1 := [(0, .ref 43), (1, .int (nI i)), (2, .ref (47 + i))]) (S1 := []) (p2 := 72) (L2 := [(0, .ref 43), (1, .int (nI i)), (2, .ref (47 + i))]) (S2 := []) rfl (fun c_21 => ?_) (fun c_21 => ?_)
      · refine wq_run1 (pc' := 25) (L' := [(0, .ref 43), (1, .int (nI i)), (2, .ref (47 + i))]) (S' := [.ref (47 + i)]) (f' := f1) rfl ?_
        refine wq_getI (v := (f1 (47 + i) 9)) rfl (let_O hi24) rfl ?_
        refine wq_run1 (pc' := 29) (L' := [(0, .ref 43), (1, .int (nI i)), (2, .ref (47 + i))]) (S' := [.ref (47 + i), .int (f1 (47 + i) 9)]) (f' := f1) rfl ?_
        refine wq_getI (v := (f1 (47 + i) 10)) rfl (let_O hi24) rfl ?_
        refine wq_if (c := (f1 (47 + i) 9) = (f1 (47 + i) 10)) (p1 := 38) (L1 := [(0, .ref 43), (1, .int (nI i)), (2, .ref (47 + i))]) (S1 := []) (p2 := 35) (L2 := [(0, .ref 43), (1, .int (nI i)), (2, .ref (47 + i))]) (S2 := []) rfl (fun c_32 => ?_) (fun c_32 => ?_)
        · refine wq_run1 (pc' := 39) (L' := [(0, .ref 43), (1, .int (nI i)), (2, .ref (47 + i))]) (S' := [.ref (47 + i)]) (f' := f1) rfl ?_
          refine wq_getI (v := (f1 (47 + i) 13)) rfl (let_O hi24) rfl ?_
          refine wq_if (c := (f1 (47 + i) 13) = 0) (p1 := 61) (L1 := [(0, .ref 43), (1, .int (nI i)), (2, .ref (47 + i))]) (S1 := []) (p2 := 45) (L2 := [(0, .ref 43), (1, .int (nI i)), (2, .ref (47 + i))]) (S2 := []) rfl (fun c_42 => ?_) (fun c_42 => ?_)
          · obtain ⟨_, a, b, ow, ha, hb, k0, k1, ko, kS⟩ := (hs.resolve_left (fun q => q.1 ⟨c_21, c_32⟩)).2.resolve_left (fun q => q.1 c_42)
            refine wq_run5 (pc' := 66) (L' := [(0, .ref 43), (1, .int (nI i)), (2, .ref (47 + i))]) (S' := [.int (nI i), .ref (47 + i), .ref 43, .ref (47 + i), .ref 43]) (f' := f1) rfl ?_
            refine wq_callI (r := ow) (ko) (Nat.le_of_ble_eq_true rfl) (pc' := 69) (L' := [(0, .ref 43), (1, .int (nI i)), (2, .ref (47 + i))]) (S' := [.ref (47 + i), .ref 43]) rfl (Nat.le_of_ble_eq_true rfl) rfl rfl (Nat.le_of_ble_eq_true rfl) (Nat.le_of_ble_eq_true rfl) ?_
            refine wq_call (sp_offerA (f := f1) hi24 ha hb k0 k1 ow) (Nat.le_of_ble_eq_true rfl) (pc' := 72) (L' := [(0, .ref 43), (1, .int (nI i)), (2, .ref (47 + i))]) (S' := []) rfl (Nat.le_of_ble_eq_true rfl) rfl rfl (Nat.le_of_ble_eq_true rfl) (Nat.le_of_ble_eq_true rfl) ?_
            rintro v f9 ⟨e0, ef⟩
            subst e0
            subst ef
            refine wq_run1 (pc' := 75) (L' := [(0, .ref 43), (1, .int ((nI i) + 1)), (2, .ref (47 + i))]) (S' := []) (f' := (ofH f1 i a b ow)) rfl ?_
            refine wq_L (L' := [(0, .ref 43), (1, .int (nI (i + 1))), (2, .ref (47 + i))]) (by rw [show nI i + 1 = nI (i + 1) from nI_add _ _]) ?_
            refine wq_run1 (pc' := 2) (L' := [(0, .ref 43), (1, .int (nI (i + 1)))]) (S' := []) (f' := (ofH f1 i a b ow)) rfl ?_
            exact ih (i + 1) _ (by omega) kS.symm (by omega)
          · obtain ⟨_, kS⟩ := (hs.resolve_left (fun q => q.1 ⟨c_21, c_32⟩)).2.resolve_right (fun q => c_42 q.1)
            refine wq_run2 (pc' := 47) (L' := [(0, .ref 43), (1, .int (nI i)), (2, .ref (47 + i))]) (S' := [.int 3, .ref (47 + i)]) (f' := f1) rfl ?_
            refine wq_putI rfl (let_O hi24) ?_
            refine wq_h (f' := (up1 f1 (47 + i) (upd (f1 (47 + i)) 8 3))) (up2_eq1 f1 (47 + i) 8 3) ?_
            refine wq_run2 (pc' := 52) (L' := [(0, .ref 43), (1, .int (nI i)), (2, .ref (47 + i))]) (S' := [.ref 43, .ref (47 + i)]) (f' := (up1 f1 (47 + i) (upd (f1 (47 + i)) 8 3))) rfl ?_
            refine wq_getI (v := (f1 43 7)) rfl rfl (congrFun (up1_f (f := f1) (g := (upd (f1 (47 + i)) 8 3)) (show (43 : Nat) ≠ (47 + i) by omega)) 7) ?_
            refine wq_putI rfl (let_O hi24) ?_
            refine wq_h (f' := (up1 f1 (47 + i) (upd (upd (f1 (47 + i)) 16 (f1 43 7)) 8 3))) ((up2_up1_eq f1 (47 + i) (upd (f1 (47 + i)) 8 3) 16 (f1 43 7)).trans (congrArg (fun z => up1 f1 (47 + i) z) ((upd_sw (g := (f1 (47 + i))) (v := 3) (w := (f1 43 7)) (show (16 : Nat) ≠ 8 by decide)).trans (congrArg (fun z => upd z 8 3) (rfl))))) ?_
            refine wq_run2 (pc' := 75) (L' := [(0, .ref 43), (1, .int ((nI i) + 1)), (2, .ref (47 + i))]) (S' := []) (f' := (up1 f1 (47 + i) (upd (upd (f1 (47 + i)) 16 (f1 43 7)) 8 3))) rfl ?_
            refine wq_L (L' := [(0, .ref 43), (1, .int (nI (i + 1))), (2, .ref (47 + i))]) (by rw [show nI i + 1 = nI (i + 1) from nI_add _ _]) ?_
            refine wq_run1 (pc' := 2) (L' := [(0, .ref 43), (1, .int (nI (i + 1)))]) (S' := []) (f' := (up1 f1 (47 + i) (upd (upd (f1 (47 + i)) 16 (f1 43 7)) 8 3))) rfl ?_
            exact ih (i + 1) _ (by omega) kS.symm (by omega)
        · refine wq_run2 (pc' := 75) (L' := [(0, .ref 43), (1, .int ((nI i) + 1)), (2, .ref (47 + i))]) (S' := []) (f' := f1) rfl ?_
          refine wq_L (L' := [(0, .ref 43), (1, .int (nI (i + 1))), (2, .ref (47 + i))]) (by rw [show nI i + 1 = nI (i + 1) from nI_add _ _]) ?_
          refine wq_run1 (pc' := 2) (L' := [(0, .ref 43), (1, .int (nI (i + 1)))]) (S' := []) (f' := f1) rfl ?_
          exact ih (i + 1) f1 (by omega) (hs.resolve_right (fun q => c_32 q.1.2)).2.symm (by omega)
      · refine wq_run1 (pc' := 75) (L' := [(0, .ref 43), (1, .int ((nI i) + 1)), (2, .ref (47 + i))]) (S' := []) (f' := f1) rfl ?_
        refine wq_L (L' := [(0, .ref 43), (1, .int (nI (i + 1))), (2, .ref (47 + i))]) (by rw [show nI i + 1 = nI (i + 1) from nI_add _ _]) ?_
        refine wq_run1 (pc' := 2) (L' := [(0, .ref 43), (1, .int (nI (i + 1)))]) (S' := []) (f' := f1) rfl ?_
        exact ih (i + 1) f1 (by omega) (hs.resolve_right (fun q => c_21 q.1.1)).2.symm (by omega)
theorem sp_goToDoors {S : Nat → HI} {n : Nat} (hn24 : n ≤ 24) (hc : ∀ i, i ≤ n → S i 43 6 = nI n) (hS : ∀ i, i < n → DrS S i) : Sp 5 29 [.ref 43] (S 0) (RetV (S n)) := by
  show wq 5 29 (RetV (S n)) 0 [(0, .ref 43)] [] (S 0)
  refine wq_run2 (pc' := 2) (L' := [(0, .ref 43), (1, .int 0)]) (S' := []) (f' := (S 0)) rfl ?_
  exact lp_goToDoors hn24 hc hS (n - 0 + 1) 0 _ (Nat.zero_le _) rfl (Nat.lt_succ_self _)
