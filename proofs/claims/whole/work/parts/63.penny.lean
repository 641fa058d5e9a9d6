/-! the hour: one penny more (class) -/
def mxN (rn ct : Nat → Int32) (run : Int32) : Nat → Option Nat
  | 0 => none
  | i + 1 => match mxN rn ct run i with
    | none => if rn i = run then some i else none
    | some m => if rn i = run ∧ ct m < ct i then some i else some m
theorem mx_0 {rn ct : Nat → Int32} {run : Int32} {i : Nat} (h : ¬ rn i = run) : mxN rn ct run (i + 1) = mxN rn ct run i := by
  rw [mxN]
  cases mxN rn ct run i with
  | none => exact if_neg h
  | some m => exact if_neg (fun q => h q.1)
theorem mx_1 {rn ct : Nat → Int32} {run : Int32} {i : Nat} (h : rn i = run) (h2 : mxN rn ct run i = none) : mxN rn ct run (i + 1) = some i := by
  rw [mxN, h2]
  exact if_pos h
theorem mx_2 {rn ct : Nat → Int32} {run : Int32} {i m : Nat} (h : rn i = run) (h2 : mxN rn ct run i = some m) (h3 : ct m < ct i) : mxN rn ct run (i + 1) = some i := by
  rw [mxN, h2]
  exact if_pos ⟨h, h3⟩
theorem mx_3 {rn ct : Nat → Int32} {run : Int32} {i m : Nat} (h2 : mxN rn ct run i = some m) (h3 : ¬ ct m < ct i) : mxN rn ct run (i + 1) = some m := by
  rw [mxN, h2]
  exact if_neg (fun q => h3 q.2)
theorem mx_lt {rn ct : Nat → Int32} {run : Int32} : ∀ {i m : Nat}, mxN rn ct run i = some m → m < i ∧ rn m = run
  | 0, m, h => by cases h
  | i + 1, m, h => by
    by_cases c : rn i = run
    · cases c2 : mxN rn ct run i with
      | none =>
        rw [mx_1 c c2] at h
        cases h
        exact ⟨Nat.lt_succ_self _, c⟩
      | some k =>
        by_cases c3 : ct k < ct i
        · rw [mx_2 c c2 c3] at h
          cases h
          exact ⟨Nat.lt_succ_self _, c⟩
        · rw [mx_3 c2 c3] at h
          cases h
          exact ⟨Nat.lt_succ_of_lt (mx_lt c2).1, (mx_lt c2).2⟩
    · rw [mx_0 c] at h
      exact ⟨Nat.lt_succ_of_lt (mx_lt h).1, (mx_lt h).2⟩
def apO (f : HI) : Option Nat → HI
  | none => f
  | some m => up1 f (47 + m) (upd (upd (f (47 + m)) 18 (-1)) 15 ((f (47 + m) 15) + 1))
theorem lp_addPenny {f : HI} {n : Nat} {run : Int32} (hc : f 43 6 = nI n) (hn24 : n ≤ 24) : ∀ (m9 : Nat) (i : Nat), (i ≤ n) → n - i < m9 → wq 2 40 (fun v f' => v = none ∧ f' = apO f (mxN (fun j => f (47 + j) 17) (fun j => f (47 + j) 18) run n)) 4 [(0, .ref 43), (1, .int run), (2, .int (obI (mxN (fun j => f (47 + j) 17) (fun j => f (47 + j) 18) run i))), (3, .int (nI i))] [] f := by
  intro m9
  induction m9 with
  | zero => intro i hi hn; exact absurd hn (Nat.not_lt_zero _)
  | succ m9 ih =>
    intro i hi hn
    refine wq_run3 (pc' := 9) (L' := [(0, .ref 43), (1, .int run), (2, .int (obI (mxN (fun j => f (47 + j) 17) (fun j => f (47 + j) 18) run i))), (3, .int (nI i))]) (S' := [.int (f 43 6), .int (nI i)]) (f' := f) rfl ?_
    refine wq_v (y := (nI n)) (hc) ?_
    refine wq_if (c := (nI n) ≤ (nI i)) (p1 := 59) (L1 := [(0, .ref 43), (1, .int run), (2, .int (obI (mxN (fun j => f (47 + j) 17) (fun j => f (47 + j) 18) run i))), (3, .int (nI i))]) (S1 := []) (p2 := 12) (L2 := [(0, .ref 43), (1, .int run), (2, .int (obI (mxN (fun j => f (47 + j) 17) (fun j => f (47 + j) 18) run i))), (3, .int (nI i))]) (S2 := []) rfl (fun c_9 => ?_) (fun c_9 => ?_)
    · have k_9 : n ≤ i := (nI_leI (a := n) (b := i) (by omega) (by omega)).mp c_9
      refine wq_run2 (pc' := 61) (L' := [(0, .ref 43), (1, .int run), (2, .int (obI (mxN (fun j => f (47 + j) 17) (fun j => f (47 + j) 18) run i))), (3, .int (nI i))]) (S' := [.int (-1), .int (obI (mxN (fun j => f (47 + j) 17) (fun j => f (47 + j) 18) run i))]) (f' := f) rfl ?_
      refine wq_if (c := (obI (mxN (fun j => f (47 + j) 17) (fun j => f (47 + j) 18) run i)) = (-1)) (p1 := 64) (L1 := [(0, .ref 43), (1, .int run), (2, .int (obI (mxN (fun j => f (47 + j) 17) (fun j => f (47 + j) 18) run i))), (3, .int (nI i))]) (S1 := []) (p2 := 65) (L2 := [(0, .ref 43), (1, .int run), (2, .int (obI (mxN (fun j => f (47 + j) 17) (fun j => f (47 + j) 18) run i))), (3, .int (nI i))]) (S2 := []) rfl (fun c_61 => ?_) (fun c_61 => ?_)
      · have hz := (obI_0 (n := i) (by omega) (fun b q => (mx_lt q).1)).mp c_61
        have e : i = n := by omega
        rw [e] at hz
        exact wq_ret rfl ⟨rfl, by rw [hz]; rfl⟩
      · obtain ⟨m, hmx⟩ := obI_y c_61
        have hmi := (mx_lt hmx).1
        have hm24 : m < 24 := by omega
        refine wq_L (L' := [(0, .ref 43), (1, .int run), (2, .int (nI m)), (3, .int (nI i))]) (by rw [hmx]; rfl) ?_
        refine wq_run3 (pc' := 70) (L' := [(0, .ref 43), (1, .int run), (2, .int (nI m)), (3, .int (nI i))]) (S' := [.int (nI m), .ref 44]) (f' := f) rfl ?_
        refine wq_qld (j := m) (n := 24) (b := (47 + m)) rfl rfl rfl rfl (by omega) (Nat.le_of_ble_eq_true rfl) (lets_at (by omega)) ?_
        refine wq_run1 (pc' := 72) (L' := [(0, .ref 43), (1, .int run), (2, .int (nI m)), (3, .int (nI i))]) (S' := [.ref (47 + m), .ref (47 + m)]) (f' := f) rfl ?_
        refine wq_getI (v := (f (47 + m) 15)) rfl (let_O hm24) rfl ?_
        refine wq_run2 (pc' := 77) (L' := [(0, .ref 43), (1, .int run), (2, .int (nI m)), (3, .int (nI i))]) (S' := [.int ((f (47 + m) 15) + 1), .ref (47 + m)]) (f' := f) rfl ?_
        refine wq_putI rfl (let_O hm24) ?_
        refine wq_h (f' := (up1 f (47 + m) (upd (f (47 + m)) 15 ((f (47 + m) 15) + 1)))) (up2_eq1 f (47 + m) 15 ((f (47 + m) 15) + 1)) ?_
        refine wq_run3 (pc' := 85) (L' := [(0, .ref 43), (1, .int run), (2, .int (nI m)), (3, .int (nI i))]) (S' := [.int (nI m), .ref 44]) (f' := (up1 f (47 + m) (upd (f (47 + m)) 15 ((f (47 + m) 15) + 1)))) rfl ?_
        refine wq_qld (j := m) (n := 24) (b := (47 + m)) rfl rfl rfl rfl (by omega) (Nat.le_of_ble_eq_true rfl) (lets_at (by omega)) ?_
        refine wq_run1 (pc' := 87) (L' := [(0, .ref 43), (1, .int run), (2, .int (nI m)), (3, .int (nI i))]) (S' := [.int (-1), .ref (47 + m)]) (f' := (up1 f (47 + m) (upd (f (47 + m)) 15 ((f (47 + m) 15) + 1)))) rfl ?_
        refine wq_putI rfl (let_O hm24) ?_
        refine wq_h (f' := (up1 f (47 + m) (upd (upd (f (47 + m)) 18 (-1)) 15 ((f (47 + m) 15) + 1)))) ((up2_up1_eq f (47 + m) (upd (f (47 + m)) 15 ((f (47 + m) 15) + 1)) 18 (-1)).trans (congrArg (fun z => up1 f (47 + m) z) ((upd_sw (g := (f (47 + m))) (v := ((f (47 + m) 15) + 1)) (w := (-1)) (show (18 : Nat) ≠ 15 by decide)).trans (congrArg (fun z => upd z 15 ((f (47 + m) 15) + 1)) (rfl))))) ?_
        have e : i = n := by omega
        rw [e] at hmx
        exact wq_ret rfl ⟨rfl, by rw [hmx]; rfl⟩
    · have k_9 : ¬ n ≤ i := fun q => c_9 ((nI_leI (a := n) (b := i) (by omega) (by omega)).mpr q)
      have hi24 : i < 24 := by omega
      refine wq_run3 (pc' := 17) (L' := [(0, .ref 43), (1, .int run), (2, .int (obI (mxN (fun j => f (47 + j) 17) (fun j => f (47 + j) 18) run i))), (3, .int (nI i))]) (S' := [.int (nI i), .ref 44]) (f' := f) rfl ?_
      refine wq_qld (j := i) (n := 24) (b := (47 + i)) rfl rfl rfl rfl (by omega) (Nat.le_of_ble_eq_true rfl) (lets_at (by omega)) ?_
      refine wq_getI (v := (f (47 + i) 17)) rfl (let_O hi24) rfl ?_
      refine wq_run1 (pc' := 22) (L' := [(0, .ref 43), (1, .int run), (2, .int (obI (mxN (fun j => f (47 + j) 17) (fun j => f (47 + j) 18) run i))), (3, .int (nI i))]) (S' := [.int run, .int (f (47 + i) 17)]) (f' := f) rfl ?_
      refine wq_if (c := (f (47 + i) 17) = run) (p1 := 25) (L1 := [(0, .ref 43), (1, .int run), (2, .int (obI (mxN (fun j => f (47 + j) 17) (fun j => f (47 + j) 18) run i))), (3, .int (nI i))]) (S1 := []) (p2 := 53) (L2 := [(0, .ref 43), (1, .int run), (2, .int (obI (mxN (fun j => f (47 + j) 17) (fun j => f (47 + j) 18) run i))), (3, .int (nI i))]) (S2 := []) rfl (fun c_22 => ?_) (fun c_22 => ?_)
      · refine wq_run2 (pc' := 27) (L' := [(0, .ref 43), (1, .int run), (2, .int (obI (mxN (fun j => f (47 + j) 17) (fun j => f (47 + j) 18) run i))), (3, .int (nI i))]) (S' := [.int (-1), .int (obI (mxN (fun j => f (47 + j) 17) (fun j => f (47 + j) 18) run i))]) (f' := f) rfl ?_
        refine wq_if (c := (obI (mxN (fun j => f (47 + j) 17) (fun j => f (47 + j) 18) run i)) = (-1)) (p1 := 51) (L1 := [(0, .ref 43), (1, .int run), (2, .int (obI (mxN (fun j => f (47 + j) 17) (fun j => f (47 + j) 18) run i))), (3, .int (nI i))]) (S1 := []) (p2 := 30) (L2 := [(0, .ref 43), (1, .int run), (2, .int (obI (mxN (fun j => f (47 + j) 17) (fun j => f (47 + j) 18) run i))), (3, .int (nI i))]) (S2 := []) rfl (fun c_27 => ?_) (fun c_27 => ?_)
        · refine wq_run3 (pc' := 56) (L' := [(0, .ref 43), (1, .int run), (2, .int (nI i)), (3, .int ((nI i) + 1))]) (S' := []) (f' := f) rfl ?_
          refine wq_L (L' := [(0, .ref 43), (1, .int run), (2, .int (nI i)), (3, .int (nI (i + 1)))]) (by rw [show nI i + 1 = nI (i + 1) from nI_add _ _]) ?_
          refine wq_run1 (pc' := 4) (L' := [(0, .ref 43), (1, .int run), (2, .int (nI i)), (3, .int (nI (i + 1)))]) (S' := []) (f' := f) rfl ?_
          have h9 := ih (i + 1) (by omega) (by omega)
          rw [show (mxN (fun j => f (47 + j) 17) (fun j => f (47 + j) 18) run (i + 1)) = some i from mx_1 c_22 ((obI_0 (n := i) (by omega) (fun b q => (mx_lt q).1)).mp c_27)] at h9
          exact h9
        · obtain ⟨m, hmx⟩ := obI_y c_27
          have hmi := (mx_lt hmx).1
          have hm24 : m < 24 := by omega
          refine wq_L (L' := [(0, .ref 43), (1, .int run), (2, .int (nI m)), (3, .int (nI i))]) (by rw [hmx]; rfl) ?_
          refine wq_run3 (pc' := 35) (L' := [(0, .ref 43), (1, .int run), (2, .int (nI m)), (3, .int (nI i))]) (S' := [.int (nI i), .ref 44]) (f' := f) rfl ?_
          refine wq_qld (j := i) (n := 24) (b := (47 + i)) rfl rfl rfl rfl (by omega) (Nat.le_of_ble_eq_true rfl) (lets_at (by omega)) ?_
          refine wq_getI (v := (f (47 + i) 18)) rfl (let_O hi24) rfl ?_
          refine wq_run3 (pc' := 44) (L' := [(0, .ref 43), (1, .int run), (2, .int (nI m)), (3, .int (nI i))]) (S' := [.int (nI m), .ref 44, .int (f (47 + i) 18)]) (f' := f) rfl ?_
          refine wq_qld (j := m) (n := 24) (b := (47 + m)) rfl rfl rfl rfl (by omega) (Nat.le_of_ble_eq_true rfl) (lets_at (by omega)) ?_
          refine wq_getI (v := (f (47 + m) 18)) rfl (let_O hm24) rfl ?_
          refine wq_if (c := (f (47 + i) 18) ≤ (f (47 + m) 18)) (p1 := 53) (L1 := [(0, .ref 43), (1, .int run), (2, .int (nI m)), (3, .int (nI i))]) (S1 := []) (p2 := 51) (L2 := [(0, .ref 43), (1, .int run), (2, .int (nI m)), (3, .int (nI i))]) (S2 := []) rfl (fun c_48 => ?_) (fun c_48 => ?_)
          · refine wq_run1 (pc' := 56) (L' := [(0, .ref 43), (1, .int run), (2, .int (nI m)), (3, .int ((nI i) + 1))]) (S' := []) (f' := f) rfl ?_
            refine wq_L (L' := [(0, .ref 43), (1, .int run), (2, .int (nI m)), (3, .int (nI (i + 1)))]) (by rw [show nI i + 1 = nI (i + 1) from nI_add _ _]) ?_
            refine wq_run1 (pc' := 4) (L' := [(0, .ref 43), (1, .int run), (2, .int (nI m)), (3, .int (nI (i + 1)))]) (S' := []) (f' := f) rfl ?_
            have h9 := ih (i + 1) (by omega) (by omega)
            rw [show (mxN (fun j => f (47 + j) 17) (fun j => f (47 + j) 18) run (i + 1)) = some m from mx_3 hmx (Int32.not_lt.mpr c_48)] at h9
            exact h9
          · refine wq_run3 (pc' := 56) (L' := [(0, .ref 43), (1, .int run), (2, .int (nI i)), (3, .int ((nI i) + 1))]) (S' := []) (f' := f) rfl ?_
            refine wq_L (L' := [(0, .ref 43), (1, .int run), (2, .int (nI i)), (3, .int (nI (i + 1)))]) (by rw [show nI i + 1 = nI (i + 1) from nI_add _ _]) ?_
            refine wq_run1 (pc' := 4) (L' := [(0, .ref 43), (1, .int run), (2, .int (nI i)), (3, .int (nI (i + 1)))]) (S' := []) (f' := f) rfl ?_
            have h9 := ih (i + 1) (by omega) (by omega)
            rw [show (mxN (fun j => f (47 + j) 17) (fun j => f (47 + j) 18) run (i + 1)) = some i from mx_2 c_22 hmx (Int32.not_le.mp c_48)] at h9
            exact h9
      · refine wq_run1 (pc' := 56) (L' := [(0, .ref 43), (1, .int run), (2, .int (obI (mxN (fun j => f (47 + j) 17) (fun j => f (47 + j) 18) run i))), (3, .int ((nI i) + 1))]) (S' := []) (f' := f) rfl ?_
        refine wq_L (L' := [(0, .ref 43), (1, .int run), (2, .int (obI (mxN (fun j => f (47 + j) 17) (fun j => f (47 + j) 18) run i))), (3, .int (nI (i + 1)))]) (by rw [show nI i + 1 = nI (i + 1) from nI_add _ _]) ?_
        refine wq_run1 (pc' := 4) (L' := [(0, .ref 43), (1, .int run), (2, .int (obI (mxN (fun j => f (47 + j) 17) (fun j => f (47 + j) 18) run i))), (3, .int (nI (i + 1)))]) (S' := []) (f' := f) rfl ?_
        have h9 := ih (i + 1) (by omega) (by omega)
        rw [show (mxN (fun j => f (47 + j) 17) (fun j => f (47 + j) 18) run (i + 1)) = (mxN (fun j => f (47 + j) 17) (fun j => f (47 + j) 18) run i) from mx_0 c_22] at h9
        exact h9
theorem sp_addPenny {f : HI} {n : Nat} {run : Int32} (hc : f 43 6 = nI n) (hn24 : n ≤ 24) : Sp 2 40 [.ref 43, .int run] f (fun v f' => v = none ∧ f' = apO f (mxN (fun j => f (47 + j) 17) (fun j => f (47 + j) 18) run n)) := by
  show wq 2 40 (fun v f' => v = none ∧ f' = apO f (mxN (fun j => f (47 + j) 17) (fun j => f (47 + j) 18) run n)) 0 [(0, .ref 43), (1, .int run)] [] f
  refine wq_run4 (pc' := 4) (L' := [(0, .ref 43), (1, .int run), (2, .int (-1)), (3, .int 0)]) (S' := []) (f' := f) rfl ?_
  exact lp_addPenny hc hn24 (n - 0 + 1) 0 (Nat.zero_le _) (Nat.lt_succ_self _)
