/-! the watch: alike, cannot, more -/
def akN (kk ww : Nat → Int32) (st : Int32) : Nat → Nat
  | 0 => 0
  | i + 1 => if kk i = 1 ∧ ww i = st then akN kk ww st i ||| 2 ^ i else akN kk ww st i
theorem ak_lt (kk ww : Nat → Int32) (st : Int32) : ∀ i, akN kk ww st i < 2 ^ i := by
  intro i
  induction i with
  | zero => exact Nat.one_pos
  | succ i ih =>
    have h1 : akN kk ww st i < 2 ^ (i + 1) := Nat.lt_of_lt_of_le ih (pw_le (Nat.le_succ i))
    unfold akN
    split
    · exact Nat.or_lt_two_pow h1 (Nat.pow_lt_pow_right (by decide) (Nat.lt_succ_self i))
    · exact h1
def fkN (kk ww : Nat → Int32) (wr : Nat → Nat) (m wk : Int32) : Nat → Nat
  | 0 => 0
  | i + 1 => if kk i = 2 ∧ ww i = m ∧ nI (wr i / 168) = wk then fkN kk ww wr m wk i + 1 else fkN kk ww wr m wk i
theorem fk_le (kk ww : Nat → Int32) (wr : Nat → Nat) (m wk : Int32) : ∀ i, fkN kk ww wr m wk i ≤ i := by
  intro i
  induction i with
  | zero => exact Nat.le_refl _
  | succ i ih =>
    unfold fkN
    split <;> omega
abbrev LtC (f : HI) (n : Nat) (kk ww : Nat → Int32) : Prop := f 43 6 = nI n ∧ n ≤ 24 ∧ ∀ i, i < n → f (47 + i) 5 = kk i ∧ f (47 + i) 6 = ww i
abbrev LtM (f : HI) (n : Nat) (kk ww : Nat → Int32) : Prop := f 92 35 = nI n ∧ n ≤ 24 ∧ ∀ i, i < n → f 112 i = kk i ∧ f 113 i = ww i
theorem lp_alike {f : HI} {n : Nat} {kk ww : Nat → Int32} (hl : LtC f n kk ww) (st : Int32) : ∀ (m9 : Nat) (i : Nat), (i ≤ n) → n - i < m9 → wq 1 76 (Ret (nI (akN kk ww st n)) f) 4 [(0, .ref 71), (1, .int st), (2, .int (nI (akN kk ww st i))), (3, .int (nI i))] [] f := by
  intro m9
  induction m9 with
  | zero => intro i hi hn; exact absurd hn (Nat.not_lt_zero _)
  | succ m9 ih =>
    intro i hi hn
    have hn24 := hl.2.1
    refine wq_run4 (pc' := 12) (L' := [(0, .ref 71), (1, .int st), (2, .int (nI (akN kk ww st i))), (3, .int (nI i))]) (S' := [.int (f 43 6), .int (nI i)]) (f' := f) rfl ?_
    refine wq_v (y := (nI n)) (hl.1) ?_
    refine wq_if (c := (nI n) ≤ (nI i)) (p1 := 59) (L1 := [(0, .ref 71), (1, .int st), (2, .int (nI (akN kk ww st i))), (3, .int (nI i))]) (S1 := []) (p2 := 15) (L2 := [(0, .ref 71), (1, .int st), (2, .int (nI (akN kk ww st i))), (3, .int (nI i))]) (S2 := []) rfl (fun c_12 => ?_) (fun c_12 => ?_)
    · have k_12 : n ≤ i := (nI_leI (a := n) (b := i) (by omega) (by omega)).mp c_12
      refine wq_run1 (pc' := 60) (L' := [(0, .ref 71), (1, .int st), (2, .int (nI (akN kk ww st i))), (3, .int (nI i))]) (S' := [.int (nI (akN kk ww st i))]) (f' := f) rfl ?_
      have e : i = n := by omega
      exact wq_ret rfl ⟨by rw [e], rfl⟩
    · have k_12 : ¬ n ≤ i := fun q => c_12 ((nI_leI (a := n) (b := i) (by omega) (by omega)).mpr q)
      have hi24 : i < 24 := by omega
      refine wq_run4 (pc' := 23) (L' := [(0, .ref 71), (1, .int st), (2, .int (nI (akN kk ww st i))), (3, .int (nI i))]) (S' := [.int (nI i), .ref 44]) (f' := f) rfl ?_
      refine wq_qld (j := i) (n := 24) (b := (47 + i)) rfl rfl rfl rfl (by omega) (Nat.le_of_ble_eq_true rfl) (lets_at (by omega)) ?_
      refine wq_getI (v := (kk i)) rfl (let_O hi24) (hl.2.2 i (by omega)).1 ?_
      refine wq_run1 (pc' := 28) (L' := [(0, .ref 71), (1, .int st), (2, .int (nI (akN kk ww st i))), (3, .int (nI i))]) (S' := [.int 1, .int (kk i)]) (f' := f) rfl ?_
      refine wq_if (c := (kk i) = 1) (p1 := 31) (L1 := [(0, .ref 71), (1, .int st), (2, .int (nI (akN kk ww st i))), (3, .int (nI i))]) (S1 := []) (p2 := 53) (L2 := [(0, .ref 71), (1, .int st), (2, .int (nI (akN kk ww st i))), (3, .int (nI i))]) (S2 := []) rfl (fun c_28 => ?_) (fun c_28 => ?_)
      · refine wq_run4 (pc' := 39) (L' := [(0, .ref 71), (1, .int st), (2, .int (nI (akN kk ww st i))), (3, .int (nI i))]) (S' := [.int (nI i), .ref 44]) (f' := f) rfl ?_
        refine wq_qld (j := i) (n := 24) (b := (47 + i)) rfl rfl rfl rfl (by omega) (Nat.le_of_ble_eq_true rfl) (lets_at (by omega)) ?_
        refine wq_getI (v := (ww i)) rfl (let_O hi24) (hl.2.2 i (by omega)).2 ?_
        refine wq_run1 (pc' := 44) (L' := [(0, .ref 71), (1, .int st), (2, .int (nI (akN kk ww st i))), (3, .int (nI i))]) (S' := [.int st, .int (ww i)]) (f' := f) rfl ?_
        refine wq_if (c := (ww i) = st) (p1 := 47) (L1 := [(0, .ref 71), (1, .int st), (2, .int (nI (akN kk ww st i))), (3, .int (nI i))]) (S1 := []) (p2 := 53) (L2 := [(0, .ref 71), (1, .int st), (2, .int (nI (akN kk ww st i))), (3, .int (nI i))]) (S2 := []) rfl (fun c_44 => ?_) (fun c_44 => ?_)
        · refine wq_run4 (pc' := 51) (L' := [(0, .ref 71), (1, .int st), (2, .int (nI (akN kk ww st i))), (3, .int (nI i))]) (S' := [.int ((1 : Int32) <<< ((nI i) &&& 31)), .int (nI (akN kk ww st i))]) (f' := f) rfl ?_
          refine wq_v (y := (nI (2 ^ i))) (shl1 (n := i) (by omega)) ?_
          refine wq_run1 (pc' := 52) (L' := [(0, .ref 71), (1, .int st), (2, .int (nI (akN kk ww st i))), (3, .int (nI i))]) (S' := [.int ((nI (akN kk ww st i)) ||| (nI (2 ^ i)))]) (f' := f) rfl ?_
          refine wq_v (y := (nI ((akN kk ww st i) ||| (2 ^ i)))) (nx_or (akN kk ww st i) (2 ^ i)) ?_
          refine wq_run2 (pc' := 56) (L' := [(0, .ref 71), (1, .int st), (2, .int (nI ((akN kk ww st i) ||| (2 ^ i)))), (3, .int ((nI i) + 1))]) (S' := []) (f' := f) rfl ?_
          refine wq_L (L' := [(0, .ref 71), (1, .int st), (2, .int (nI ((akN kk ww st i) ||| (2 ^ i)))), (3, .int (nI (i + 1)))]) (by rw [show nI i + 1 = nI (i + 1) from nI_add _ _]) ?_
          refine wq_run1 (pc' := 4) (L' := [(0, .ref 71), (1, .int st), (2, .int (nI ((akN kk ww st i) ||| (2 ^ i)))), (3, .int (nI (i + 1)))]) (S' := []) (f' := f) rfl ?_
          have h9 := ih (i + 1) (by omega) (by omega)
          rw [show akN kk ww st (i + 1) = _ from if_pos ⟨c_28, c_44⟩] at h9
          exact h9
        · refine wq_run1 (pc' := 56) (L' := [(0, .ref 71), (1, .int st), (2, .int (nI (akN kk ww st i))), (3, .int ((nI i) + 1))]) (S' := []) (f' := f) rfl ?_
          refine wq_L (L' := [(0, .ref 71), (1, .int st), (2, .int (nI (akN kk ww st i))), (3, .int (nI (i + 1)))]) (by rw [show nI i + 1 = nI (i + 1) from nI_add _ _]) ?_
          refine wq_run1 (pc' := 4) (L' := [(0, .ref 71), (1, .int st), (2, .int (nI (akN kk ww st i))), (3, .int (nI (i + 1)))]) (S' := []) (f' := f) rfl ?_
          have h9 := ih (i + 1) (by omega) (by omega)
          rw [show akN kk ww st (i + 1) = _ from if_neg (fun q => c_44 q.2)] at h9
          exact h9
      · refine wq_run1 (pc' := 56) (L' := [(0, .ref 71), (1, .int st), (2, .int (nI (akN kk ww st i))), (3, .int ((nI i) + 1))]) (S' := []) (f' := f) rfl ?_
        refine wq_L (L' := [(0, .ref 71), (1, .int st), (2, .int (nI (akN kk ww st i))), (3, .int (nI (i + 1)))]) (by rw [show nI i + 1 = nI (i + 1) from nI_add _ _]) ?_
        refine wq_run1 (pc' := 4) (L' := [(0, .ref 71), (1, .int st), (2, .int (nI (akN kk ww st i))), (3, .int (nI (i + 1)))]) (S' := []) (f' := f) rfl ?_
        have h9 := ih (i + 1) (by omega) (by omega)
        rw [show akN kk ww st (i + 1) = _ from if_neg (fun q => c_28 q.1)] at h9
        exact h9
theorem sp_lettersWith {f : HI} {n : Nat} {kk ww : Nat → Int32} (hl : LtC f n kk ww) (st : Int32) : Sp 1 76 [.ref 71, .int st] f (Ret (nI (akN kk ww st n)) f) := by
  show wq 1 76 (Ret (nI (akN kk ww st n)) f) 0 [(0, .ref 71), (1, .int st)] [] f
  refine wq_run4 (pc' := 4) (L' := [(0, .ref 71), (1, .int st), (2, .int 0), (3, .int 0)]) (S' := []) (f' := f) rfl ?_
  exact lp_alike hl st (n - 0 + 1) 0 (Nat.zero_le _) (Nat.lt_succ_self _)
theorem mlp_alike {f : HI} {n : Nat} {kk ww : Nat → Int32} (hl : LtM f n kk ww) (st : Int32) : ∀ (m9 : Nat) (i : Nat), (i ≤ n) → n - i < m9 → wq 1 184 (Ret (nI (akN kk ww st n)) f) 4 [(0, .ref 92), (1, .int st), (2, .int (nI (akN kk ww st i))), (3, .int (nI i))] [] f := by
  intro m9
  induction m9 with
  | zero => intro i hi hn; exact absurd hn (Nat.not_lt_zero _)
  | succ m9 ih =>
    intro i hi hn
    have hn24 := hl.2.1
    refine wq_run3 (pc' := 9) (L' := [(0, .ref 92), (1, .int st), (2, .int (nI (akN kk ww st i))), (3, .int (nI i))]) (S' := [.int (f 92 35), .int (nI i)]) (f' := f) rfl ?_
    refine wq_v (y := (nI n)) (hl.1) ?_
    refine wq_if (c := (nI n) ≤ (nI i)) (p1 := 48) (L1 := [(0, .ref 92), (1, .int st), (2, .int (nI (akN kk ww st i))), (3, .int (nI i))]) (S1 := []) (p2 := 12) (L2 := [(0, .ref 92), (1, .int st), (2, .int (nI (akN kk ww st i))), (3, .int (nI i))]) (S2 := []) rfl (fun c_9 => ?_) (fun c_9 => ?_)
    · have k_9 : n ≤ i := (nI_leI (a := n) (b := i) (by omega) (by omega)).mp c_9
      refine wq_run1 (pc' := 49) (L' := [(0, .ref 92), (1, .int st), (2, .int (nI (akN kk ww st i))), (3, .int (nI i))]) (S' := [.int (nI (akN kk ww st i))]) (f' := f) rfl ?_
      have e : i = n := by omega
      exact wq_ret rfl ⟨by rw [e], rfl⟩
    · have k_9 : ¬ n ≤ i := fun q => c_9 ((nI_leI (a := n) (b := i) (by omega) (by omega)).mpr q)
      refine wq_run4 (pc' := 18) (L' := [(0, .ref 92), (1, .int st), (2, .int (nI (akN kk ww st i))), (3, .int (nI i))]) (S' := [.int (nI i), .ref 112, .int (nI (akN kk ww st i))]) (f' := f) rfl ?_
      refine wq_ald (j := i) (n := 24) (v := (kk i)) rfl rfl rfl rfl (by omega) (Nat.le_of_ble_eq_true rfl) (hl.2.2 i (by omega)).1 ?_
      refine wq_run1 (pc' := 20) (L' := [(0, .ref 92), (1, .int st), (2, .int (nI (akN kk ww st i))), (3, .int (nI i))]) (S' := [.int 1, .int (kk i), .int (nI (akN kk ww st i))]) (f' := f) rfl ?_
      refine wq_if (c := (kk i) = 1) (p1 := 23) (L1 := [(0, .ref 92), (1, .int st), (2, .int (nI (akN kk ww st i))), (3, .int (nI i))]) (S1 := [.int (nI (akN kk ww st i))]) (p2 := 39) (L2 := [(0, .ref 92), (1, .int st), (2, .int (nI (akN kk ww st i))), (3, .int (nI i))]) (S2 := [.int (nI (akN kk ww st i))]) rfl (fun c_20 => ?_) (fun c_20 => ?_)
      · refine wq_run3 (pc' := 28) (L' := [(0, .ref 92), (1, .int st), (2, .int (nI (akN kk ww st i))), (3, .int (nI i))]) (S' := [.int (nI i), .ref 113, .int (nI (akN kk ww st i))]) (f' := f) rfl ?_
        refine wq_ald (j := i) (n := 24) (v := (ww i)) rfl rfl rfl rfl (by omega) (Nat.le_of_ble_eq_true rfl) (hl.2.2 i (by omega)).2 ?_
        refine wq_run1 (pc' := 30) (L' := [(0, .ref 92), (1, .int st), (2, .int (nI (akN kk ww st i))), (3, .int (nI i))]) (S' := [.int st, .int (ww i), .int (nI (akN kk ww st i))]) (f' := f) rfl ?_
        refine wq_if (c := (ww i) = st) (p1 := 33) (L1 := [(0, .ref 92), (1, .int st), (2, .int (nI (akN kk ww st i))), (3, .int (nI i))]) (S1 := [.int (nI (akN kk ww st i))]) (p2 := 39) (L2 := [(0, .ref 92), (1, .int st), (2, .int (nI (akN kk ww st i))), (3, .int (nI i))]) (S2 := [.int (nI (akN kk ww st i))]) rfl (fun c_30 => ?_) (fun c_30 => ?_)
        · refine wq_run3 (pc' := 36) (L' := [(0, .ref 92), (1, .int st), (2, .int (nI (akN kk ww st i))), (3, .int (nI i))]) (S' := [.int ((1 : Int32) <<< ((nI i) &&& 31)), .int (nI (akN kk ww st i))]) (f' := f) rfl ?_
          refine wq_v (y := (nI (2 ^ i))) (shl1 (n := i) (by omega)) ?_
          refine wq_run2 (pc' := 41) (L' := [(0, .ref 92), (1, .int st), (2, .int (nI (akN kk ww st i))), (3, .int (nI i))]) (S' := [.int ((nI (akN kk ww st i)) ||| (nI (2 ^ i)))]) (f' := f) rfl ?_
          refine wq_v (y := (nI ((akN kk ww st i) ||| (2 ^ i)))) (nx_or (akN kk ww st i) (2 ^ i)) ?_
          refine wq_run2 (pc' := 45) (L' := [(0, .ref 92), (1, .int st), (2, .int (nI ((akN kk ww st i) ||| (2 ^ i)))), (3, .int ((nI i) + 1))]) (S' := []) (f' := f) rfl ?_
          refine wq_L (L' := [(0, .ref 92), (1, .int st), (2, .int (nI ((akN kk ww st i) ||| (2 ^ i)))), (3, .int (nI (i + 1)))]) (by rw [show nI i + 1 = nI (i + 1) from nI_add _ _]) ?_
          refine wq_run1 (pc' := 4) (L' := [(0, .ref 92), (1, .int st), (2, .int (nI ((akN kk ww st i) ||| (2 ^ i)))), (3, .int (nI (i + 1)))]) (S' := []) (f' := f) rfl ?_
          have h9 := ih (i + 1) (by omega) (by omega)
          rw [show akN kk ww st (i + 1) = _ from if_pos ⟨c_20, c_30⟩] at h9
          exact h9
        · refine wq_run2 (pc' := 41) (L' := [(0, .ref 92), (1, .int st), (2, .int (nI (akN kk ww st i))), (3, .int (nI i))]) (S' := [.int ((nI (akN kk ww st i)) ||| 0)]) (f' := f) rfl ?_
          refine wq_v (y := (nI ((akN kk ww st i) ||| 0))) (nx_or (akN kk ww st i) 0) ?_
          refine wq_run2 (pc' := 45) (L' := [(0, .ref 92), (1, .int st), (2, .int (nI ((akN kk ww st i) ||| 0))), (3, .int ((nI i) + 1))]) (S' := []) (f' := f) rfl ?_
          refine wq_L (L' := [(0, .ref 92), (1, .int st), (2, .int (nI ((akN kk ww st i) ||| 0))), (3, .int (nI (i + 1)))]) (by rw [show nI i + 1 = nI (i + 1) from nI_add _ _]) ?_
          refine wq_run1 (pc' := 4) (L' := [(0, .ref 92), (1, .int st), (2, .int (nI ((akN kk ww st i) ||| 0))), (3, .int (nI (i + 1)))]) (S' := []) (f' := f) rfl ?_
          have h9 := ih (i + 1) (by omega) (by omega)
          rw [show akN kk ww st (i + 1) = _ from if_neg (fun q => c_30 q.2)] at h9
          rw [Nat.or_zero]
          exact h9
      · refine wq_run2 (pc' := 41) (L' := [(0, .ref 92), (1, .int st), (2, .int (nI (akN kk ww st i))), (3, .int (nI i))]) (S' := [.int ((nI (akN kk ww st i)) ||| 0)]) (f' := f) rfl ?_
        refine wq_v (y := (nI ((akN kk ww st i) ||| 0))) (nx_or (akN kk ww st i) 0) ?_
        refine wq_run2 (pc' := 45) (L' := [(0, .ref 92), (1, .int st), (2, .int (nI ((akN kk ww st i) ||| 0))), (3, .int ((nI i) + 1))]) (S' := []) (f' := f) rfl ?_
        refine wq_L (L' := [(0, .ref 92), (1, .int st), (2, .int (nI ((akN kk ww st i) ||| 0))), (3, .int (nI (i + 1)))]) (by rw [show nI i + 1 = nI (i + 1) from nI_add _ _]) ?_
        refine wq_run1 (pc' := 4) (L' := [(0, .ref 92), (1, .int st), (2, .int (nI ((akN kk ww st i) ||| 0))), (3, .int (nI (i + 1)))]) (S' := []) (f' := f) rfl ?_
        have h9 := ih (i + 1) (by omega) (by omega)
        rw [show akN kk ww st (i + 1) = _ from if_neg (fun q => c_20 q.1)] at h9
        rw [Nat.or_zero]
        exact h9
theorem mp_alikeOf {f : HI} {n : Nat} {kk ww : Nat → Int32} (hl : LtM f n kk ww) (st : Int32) : Sp 1 184 [.ref 92, .int st] f (Ret (nI (akN kk ww st n)) f) := by
  show wq 1 184 (Ret (nI (akN kk ww st n)) f) 0 [(0, .ref 92), (1, .int st)] [] f
  refine wq_run4 (pc' := 4) (L' := [(0, .ref 92), (1, .int st), (2, .int 0), (3, .int 0)]) (S' := []) (f' := f) rfl ?_
  exact mlp_alike hl st (n - 0 + 1) 0 (Nat.zero_le _) (Nat.lt_succ_self _)
theorem sp_alike1 (f : HI) {st : Int32} (h1 : ¬ inR st 0 2399) : Sp 3 103 [.ref 0, .int st] f (Ret (-3) f) := by
  show wq 3 103 (Ret (-3) f) 0 [(0, .ref 0), (1, .int st)] [] f
  refine wq_run1 (pc' := 1) (L' := [(0, .ref 0), (1, .int st)]) (S' := [.int st]) (f' := f) rfl ?_
  refine wq_callI (r := (b2i (inR st 0 2399))) (sp_isStamp f st) (Nat.le_of_ble_eq_true rfl) (pc' := 4) (L' := [(0, .ref 0), (1, .int st)]) (S' := []) rfl (Nat.le_of_ble_eq_true rfl) rfl rfl (Nat.le_of_ble_eq_true rfl) (Nat.le_of_ble_eq_true rfl) ?_
  refine wq_if (c := (b2i (inR st 0 2399)) = 0) (p1 := 7) (L1 := [(0, .ref 0), (1, .int st)]) (S1 := []) (p2 := 10) (L2 := [(0, .ref 0), (1, .int st)]) (S2 := []) rfl (fun _ => ?_) (fun q => absurd (b2i_0.mpr h1) q)
  refine wq_run1 (pc' := 9) (L' := [(0, .ref 0), (1, .int st)]) (S' := [.int (-3)]) (f' := f) rfl ?_
  exact wq_ret rfl ⟨rfl, rfl⟩
theorem sp_alike2 {f : HI} {n : Nat} {kk ww : Nat → Int32} (hl : LtC f n kk ww) {st : Int32} (h1 : inR st 0 2399) : Sp 3 103 [.ref 0, .int st] f (Ret (nI (akN kk ww st n)) f) := by
  show wq 3 103 (Ret (nI (akN kk ww st n)) f) 0 [(0, .ref 0), (1, .int st)] [] f
  refine wq_run1 (pc' := 1) (L' := [(0, .ref 0), (1, .int st)]) (S' := [.int st]) (f' := f) rfl ?_
  refine wq_callI (r := (b2i (inR st 0 2399))) (sp_isStamp f st) (Nat.le_of_ble_eq_true rfl) (pc' := 4) (L' := [(0, .ref 0), (1, .int st)]) (S' := []) rfl (Nat.le_of_ble_eq_true rfl) rfl rfl (Nat.le_of_ble_eq_true rfl) (Nat.le_of_ble_eq_true rfl) ?_
  refine wq_if (c := (b2i (inR st 0 2399)) = 0) (p1 := 7) (L1 := [(0, .ref 0), (1, .int st)]) (S1 := []) (p2 := 10) (L2 := [(0, .ref 0), (1, .int st)]) (S2 := []) rfl (fun q => absurd q (b2i_n0.mpr h1)) (fun _ => ?_)
  refine wq_run3 (pc' := 15) (L' := [(0, .ref 0), (1, .int st)]) (S' := [.int st, .ref 71]) (f' := f) rfl ?_
  refine wq_callI (r := (nI (akN kk ww st n))) (sp_lettersWith hl st) (Nat.le_of_ble_eq_true rfl) (pc' := 18) (L' := [(0, .ref 0), (1, .int st)]) (S' := []) rfl (Nat.le_of_ble_eq_true rfl) rfl rfl (Nat.le_of_ble_eq_true rfl) (Nat.le_of_ble_eq_true rfl) ?_
  exact wq_ret rfl ⟨rfl, rfl⟩
theorem mp_alike1 (f : HI) {st : Int32} (h1 : ¬ inR st 0 2399) : Sp 3 185 [.ref 92, .int st] f (Ret (-3) f) := by
  show wq 3 185 (Ret (-3) f) 0 [(0, .ref 92), (1, .int st)] [] f
  refine wq_run4 (pc' := 6) (L' := [(0, .ref 92), (1, .int st)]) (S' := [.long 2399, .long 0, .long st.toInt64]) (f' := f) rfl ?_
  refine wq_callI (r := (b2i (inR st 0 2399))) (mp_in f st 0 2399) (Nat.le_of_ble_eq_true rfl) (pc' := 9) (L' := [(0, .ref 92), (1, .int st)]) (S' := []) rfl (Nat.le_of_ble_eq_true rfl) rfl rfl (Nat.le_of_ble_eq_true rfl) (Nat.le_of_ble_eq_true rfl) ?_
  refine wq_if (c := (b2i (inR st 0 2399)) = 0) (p1 := 20) (L1 := [(0, .ref 92), (1, .int st)]) (S1 := []) (p2 := 12) (L2 := [(0, .ref 92), (1, .int st)]) (S2 := []) rfl (fun _ => ?_) (fun q => absurd (b2i_0.mpr h1) q)
  refine wq_run1 (pc' := 22) (L' := [(0, .ref 92), (1, .int st)]) (S' := [.int (-3)]) (f' := f) rfl ?_
  exact wq_ret rfl ⟨rfl, rfl⟩
theorem mp_alike2 {f : HI} {n : Nat} {kk ww : Nat → Int32} (hl : LtM f n kk ww) {st : Int32} (h1 : inR st 0 2399) : Sp 3 185 [.ref 92, .int st] f (Ret (nI (akN kk ww st n)) f) := by
  show wq 3 185 (Ret (nI (akN kk ww st n)) f) 0 [(0, .ref 92), (1, .int st)] [] f
  refine wq_run4 (pc' := 6) (L' := [(0, .ref 92), (1, .int st)]) (S' := [.long 2399, .long 0, .long st.toInt64]) (f' := f) rfl ?_
  refine wq_callI (r := (b2i (inR st 0 2399))) (mp_in f st 0 2399) (Nat.le_of_ble_eq_true rfl) (pc' := 9) (L' := [(0, .ref 92), (1, .int st)]) (S' := []) rfl (Nat.le_of_ble_eq_true rfl) rfl rfl (Nat.le_of_ble_eq_true rfl) (Nat.le_of_ble_eq_true rfl) ?_
  refine wq_if (c := (b2i (inR st 0 2399)) = 0) (p1 := 20) (L1 := [(0, .ref 92), (1, .int st)]) (S1 := []) (p2 := 12) (L2 := [(0, .ref 92), (1, .int st)]) (S2 := []) rfl (fun q => absurd q (b2i_n0.mpr h1)) (fun _ => ?_)
  refine wq_run2 (pc' := 14) (L' := [(0, .ref 92), (1, .int st)]) (S' := [.int st, .ref 92]) (f' := f) rfl ?_
  refine wq_callI (r := (nI (akN kk ww st n))) (mp_alikeOf hl st) (Nat.le_of_ble_eq_true rfl) (pc' := 17) (L' := [(0, .ref 92), (1, .int st)]) (S' := []) rfl (Nat.le_of_ble_eq_true rfl) rfl rfl (Nat.le_of_ble_eq_true rfl) (Nat.le_of_ble_eq_true rfl) ?_
  refine wq_run1 (pc' := 22) (L' := [(0, .ref 92), (1, .int st)]) (S' := [.int (nI (akN kk ww st n))]) (f' := f) rfl ?_
  exact wq_ret rfl ⟨rfl, rfl⟩
theorem sp_day (f : HI) {x : Nat} (hx : x < 2 ^ 31) : Sp 1 126 [.int (nI x)] f (Ret (nI (x / 24)) f) := by
  show wq 1 126 (Ret (nI (x / 24)) f) 0 [(0, .int (nI x))] [] f
  refine wq_run2 (pc' := 3) (L' := [(0, .int (nI x))]) (S' := [.int 24, .int (nI x)]) (f' := f) rfl ?_
  refine wq_div rfl (by decide) ?_
  refine wq_v (y := (nI (x / 24))) (pk_div (a := x) (d := 24) (by omega) (by omega) (by omega)) ?_
  exact wq_ret rfl ⟨rfl, rfl⟩
theorem sp_week (f : HI) {x : Nat} (hx : x < 2 ^ 31) : Sp 2 127 [.int (nI x)] f (Ret (nI (x / 168)) f) := by
  show wq 2 127 (Ret (nI (x / 168)) f) 0 [(0, .int (nI x))] [] f
  refine wq_run1 (pc' := 1) (L' := [(0, .int (nI x))]) (S' := [.int (nI x)]) (f' := f) rfl ?_
  refine wq_callI (r := (nI (x / 24))) (sp_day f hx) (Nat.le_of_ble_eq_true rfl) (pc' := 4) (L' := [(0, .int (nI x))]) (S' := []) rfl (Nat.le_of_ble_eq_true rfl) rfl rfl (Nat.le_of_ble_eq_true rfl) (Nat.le_of_ble_eq_true rfl) ?_
  refine wq_run1 (pc' := 6) (L' := [(0, .int (nI x))]) (S' := [.int 7, .int (nI (x / 24))]) (f' := f) rfl ?_
  refine wq_div rfl (by decide) ?_
  refine wq_v (y := (nI ((x / 24) / 7))) (pk_div (a := (x / 24)) (d := 7) (by omega) (by omega) (by omega)) ?_
  exact wq_ret rfl (Ret.of (congrArg nI (Nat.div_div_eq_div_mul x 24 7)) rfl)
theorem mp_day (f : HI) {x : Nat} (hx : x < 2 ^ 31) : Sp 1 163 [.int (nI x)] f (Ret (nI (x / 24)) f) := by
  show wq 1 163 (Ret (nI (x / 24)) f) 0 [(0, .int (nI x))] [] f
  refine wq_run2 (pc' := 3) (L' := [(0, .int (nI x))]) (S' := [.int 24, .int (nI x)]) (f' := f) rfl ?_
  refine wq_div rfl (by decide) ?_
  refine wq_v (y := (nI (x / 24))) (pk_div (a := x) (d := 24) (by omega) (by omega) (by omega)) ?_
  exact wq_ret rfl ⟨rfl, rfl⟩
theorem mp_week (f : HI) {x : Nat} (hx : x < 2 ^ 31) : Sp 1 164 [.int (nI x)] f (Ret (nI (x / 168)) f) := by
  show wq 1 164 (Ret (nI (x / 168)) f) 0 [(0, .int (nI x))] [] f
  refine wq_run2 (pc' := 4) (L' := [(0, .int (nI x))]) (S' := [.int 168, .int (nI x)]) (f' := f) rfl ?_
  refine wq_div rfl (by decide) ?_
  refine wq_v (y := (nI (x / 168))) (pk_div (a := x) (d := 168) (by omega) (by omega) (by omega)) ?_
  exact wq_ret rfl ⟨rfl, rfl⟩
theorem lp_franked {f : HI} {n : Nat} {kk ww : Nat → Int32} (hl : LtC f n kk ww) {wr : Nat → Nat} (hwr : ∀ i, i < n → f (47 + i) 7 = nI (wr i) ∧ wr i ≤ 9000) (m wk : Int32) {b : Nat} (hb : b ≤ n) : ∀ (m9 : Nat) (i : Nat), (i ≤ b) → b - i < m9 → wq 3 26 (Ret (nI (fkN kk ww wr m wk b)) f) 6 [(0, .ref 43), (1, .int m), (2, .int wk), (3, .int (nI b)), (4, .int (nI (fkN kk ww wr m wk i))), (5, .int (nI i))] [] f := by
  intro m9
  induction m9 with
  | zero => intro i hi hn; exact absurd hn (Nat.not_lt_zero _)
  | succ m9 ih =>
    intro i hi hn
    have hn24 := hl.2.1
    have hfk := fk_le kk ww wr m wk i
    refine wq_run2 (pc' := 9) (L' := [(0, .ref 43), (1, .int m), (2, .int wk), (3, .int (nI b)), (4, .int (nI (fkN kk ww wr m wk i))), (5, .int (nI i))]) (S' := [.int (nI b), .int (nI i)]) (f' := f) rfl ?_
    refine wq_if (c := (nI b) ≤ (nI i)) (p1 := 60) (L1 := [(0, .ref 43), (1, .int m), (2, .int wk), (3, .int (nI b)), (4, .int (nI (fkN kk ww wr m wk i))), (5, .int (nI i))]) (S1 := []) (p2 := 12) (L2 := [(0, .ref 43), (1, .int m), (2, .int wk), (3, .int (nI b)), (4, .int (nI (fkN kk ww wr m wk i))), (5, .int (nI i))]) (S2 := []) rfl (fun c_9 => ?_) (fun c_9 => ?_)
    · have k_9 : b ≤ i := (nI_leI (a := b) (b := i) (by omega) (by omega)).mp c_9
      refine wq_run1 (pc' := 62) (L' := [(0, .ref 43), (1, .int m), (2, .int wk), (3, .int (nI b)), (4, .int (nI (fkN kk ww wr m wk i))), (5, .int (nI i))]) (S' := [.int (nI (fkN kk ww wr m wk i))]) (f' := f) rfl ?_
      have e : i = b := by omega
      exact wq_ret rfl ⟨by rw [e], rfl⟩
    · have k_9 : ¬ b ≤ i := fun q => c_9 ((nI_leI (a := b) (b := i) (by omega) (by omega)).mpr q)
      have hi24 : i < 24 := by omega
      refine wq_run3 (pc' := 18) (L' := [(0, .ref 43), (1, .int m), (2, .int wk), (3, .int (nI b)), (4, .int (nI (fkN kk ww wr m wk i))), (5, .int (nI i))]) (S' := [.int (nI i), .ref 44]) (f' := f) rfl ?_
      refine wq_qld (j := i) (n := 24) (b := (47 + i)) rfl rfl rfl rfl (by omega) (Nat.le_of_ble_eq_true rfl) (lets_at (by omega)) ?_
      refine wq_run2 (pc' := 23) (L' := [(0, .ref 43), (1, .int m), (2, .int wk), (3, .int (nI b)), (4, .int (nI (fkN kk ww wr m wk i))), (5, .int (nI i)), (6, .ref (47 + i))]) (S' := [.ref (47 + i)]) (f' := f) rfl ?_
      refine wq_getI (v := (kk i)) rfl (let_O hi24) (hl.2.2 i (by omega)).1 ?_
      refine wq_run1 (pc' := 27) (L' := [(0, .ref 43), (1, .int m), (2, .int wk), (3, .int (nI b)), (4, .int (nI (fkN kk ww wr m wk i))), (5, .int (nI i)), (6, .ref (47 + i))]) (S' := [.int 2, .int (kk i)]) (f' := f) rfl ?_
      refine wq_if (c := (kk i) = 2) (p1 := 30) (L1 := [(0, .ref 43), (1, .int m), (2, .int wk), (3, .int (nI b)), (4, .int (nI (fkN kk ww wr m wk i))), (5, .int (nI i)), (6, .ref (47 + i))]) (S1 := []) (p2 := 54) (L2 := [(0, .ref 43), (1, .int m), (2, .int wk), (3, .int (nI b)), (4, .int (nI (fkN kk ww wr m wk i))), (5, .int (nI i)), (6, .ref (47 + i))]) (S2 := []) rfl (fun c_27 => ?_) (fun c_27 => ?_)
      · refine wq_run1 (pc' := 32) (L' := [(0, .ref 43), (1, .int m), (2, .int wk), (3, .int (nI b)), (4, .int (nI (fkN kk ww wr m wk i))), (5, .int (nI i)), (6, .ref (47 + i))]) (S' := [.ref (47 + i)]) (f' := f) rfl ?_
        refine wq_getI (v := (ww i)) rfl (let_O hi24) (hl.2.2 i (by omega)).2 ?_
        refine wq_run1 (pc' := 36) (L' := [(0, .ref 43), (1, .int m), (2, .int wk), (3, .int (nI b)), (4, .int (nI (fkN kk ww wr m wk i))), (5, .int (nI i)), (6, .ref (47 + i))]) (S' := [.int m, .int (ww i)]) (f' := f) rfl ?_
        refine wq_if (c := (ww i) = m) (p1 := 39) (L1 := [(0, .ref 43), (1, .int m), (2, .int wk), (3, .int (nI b)), (4, .int (nI (fkN kk ww wr m wk i))), (5, .int (nI i)), (6, .ref (47 + i))]) (S1 := []) (p2 := 54) (L2 := [(0, .ref 43), (1, .int m), (2, .int wk), (3, .int (nI b)), (4, .int (nI (fkN kk ww wr m wk i))), (5, .int (nI i)), (6, .ref (47 + i))]) (S2 := []) rfl (fun c_36 => ?_) (fun c_36 => ?_)
        · refine wq_run1 (pc' := 41) (L' := [(0, .ref 43), (1, .int m), (2, .int wk), (3, .int (nI b)), (4, .int (nI (fkN kk ww wr m wk i))), (5, .int (nI i)), (6, .ref (47 + i))]) (S' := [.ref (47 + i)]) (f' := f) rfl ?_
          refine wq_getI (v := (nI (wr i))) rfl (let_O hi24) (hwr i (by omega)).1 ?_
          refine wq_callI (r := (nI (wr i / 168))) (sp_week f (x := wr i) (by have := (hwr i (by omega)).2; omega)) (Nat.le_of_ble_eq_true rfl) (pc' := 47) (L' := [(0, .ref 43), (1, .int m), (2, .int wk), (3, .int (nI b)), (4, .int (nI (fkN kk ww wr m wk i))), (5, .int (nI i)), (6, .ref (47 + i))]) (S' := []) rfl (Nat.le_of_ble_eq_true rfl) rfl rfl (Nat.le_of_ble_eq_true rfl) (Nat.le_of_ble_eq_true rfl) ?_
          refine wq_run1 (pc' := 48) (L' := [(0, .ref 43), (1, .int m), (2, .int wk), (3, .int (nI b)), (4, .int (nI (fkN kk ww wr m wk i))), (5, .int (nI i)), (6, .ref (47 + i))]) (S' := [.int wk, .int (nI (wr i / 168))]) (f' := f) rfl ?_
          refine wq_if (c := (nI (wr i / 168)) = wk) (p1 := 51) (L1 := [(0, .ref 43), (1, .int m), (2, .int wk), (3, .int (nI b)), (4, .int (nI (fkN kk ww wr m wk i))), (5, .int (nI i)), (6, .ref (47 + i))]) (S1 := []) (p2 := 54) (L2 := [(0, .ref 43), (1, .int m), (2, .int wk), (3, .int (nI b)), (4, .int (nI (fkN kk ww wr m wk i))), (5, .int (nI i)), (6, .ref (47 + i))]) (S2 := []) rfl (fun c_48 => ?_) (fun c_48 => ?_)
          · refine wq_run1 (pc' := 54) (L' := [(0, .ref 43), (1, .int m), (2, .int wk), (3, .int (nI b)), (4, .int ((nI (fkN kk ww wr m wk i)) + 1)), (5, .int (nI i)), (6, .ref (47 + i))]) (S' := []) (f' := f) rfl ?_
            refine wq_L (L' := [(0, .ref 43), (1, .int m), (2, .int wk), (3, .int (nI b)), (4, .int (nI ((fkN kk ww wr m wk i) + 1))), (5, .int (nI i)), (6, .ref (47 + i))]) (by rw [show nI (fkN kk ww wr m wk i) + 1 = nI ((fkN kk ww wr m wk i) + 1) from nI_add _ _]) ?_
            refine wq_run1 (pc' := 57) (L' := [(0, .ref 43), (1, .int m), (2, .int wk), (3, .int (nI b)), (4, .int (nI ((fkN kk ww wr m wk i) + 1))), (5, .int ((nI i) + 1)), (6, .ref (47 + i))]) (S' := []) (f' := f) rfl ?_
            refine wq_L (L' := [(0, .ref 43), (1, .int m), (2, .int wk), (3, .int (nI b)), (4, .int (nI ((fkN kk ww wr m wk i) + 1))), (5, .int (nI (i + 1))), (6, .ref (47 + i))]) (by rw [show nI i + 1 = nI (i + 1) from nI_add _ _]) ?_
            refine wq_run1 (pc' := 6) (L' := [(0, .ref 43), (1, .int m), (2, .int wk), (3, .int (nI b)), (4, .int (nI ((fkN kk ww wr m wk i) + 1))), (5, .int (nI (i + 1)))]) (S' := []) (f' := f) rfl ?_
            have h9 := ih (i + 1) (by omega) (by omega)
            rw [show fkN kk ww wr m wk (i + 1) = _ from if_pos ⟨c_27, c_36, c_48⟩] at h9
            exact h9
          · refine wq_run1 (pc' := 57) (L' := [(0, .ref 43), (1, .int m), (2, .int wk), (3, .int (nI b)), (4, .int (nI (fkN kk ww wr m wk i))), (5, .int ((nI i) + 1)), (6, .ref (47 + i))]) (S' := []) (f' := f) rfl ?_
            refine wq_L (L' := [(0, .ref 43), (1, .int m), (2, .int wk), (3, .int (nI b)), (4, .int (nI (fkN kk ww wr m wk i))), (5, .int (nI (i + 1))), (6, .ref (47 + i))]) (by rw [show nI i + 1 = nI (i + 1) from nI_add _ _]) ?_
            refine wq_run1 (pc' := 6) (L' := [(0, .ref 43), (1, .int m), (2, .int wk), (3, .int (nI b)), (4, .int (nI (fkN kk ww wr m wk i))), (5, .int (nI (i + 1)))]) (S' := []) (f' := f) rfl ?_
            have h9 := ih (i + 1) (by omega) (by omega)
            rw [show fkN kk ww wr m wk (i + 1) = _ from if_neg (fun q => c_48 q.2.2)] at h9
            exact h9
        · refine wq_run1 (pc' := 57) (L' := [(0, .ref 43), (1, .int m), (2, .int wk), (3, .int (nI b)), (4, .int (nI (fkN kk ww wr m wk i))), (5, .int ((nI i) + 1)), (6, .ref (47 + i))]) (S' := []) (f' := f) rfl ?_
          refine wq_L (L' := [(0, .ref 43), (1, .int m), (2, .int wk), (3, .int (nI b)), (4, .int (nI (fkN kk ww wr m wk i))), (5, .int (nI (i + 1))), (6, .ref (47 + i))]) (by rw [show nI i + 1 = nI (i + 1) from nI_add _ _]) ?_
          refine wq_run1 (pc' := 6) (L' := [(0, .ref 43), (1, .int m), (2, .int wk), (3, .int (nI b)), (4, .int (nI (fkN kk ww wr m wk i))), (5, .int (nI (i + 1)))]) (S' := []) (f' := f) rfl ?_
          have h9 := ih (i + 1) (by omega) (by omega)
          rw [show fkN kk ww wr m wk (i + 1) = _ from if_neg (fun q => c_36 q.2.1)] at h9
          exact h9
      · refine wq_run1 (pc' := 57) (L' := [(0, .ref 43), (1, .int m), (2, .int wk), (3, .int (nI b)), (4, .int (nI (fkN kk ww wr m wk i))), (5, .int ((nI i) + 1)), (6, .ref (47 + i))]) (S' := []) (f' := f) rfl ?_
        refine wq_L (L' := [(0, .ref 43), (1, .int m), (2, .int wk), (3, .int (nI b)), (4, .int (nI (fkN kk ww wr m wk i))), (5, .int (nI (i + 1))), (6, .ref (47 + i))]) (by rw [show nI i + 1 = nI (i + 1) from nI_add _ _]) ?_
        refine wq_run1 (pc' := 6) (L' := [(0, .ref 43), (1, .int m), (2, .int wk), (3, .int (nI b)), (4, .int (nI (fkN kk ww wr m wk i))), (5, .int (nI (i + 1)))]) (S' := []) (f' := f) rfl ?_
        have h9 := ih (i + 1) (by omega) (by omega)
        rw [show fkN kk ww wr m wk (i + 1) = _ from if_neg (fun q => c_27 q.1)] at h9
        exact h9
theorem sp_frankedIn {f : HI} {n : Nat} {kk ww : Nat → Int32} (hl : LtC f n kk ww) {wr : Nat → Nat} (hwr : ∀ i, i < n → f (47 + i) 7 = nI (wr i) ∧ wr i ≤ 9000) (m wk : Int32) {b : Nat} (hb : b ≤ n) : Sp 3 26 [.ref 43, .int m, .int wk, .int (nI b)] f (Ret (nI (fkN kk ww wr m wk b)) f) := by
  show wq 3 26 (Ret (nI (fkN kk ww wr m wk b)) f) 0 [(0, .ref 43), (1, .int m), (2, .int wk), (3, .int (nI b))] [] f
  refine wq_run4 (pc' := 6) (L' := [(0, .ref 43), (1, .int m), (2, .int wk), (3, .int (nI b)), (4, .int 0), (5, .int 0)]) (S' := []) (f' := f) rfl ?_
  exact lp_franked hl hwr m wk hb (b - 0 + 1) 0 (Nat.zero_le _) (Nat.lt_succ_self _)
theorem oA_n (p : Nat → Bool) : oA p none = true := rfl
theorem toA_c {Kn Dy Kn' Dy' : Nat → Int32} {h day : Int32} : ∀ {c : Nat}, (∀ i, i < c → Kn i = Kn' i ∧ Dy i = Dy' i) → toA Kn Dy h day c = toA Kn' Dy' h day c := by
  intro c
  induction c with
  | zero => intro _; rfl
  | succ c ih =>
    intro hc
    have h1 := ih (fun i hi => hc i (by omega))
    have h2 := hc c (by omega)
    have h3 : oA (fun b => decide (Dy b ≤ Dy c)) (toA Kn' Dy' h day c) = oA (fun b => decide (Dy' b ≤ Dy' c)) (toA Kn' Dy' h day c) := by
      cases e : toA Kn' Dy' h day c with
      | none => rw [oA_n, oA_n]
      | some b =>
        have hb := toA_lt e
        show decide (Dy b ≤ Dy c) = decide (Dy' b ≤ Dy' c)
        rw [(hc b (by omega)).2, h2.2]
    by_cases q : ¬ Kn' c = -1 ∧ Kn' c ≤ h ∧ Dy' c ≤ day ∧ oA (fun b => decide (Dy' b ≤ Dy' c)) (toA Kn' Dy' h day c) = true
    · have q2 : ¬ Kn c = -1 ∧ Kn c ≤ h ∧ Dy c ≤ day ∧ oA (fun b => decide (Dy b ≤ Dy c)) (toA Kn Dy h day c) = true := by
        rw [h1, h3, h2.1, h2.2]
        exact q
      exact (toA_y q2).trans (toA_y q).symm
    · have q2 : ¬ (¬ Kn c = -1 ∧ Kn c ≤ h ∧ Dy c ≤ day ∧ oA (fun b => decide (Dy b ≤ Dy c)) (toA Kn Dy h day c) = true) := by
        rw [h1, h3, h2.1, h2.2]
        exact q
      exact (toA_z q2).trans (h1.trans (toA_z q).symm)
/-- what is free by the act that is told -/
def frO (FR : Nat → Int32) : Option Nat → Int32
  | none => 0
  | some a => FR a
theorem sp_more3 {f : HI} {n : Nat} {kk ww : Nat → Int32} (hl : LtC f n kk ww) {wr : Nat → Nat} (hwr : ∀ i, i < n → f (47 + i) 7 = nI (wr i) ∧ wr i ≤ 9000) {m h : Int32} {wk am : Nat} {Kn Dy FR : Nat → Int32} (h1 : inR m 0 5) (hwk : wk ≤ 60) (hh : f 43 7 = h) (ham : f 16 1 = nI am) (ham5 : am ≤ 5) (hkd : ∀ i, i < am → f (22 + 5 * i) 0 = Kn i ∧ f (18 + 5 * i) 4 = Dy i) (hfr : ∀ a, a < am → ∃ c, c ≤ 8 ∧ f (18 + 5 * a) 3 = nI c ∧ frA (f (19 + 5 * a)) (f (20 + 5 * a)) c = FR a) : Sp 4 102 [.ref 0, .int m, .int (nI wk)] f (Ret (imax 0 (nI (fkN kk ww wr m (nI wk) n) - frO FR (toA Kn Dy h (nI (7 * wk)) am))) f) := by
  show wq 4 102 (Ret (imax 0 (nI (fkN kk ww wr m (nI wk) n) - frO FR (toA Kn Dy h (nI (7 * wk)) am))) f) 0 [(0, .ref 0), (1, .int m), (2, .int (nI wk))] [] f
  have hw60 : inR (nI wk) 0 60 := ⟨nI_pos' (by omega), (nI_leI (a := wk) (b := 60) (by omega) (by omega)).mpr hwk⟩
  refine wq_run1 (pc' := 1) (L' := [(0, .ref 0), (1, .int m), (2, .int (nI wk))]) (S' := [.int m]) (f' := f) rfl ?_
  refine wq_callI (r := (b2i (inR m 0 5))) (sp_isMember f m) (Nat.le_of_ble_eq_true rfl) (pc' := 4) (L' := [(0, .ref 0), (1, .int m), (2, .int (nI wk))]) (S' := []) rfl (Nat.le_of_ble_eq_true rfl) rfl rfl (Nat.le_of_ble_eq_true rfl) (Nat.le_of_ble_eq_true rfl) ?_
  refine wq_if (c := (b2i (inR m 0 5)) = 0) (p1 := 7) (L1 := [(0, .ref 0), (1, .int m), (2, .int (nI wk))]) (S1 := []) (p2 := 10) (L2 := [(0, .ref 0), (1, .int m), (2, .int (nI wk))]) (S2 := []) rfl (fun q => absurd q (b2i_n0.mpr h1)) (fun _ => ?_)
  refine wq_run3 (pc' := 14) (L' := [(0, .ref 0), (1, .int m), (2, .int (nI wk))]) (S' := [.int 60, .int 0, .int (nI wk)]) (f' := f) rfl ?_
  refine wq_callI (r := (b2i (inR (nI wk) 0 60))) (sp_within f (nI wk) 0 60) (Nat.le_of_ble_eq_true rfl) (pc' := 17) (L' := [(0, .ref 0), (1, .int m), (2, .int (nI wk))]) (S' := []) rfl (Nat.le_of_ble_eq_true rfl) rfl rfl (Nat.le_of_ble_eq_true rfl) (Nat.le_of_ble_eq_true rfl) ?_
  refine wq_if (c := (b2i (inR (nI wk) 0 60)) = 0) (p1 := 20) (L1 := [(0, .ref 0), (1, .int m), (2, .int (nI wk))]) (S1 := []) (p2 := 23) (L2 := [(0, .ref 0), (1, .int m), (2, .int (nI wk))]) (S2 := []) rfl (fun q => absurd q (b2i_n0.mpr hw60)) (fun _ => ?_)
  refine wq_run6 (pc' := 35) (L' := [(0, .ref 0), (1, .int m), (2, .int (nI wk))]) (S' := [.int (f 43 7), .int 0, .ref 16]) (f' := f) rfl ?_
  refine wq_v (y := h) (hh) ?_
  refine wq_run3 (pc' := 39) (L' := [(0, .ref 0), (1, .int m), (2, .int (nI wk))]) (S' := [.int ((nI wk) * 7), .int h, .int 0, .ref 16]) (f' := f) rfl ?_
  refine wq_v (y := (nI (wk * 7))) (pk_mul wk 7) ?_
  refine wq_callI (r := (obI (toA Kn Dy h (nI (wk * 7)) am))) ((show Sp 1 54 [.ref 16, .int 0, .int h, .int (nI (wk * 7))] f (Ret (obI (toA Kn Dy h (nI (wk * 7)) am)) f) from by have h9 := sp_told f h (nI (wk * 7)) (t := 0) (m := am) (by omega) ham ham5; rw [toA_c (Kn' := Kn) (Dy' := Dy) hkd] at h9; exact h9)) (Nat.le_of_ble_eq_true rfl) (pc' := 42) (L' := [(0, .ref 0), (1, .int m), (2, .int (nI wk))]) (S' := []) rfl (Nat.le_of_ble_eq_true rfl) rfl rfl (Nat.le_of_ble_eq_true rfl) (Nat.le_of_ble_eq_true rfl) ?_
  refine wq_run3 (pc' := 45) (L' := [(0, .ref 0), (1, .int m), (2, .int (nI wk)), (3, .int (obI (toA Kn Dy h (nI (wk * 7)) am)))]) (S' := [.int (-1), .int (obI (toA Kn Dy h (nI (wk * 7)) am))]) (f' := f) rfl ?_
  refine wq_if (c := (obI (toA Kn Dy h (nI (wk * 7)) am)) = (-1)) (p1 := 48) (L1 := [(0, .ref 0), (1, .int m), (2, .int (nI wk)), (3, .int (obI (toA Kn Dy h (nI (wk * 7)) am)))]) (S1 := []) (p2 := 52) (L2 := [(0, .ref 0), (1, .int m), (2, .int (nI wk)), (3, .int (obI (toA Kn Dy h (nI (wk * 7)) am)))]) (S2 := []) rfl (fun c_45 => ?_) (fun c_45 => ?_)
  · refine wq_run11 (pc' := 80) (L' := [(0, .ref 0), (1, .int m), (2, .int (nI wk)), (3, .int (obI (toA Kn Dy h (nI (wk * 7)) am))), (4, .int 0)]) (S' := [.int (f 43 6), .int (nI wk), .int m, .ref 43, .int 0]) (f' := f) rfl ?_
    refine wq_v (y := (nI n)) (hl.1) ?_
    refine wq_callI (r := (nI (fkN kk ww wr m (nI wk) n))) (sp_frankedIn hl hwr m (nI wk) (b := n) (Nat.le_refl _)) (Nat.le_of_ble_eq_true rfl) (pc' := 83) (L' := [(0, .ref 0), (1, .int m), (2, .int (nI wk)), (3, .int (obI (toA Kn Dy h (nI (wk * 7)) am))), (4, .int 0)]) (S' := [.int 0]) rfl (Nat.le_of_ble_eq_true rfl) rfl rfl (Nat.le_of_ble_eq_true rfl) (Nat.le_of_ble_eq_true rfl) ?_
    refine wq_run2 (pc' := 86) (L' := [(0, .ref 0), (1, .int m), (2, .int (nI wk)), (3, .int (obI (toA Kn Dy h (nI (wk * 7)) am))), (4, .int 0)]) (S' := [.int ((nI (fkN kk ww wr m (nI wk) n)) - 0), .int 0]) (f' := f) rfl ?_
    refine wq_callI (r := (imax 0 ((nI (fkN kk ww wr m (nI wk) n)) - 0))) (jp_max f 0 ((nI (fkN kk ww wr m (nI wk) n)) - 0)) (Nat.le_of_ble_eq_true rfl) (pc' := 89) (L' := [(0, .ref 0), (1, .int m), (2, .int (nI wk)), (3, .int (obI (toA Kn Dy h (nI (wk * 7)) am))), (4, .int 0)]) (S' := []) rfl (Nat.le_of_ble_eq_true rfl) rfl rfl (Nat.le_of_ble_eq_true rfl) (Nat.le_of_ble_eq_true rfl) ?_
    exact wq_ret rfl ⟨by rw [show 7 * wk = wk * 7 from Nat.mul_comm 7 wk, (toA_0 (c := am) (by omega)).mp c_45]; rfl, rfl⟩
  · obtain ⟨a, ha8⟩ := obI_y c_45
    have ha9 := toA_lt ha8
    have ha5 : a < 5 := by omega
    refine wq_L (L' := [(0, .ref 0), (1, .int m), (2, .int (nI wk)), (3, .int (nI a))]) (by rw [ha8]; rfl) ?_
    refine wq_run4 (pc' := 60) (L' := [(0, .ref 0), (1, .int m), (2, .int (nI wk)), (3, .int (nI a))]) (S' := [.int (nI a), .ref 17]) (f' := f) rfl ?_
    refine wq_qld (j := a) (n := 5) (b := (18 + 5 * a)) rfl rfl rfl rfl ha5 (Nat.le_of_ble_eq_true rfl) (acts_at ha5) ?_
    refine wq_callI (r := (FR a)) ((show Sp 1 4 [.ref (18 + 5 * a)] f (Ret (FR a) f) from by obtain ⟨c, hc1, hc2, hc3⟩ := hfr a ha9; have h9 := sp_freeLetters f (a := a) (n := c) (by omega) hc2 hc1; rw [hc3] at h9; exact h9)) (Nat.le_of_ble_eq_true rfl) (pc' := 64) (L' := [(0, .ref 0), (1, .int m), (2, .int (nI wk)), (3, .int (nI a))]) (S' := []) (show oCallV 4 0 0 64 X2 (61, [(0, .ref 0), (1, .int m), (2, .int (nI wk)), (3, .int (nI a))], [.ref (18 + 5 * a)]) (K0, f) = _ from oCallV_e rfl (act_O ha5)) (Nat.le_of_ble_eq_true rfl) rfl rfl (Nat.le_of_ble_eq_true rfl) (Nat.le_of_ble_eq_true rfl) ?_
    refine wq_run9 (pc' := 80) (L' := [(0, .ref 0), (1, .int m), (2, .int (nI wk)), (3, .int (nI a)), (4, .int (FR a))]) (S' := [.int (f 43 6), .int (nI wk), .int m, .ref 43, .int 0]) (f' := f) rfl ?_
    refine wq_v (y := (nI n)) (hl.1) ?_
    refine wq_callI (r := (nI (fkN kk ww wr m (nI wk) n))) (sp_frankedIn hl hwr m (nI wk) (b := n) (Nat.le_refl _)) (Nat.le_of_ble_eq_true rfl) (pc' := 83) (L' := [(0, .ref 0), (1, .int m), (2, .int (nI wk)), (3, .int (nI a)), (4, .int (FR a))]) (S' := [.int 0]) rfl (Nat.le_of_ble_eq_true rfl) rfl rfl (Nat.le_of_ble_eq_true rfl) (Nat.le_of_ble_eq_true rfl) ?_
    refine wq_run2 (pc' := 86) (L' := [(0, .ref 0), (1, .int m), (2, .int (nI wk)), (3, .int (nI a)), (4, .int (FR a))]) (S' := [.int ((nI (fkN kk ww wr m (nI wk) n)) - (FR a)), .int 0]) (f' := f) rfl ?_
    refine wq_callI (r := (imax 0 ((nI (fkN kk ww wr m (nI wk) n)) - (FR a)))) (jp_max f 0 ((nI (fkN kk ww wr m (nI wk) n)) - (FR a))) (Nat.le_of_ble_eq_true rfl) (pc' := 89) (L' := [(0, .ref 0), (1, .int m), (2, .int (nI wk)), (3, .int (nI a)), (4, .int (FR a))]) (S' := []) rfl (Nat.le_of_ble_eq_true rfl) rfl rfl (Nat.le_of_ble_eq_true rfl) (Nat.le_of_ble_eq_true rfl) ?_
    exact wq_ret rfl ⟨by rw [show 7 * wk = wk * 7 from Nat.mul_comm 7 wk, ha8]; rfl, rfl⟩
theorem sp_more1 (f : HI) {m w : Int32} (h1 : ¬ inR m 0 5) : Sp 3 102 [.ref 0, .int m, .int w] f (Ret (-2) f) := by
  show wq 3 102 (Ret (-2) f) 0 [(0, .ref 0), (1, .int m), (2, .int w)] [] f
  refine wq_run1 (pc' := 1) (L' := [(0, .ref 0), (1, .int m), (2, .int w)]) (S' := [.int m]) (f' := f) rfl ?_
  refine wq_callI (r := (b2i (inR m 0 5))) (sp_isMember f m) (Nat.le_of_ble_eq_true rfl) (pc' := 4) (L' := [(0, .ref 0), (1, .int m), (2, .int w)]) (S' := []) rfl (Nat.le_of_ble_eq_true rfl) rfl rfl (Nat.le_of_ble_eq_true rfl) (Nat.le_of_ble_eq_true rfl) ?_
  refine wq_if (c := (b2i (inR m 0 5)) = 0) (p1 := 7) (L1 := [(0, .ref 0), (1, .int m), (2, .int w)]) (S1 := []) (p2 := 10) (L2 := [(0, .ref 0), (1, .int m), (2, .int w)]) (S2 := []) rfl (fun _ => ?_) (fun q => absurd (b2i_0.mpr h1) q)
  refine wq_run1 (pc' := 9) (L' := [(0, .ref 0), (1, .int m), (2, .int w)]) (S' := [.int (-2)]) (f' := f) rfl ?_
  exact wq_ret rfl ⟨rfl, rfl⟩
theorem sp_more2 (f : HI) {m w : Int32} (h1 : inR m 0 5) (h2 : ¬ inR w 0 60) : Sp 3 102 [.ref 0, .int m, .int w] f (Ret (-3) f) := by
  show wq 3 102 (Ret (-3) f) 0 [(0, .ref 0), (1, .int m), (2, .int w)] [] f
  refine wq_run1 (pc' := 1) (L' := [(0, .ref 0), (1, .int m), (2, .int w)]) (S' := [.int m]) (f' := f) rfl ?_
  refine wq_callI (r := (b2i (inR m 0 5))) (sp_isMember f m) (Nat.le_of_ble_eq_true rfl) (pc' := 4) (L' := [(0, .ref 0), (1, .int m), (2, .int w)]) (S' := []) rfl (Nat.le_of_ble_eq_true rfl) rfl rfl (Nat.le_of_ble_eq_true rfl) (Nat.le_of_ble_eq_true rfl) ?_
  refine wq_if (c := (b2i (inR m 0 5)) = 0) (p1 := 7) (L1 := [(0, .ref 0), (1, .int m), (2, .int w)]) (S1 := []) (p2 := 10) (L2 := [(0, .ref 0), (1, .int m), (2, .int w)]) (S2 := []) rfl (fun q => absurd q (b2i_n0.mpr h1)) (fun _ => ?_)
  refine wq_run3 (pc' := 14) (L' := [(0, .ref 0), (1, .int m), (2, .int w)]) (S' := [.int 60, .int 0, .int w]) (f' := f) rfl ?_
  refine wq_callI (r := (b2i (inR w 0 60))) (sp_within f w 0 60) (Nat.le_of_ble_eq_true rfl) (pc' := 17) (L' := [(0, .ref 0), (1, .int m), (2, .int w)]) (S' := []) rfl (Nat.le_of_ble_eq_true rfl) rfl rfl (Nat.le_of_ble_eq_true rfl) (Nat.le_of_ble_eq_true rfl) ?_
  refine wq_if (c := (b2i (inR w 0 60)) = 0) (p1 := 20) (L1 := [(0, .ref 0), (1, .int m), (2, .int w)]) (S1 := []) (p2 := 23) (L2 := [(0, .ref 0), (1, .int m), (2, .int w)]) (S2 := []) rfl (fun _ => ?_) (fun q => absurd (b2i_0.mpr h2) q)
  refine wq_run1 (pc' := 22) (L' := [(0, .ref 0), (1, .int m), (2, .int w)]) (S' := [.int (-3)]) (f' := f) rfl ?_
  exact wq_ret rfl ⟨rfl, rfl⟩
theorem mp_more1 (f : HI) {m w : Int32} (h1 : ¬ inR m 0 5) : Sp 3 183 [.ref 92, .int m, .int w] f (Ret (-2) f) := by
  show wq 3 183 (Ret (-2) f) 0 [(0, .ref 92), (1, .int m), (2, .int w)] [] f
  refine wq_run1 (pc' := 1) (L' := [(0, .ref 92), (1, .int m), (2, .int w)]) (S' := [.int m]) (f' := f) rfl ?_
  refine wq_callI (r := (b2i (inR m 0 5))) (mp_isMember f m) (Nat.le_of_ble_eq_true rfl) (pc' := 4) (L' := [(0, .ref 92), (1, .int m), (2, .int w)]) (S' := []) rfl (Nat.le_of_ble_eq_true rfl) rfl rfl (Nat.le_of_ble_eq_true rfl) (Nat.le_of_ble_eq_true rfl) ?_
  refine wq_if (c := (b2i (inR m 0 5)) = 0) (p1 := 7) (L1 := [(0, .ref 92), (1, .int m), (2, .int w)]) (S1 := []) (p2 := 10) (L2 := [(0, .ref 92), (1, .int m), (2, .int w)]) (S2 := []) rfl (fun _ => ?_) (fun q => absurd (b2i_0.mpr h1) q)
  refine wq_run1 (pc' := 9) (L' := [(0, .ref 92), (1, .int m), (2, .int w)]) (S' := [.int (-2)]) (f' := f) rfl ?_
  exact wq_ret rfl ⟨rfl, rfl⟩
theorem mp_more2 (f : HI) {m w : Int32} (h1 : inR m 0 5) (h2 : ¬ inR w 0 60) : Sp 3 183 [.ref 92, .int m, .int w] f (Ret (-3) f) := by
  show wq 3 183 (Ret (-3) f) 0 [(0, .ref 92), (1, .int m), (2, .int w)] [] f
  refine wq_run1 (pc' := 1) (L' := [(0, .ref 92), (1, .int m), (2, .int w)]) (S' := [.int m]) (f' := f) rfl ?_
  refine wq_callI (r := (b2i (inR m 0 5))) (mp_isMember f m) (Nat.le_of_ble_eq_true rfl) (pc' := 4) (L' := [(0, .ref 92), (1, .int m), (2, .int w)]) (S' := []) rfl (Nat.le_of_ble_eq_true rfl) rfl rfl (Nat.le_of_ble_eq_true rfl) (Nat.le_of_ble_eq_true rfl) ?_
  refine wq_if (c := (b2i (inR m 0 5)) = 0) (p1 := 7) (L1 := [(0, .ref 92), (1, .int m), (2, .int w)]) (S1 := []) (p2 := 10) (L2 := [(0, .ref 92), (1, .int m), (2, .int w)]) (S2 := []) rfl (fun q => absurd q (b2i_n0.mpr h1)) (fun _ => ?_)
  refine wq_run4 (pc' := 16) (L' := [(0, .ref 92), (1, .int m), (2, .int w)]) (S' := [.long 60, .long 0, .long w.toInt64]) (f' := f) rfl ?_
  refine wq_callI (r := (b2i (inR w 0 60))) (mp_in f w 0 60) (Nat.le_of_ble_eq_true rfl) (pc' := 19) (L' := [(0, .ref 92), (1, .int m), (2, .int w)]) (S' := []) rfl (Nat.le_of_ble_eq_true rfl) rfl rfl (Nat.le_of_ble_eq_true rfl) (Nat.le_of_ble_eq_true rfl) ?_
  refine wq_if (c := (b2i (inR w 0 60)) = 0) (p1 := 22) (L1 := [(0, .ref 92), (1, .int m), (2, .int w)]) (S1 := []) (p2 := 25) (L2 := [(0, .ref 92), (1, .int m), (2, .int w)]) (S2 := []) rfl (fun _ => ?_) (fun q => absurd (b2i_0.mpr h2) q)
  refine wq_run1 (pc' := 24) (L' := [(0, .ref 92), (1, .int m), (2, .int w)]) (S' := [.int (-3)]) (f' := f) rfl ?_
  exact wq_ret rfl ⟨rfl, rfl⟩
theorem mp_frO (f : HI) {am : Nat} {FR : Nat → Int32} (ham5 : am ≤ 5) (hfr : ∀ a, a < am → ∃ c K N P, c ≤ 8 ∧ f 101 a = nI c ∧ AcM f a c K N P ∧ frA K N c = FR a) (o : Option Nat) (ho : ∀ a, o = some a → a < am) : Sp 1 162 [.ref 92, .int (obI o)] f (Ret (frO FR o) f) := by
  cases o with
  | none => exact mp_freeOf0 f
  | some a =>
    have ha := ho a rfl
    obtain ⟨c, K, N, P, h1, h2, h3, h4⟩ := hfr a ha
    have h9 := mp_freeOf f (a := a) (n := c) (K := K) (N := N) (P := P) (by omega) h2 h1 h3
    rw [h4] at h9
    exact h9
theorem mlp_more {f : HI} {n : Nat} {kk ww : Nat → Int32} (hl : LtM f n kk ww) {wr : Nat → Nat} (hwr : ∀ i, i < n → f 114 i = nI (wr i) ∧ wr i ≤ 9000) {m h : Int32} {wk am : Nat} {Kn Dy FR : Nat → Int32} (h1 : inR m 0 5) (hwk : wk ≤ 60) (hh : f 92 8 = h) (ham : f 92 17 = nI am) (ham5 : am ≤ 5) (hkd : ∀ i, i < am → f 106 (10 * i + 0) = Kn i ∧ f 105 i = Dy i) (hfr : ∀ a, a < am → ∃ c K N P, c ≤ 8 ∧ f 101 a = nI c ∧ AcM f a c K N P ∧ frA K N c = FR a) : ∀ (m9 : Nat) (i : Nat), (i ≤ n) → n - i < m9 → wq 3 183 (Ret (imax 0 (nI (fkN kk ww wr m (nI wk) n) - frO FR (toA Kn Dy h (nI (7 * wk)) am))) f) 30 [(0, .ref 92), (1, .int m), (2, .int (nI wk)), (3, .int (nI (fkN kk ww wr m (nI wk) i))), (4, .int (nI i))] [] f := by
  intro m9
  induction m9 with
  | zero => intro i hi hn; exact absurd hn (Nat.not_lt_zero _)
  | succ m9 ih =>
    intro i hi hn
    have hn24 := hl.2.1
    have hfk := fk_le kk ww wr m (nI wk) i
    refine wq_run3 (pc' := 36) (L' := [(0, .ref 92), (1, .int m), (2, .int (nI wk)), (3, .int (nI (fkN kk ww wr m (nI wk) i))), (4, .int (nI i))]) (S' := [.int (f 92 35), .int (nI i)]) (f' := f) rfl ?_
    refine wq_v (y := (nI n)) (hl.1) ?_
    refine wq_if (c := (nI n) ≤ (nI i)) (p1 := 89) (L1 := [(0, .ref 92), (1, .int m), (2, .int (nI wk)), (3, .int (nI (fkN kk ww wr m (nI wk) i))), (4, .int (nI i))]) (S1 := []) (p2 := 39) (L2 := [(0, .ref 92), (1, .int m), (2, .int (nI wk)), (3, .int (nI (fkN kk ww wr m (nI wk) i))), (4, .int (nI i))]) (S2 := []) rfl (fun c_36 => ?_) (fun c_36 => ?_)
    · have k_36 : n ≤ i := (nI_leI (a := n) (b := i) (by omega) (by omega)).mp c_36
      refine wq_run7 (pc' := 98) (L' := [(0, .ref 92), (1, .int m), (2, .int (nI wk)), (3, .int (nI (fkN kk ww wr m (nI wk) i))), (4, .int (nI i))]) (S' := [.int (f 92 8), .int 0, .ref 92, .ref 92, .int (nI (fkN kk ww wr m (nI wk) i)), .int 0]) (f' := f) rfl ?_
      refine wq_v (y := h) (hh) ?_
      refine wq_run3 (pc' := 102) (L' := [(0, .ref 92), (1, .int m), (2, .int (nI wk)), (3, .int (nI (fkN kk ww wr m (nI wk) i))), (4, .int (nI i))]) (S' := [.int (7 * (nI wk)), .int h, .int 0, .ref 92, .ref 92, .int (nI (fkN kk ww wr m (nI wk) i)), .int 0]) (f' := f) rfl ?_
      refine wq_v (y := (nI (7 * wk))) (pk_mul 7 wk) ?_
      refine wq_callI (r := (obI (toA Kn Dy h (nI (7 * wk)) am))) ((show Sp 1 155 [.ref 92, .int 0, .int h, .int (nI (7 * wk))] f (Ret (obI (toA Kn Dy h (nI (7 * wk)) am)) f) from by have h9 := mp_actOf f h (nI (7 * wk)) (t := 0) (m := am) (by omega) ham ham5; rw [toA_c (Kn' := Kn) (Dy' := Dy) hkd] at h9; exact h9)) (Nat.le_of_ble_eq_true rfl) (pc' := 105) (L' := [(0, .ref 92), (1, .int m), (2, .int (nI wk)), (3, .int (nI (fkN kk ww wr m (nI wk) i))), (4, .int (nI i))]) (S' := [.ref 92, .int (nI (fkN kk ww wr m (nI wk) i)), .int 0]) rfl (Nat.le_of_ble_eq_true rfl) rfl rfl (Nat.le_of_ble_eq_true rfl) (Nat.le_of_ble_eq_true rfl) ?_
      refine wq_callI (r := (frO FR (toA Kn Dy h (nI (7 * wk)) am))) (mp_frO f ham5 hfr (toA Kn Dy h (nI (7 * wk)) am) (fun a q => toA_lt q)) (Nat.le_of_ble_eq_true rfl) (pc' := 108) (L' := [(0, .ref 92), (1, .int m), (2, .int (nI wk)), (3, .int (nI (fkN kk ww wr m (nI wk) i))), (4, .int (nI i))]) (S' := [.int (nI (fkN kk ww wr m (nI wk) i)), .int 0]) rfl (Nat.le_of_ble_eq_true rfl) rfl rfl (Nat.le_of_ble_eq_true rfl) (Nat.le_of_ble_eq_true rfl) ?_
      refine wq_run1 (pc' := 109) (L' := [(0, .ref 92), (1, .int m), (2, .int (nI wk)), (3, .int (nI (fkN kk ww wr m (nI wk) i))), (4, .int (nI i))]) (S' := [.int ((nI (fkN kk ww wr m (nI wk) i)) - (frO FR (toA Kn Dy h (nI (7 * wk)) am))), .int 0]) (f' := f) rfl ?_
      refine wq_callI (r := (imax 0 ((nI (fkN kk ww wr m (nI wk) i)) - (frO FR (toA Kn Dy h (nI (7 * wk)) am))))) (mp_most f 0 ((nI (fkN kk ww wr m (nI wk) i)) - (frO FR (toA Kn Dy h (nI (7 * wk)) am)))) (Nat.le_of_ble_eq_true rfl) (pc' := 112) (L' := [(0, .ref 92), (1, .int m), (2, .int (nI wk)), (3, .int (nI (fkN kk ww wr m (nI wk) i))), (4, .int (nI i))]) (S' := []) rfl (Nat.le_of_ble_eq_true rfl) rfl rfl (Nat.le_of_ble_eq_true rfl) (Nat.le_of_ble_eq_true rfl) ?_
      have e : i = n := by omega
      exact wq_ret rfl ⟨by rw [e], rfl⟩
    · have k_36 : ¬ n ≤ i := fun q => c_36 ((nI_leI (a := n) (b := i) (by omega) (by omega)).mpr q)
      have hwi := (hwr i (by omega)).2
      refine wq_run4 (pc' := 46) (L' := [(0, .ref 92), (1, .int m), (2, .int (nI wk)), (3, .int (nI (fkN kk ww wr m (nI wk) i))), (4, .int (nI i))]) (S' := [.int (nI i), .ref 112, .int (nI (fkN kk ww wr m (nI wk) i))]) (f' := f) rfl ?_
      refine wq_ald (j := i) (n := 24) (v := (kk i)) rfl rfl rfl rfl (by omega) (Nat.le_of_ble_eq_true rfl) (hl.2.2 i (by omega)).1 ?_
      refine wq_run1 (pc' := 48) (L' := [(0, .ref 92), (1, .int m), (2, .int (nI wk)), (3, .int (nI (fkN kk ww wr m (nI wk) i))), (4, .int (nI i))]) (S' := [.int 2, .int (kk i), .int (nI (fkN kk ww wr m (nI wk) i))]) (f' := f) rfl ?_
      refine wq_if (c := (kk i) = 2) (p1 := 51) (L1 := [(0, .ref 92), (1, .int m), (2, .int (nI wk)), (3, .int (nI (fkN kk ww wr m (nI wk) i))), (4, .int (nI i))]) (S1 := [.int (nI (fkN kk ww wr m (nI wk) i))]) (p2 := 80) (L2 := [(0, .ref 92), (1, .int m), (2, .int (nI wk)), (3, .int (nI (fkN kk ww wr m (nI wk) i))), (4, .int (nI i))]) (S2 := [.int (nI (fkN kk ww wr m (nI wk) i))]) rfl (fun c_48 => ?_) (fun c_48 => ?_)
      · refine wq_run3 (pc' := 57) (L' := [(0, .ref 92), (1, .int m), (2, .int (nI wk)), (3, .int (nI (fkN kk ww wr m (nI wk) i))), (4, .int (nI i))]) (S' := [.int (nI i), .ref 113, .int (nI (fkN kk ww wr m (nI wk) i))]) (f' := f) rfl ?_
        refine wq_ald (j := i) (n := 24) (v := (ww i)) rfl rfl rfl rfl (by omega) (Nat.le_of_ble_eq_true rfl) (hl.2.2 i (by omega)).2 ?_
        refine wq_run1 (pc' := 59) (L' := [(0, .ref 92), (1, .int m), (2, .int (nI wk)), (3, .int (nI (fkN kk ww wr m (nI wk) i))), (4, .int (nI i))]) (S' := [.int m, .int (ww i), .int (nI (fkN kk ww wr m (nI wk) i))]) (f' := f) rfl ?_
        refine wq_if (c := (ww i) = m) (p1 := 62) (L1 := [(0, .ref 92), (1, .int m), (2, .int (nI wk)), (3, .int (nI (fkN kk ww wr m (nI wk) i))), (4, .int (nI i))]) (S1 := [.int (nI (fkN kk ww wr m (nI wk) i))]) (p2 := 80) (L2 := [(0, .ref 92), (1, .int m), (2, .int (nI wk)), (3, .int (nI (fkN kk ww wr m (nI wk) i))), (4, .int (nI i))]) (S2 := [.int (nI (fkN kk ww wr m (nI wk) i))]) rfl (fun c_59 => ?_) (fun c_59 => ?_)
        · refine wq_run3 (pc' := 68) (L' := [(0, .ref 92), (1, .int m), (2, .int (nI wk)), (3, .int (nI (fkN kk ww wr m (nI wk) i))), (4, .int (nI i))]) (S' := [.int (nI i), .ref 114, .int (nI (fkN kk ww wr m (nI wk) i))]) (f' := f) rfl ?_
          refine wq_ald (j := i) (n := 24) (v := (nI (wr i))) rfl rfl rfl rfl (by omega) (Nat.le_of_ble_eq_true rfl) (hwr i (by omega)).1 ?_
          refine wq_callI (r := (nI (wr i / 168))) (mp_week f (x := wr i) (by have := (hwr i (by omega)).2; omega)) (Nat.le_of_ble_eq_true rfl) (pc' := 72) (L' := [(0, .ref 92), (1, .int m), (2, .int (nI wk)), (3, .int (nI (fkN kk ww wr m (nI wk) i))), (4, .int (nI i))]) (S' := [.int (nI (fkN kk ww wr m (nI wk) i))]) rfl (Nat.le_of_ble_eq_true rfl) rfl rfl (Nat.le_of_ble_eq_true rfl) (Nat.le_of_ble_eq_true rfl) ?_
          refine wq_run1 (pc' := 73) (L' := [(0, .ref 92), (1, .int m), (2, .int (nI wk)), (3, .int (nI (fkN kk ww wr m (nI wk) i))), (4, .int (nI i))]) (S' := [.int (nI wk), .int (nI (wr i / 168)), .int (nI (fkN kk ww wr m (nI wk) i))]) (f' := f) rfl ?_
          refine wq_if (c := (nI (wr i / 168)) = (nI wk)) (p1 := 76) (L1 := [(0, .ref 92), (1, .int m), (2, .int (nI wk)), (3, .int (nI (fkN kk ww wr m (nI wk) i))), (4, .int (nI i))]) (S1 := [.int (nI (fkN kk ww wr m (nI wk) i))]) (p2 := 80) (L2 := [(0, .ref 92), (1, .int m), (2, .int (nI wk)), (3, .int (nI (fkN kk ww wr m (nI wk) i))), (4, .int (nI i))]) (S2 := [.int (nI (fkN kk ww wr m (nI wk) i))]) rfl (fun c_73 => ?_) (fun c_73 => ?_)
          · have k_73 : (wr i / 168) = wk := (nI_eq (a := (wr i / 168)) (b := wk) (by omega) (by omega)).mp c_73
            refine wq_run3 (pc' := 82) (L' := [(0, .ref 92), (1, .int m), (2, .int (nI wk)), (3, .int (nI (fkN kk ww wr m (nI wk) i))), (4, .int (nI i))]) (S' := [.int ((nI (fkN kk ww wr m (nI wk) i)) + 1)]) (f' := f) rfl ?_
            refine wq_v (y := (nI ((fkN kk ww wr m (nI wk) i) + 1))) (nI_add (fkN kk ww wr m (nI wk) i) 1) ?_
            refine wq_run2 (pc' := 86) (L' := [(0, .ref 92), (1, .int m), (2, .int (nI wk)), (3, .int (nI ((fkN kk ww wr m (nI wk) i) + 1))), (4, .int ((nI i) + 1))]) (S' := []) (f' := f) rfl ?_
            refine wq_L (L' := [(0, .ref 92), (1, .int m), (2, .int (nI wk)), (3, .int (nI ((fkN kk ww wr m (nI wk) i) + 1))), (4, .int (nI (i + 1)))]) (by rw [show nI i + 1 = nI (i + 1) from nI_add _ _]) ?_
            refine wq_run1 (pc' := 30) (L' := [(0, .ref 92), (1, .int m), (2, .int (nI wk)), (3, .int (nI ((fkN kk ww wr m (nI wk) i) + 1))), (4, .int (nI (i + 1)))]) (S' := []) (f' := f) rfl ?_
            have h9 := ih (i + 1) (by omega) (by omega)
            rw [show fkN kk ww wr m (nI wk) (i + 1) = _ from if_pos ⟨c_48, c_59, c_73⟩] at h9
            exact h9
          · have k_73 : ¬ (wr i / 168) = wk := fun q => c_73 ((nI_eq (a := (wr i / 168)) (b := wk) (by omega) (by omega)).mpr q)
            refine wq_run2 (pc' := 82) (L' := [(0, .ref 92), (1, .int m), (2, .int (nI wk)), (3, .int (nI (fkN kk ww wr m (nI wk) i))), (4, .int (nI i))]) (S' := [.int ((nI (fkN kk ww wr m (nI wk) i)) + 0)]) (f' := f) rfl ?_
            refine wq_v (y := (nI ((fkN kk ww wr m (nI wk) i) + 0))) (nI_add (fkN kk ww wr m (nI wk) i) 0) ?_
            refine wq_run2 (pc' := 86) (L' := [(0, .ref 92), (1, .int m), (2, .int (nI wk)), (3, .int (nI ((fkN kk ww wr m (nI wk) i) + 0))), (4, .int ((nI i) + 1))]) (S' := []) (f' := f) rfl ?_
            refine wq_L (L' := [(0, .ref 92), (1, .int m), (2, .int (nI wk)), (3, .int (nI ((fkN kk ww wr m (nI wk) i) + 0))), (4, .int (nI (i + 1)))]) (by rw [show nI i + 1 = nI (i + 1) from nI_add _ _]) ?_
            refine wq_run1 (pc' := 30) (L' := [(0, .ref 92), (1, .int m), (2, .int (nI wk)), (3, .int (nI ((fkN kk ww wr m (nI wk) i) + 0))), (4, .int (nI (i + 1)))]) (S' := []) (f' := f) rfl ?_
            have h9 := ih (i + 1) (by omega) (by omega)
            rw [show fkN kk ww wr m (nI wk) (i + 1) = _ from if_neg (fun q => c_73 q.2.2)] at h9
            exact h9
        · refine wq_run2 (pc' := 82) (L' := [(0, .ref 92), (1, .int m), (2, .int (nI wk)), (3, .int (nI (fkN kk ww wr m (nI wk) i))), (4, .int (nI i))]) (S' := [.int ((nI (fkN kk ww wr m (nI wk) i)) + 0)]) (f' := f) rfl ?_
          refine wq_v (y := (nI ((fkN kk ww wr m (nI wk) i) + 0))) (nI_add (fkN kk ww wr m (nI wk) i) 0) ?_
          refine wq_run2 (pc' := 86) (L' := [(0, .ref 92), (1, .int m), (2, .int (nI wk)), (3, .int (nI ((fkN kk ww wr m (nI wk) i) + 0))), (4, .int ((nI i) + 1))]) (S' := []) (f' := f) rfl ?_
          refine wq_L (L' := [(0, .ref 92), (1, .int m), (2, .int (nI wk)), (3, .int (nI ((fkN kk ww wr m (nI wk) i) + 0))), (4, .int (nI (i + 1)))]) (by rw [show nI i + 1 = nI (i + 1) from nI_add _ _]) ?_
          refine wq_run1 (pc' := 30) (L' := [(0, .ref 92), (1, .int m), (2, .int (nI wk)), (3, .int (nI ((fkN kk ww wr m (nI wk) i) + 0))), (4, .int (nI (i + 1)))]) (S' := []) (f' := f) rfl ?_
          have h9 := ih (i + 1) (by omega) (by omega)
          rw [show fkN kk ww wr m (nI wk) (i + 1) = _ from if_neg (fun q => c_59 q.2.1)] at h9
          exact h9
      · refine wq_run2 (pc' := 82) (L' := [(0, .ref 92), (1, .int m), (2, .int (nI wk)), (3, .int (nI (fkN kk ww wr m (nI wk) i))), (4, .int (nI i))]) (S' := [.int ((nI (fkN kk ww wr m (nI wk) i)) + 0)]) (f' := f) rfl ?_
        refine wq_v (y := (nI ((fkN kk ww wr m (nI wk) i) + 0))) (nI_add (fkN kk ww wr m (nI wk) i) 0) ?_
        refine wq_run2 (pc' := 86) (L' := [(0, .ref 92), (1, .int m), (2, .int (nI wk)), (3, .int (nI ((fkN kk ww wr m (nI wk) i) + 0))), (4, .int ((nI i) + 1))]) (S' := []) (f' := f) rfl ?_
        refine wq_L (L' := [(0, .ref 92), (1, .int m), (2, .int (nI wk)), (3, .int (nI ((fkN kk ww wr m (nI wk) i) + 0))), (4, .int (nI (i + 1)))]) (by rw [show nI i + 1 = nI (i + 1) from nI_add _ _]) ?_
        refine wq_run1 (pc' := 30) (L' := [(0, .ref 92), (1, .int m), (2, .int (nI wk)), (3, .int (nI ((fkN kk ww wr m (nI wk) i) + 0))), (4, .int (nI (i + 1)))]) (S' := []) (f' := f) rfl ?_
        have h9 := ih (i + 1) (by omega) (by omega)
        rw [show fkN kk ww wr m (nI wk) (i + 1) = _ from if_neg (fun q => c_48 q.1)] at h9
        exact h9
theorem mp_more3 {f : HI} {n : Nat} {kk ww : Nat → Int32} (hl : LtM f n kk ww) {wr : Nat → Nat} (hwr : ∀ i, i < n → f 114 i = nI (wr i) ∧ wr i ≤ 9000) {m h : Int32} {wk am : Nat} {Kn Dy FR : Nat → Int32} (h1 : inR m 0 5) (hwk : wk ≤ 60) (hh : f 92 8 = h) (ham : f 92 17 = nI am) (ham5 : am ≤ 5) (hkd : ∀ i, i < am → f 106 (10 * i + 0) = Kn i ∧ f 105 i = Dy i) (hfr : ∀ a, a < am → ∃ c K N P, c ≤ 8 ∧ f 101 a = nI c ∧ AcM f a c K N P ∧ frA K N c = FR a) : Sp 3 183 [.ref 92, .int m, .int (nI wk)] f (Ret (imax 0 (nI (fkN kk ww wr m (nI wk) n) - frO FR (toA Kn Dy h (nI (7 * wk)) am))) f) := by
  show wq 3 183 (Ret (imax 0 (nI (fkN kk ww wr m (nI wk) n) - frO FR (toA Kn Dy h (nI (7 * wk)) am))) f) 0 [(0, .ref 92), (1, .int m), (2, .int (nI wk))] [] f
  have hw60 : inR (nI wk) 0 60 := ⟨nI_pos' (by omega), (nI_leI (a := wk) (b := 60) (by omega) (by omega)).mpr hwk⟩
  refine wq_run1 (pc' := 1) (L' := [(0, .ref 92), (1, .int m), (2, .int (nI wk))]) (S' := [.int m]) (f' := f) rfl ?_
  refine wq_callI (r := (b2i (inR m 0 5))) (mp_isMember f m) (Nat.le_of_ble_eq_true rfl) (pc' := 4) (L' := [(0, .ref 92), (1, .int m), (2, .int (nI wk))]) (S' := []) rfl (Nat.le_of_ble_eq_true rfl) rfl rfl (Nat.le_of_ble_eq_true rfl) (Nat.le_of_ble_eq_true rfl) ?_
  refine wq_if (c := (b2i (inR m 0 5)) = 0) (p1 := 7) (L1 := [(0, .ref 92), (1, .int m), (2, .int (nI wk))]) (S1 := []) (p2 := 10) (L2 := [(0, .ref 92), (1, .int m), (2, .int (nI wk))]) (S2 := []) rfl (fun q => absurd q (b2i_n0.mpr h1)) (fun _ => ?_)
  refine wq_run4 (pc' := 16) (L' := [(0, .ref 92), (1, .int m), (2, .int (nI wk))]) (S' := [.long 60, .long 0, .long (nI wk).toInt64]) (f' := f) rfl ?_
  refine wq_callI (r := (b2i (inR (nI wk) 0 60))) (mp_in f (nI wk) 0 60) (Nat.le_of_ble_eq_true rfl) (pc' := 19) (L' := [(0, .ref 92), (1, .int m), (2, .int (nI wk))]) (S' := []) rfl (Nat.le_of_ble_eq_true rfl) rfl rfl (Nat.le_of_ble_eq_true rfl) (Nat.le_of_ble_eq_true rfl) ?_
  refine wq_if (c := (b2i (inR (nI wk) 0 60)) = 0) (p1 := 22) (L1 := [(0, .ref 92), (1, .int m), (2, .int (nI wk))]) (S1 := []) (p2 := 25) (L2 := [(0, .ref 92), (1, .int m), (2, .int (nI wk))]) (S2 := []) rfl (fun q => absurd q (b2i_n0.mpr hw60)) (fun _ => ?_)
  refine wq_run4 (pc' := 30) (L' := [(0, .ref 92), (1, .int m), (2, .int (nI wk)), (3, .int 0), (4, .int 0)]) (S' := []) (f' := f) rfl ?_
  exact mlp_more hl hwr h1 hwk hh ham ham5 hkd hfr (n - 0 + 1) 0 (Nat.zero_le _) (Nat.lt_succ_self _)
