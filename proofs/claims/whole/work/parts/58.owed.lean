/-! letters: what is owed, parts, codes -/
def ptA (ke sh dr : Int32) : Int32 := if ke = 1 then dr else if ke = 2 then sh else 1
theorem ch_nn (K N P : Nat → Int32) (x sh dr h : Int32) (n : Nat) : chA K N P x sh dr h n = -1 ∨ 0 ≤ chA K N P x sh dr h n := by
  unfold chA
  split
  · exact Or.inl rfl
  · right
    unfold imax
    have h1 := lS_nn K N n
    split
    · rename_i q; exact Int32.le_trans h1 (Int32.le_of_lt q)
    · exact h1
def owA (k bf : Int32) (FR CH : Nat → Int32) : Option Nat → Int32
  | none => 0
  | some q => if k = 1 then 0 else if k = 2 ∧ bf < FR q then 0 else imax 0 (CH q)
theorem ow_1 {k bf : Int32} {FR CH : Nat → Int32} (o : Option Nat) (h : k = 1) : owA k bf FR CH o = 0 := by
  cases o with
  | none => rfl
  | some q => exact if_pos h
theorem ow_2 {k bf : Int32} {FR CH : Nat → Int32} {q : Nat} (h : ¬ k = 1) (h2 : k = 2 ∧ bf < FR q) : owA k bf FR CH (some q) = 0 := (if_neg h).trans (if_pos h2)
theorem ow_3 {k bf : Int32} {FR CH : Nat → Int32} {q : Nat} (h : ¬ k = 1) (h2 : ¬ (k = 2 ∧ bf < FR q)) : owA k bf FR CH (some q) = imax 0 (CH q) := (if_neg h).trans (if_neg h2)
theorem sp_partOf (f : HI) {l : Nat} (hl : l < 24) : Sp 1 39 [.ref 43, .ref (47 + l)] f (Ret (ptA (f 1 0) (f (47 + l) 2) (f (47 + l) 3)) f) := by
  show wq 1 39 (Ret (ptA (f 1 0) (f (47 + l) 2) (f (47 + l) 3)) f) 0 [(0, .ref 43), (1, .ref (47 + l))] [] f
  refine wq_run3 (pc' := 5) (L' := [(0, .ref 43), (1, .ref (47 + l))]) (S' := [.int 0, .ref 1]) (f' := f) rfl ?_
  refine wq_ald (j := 0) (n := 7) (v := (f 1 0)) rfl rfl rfl rfl (Nat.le_of_ble_eq_true rfl) (Nat.le_of_ble_eq_true rfl) rfl ?_
  refine wq_run1 (pc' := 7) (L' := [(0, .ref 43), (1, .ref (47 + l))]) (S' := [.int 1, .int (f 1 0)]) (f' := f) rfl ?_
  refine wq_if (c := (f 1 0) = 1) (p1 := 10) (L1 := [(0, .ref 43), (1, .ref (47 + l))]) (S1 := []) (p2 := 15) (L2 := [(0, .ref 43), (1, .ref (47 + l))]) (S2 := []) rfl (fun c_7 => ?_) (fun c_7 => ?_)
  · refine wq_run1 (pc' := 11) (L' := [(0, .ref 43), (1, .ref (47 + l))]) (S' := [.ref (47 + l)]) (f' := f) rfl ?_
    refine wq_getI (v := (f (47 + l) 3)) rfl (let_O hl) rfl ?_
    exact wq_ret rfl (Ret.of (by unfold ptA; rw [if_pos c_7]) rfl)
  · refine wq_run3 (pc' := 20) (L' := [(0, .ref 43), (1, .ref (47 + l))]) (S' := [.int 0, .ref 1]) (f' := f) rfl ?_
    refine wq_ald (j := 0) (n := 7) (v := (f 1 0)) rfl rfl rfl rfl (Nat.le_of_ble_eq_true rfl) (Nat.le_of_ble_eq_true rfl) rfl ?_
    refine wq_run1 (pc' := 22) (L' := [(0, .ref 43), (1, .ref (47 + l))]) (S' := [.int 2, .int (f 1 0)]) (f' := f) rfl ?_
    refine wq_if (c := (f 1 0) = 2) (p1 := 25) (L1 := [(0, .ref 43), (1, .ref (47 + l))]) (S1 := []) (p2 := 32) (L2 := [(0, .ref 43), (1, .ref (47 + l))]) (S2 := []) rfl (fun c_22 => ?_) (fun c_22 => ?_)
    · refine wq_run1 (pc' := 26) (L' := [(0, .ref 43), (1, .ref (47 + l))]) (S' := [.ref (47 + l)]) (f' := f) rfl ?_
      refine wq_getI (v := (f (47 + l) 2)) rfl (let_O hl) rfl ?_
      refine wq_run1 (pc' := 33) (L' := [(0, .ref 43), (1, .ref (47 + l))]) (S' := [.int (f (47 + l) 2)]) (f' := f) rfl ?_
      exact wq_ret rfl (Ret.of (by unfold ptA; rw [if_neg c_7, if_pos c_22]) rfl)
    · refine wq_run1 (pc' := 33) (L' := [(0, .ref 43), (1, .ref (47 + l))]) (S' := [.int 1]) (f' := f) rfl ?_
      exact wq_ret rfl (Ret.of (by unfold ptA; rw [if_neg c_7, if_neg c_22]) rfl)
theorem mp_part (f : HI) {l : Nat} (hl : l < 24) (hk : f 92 42 = 0 ∨ f 92 42 = 1 ∨ f 92 42 = 2) : Sp 1 171 [.ref 92, .int (nI l)] f (Ret (ptA (f 92 42) (f 109 l) (f 110 l)) f) := by
  show wq 1 171 (Ret (ptA (f 92 42) (f 109 l) (f 110 l)) f) 0 [(0, .ref 92), (1, .int (nI l))] [] f
  refine wq_run2 (pc' := 4) (L' := [(0, .ref 92), (1, .int (nI l))]) (S' := [.int (f 92 42)]) (f' := f) rfl ?_
  refine wq_if (c := (f 92 42) = 0) (p1 := 7) (L1 := [(0, .ref 92), (1, .int (nI l))]) (S1 := []) (p2 := 11) (L2 := [(0, .ref 92), (1, .int (nI l))]) (S2 := []) rfl (fun c_4 => ?_) (fun c_4 => ?_)
  · refine wq_run2 (pc' := 34) (L' := [(0, .ref 92), (1, .int (nI l))]) (S' := [.int 1]) (f' := f) rfl ?_
    exact wq_ret rfl (Ret.of (by unfold ptA; rw [if_neg (by rw [c_4]; decide), if_neg (by rw [c_4]; decide)]) rfl)
  · refine wq_run3 (pc' := 16) (L' := [(0, .ref 92), (1, .int (nI l))]) (S' := [.int 1, .int (f 92 42)]) (f' := f) rfl ?_
    refine wq_if (c := (f 92 42) = 1) (p1 := 19) (L1 := [(0, .ref 92), (1, .int (nI l))]) (S1 := []) (p2 := 28) (L2 := [(0, .ref 92), (1, .int (nI l))]) (S2 := []) rfl (fun c_16 => ?_) (fun c_16 => ?_)
    · refine wq_run3 (pc' := 24) (L' := [(0, .ref 92), (1, .int (nI l))]) (S' := [.int (nI l), .ref 110]) (f' := f) rfl ?_
      refine wq_ald (j := l) (n := 24) (v := (f 110 l)) rfl rfl rfl rfl hl (Nat.le_of_ble_eq_true rfl) rfl ?_
      refine wq_run1 (pc' := 34) (L' := [(0, .ref 92), (1, .int (nI l))]) (S' := [.int (f 110 l)]) (f' := f) rfl ?_
      exact wq_ret rfl (Ret.of (by unfold ptA; rw [if_pos c_16]) rfl)
    · refine wq_run3 (pc' := 33) (L' := [(0, .ref 92), (1, .int (nI l))]) (S' := [.int (nI l), .ref 109]) (f' := f) rfl ?_
      refine wq_ald (j := l) (n := 24) (v := (f 109 l)) rfl rfl rfl rfl hl (Nat.le_of_ble_eq_true rfl) rfl ?_
      exact wq_ret rfl (Ret.of (by unfold ptA; rw [if_neg c_16, if_pos ((hk.resolve_left c_4).resolve_left c_16)]) rfl)
theorem mp_isOf (f : HI) {l : Nat} (hl : l < 24) (a b : Int32) : Sp 1 173 [.ref 92, .int (nI l), .int a, .int b] f (Ret (b2i (f 123 l = a ∧ f 116 l = b)) f) := by
  show wq 1 173 (Ret (b2i (f 123 l = a ∧ f 116 l = b)) f) 0 [(0, .ref 92), (1, .int (nI l)), (2, .int a), (3, .int b)] [] f
  refine wq_run3 (pc' := 5) (L' := [(0, .ref 92), (1, .int (nI l)), (2, .int a), (3, .int b)]) (S' := [.int (nI l), .ref 123]) (f' := f) rfl ?_
  refine wq_ald (j := l) (n := 24) (v := (f 123 l)) rfl rfl rfl rfl hl (Nat.le_of_ble_eq_true rfl) rfl ?_
  refine wq_run1 (pc' := 7) (L' := [(0, .ref 92), (1, .int (nI l)), (2, .int a), (3, .int b)]) (S' := [.int a, .int (f 123 l)]) (f' := f) rfl ?_
  refine wq_if (c := (f 123 l) = a) (p1 := 10) (L1 := [(0, .ref 92), (1, .int (nI l)), (2, .int a), (3, .int b)]) (S1 := []) (p2 := 24) (L2 := [(0, .ref 92), (1, .int (nI l)), (2, .int a), (3, .int b)]) (S2 := []) rfl (fun c_7 => ?_) (fun c_7 => ?_)
  · refine wq_run3 (pc' := 15) (L' := [(0, .ref 92), (1, .int (nI l)), (2, .int a), (3, .int b)]) (S' := [.int (nI l), .ref 116]) (f' := f) rfl ?_
    refine wq_ald (j := l) (n := 24) (v := (f 116 l)) rfl rfl rfl rfl hl (Nat.le_of_ble_eq_true rfl) rfl ?_
    refine wq_run1 (pc' := 17) (L' := [(0, .ref 92), (1, .int (nI l)), (2, .int a), (3, .int b)]) (S' := [.int b, .int (f 116 l)]) (f' := f) rfl ?_
    refine wq_if (c := (f 116 l) = b) (p1 := 20) (L1 := [(0, .ref 92), (1, .int (nI l)), (2, .int a), (3, .int b)]) (S1 := []) (p2 := 24) (L2 := [(0, .ref 92), (1, .int (nI l)), (2, .int a), (3, .int b)]) (S2 := []) rfl (fun c_17 => ?_) (fun c_17 => ?_)
    · refine wq_run2 (pc' := 25) (L' := [(0, .ref 92), (1, .int (nI l)), (2, .int a), (3, .int b)]) (S' := [.int 1]) (f' := f) rfl ?_
      exact wq_retZ rfl (by decide) (Ret.of (b2i_t ⟨c_7, c_17⟩).symm rfl)
    · refine wq_run1 (pc' := 25) (L' := [(0, .ref 92), (1, .int (nI l)), (2, .int a), (3, .int b)]) (S' := [.int 0]) (f' := f) rfl ?_
      exact wq_retZ rfl (by decide) (Ret.of (b2i_f (fun q => c_17 q.2)).symm rfl)
  · refine wq_run1 (pc' := 25) (L' := [(0, .ref 92), (1, .int (nI l)), (2, .int a), (3, .int b)]) (S' := [.int 0]) (f' := f) rfl ?_
    exact wq_retZ rfl (by decide) (Ret.of (b2i_f (fun q => c_7 q.1)).symm rfl)
theorem sp_isCoded {f : HI} {l a b : Nat} (hl : l < 24) (ha : a < 10) (hb : b < 10) (h0 : f (47 + l) 0 = nI a) (h1 : f (47 + l) 1 = nI b) : Sp 1 33 [.ref 43, .ref (47 + l)] f (Ret (b2i (¬ ((f 46 (a * 10 + b) >>> (f (47 + l) 6 &&& 31)) &&& 1) = 0)) f) := by
  show wq 1 33 (Ret (b2i (¬ ((f 46 (a * 10 + b) >>> (f (47 + l) 6 &&& 31)) &&& 1) = 0)) f) 0 [(0, .ref 43), (1, .ref (47 + l))] [] f
  refine wq_run3 (pc' := 5) (L' := [(0, .ref 43), (1, .ref (47 + l))]) (S' := [.ref (47 + l), .ref 46]) (f' := f) rfl ?_
  refine wq_getI (v := (nI a)) rfl (let_O hl) (rfl.trans (h0)) ?_
  refine wq_run2 (pc' := 11) (L' := [(0, .ref 43), (1, .ref (47 + l))]) (S' := [.int ((nI a) * 10), .ref 46]) (f' := f) rfl ?_
  refine wq_v (y := (nI (a * 10))) (pk_mul a 10) ?_
  refine wq_run1 (pc' := 12) (L' := [(0, .ref 43), (1, .ref (47 + l))]) (S' := [.ref (47 + l), .int (nI (a * 10)), .ref 46]) (f' := f) rfl ?_
  refine wq_getI (v := (nI b)) rfl (let_O hl) (rfl.trans (h1)) ?_
  refine wq_run1 (pc' := 16) (L' := [(0, .ref 43), (1, .ref (47 + l))]) (S' := [.int ((nI (a * 10)) + (nI b)), .ref 46]) (f' := f) rfl ?_
  refine wq_v (y := (nI ((a * 10) + b))) (nI_add (a * 10) b) ?_
  refine wq_ald (j := ((a * 10) + b)) (n := 100) (v := (f 46 ((a * 10) + b))) rfl rfl rfl rfl (by omega) (Nat.le_of_ble_eq_true rfl) rfl ?_
  refine wq_run1 (pc' := 18) (L' := [(0, .ref 43), (1, .ref (47 + l))]) (S' := [.ref (47 + l), .int (f 46 ((a * 10) + b))]) (f' := f) rfl ?_
  refine wq_getI (v := (f (47 + l) 6)) rfl (let_O hl) rfl ?_
  refine wq_run3 (pc' := 24) (L' := [(0, .ref 43), (1, .ref (47 + l))]) (S' := [.int (((f 46 ((a * 10) + b)) >>> ((f (47 + l) 6) &&& 31)) &&& 1)]) (f' := f) rfl ?_
  refine wq_if (c := (((f 46 ((a * 10) + b)) >>> ((f (47 + l) 6) &&& 31)) &&& 1) = 0) (p1 := 31) (L1 := [(0, .ref 43), (1, .ref (47 + l))]) (S1 := []) (p2 := 27) (L2 := [(0, .ref 43), (1, .ref (47 + l))]) (S2 := []) rfl (fun c_24 => ?_) (fun c_24 => ?_)
  · refine wq_run1 (pc' := 32) (L' := [(0, .ref 43), (1, .ref (47 + l))]) (S' := [.int 0]) (f' := f) rfl ?_
    exact wq_retZ rfl (by decide) (Ret.of (b2i_f (fun q => q c_24)).symm rfl)
  · refine wq_run2 (pc' := 32) (L' := [(0, .ref 43), (1, .ref (47 + l))]) (S' := [.int 1]) (f' := f) rfl ?_
    exact wq_retZ rfl (by decide) (Ret.of (b2i_t c_24).symm rfl)
abbrev tkP (ow wo pu k wi cd : Int32) : Prop := ow = 0 ∨ ow ≤ wo ∧ ow ≤ pu ∧ ¬ (k = 0 ∧ 0 < wi ∧ ¬ cd = 0)
theorem sp_isTaken {f : HI} {l a b : Nat} (hl : l < 24) (ha : a < 10) (hb : b < 10) (h0 : f (47 + l) 0 = nI a) (h1 : f (47 + l) 1 = nI b) (ow : Int32) : Sp 2 32 [.ref 43, .ref (47 + l), .int ow] f (Ret (b2i (tkP ow (f (47 + l) 4) (f 45 b) (f (47 + l) 5) (f (47 + l) 6) ((f 46 (a * 10 + b) >>> (f (47 + l) 6 &&& 31)) &&& 1))) f) := by
  show wq 2 32 (Ret (b2i (tkP ow (f (47 + l) 4) (f 45 b) (f (47 + l) 5) (f (47 + l) 6) ((f 46 (a * 10 + b) >>> (f (47 + l) 6 &&& 31)) &&& 1))) f) 0 [(0, .ref 43), (1, .ref (47 + l)), (2, .int ow)] [] f
  refine wq_run1 (pc' := 1) (L' := [(0, .ref 43), (1, .ref (47 + l)), (2, .int ow)]) (S' := [.int ow]) (f' := f) rfl ?_
  refine wq_if (c := ow = 0) (p1 := 4) (L1 := [(0, .ref 43), (1, .ref (47 + l)), (2, .int ow)]) (S1 := []) (p2 := 6) (L2 := [(0, .ref 43), (1, .ref (47 + l)), (2, .int ow)]) (S2 := []) rfl (fun c_1 => ?_) (fun c_1 => ?_)
  · refine wq_run1 (pc' := 5) (L' := [(0, .ref 43), (1, .ref (47 + l)), (2, .int ow)]) (S' := [.int 1]) (f' := f) rfl ?_
    exact wq_retZ rfl (Or.inr rfl) (Ret.of (b2i_t (Or.inl c_1)).symm rfl)
  · refine wq_run2 (pc' := 8) (L' := [(0, .ref 43), (1, .ref (47 + l)), (2, .int ow)]) (S' := [.ref (47 + l), .int ow]) (f' := f) rfl ?_
    refine wq_getI (v := (f (47 + l) 4)) rfl (let_O hl) rfl ?_
    refine wq_if (c := (f (47 + l) 4) < ow) (p1 := 27) (L1 := [(0, .ref 43), (1, .ref (47 + l)), (2, .int ow)]) (S1 := []) (p2 := 14) (L2 := [(0, .ref 43), (1, .ref (47 + l)), (2, .int ow)]) (S2 := []) rfl (fun c_11 => ?_) (fun c_11 => ?_)
    · refine wq_run1 (pc' := 28) (L' := [(0, .ref 43), (1, .ref (47 + l)), (2, .int ow)]) (S' := [.int 0]) (f' := f) rfl ?_
      exact wq_retZ rfl (Or.inl rfl) (Ret.of (b2i_f (fun q => q.elim c_1 (fun q => absurd q.1 (Int32.not_le.mpr c_11)))).symm rfl)
    · refine wq_run4 (pc' := 20) (L' := [(0, .ref 43), (1, .ref (47 + l)), (2, .int ow)]) (S' := [.ref (47 + l), .ref 45, .int ow]) (f' := f) rfl ?_
      refine wq_getI (v := (nI b)) rfl (let_O hl) (rfl.trans (h1)) ?_
      refine wq_ald (j := b) (n := 10) (v := (f 45 b)) rfl rfl rfl rfl (by omega) (Nat.le_of_ble_eq_true rfl) rfl ?_
      refine wq_if (c := ow ≤ (f 45 b)) (p1 := 29) (L1 := [(0, .ref 43), (1, .ref (47 + l)), (2, .int ow)]) (S1 := []) (p2 := 27) (L2 := [(0, .ref 43), (1, .ref (47 + l)), (2, .int ow)]) (S2 := []) rfl (fun c_24 => ?_) (fun c_24 => ?_)
      · refine wq_run1 (pc' := 30) (L' := [(0, .ref 43), (1, .ref (47 + l)), (2, .int ow)]) (S' := [.ref (47 + l)]) (f' := f) rfl ?_
        refine wq_getI (v := (f (47 + l) 5)) rfl (let_O hl) rfl ?_
        refine wq_if (c := (f (47 + l) 5) = 0) (p1 := 36) (L1 := [(0, .ref 43), (1, .ref (47 + l)), (2, .int ow)]) (S1 := []) (p2 := 51) (L2 := [(0, .ref 43), (1, .ref (47 + l)), (2, .int ow)]) (S2 := []) rfl (fun c_33 => ?_) (fun c_33 => ?_)
        · refine wq_run1 (pc' := 37) (L' := [(0, .ref 43), (1, .ref (47 + l)), (2, .int ow)]) (S' := [.ref (47 + l)]) (f' := f) rfl ?_
          refine wq_getI (v := (f (47 + l) 6)) rfl (let_O hl) rfl ?_
          refine wq_if (c := (f (47 + l) 6) ≤ 0) (p1 := 51) (L1 := [(0, .ref 43), (1, .ref (47 + l)), (2, .int ow)]) (S1 := []) (p2 := 43) (L2 := [(0, .ref 43), (1, .ref (47 + l)), (2, .int ow)]) (S2 := []) rfl (fun c_40 => ?_) (fun c_40 => ?_)
          · refine wq_run2 (pc' := 56) (L' := [(0, .ref 43), (1, .ref (47 + l)), (2, .int ow)]) (S' := [.int 1]) (f' := f) rfl ?_
            exact wq_retZ rfl (Or.inr rfl) (Ret.of (b2i_t (Or.inr ⟨Int32.not_lt.mp c_11, c_24, fun q => absurd q.2.1 (Int32.not_lt.mpr c_40)⟩)).symm rfl)
          · refine wq_run2 (pc' := 45) (L' := [(0, .ref 43), (1, .ref (47 + l)), (2, .int ow)]) (S' := [.ref (47 + l), .ref 43]) (f' := f) rfl ?_
            refine wq_callI (r := (b2i (¬ ((f 46 (a * 10 + b) >>> (f (47 + l) 6 &&& 31)) &&& 1) = 0))) (sp_isCoded hl ha hb h0 h1) (Nat.le_of_ble_eq_true rfl) (pc' := 48) (L' := [(0, .ref 43), (1, .ref (47 + l)), (2, .int ow)]) (S' := []) rfl (Nat.le_of_ble_eq_true rfl) rfl rfl (Nat.le_of_ble_eq_true rfl) (Nat.le_of_ble_eq_true rfl) ?_
            refine wq_if (c := (b2i (¬ ((f 46 (a * 10 + b) >>> (f (47 + l) 6 &&& 31)) &&& 1) = 0)) = 0) (p1 := 51) (L1 := [(0, .ref 43), (1, .ref (47 + l)), (2, .int ow)]) (S1 := []) (p2 := 55) (L2 := [(0, .ref 43), (1, .ref (47 + l)), (2, .int ow)]) (S2 := []) rfl (fun c_48 => ?_) (fun c_48 => ?_)
            · have h_48 := b2i_0.mp c_48
              refine wq_run2 (pc' := 56) (L' := [(0, .ref 43), (1, .ref (47 + l)), (2, .int ow)]) (S' := [.int 1]) (f' := f) rfl ?_
              exact wq_retZ rfl (Or.inr rfl) (Ret.of (b2i_t (Or.inr ⟨Int32.not_lt.mp c_11, c_24, fun q => h_48 q.2.2⟩)).symm rfl)
            · have h_48 := b2i_n0.mp c_48
              refine wq_run1 (pc' := 56) (L' := [(0, .ref 43), (1, .ref (47 + l)), (2, .int ow)]) (S' := [.int 0]) (f' := f) rfl ?_
              exact wq_retZ rfl (Or.inl rfl) (Ret.of (b2i_f (fun q => q.elim c_1 (fun q => q.2.2 ⟨c_33, Int32.not_le.mp c_40, h_48⟩))).symm rfl)
        · refine wq_run2 (pc' := 56) (L' := [(0, .ref 43), (1, .ref (47 + l)), (2, .int ow)]) (S' := [.int 1]) (f' := f) rfl ?_
          exact wq_retZ rfl (Or.inr rfl) (Ret.of (b2i_t (Or.inr ⟨Int32.not_lt.mp c_11, c_24, fun q => c_33 q.1⟩)).symm rfl)
      · refine wq_run1 (pc' := 28) (L' := [(0, .ref 43), (1, .ref (47 + l)), (2, .int ow)]) (S' := [.int 0]) (f' := f) rfl ?_
        exact wq_retZ rfl (Or.inl rfl) (Ret.of (b2i_f (fun q => q.elim c_1 (fun q => c_24 q.2.1))).symm rfl)
theorem sp_owed {f : HI} {n l a b h am : Nat} {kk ww : Nat → Int32} {wr : Nat → Nat} {Kn Dy FR CH : Nat → Int32} {D : Nat → Nat → Nat} {sh dr : Int32} (hln : l < n) (ha : a < 10) (hb : b < 10) (h9000 : h ≤ 9000) (ham5 : am ≤ 5) (hl : LtC f n kk ww) (hwr : ∀ i, i < n → f (47 + i) 7 = nI (wr i) ∧ wr i ≤ 9000) (h0 : f (47 + l) 0 = nI a) (h1 : f (47 + l) 1 = nI b) (h2 : f (47 + l) 2 = sh) (h3 : f (47 + l) 3 = dr) (h43 : f 43 7 = nI h) (ham : f 16 1 = nI am) (hkd : ∀ i, i < am → f (22 + 5 * i) b = Kn i ∧ f (18 + 5 * i) 4 = Dy i) (hac : ∀ q, q < am → ∃ c, c ≤ 8 ∧ f (18 + 5 * q) 3 = nI c ∧ frA (f (19 + 5 * q)) (f (20 + 5 * q)) c = FR q ∧ chA (f (19 + 5 * q)) (f (20 + 5 * q)) (f (21 + 5 * q)) (dJ (D a b)) sh dr 0 c = CH q) (hsz : f 3 0 = 10) (hD : Mt 10 100000000 200 D) (hr : ∀ p q, p < 10 → q < 10 → f 4 (p * 10 + q) = nI (D p q)) : Sp 4 30 [.ref 43, .ref (47 + l), .int (nI l)] f (Ret (owA (kk l) (nI (fkN kk ww wr (ww l) (nI (wr l / 168)) l)) FR CH (toA Kn Dy (nI h) (nI (h / 24)) am)) f) := by
  show wq 4 30 (Ret (owA (kk l) (nI (fkN kk ww wr (ww l) (nI (wr l / 168)) l)) FR CH (toA Kn Dy (nI h) (nI (h / 24)) am)) f) 0 [(0, .ref 43), (1, .ref (47 + l)), (2, .int (nI l))] [] f
  have hl24 : l < 24 := by have := hl.2.1; omega
  have hwl := (hwr l hln).2
  refine wq_run1 (pc' := 1) (L' := [(0, .ref 43), (1, .ref (47 + l)), (2, .int (nI l))]) (S' := [.ref (47 + l)]) (f' := f) rfl ?_
  refine wq_getI (v := (kk l)) rfl (let_O hl24) (rfl.trans ((hl.2.2 l hln).1)) ?_
  refine wq_run1 (pc' := 5) (L' := [(0, .ref 43), (1, .ref (47 + l)), (2, .int (nI l))]) (S' := [.int 1, .int (kk l)]) (f' := f) rfl ?_
  refine wq_if (c := (kk l) = 1) (p1 := 8) (L1 := [(0, .ref 43), (1, .ref (47 + l)), (2, .int (nI l))]) (S1 := []) (p2 := 10) (L2 := [(0, .ref 43), (1, .ref (47 + l)), (2, .int (nI l))]) (S2 := []) rfl (fun c_5 => ?_) (fun c_5 => ?_)
  · refine wq_run1 (pc' := 9) (L' := [(0, .ref 43), (1, .ref (47 + l)), (2, .int (nI l))]) (S' := [.int 0]) (f' := f) rfl ?_
    exact wq_ret rfl (Ret.of (ow_1 _ c_5).symm rfl)
  · refine wq_run3 (pc' := 15) (L' := [(0, .ref 43), (1, .ref (47 + l)), (2, .int (nI l))]) (S' := [.ref (47 + l), .ref 16]) (f' := f) rfl ?_
    refine wq_getI (v := (nI b)) rfl (let_O hl24) (rfl.trans (h1)) ?_
    refine wq_run2 (pc' := 22) (L' := [(0, .ref 43), (1, .ref (47 + l)), (2, .int (nI l))]) (S' := [.int (f 43 7), .int (nI b), .ref 16]) (f' := f) rfl ?_
    refine wq_v (y := (nI h)) (h43) ?_
    refine wq_run2 (pc' := 26) (L' := [(0, .ref 43), (1, .ref (47 + l)), (2, .int (nI l))]) (S' := [.int (f 43 7), .int (nI h), .int (nI b), .ref 16]) (f' := f) rfl ?_
    refine wq_v (y := (nI h)) (h43) ?_
    refine wq_callI (r := (nI (h / 24))) (sp_day f (x := h) (by omega)) (Nat.le_of_ble_eq_true rfl) (pc' := 29) (L' := [(0, .ref 43), (1, .ref (47 + l)), (2, .int (nI l))]) (S' := [.int (nI h), .int (nI b), .ref 16]) rfl (Nat.le_of_ble_eq_true rfl) rfl rfl (Nat.le_of_ble_eq_true rfl) (Nat.le_of_ble_eq_true rfl) ?_
    refine wq_callI (r := (obI (toA Kn Dy (nI h) (nI (h / 24)) am))) ((show Sp 1 54 [.ref 16, .int (nI b), .int (nI h), .int (nI (h / 24))] f (Ret (obI (toA Kn Dy (nI h) (nI (h / 24)) am)) f) from by have h9 := sp_told f (nI h) (nI (h / 24)) (t := b) (m := am) hb ham ham5; rw [toA_c (Kn' := Kn) (Dy' := Dy) hkd] at h9; exact h9)) (Nat.le_of_ble_eq_true rfl) (pc' := 32) (L' := [(0, .ref 43), (1, .ref (47 + l)), (2, .int (nI l))]) (S' := []) rfl (Nat.le_of_ble_eq_true rfl) rfl rfl (Nat.le_of_ble_eq_true rfl) (Nat.le_of_ble_eq_true rfl) ?_
    refine wq_run3 (pc' := 35) (L' := [(0, .ref 43), (1, .ref (47 + l)), (2, .int (nI l)), (3, .int (obI (toA Kn Dy (nI h) (nI (h / 24)) am)))]) (S' := [.int (-1), .int (obI (toA Kn Dy (nI h) (nI (h / 24)) am))]) (f' := f) rfl ?_
    refine wq_if (c := (obI (toA Kn Dy (nI h) (nI (h / 24)) am)) = (-1)) (p1 := 38) (L1 := [(0, .ref 43), (1, .ref (47 + l)), (2, .int (nI l)), (3, .int (obI (toA Kn Dy (nI h) (nI (h / 24)) am)))]) (S1 := []) (p2 := 40) (L2 := [(0, .ref 43), (1, .ref (47 + l)), (2, .int (nI l)), (3, .int (obI (toA Kn Dy (nI h) (nI (h / 24)) am)))]) (S2 := []) rfl (fun c_35 => ?_) (fun c_35 => ?_)
    · refine wq_run1 (pc' := 39) (L' := [(0, .ref 43), (1, .ref (47 + l)), (2, .int (nI l)), (3, .int (obI (toA Kn Dy (nI h) (nI (h / 24)) am)))]) (S' := [.int 0]) (f' := f) rfl ?_
      exact wq_ret rfl (Ret.of (by rw [(toA_0 (c := am) (by omega)).mp c_35]; rfl) rfl)
    · obtain ⟨q, hq8⟩ := obI_y c_35
      have hq9 := toA_lt hq8
      have hq5 : q < 5 := by omega
      refine wq_L (L' := [(0, .ref 43), (1, .ref (47 + l)), (2, .int (nI l)), (3, .int (nI q))]) (by rw [hq8]; rfl) ?_
      refine wq_run4 (pc' := 48) (L' := [(0, .ref 43), (1, .ref (47 + l)), (2, .int (nI l)), (3, .int (nI q))]) (S' := [.int (nI q), .ref 17]) (f' := f) rfl ?_
      refine wq_qld (j := q) (n := 5) (b := (18 + 5 * q)) rfl rfl rfl rfl hq5 (Nat.le_of_ble_eq_true rfl) (acts_at hq5) ?_
      refine wq_run2 (pc' := 52) (L' := [(0, .ref 43), (1, .ref (47 + l)), (2, .int (nI l)), (3, .int (nI q)), (4, .ref (18 + 5 * q))]) (S' := [.ref (47 + l)]) (f' := f) rfl ?_
      refine wq_getI (v := (kk l)) rfl (let_O hl24) (rfl.trans ((hl.2.2 l hln).1)) ?_
      refine wq_run1 (pc' := 56) (L' := [(0, .ref 43), (1, .ref (47 + l)), (2, .int (nI l)), (3, .int (nI q)), (4, .ref (18 + 5 * q))]) (S' := [.int 2, .int (kk l)]) (f' := f) rfl ?_
      refine wq_if (c := (kk l) = 2) (p1 := 59) (L1 := [(0, .ref 43), (1, .ref (47 + l)), (2, .int (nI l)), (3, .int (nI q)), (4, .ref (18 + 5 * q))]) (S1 := []) (p2 := 89) (L2 := [(0, .ref 43), (1, .ref (47 + l)), (2, .int (nI l)), (3, .int (nI q)), (4, .ref (18 + 5 * q))]) (S2 := []) rfl (fun c_56 => ?_) (fun c_56 => ?_)
      · refine wq_run2 (pc' := 61) (L' := [(0, .ref 43), (1, .ref (47 + l)), (2, .int (nI l)), (3, .int (nI q)), (4, .ref (18 + 5 * q))]) (S' := [.ref (47 + l), .ref 43]) (f' := f) rfl ?_
        refine wq_getI (v := (ww l)) rfl (let_O hl24) (rfl.trans ((hl.2.2 l hln).2)) ?_
        refine wq_run1 (pc' := 65) (L' := [(0, .ref 43), (1, .ref (47 + l)), (2, .int (nI l)), (3, .int (nI q)), (4, .ref (18 + 5 * q))]) (S' := [.ref (47 + l), .int (ww l), .ref 43]) (f' := f) rfl ?_
        refine wq_getI (v := (nI (wr l))) rfl (let_O hl24) (rfl.trans ((hwr l hln).1)) ?_
        refine wq_callI (r := (nI (wr l / 168))) (sp_week f (x := wr l) (by omega)) (Nat.le_of_ble_eq_true rfl) (pc' := 71) (L' := [(0, .ref 43), (1, .ref (47 + l)), (2, .int (nI l)), (3, .int (nI q)), (4, .ref (18 + 5 * q))]) (S' := [.int (ww l), .ref 43]) rfl (Nat.le_of_ble_eq_true rfl) rfl rfl (Nat.le_of_ble_eq_true rfl) (Nat.le_of_ble_eq_true rfl) ?_
        refine wq_run1 (pc' := 72) (L' := [(0, .ref 43), (1, .ref (47 + l)), (2, .int (nI l)), (3, .int (nI q)), (4, .ref (18 + 5 * q))]) (S' := [.int (nI l), .int (nI (wr l / 168)), .int (ww l), .ref 43]) (f' := f) rfl ?_
        refine wq_callI (r := (nI (fkN kk ww wr (ww l) (nI (wr l / 168)) l))) (sp_frankedIn hl hwr (ww l) (nI (wr l / 168)) (b := l) (by omega)) (Nat.le_of_ble_eq_true rfl) (pc' := 75) (L' := [(0, .ref 43), (1, .ref (47 + l)), (2, .int (nI l)), (3, .int (nI q)), (4, .ref (18 + 5 * q))]) (S' := []) rfl (Nat.le_of_ble_eq_true rfl) rfl rfl (Nat.le_of_ble_eq_true rfl) (Nat.le_of_ble_eq_true rfl) ?_
        refine wq_run3 (pc' := 81) (L' := [(0, .ref 43), (1, .ref (47 + l)), (2, .int (nI l)), (3, .int (nI q)), (4, .ref (18 + 5 * q)), (5, .int (nI (fkN kk ww wr (ww l) (nI (wr l / 168)) l)))]) (S' := [.ref (18 + 5 * q), .int (nI (fkN kk ww wr (ww l) (nI (wr l / 168)) l))]) (f' := f) rfl ?_
        refine wq_callI (r := (FR q)) ((show Sp 1 4 [.ref (18 + 5 * q)] f (Ret (FR q) f) from by obtain ⟨c, hc1, hc2, hc3, hc4⟩ := hac q hq9; have h9 := sp_freeLetters f (a := q) (n := c) (by omega) hc2 hc1; rw [hc3] at h9; exact h9)) (Nat.le_of_ble_eq_true rfl) (pc' := 84) (L' := [(0, .ref 43), (1, .ref (47 + l)), (2, .int (nI l)), (3, .int (nI q)), (4, .ref (18 + 5 * q)), (5, .int (nI (fkN kk ww wr (ww l) (nI (wr l / 168)) l)))]) (S' := [.int (nI (fkN kk ww wr (ww l) (nI (wr l / 168)) l))]) (show oCallV 4 0 0 84 X2 (81, [(0, .ref 43), (1, .ref (47 + l)), (2, .int (nI l)), (3, .int (nI q)), (4, .ref (18 + 5 * q)), (5, .int (nI (fkN kk ww wr (ww l) (nI (wr l / 168)) l)))], [.ref (18 + 5 * q), .int (nI (fkN kk ww wr (ww l) (nI (wr l / 168)) l))]) (K0, f) = _ from oCallV_e rfl (act_O hq5)) (Nat.le_of_ble_eq_true rfl) rfl rfl (Nat.le_of_ble_eq_true rfl) (Nat.le_of_ble_eq_true rfl) ?_
        refine wq_if (c := (FR q) ≤ (nI (fkN kk ww wr (ww l) (nI (wr l / 168)) l))) (p1 := 89) (L1 := [(0, .ref 43), (1, .ref (47 + l)), (2, .int (nI l)), (3, .int (nI q)), (4, .ref (18 + 5 * q)), (5, .int (nI (fkN kk ww wr (ww l) (nI (wr l / 168)) l)))]) (S1 := []) (p2 := 87) (L2 := [(0, .ref 43), (1, .ref (47 + l)), (2, .int (nI l)), (3, .int (nI q)), (4, .ref (18 + 5 * q)), (5, .int (nI (fkN kk ww wr (ww l) (nI (wr l / 168)) l)))]) (S2 := []) rfl (fun c_84 => ?_) (fun c_84 => ?_)
        · refine wq_run4 (pc' := 97) (L' := [(0, .ref 43), (1, .ref (47 + l)), (2, .int (nI l)), (3, .int (nI q)), (4, .ref (18 + 5 * q)), (5, .int (nI (fkN kk ww wr (ww l) (nI (wr l / 168)) l)))]) (S' := [.ref (47 + l), .ref 3]) (f' := f) rfl ?_
          refine wq_getI (v := (nI a)) rfl (let_O hl24) (rfl.trans (h0)) ?_
          refine wq_run1 (pc' := 101) (L' := [(0, .ref 43), (1, .ref (47 + l)), (2, .int (nI l)), (3, .int (nI q)), (4, .ref (18 + 5 * q)), (5, .int (nI (fkN kk ww wr (ww l) (nI (wr l / 168)) l)))]) (S' := [.ref (47 + l), .int (nI a), .ref 3]) (f' := f) rfl ?_
          refine wq_getI (v := (nI b)) rfl (let_O hl24) (rfl.trans (h1)) ?_
          refine wq_callI (r := (dJ (D a b))) (sp_betweenL (a := a) (b := b) hsz hD ha hb hr) (Nat.le_of_ble_eq_true rfl) (pc' := 107) (L' := [(0, .ref 43), (1, .ref (47 + l)), (2, .int (nI l)), (3, .int (nI q)), (4, .ref (18 + 5 * q)), (5, .int (nI (fkN kk ww wr (ww l) (nI (wr l / 168)) l)))]) (S' := []) rfl (Nat.le_of_ble_eq_true rfl) rfl rfl (Nat.le_of_ble_eq_true rfl) (Nat.le_of_ble_eq_true rfl) ?_
          refine wq_run5 (pc' := 115) (L' := [(0, .ref 43), (1, .ref (47 + l)), (2, .int (nI l)), (3, .int (nI q)), (4, .ref (18 + 5 * q)), (5, .int (dJ (D a b)))]) (S' := [.ref (47 + l), .int (dJ (D a b)), .ref (18 + 5 * q), .int 0]) (f' := f) rfl ?_
          refine wq_getI (v := sh) rfl (let_O hl24) (rfl.trans (h2)) ?_
          refine wq_run1 (pc' := 119) (L' := [(0, .ref 43), (1, .ref (47 + l)), (2, .int (nI l)), (3, .int (nI q)), (4, .ref (18 + 5 * q)), (5, .int (dJ (D a b)))]) (S' := [.ref (47 + l), .int sh, .int (dJ (D a b)), .ref (18 + 5 * q), .int 0]) (f' := f) rfl ?_
          refine wq_getI (v := dr) rfl (let_O hl24) (rfl.trans (h3)) ?_
          refine wq_run1 (pc' := 123) (L' := [(0, .ref 43), (1, .ref (47 + l)), (2, .int (nI l)), (3, .int (nI q)), (4, .ref (18 + 5 * q)), (5, .int (dJ (D a b)))]) (S' := [.int 0, .int dr, .int sh, .int (dJ (D a b)), .ref (18 + 5 * q), .int 0]) (f' := f) rfl ?_
          refine wq_callI (r := (CH q)) ((show Sp 3 3 [.ref (18 + 5 * q), .int (dJ (D a b)), .int sh, .int dr, .int 0] f (Ret (CH q) f) from by obtain ⟨c, hc1, hc2, hc3, hc4⟩ := hac q hq9; have h9 := sp_charge f (dJ (D a b)) sh dr 0 (a := q) (n := c) (by omega) hc2 hc1; rw [hc4] at h9; exact h9)) (Nat.le_of_ble_eq_true rfl) (pc' := 126) (L' := [(0, .ref 43), (1, .ref (47 + l)), (2, .int (nI l)), (3, .int (nI q)), (4, .ref (18 + 5 * q)), (5, .int (dJ (D a b)))]) (S' := [.int 0]) (show oCallV 3 0 4 126 X2 (123, [(0, .ref 43), (1, .ref (47 + l)), (2, .int (nI l)), (3, .int (nI q)), (4, .ref (18 + 5 * q)), (5, .int (dJ (D a b)))], [.int 0, .int dr, .int sh, .int (dJ (D a b)), .ref (18 + 5 * q), .int 0]) (K0, f) = _ from oCallV_e rfl (act_O hq5)) (Nat.le_of_ble_eq_true rfl) rfl rfl (Nat.le_of_ble_eq_true rfl) (Nat.le_of_ble_eq_true rfl) ?_
          refine wq_callI (r := (imax 0 (CH q))) (jp_max f 0 (CH q)) (Nat.le_of_ble_eq_true rfl) (pc' := 129) (L' := [(0, .ref 43), (1, .ref (47 + l)), (2, .int (nI l)), (3, .int (nI q)), (4, .ref (18 + 5 * q)), (5, .int (dJ (D a b)))]) (S' := []) rfl (Nat.le_of_ble_eq_true rfl) rfl rfl (Nat.le_of_ble_eq_true rfl) (Nat.le_of_ble_eq_true rfl) ?_
          exact wq_ret rfl (Ret.of (by rw [hq8]; exact (ow_3 c_5 (fun q => absurd q.2 (Int32.not_lt.mpr c_84))).symm) rfl)
        · refine wq_run1 (pc' := 88) (L' := [(0, .ref 43), (1, .ref (47 + l)), (2, .int (nI l)), (3, .int (nI q)), (4, .ref (18 + 5 * q)), (5, .int (nI (fkN kk ww wr (ww l) (nI (wr l / 168)) l)))]) (S' := [.int 0]) (f' := f) rfl ?_
          exact wq_ret rfl (Ret.of (by rw [hq8]; exact (ow_2 c_5 ⟨c_56, Int32.not_le.mp c_84⟩).symm) rfl)
      · refine wq_run4 (pc' := 97) (L' := [(0, .ref 43), (1, .ref (47 + l)), (2, .int (nI l)), (3, .int (nI q)), (4, .ref (18 + 5 * q))]) (S' := [.ref (47 + l), .ref 3]) (f' := f) rfl ?_
        refine wq_getI (v := (nI a)) rfl (let_O hl24) (rfl.trans (h0)) ?_
        refine wq_run1 (pc' := 101) (L' := [(0, .ref 43), (1, .ref (47 + l)), (2, .int (nI l)), (3, .int (nI q)), (4, .ref (18 + 5 * q))]) (S' := [.ref (47 + l), .int (nI a), .ref 3]) (f' := f) rfl ?_
        refine wq_getI (v := (nI b)) rfl (let_O hl24) (rfl.trans (h1)) ?_
        refine wq_callI (r := (dJ (D a b))) (sp_betweenL (a := a) (b := b) hsz hD ha hb hr) (Nat.le_of_ble_eq_true rfl) (pc' := 107) (L' := [(0, .ref 43), (1, .ref (47 + l)), (2, .int (nI l)), (3, .int (nI q)), (4, .ref (18 + 5 * q))]) (S' := []) rfl (Nat.le_of_ble_eq_true rfl) rfl rfl (Nat.le_of_ble_eq_true rfl) (Nat.le_of_ble_eq_true rfl) ?_
        refine wq_run5 (pc' := 115) (L' := [(0, .ref 43), (1, .ref (47 + l)), (2, .int (nI l)), (3, .int (nI q)), (4, .ref (18 + 5 * q)), (5, .int (dJ (D a b)))]) (S' := [.ref (47 + l), .int (dJ (D a b)), .ref (18 + 5 * q), .int 0]) (f' := f) rfl ?_
        refine wq_getI (v := sh) rfl (let_O hl24) (rfl.trans (h2)) ?_
        refine wq_run1 (pc' := 119) (L' := [(0, .ref 43), (1, .ref (47 + l)), (2, .int (nI l)), (3, .int (nI q)), (4, .ref (18 + 5 * q)), (5, .int (dJ (D a b)))]) (S' := [.ref (47 + l), .int sh, .int (dJ (D a b)), .ref (18 + 5 * q), .int 0]) (f' := f) rfl ?_
        refine wq_getI (v := dr) rfl (let_O hl24) (rfl.trans (h3)) ?_
        refine wq_run1 (pc' := 123) (L' := [(0, .ref 43), (1, .ref (47 + l)), (2, .int (nI l)), (3, .int (nI q)), (4, .ref (18 + 5 * q)), (5, .int (dJ (D a b)))]) (S' := [.int 0, .int dr, .int sh, .int (dJ (D a b)), .ref (18 + 5 * q), .int 0]) (f' := f) rfl ?_
        refine wq_callI (r := (CH q)) ((show Sp 3 3 [.ref (18 + 5 * q), .int (dJ (D a b)), .int sh, .int dr, .int 0] f (Ret (CH q) f) from by obtain ⟨c, hc1, hc2, hc3, hc4⟩ := hac q hq9; have h9 := sp_charge f (dJ (D a b)) sh dr 0 (a := q) (n := c) (by omega) hc2 hc1; rw [hc4] at h9; exact h9)) (Nat.le_of_ble_eq_true rfl) (pc' := 126) (L' := [(0, .ref 43), (1, .ref (47 + l)), (2, .int (nI l)), (3, .int (nI q)), (4, .ref (18 + 5 * q)), (5, .int (dJ (D a b)))]) (S' := [.int 0]) (show oCallV 3 0 4 126 X2 (123, [(0, .ref 43), (1, .ref (47 + l)), (2, .int (nI l)), (3, .int (nI q)), (4, .ref (18 + 5 * q)), (5, .int (dJ (D a b)))], [.int 0, .int dr, .int sh, .int (dJ (D a b)), .ref (18 + 5 * q), .int 0]) (K0, f) = _ from oCallV_e rfl (act_O hq5)) (Nat.le_of_ble_eq_true rfl) rfl rfl (Nat.le_of_ble_eq_true rfl) (Nat.le_of_ble_eq_true rfl) ?_
        refine wq_callI (r := (imax 0 (CH q))) (jp_max f 0 (CH q)) (Nat.le_of_ble_eq_true rfl) (pc' := 129) (L' := [(0, .ref 43), (1, .ref (47 + l)), (2, .int (nI l)), (3, .int (nI q)), (4, .ref (18 + 5 * q)), (5, .int (dJ (D a b)))]) (S' := []) rfl (Nat.le_of_ble_eq_true rfl) rfl rfl (Nat.le_of_ble_eq_true rfl) (Nat.le_of_ble_eq_true rfl) ?_
        exact wq_ret rfl (Ret.of (by rw [hq8]; exact (ow_3 c_5 (fun q => c_56 q.1)).symm) rfl)
theorem imax_00 {x : Int32} (h : 0 ≤ x) : imax 0 x = x := by
  unfold imax
  by_cases c : x < 0
  · exact absurd h (Int32.not_le.mpr c)
  · rw [if_neg c]
theorem mlp_owes {f : HI} {n l a b h am : Nat} {kk ww : Nat → Int32} {wr : Nat → Nat} {Kn Dy FR CH : Nat → Int32} {D : Nat → Nat → Nat} {sh dr : Int32} (hln : l < n) (ha : a < 10) (hb : b < 10) (h9000 : h ≤ 9000) (ham5 : am ≤ 5) (hl : LtM f n kk ww) (hwr : ∀ i, i < n → f 114 i = nI (wr i) ∧ wr i ≤ 9000) (h0 : f 107 l = nI a) (h1 : f 108 l = nI b) (h2 : f 109 l = sh) (h3 : f 110 l = dr) (h8 : f 92 8 = nI h) (ham : f 92 17 = nI am) (hkd : ∀ i, i < am → f 106 (10 * i + b) = Kn i ∧ f 105 i = Dy i) (hac : ∀ q, q < am → ∃ c K N P, c ≤ 8 ∧ f 101 q = nI c ∧ AcM f q c K N P ∧ frA K N c = FR q ∧ chA K N P (dJ (D a b)) sh dr 0 c = CH q) {W : Nat → Nat → Nat} {w : Nat} (hM : LaM f W w) (hI : LaI f W w D) {q : Nat} (hk1 : ¬ kk l = 1) (hk2 : kk l = 2) (hq8 : (toA Kn Dy (nI h) (nI (h / 24)) am) = some q) (hq9 : q < am) : ∀ (m9 : Nat) (i : Nat), (i ≤ l) → l - i < m9 → wq 4 169 (fun v f' => v = some (.int (owA (kk l) (nI (fkN kk ww wr (ww l) (nI (wr l / 168)) l)) FR CH (toA Kn Dy (nI h) (nI (h / 24)) am))) ∧ ∃ g, f' = up1 f 136 g) 56 [(0, .ref 92), (1, .int (nI l)), (2, .int (nI q)), (3, .int (nI (fkN kk ww wr (ww l) (nI (wr l / 168)) i))), (4, .int (nI i))] [] f := by
  intro m9
  induction m9 with
  | zero => intro i hi hn; exact absurd hn (Nat.not_lt_zero _)
  | succ m9 ih =>
    intro i hi hn
    have hl24 : l < 24 := by have := hl.2.1; omega
    have hwl := (hwr l hln).2
    have hn24 := hl.2.1
    have hfk := fk_le kk ww wr (ww l) (nI (wr l / 168)) i
    refine wq_run2 (pc' := 59) (L' := [(0, .ref 92), (1, .int (nI l)), (2, .int (nI q)), (3, .int (nI (fkN kk ww wr (ww l) (nI (wr l / 168)) i))), (4, .int (nI i))]) (S' := [.int (nI l), .int (nI i)]) (f' := f) rfl ?_
    refine wq_if (c := (nI l) ≤ (nI i)) (p1 := 125) (L1 := [(0, .ref 92), (1, .int (nI l)), (2, .int (nI q)), (3, .int (nI (fkN kk ww wr (ww l) (nI (wr l / 168)) i))), (4, .int (nI i))]) (S1 := []) (p2 := 62) (L2 := [(0, .ref 92), (1, .int (nI l)), (2, .int (nI q)), (3, .int (nI (fkN kk ww wr (ww l) (nI (wr l / 168)) i))), (4, .int (nI i))]) (S2 := []) rfl (fun c_59 => ?_) (fun c_59 => ?_)
    · have k_59 : l ≤ i := (nI_leI (a := l) (b := i) (by omega) (by omega)).mp c_59
      refine wq_run3 (pc' := 128) (L' := [(0, .ref 92), (1, .int (nI l)), (2, .int (nI q)), (3, .int (nI (fkN kk ww wr (ww l) (nI (wr l / 168)) i))), (4, .int (nI i))]) (S' := [.int (nI q), .ref 92, .int (nI (fkN kk ww wr (ww l) (nI (wr l / 168)) i))]) (f' := f) rfl ?_
      refine wq_callI (r := (FR q)) ((show Sp 1 162 [.ref 92, .int (nI q)] f (Ret (FR q) f) from by obtain ⟨c, K, N, P, hc1, hc2, hc3, hc4, hc5⟩ := hac q hq9; have h9 := mp_freeOf f (a := q) (n := c) (K := K) (N := N) (P := P) (by omega) hc2 hc1 hc3; rw [hc4] at h9; exact h9)) (Nat.le_of_ble_eq_true rfl) (pc' := 131) (L' := [(0, .ref 92), (1, .int (nI l)), (2, .int (nI q)), (3, .int (nI (fkN kk ww wr (ww l) (nI (wr l / 168)) i))), (4, .int (nI i))]) (S' := [.int (nI (fkN kk ww wr (ww l) (nI (wr l / 168)) i))]) rfl (Nat.le_of_ble_eq_true rfl) rfl rfl (Nat.le_of_ble_eq_true rfl) (Nat.le_of_ble_eq_true rfl) ?_
      refine wq_if (c := (FR q) ≤ (nI (fkN kk ww wr (ww l) (nI (wr l / 168)) i))) (p1 := 136) (L1 := [(0, .ref 92), (1, .int (nI l)), (2, .int (nI q)), (3, .int (nI (fkN kk ww wr (ww l) (nI (wr l / 168)) i))), (4, .int (nI i))]) (S1 := []) (p2 := 134) (L2 := [(0, .ref 92), (1, .int (nI l)), (2, .int (nI q)), (3, .int (nI (fkN kk ww wr (ww l) (nI (wr l / 168)) i))), (4, .int (nI i))]) (S2 := []) rfl (fun c_131 => ?_) (fun c_131 => ?_)
      · refine wq_run6 (pc' := 144) (L' := [(0, .ref 92), (1, .int (nI l)), (2, .int (nI q)), (3, .int (nI (fkN kk ww wr (ww l) (nI (wr l / 168)) i))), (4, .int (nI i))]) (S' := [.int (nI l), .ref 107, .ref 92, .int (nI q), .ref 92]) (f' := f) rfl ?_
        refine wq_ald (j := l) (n := 24) (v := (nI a)) rfl rfl rfl rfl (by omega) (Nat.le_of_ble_eq_true rfl) h0 ?_
        refine wq_run3 (pc' := 150) (L' := [(0, .ref 92), (1, .int (nI l)), (2, .int (nI q)), (3, .int (nI (fkN kk ww wr (ww l) (nI (wr l / 168)) i))), (4, .int (nI i))]) (S' := [.int (nI l), .ref 108, .int (nI a), .ref 92, .int (nI q), .ref 92]) (f' := f) rfl ?_
        refine wq_ald (j := l) (n := 24) (v := (nI b)) rfl rfl rfl rfl (by omega) (Nat.le_of_ble_eq_true rfl) h1 ?_
        refine wq_call (mp_farOf (f := f) (a := a) (b := b) hM hI ha hb) (Nat.le_of_ble_eq_true rfl) (pc' := 154) (L' := [(0, .ref 92), (1, .int (nI l)), (2, .int (nI q)), (3, .int (nI (fkN kk ww wr (ww l) (nI (wr l / 168)) i))), (4, .int (nI i))]) (S' := [.int (nI q), .ref 92]) rfl (Nat.le_of_ble_eq_true rfl) rfl rfl (Nat.le_of_ble_eq_true rfl) (Nat.le_of_ble_eq_true rfl) ?_
        rintro v f9 ⟨g2, e0, ef⟩
        subst e0
        subst ef
        refine wq_run3 (pc' := 159) (L' := [(0, .ref 92), (1, .int (nI l)), (2, .int (nI q)), (3, .int (nI (fkN kk ww wr (ww l) (nI (wr l / 168)) i))), (4, .int (nI i))]) (S' := [.int (nI l), .ref 109, .int (dJ (D a b)), .int (nI q), .ref 92]) (f' := (up1 f 136 g2)) rfl ?_
        refine wq_ald (j := l) (n := 24) (v := sh) rfl rfl rfl rfl (by omega) (Nat.le_of_ble_eq_true rfl) h2 ?_
        refine wq_run3 (pc' := 165) (L' := [(0, .ref 92), (1, .int (nI l)), (2, .int (nI q)), (3, .int (nI (fkN kk ww wr (ww l) (nI (wr l / 168)) i))), (4, .int (nI i))]) (S' := [.int (nI l), .ref 110, .int sh, .int (dJ (D a b)), .int (nI q), .ref 92]) (f' := (up1 f 136 g2)) rfl ?_
        refine wq_ald (j := l) (n := 24) (v := dr) rfl rfl rfl rfl (by omega) (Nat.le_of_ble_eq_true rfl) h3 ?_
        refine wq_run1 (pc' := 167) (L' := [(0, .ref 92), (1, .int (nI l)), (2, .int (nI q)), (3, .int (nI (fkN kk ww wr (ww l) (nI (wr l / 168)) i))), (4, .int (nI i))]) (S' := [.int 0, .int dr, .int sh, .int (dJ (D a b)), .int (nI q), .ref 92]) (f' := (up1 f 136 g2)) rfl ?_
        refine wq_callI (r := (CH q)) ((show Sp 3 159 [.ref 92, .int (nI q), .int (dJ (D a b)), .int sh, .int dr, .int 0] (up1 f 136 g2) (Ret (CH q) (up1 f 136 g2)) from by obtain ⟨c, K, N, P, hc1, hc2, hc3, hc4, hc5⟩ := hac q hq9; have h9 := mp_postageOf (up1 f 136 g2) (a := q) (n := c) (K := K) (N := N) (P := P) (by omega) hc2 hc1 hc3 (dJ (D a b)) sh dr 0 dJ_x; rw [hc5] at h9; exact h9)) (Nat.le_of_ble_eq_true rfl) (pc' := 170) (L' := [(0, .ref 92), (1, .int (nI l)), (2, .int (nI q)), (3, .int (nI (fkN kk ww wr (ww l) (nI (wr l / 168)) i))), (4, .int (nI i))]) (S' := []) rfl (Nat.le_of_ble_eq_true rfl) rfl rfl (Nat.le_of_ble_eq_true rfl) (Nat.le_of_ble_eq_true rfl) ?_
        refine wq_run3 (pc' := 173) (L' := [(0, .ref 92), (1, .int (nI l)), (2, .int (nI q)), (3, .int (CH q)), (4, .int (nI i))]) (S' := [.int (-1), .int (CH q)]) (f' := (up1 f 136 g2)) rfl ?_
        refine wq_if (c := (CH q) = (-1)) (p1 := 176) (L1 := [(0, .ref 92), (1, .int (nI l)), (2, .int (nI q)), (3, .int (CH q)), (4, .int (nI i))]) (S1 := []) (p2 := 180) (L2 := [(0, .ref 92), (1, .int (nI l)), (2, .int (nI q)), (3, .int (CH q)), (4, .int (nI i))]) (S2 := []) rfl (fun c_173 => ?_) (fun c_173 => ?_)
        · refine wq_run2 (pc' := 181) (L' := [(0, .ref 92), (1, .int (nI l)), (2, .int (nI q)), (3, .int (CH q)), (4, .int (nI i))]) (S' := [.int 0]) (f' := (up1 f 136 g2)) rfl ?_
          have hcn : CH q = -1 ∨ 0 ≤ CH q := by
            obtain ⟨c, K, N, P, hc1, hc2, hc3, hc4, hc5⟩ := hac q hq9
            rw [← hc5]
            exact ch_nn K N P (dJ (D a b)) sh dr 0 c
          have e : i = l := by omega
          rw [e] at c_131
          have hz : ¬ (kk l = 2 ∧ (nI (fkN kk ww wr (ww l) (nI (wr l / 168)) l)) < FR q) := fun z => absurd z.2 (Int32.not_lt.mpr c_131)
          exact wq_ret rfl ⟨by rw [hq8, ow_3 hk1 hz, c_173]; rfl, g2, rfl⟩
        · refine wq_run1 (pc' := 181) (L' := [(0, .ref 92), (1, .int (nI l)), (2, .int (nI q)), (3, .int (CH q)), (4, .int (nI i))]) (S' := [.int (CH q)]) (f' := (up1 f 136 g2)) rfl ?_
          have hcn : CH q = -1 ∨ 0 ≤ CH q := by
            obtain ⟨c, K, N, P, hc1, hc2, hc3, hc4, hc5⟩ := hac q hq9
            rw [← hc5]
            exact ch_nn K N P (dJ (D a b)) sh dr 0 c
          have e : i = l := by omega
          rw [e] at c_131
          have hz : ¬ (kk l = 2 ∧ (nI (fkN kk ww wr (ww l) (nI (wr l / 168)) l)) < FR q) := fun z => absurd z.2 (Int32.not_lt.mpr c_131)
          exact wq_ret rfl ⟨by rw [hq8, ow_3 hk1 hz]; exact congrArg some (congrArg Value.int (imax_00 (hcn.resolve_left c_173)).symm), g2, rfl⟩
      · refine wq_run1 (pc' := 135) (L' := [(0, .ref 92), (1, .int (nI l)), (2, .int (nI q)), (3, .int (nI (fkN kk ww wr (ww l) (nI (wr l / 168)) i))), (4, .int (nI i))]) (S' := [.int 0]) (f' := f) rfl ?_
        have e : i = l := by omega
        rw [e] at c_131
        exact wq_ret rfl ⟨by rw [hq8, ow_2 hk1 ⟨hk2, Int32.not_le.mp c_131⟩], f 136, (up1_id f 136).symm⟩
    · have k_59 : ¬ l ≤ i := fun q => c_59 ((nI_leI (a := l) (b := i) (by omega) (by omega)).mpr q)
      have hwi := (hwr i (by omega)).2
      refine wq_run4 (pc' := 69) (L' := [(0, .ref 92), (1, .int (nI l)), (2, .int (nI q)), (3, .int (nI (fkN kk ww wr (ww l) (nI (wr l / 168)) i))), (4, .int (nI i))]) (S' := [.int (nI i), .ref 112, .int (nI (fkN kk ww wr (ww l) (nI (wr l / 168)) i))]) (f' := f) rfl ?_
      refine wq_ald (j := i) (n := 24) (v := (kk i)) rfl rfl rfl rfl (by omega) (Nat.le_of_ble_eq_true rfl) (hl.2.2 i (by omega)).1 ?_
      refine wq_run1 (pc' := 71) (L' := [(0, .ref 92), (1, .int (nI l)), (2, .int (nI q)), (3, .int (nI (fkN kk ww wr (ww l) (nI (wr l / 168)) i))), (4, .int (nI i))]) (S' := [.int 2, .int (kk i), .int (nI (fkN kk ww wr (ww l) (nI (wr l / 168)) i))]) (f' := f) rfl ?_
      refine wq_if (c := (kk i) = 2) (p1 := 74) (L1 := [(0, .ref 92), (1, .int (nI l)), (2, .int (nI q)), (3, .int (nI (fkN kk ww wr (ww l) (nI (wr l / 168)) i))), (4, .int (nI i))]) (S1 := [.int (nI (fkN kk ww wr (ww l) (nI (wr l / 168)) i))]) (p2 := 116) (L2 := [(0, .ref 92), (1, .int (nI l)), (2, .int (nI q)), (3, .int (nI (fkN kk ww wr (ww l) (nI (wr l / 168)) i))), (4, .int (nI i))]) (S2 := [.int (nI (fkN kk ww wr (ww l) (nI (wr l / 168)) i))]) rfl (fun c_71 => ?_) (fun c_71 => ?_)
      · refine wq_run3 (pc' := 80) (L' := [(0, .ref 92), (1, .int (nI l)), (2, .int (nI q)), (3, .int (nI (fkN kk ww wr (ww l) (nI (wr l / 168)) i))), (4, .int (nI i))]) (S' := [.int (nI i), .ref 113, .int (nI (fkN kk ww wr (ww l) (nI (wr l / 168)) i))]) (f' := f) rfl ?_
        refine wq_ald (j := i) (n := 24) (v := (ww i)) rfl rfl rfl rfl (by omega) (Nat.le_of_ble_eq_true rfl) (hl.2.2 i (by omega)).2 ?_
        refine wq_run3 (pc' := 86) (L' := [(0, .ref 92), (1, .int (nI l)), (2, .int (nI q)), (3, .int (nI (fkN kk ww wr (ww l) (nI (wr l / 168)) i))), (4, .int (nI i))]) (S' := [.int (nI l), .ref 113, .int (ww i), .int (nI (fkN kk ww wr (ww l) (nI (wr l / 168)) i))]) (f' := f) rfl ?_
        refine wq_ald (j := l) (n := 24) (v := (ww l)) rfl rfl rfl rfl (by omega) (Nat.le_of_ble_eq_true rfl) (hl.2.2 l hln).2 ?_
        refine wq_if (c := (ww i) = (ww l)) (p1 := 90) (L1 := [(0, .ref 92), (1, .int (nI l)), (2, .int (nI q)), (3, .int (nI (fkN kk ww wr (ww l) (nI (wr l / 168)) i))), (4, .int (nI i))]) (S1 := [.int (nI (fkN kk ww wr (ww l) (nI (wr l / 168)) i))]) (p2 := 116) (L2 := [(0, .ref 92), (1, .int (nI l)), (2, .int (nI q)), (3, .int (nI (fkN kk ww wr (ww l) (nI (wr l / 168)) i))), (4, .int (nI i))]) (S2 := [.int (nI (fkN kk ww wr (ww l) (nI (wr l / 168)) i))]) rfl (fun c_87 => ?_) (fun c_87 => ?_)
        · refine wq_run3 (pc' := 96) (L' := [(0, .ref 92), (1, .int (nI l)), (2, .int (nI q)), (3, .int (nI (fkN kk ww wr (ww l) (nI (wr l / 168)) i))), (4, .int (nI i))]) (S' := [.int (nI i), .ref 114, .int (nI (fkN kk ww wr (ww l) (nI (wr l / 168)) i))]) (f' := f) rfl ?_
          refine wq_ald (j := i) (n := 24) (v := (nI (wr i))) rfl rfl rfl rfl (by omega) (Nat.le_of_ble_eq_true rfl) (hwr i (by omega)).1 ?_
          refine wq_callI (r := (nI (wr i / 168))) (mp_week f (x := wr i) (by omega)) (Nat.le_of_ble_eq_true rfl) (pc' := 100) (L' := [(0, .ref 92), (1, .int (nI l)), (2, .int (nI q)), (3, .int (nI (fkN kk ww wr (ww l) (nI (wr l / 168)) i))), (4, .int (nI i))]) (S' := [.int (nI (fkN kk ww wr (ww l) (nI (wr l / 168)) i))]) rfl (Nat.le_of_ble_eq_true rfl) rfl rfl (Nat.le_of_ble_eq_true rfl) (Nat.le_of_ble_eq_true rfl) ?_
          refine wq_run3 (pc' := 105) (L' := [(0, .ref 92), (1, .int (nI l)), (2, .int (nI q)), (3, .int (nI (fkN kk ww wr (ww l) (nI (wr l / 168)) i))), (4, .int (nI i))]) (S' := [.int (nI l), .ref 114, .int (nI (wr i / 168)), .int (nI (fkN kk ww wr (ww l) (nI (wr l / 168)) i))]) (f' := f) rfl ?_
          refine wq_ald (j := l) (n := 24) (v := (nI (wr l))) rfl rfl rfl rfl (by omega) (Nat.le_of_ble_eq_true rfl) (hwr l hln).1 ?_
          refine wq_callI (r := (nI (wr l / 168))) (mp_week f (x := wr l) (by omega)) (Nat.le_of_ble_eq_true rfl) (pc' := 109) (L' := [(0, .ref 92), (1, .int (nI l)), (2, .int (nI q)), (3, .int (nI (fkN kk ww wr (ww l) (nI (wr l / 168)) i))), (4, .int (nI i))]) (S' := [.int (nI (wr i / 168)), .int (nI (fkN kk ww wr (ww l) (nI (wr l / 168)) i))]) rfl (Nat.le_of_ble_eq_true rfl) rfl rfl (Nat.le_of_ble_eq_true rfl) (Nat.le_of_ble_eq_true rfl) ?_
          refine wq_if (c := (nI (wr i / 168)) = (nI (wr l / 168))) (p1 := 112) (L1 := [(0, .ref 92), (1, .int (nI l)), (2, .int (nI q)), (3, .int (nI (fkN kk ww wr (ww l) (nI (wr l / 168)) i))), (4, .int (nI i))]) (S1 := [.int (nI (fkN kk ww wr (ww l) (nI (wr l / 168)) i))]) (p2 := 116) (L2 := [(0, .ref 92), (1, .int (nI l)), (2, .int (nI q)), (3, .int (nI (fkN kk ww wr (ww l) (nI (wr l / 168)) i))), (4, .int (nI i))]) (S2 := [.int (nI (fkN kk ww wr (ww l) (nI (wr l / 168)) i))]) rfl (fun c_109 => ?_) (fun c_109 => ?_)
          · have k_109 : (wr i / 168) = (wr l / 168) := (nI_eq (a := (wr i / 168)) (b := (wr l / 168)) (by omega) (by omega)).mp c_109
            refine wq_run3 (pc' := 118) (L' := [(0, .ref 92), (1, .int (nI l)), (2, .int (nI q)), (3, .int (nI (fkN kk ww wr (ww l) (nI (wr l / 168)) i))), (4, .int (nI i))]) (S' := [.int ((nI (fkN kk ww wr (ww l) (nI (wr l / 168)) i)) + 1)]) (f' := f) rfl ?_
            refine wq_v (y := (nI ((fkN kk ww wr (ww l) (nI (wr l / 168)) i) + 1))) (nI_add (fkN kk ww wr (ww l) (nI (wr l / 168)) i) 1) ?_
            refine wq_run2 (pc' := 122) (L' := [(0, .ref 92), (1, .int (nI l)), (2, .int (nI q)), (3, .int (nI ((fkN kk ww wr (ww l) (nI (wr l / 168)) i) + 1))), (4, .int ((nI i) + 1))]) (S' := []) (f' := f) rfl ?_
            refine wq_L (L' := [(0, .ref 92), (1, .int (nI l)), (2, .int (nI q)), (3, .int (nI ((fkN kk ww wr (ww l) (nI (wr l / 168)) i) + 1))), (4, .int (nI (i + 1)))]) (by rw [show nI i + 1 = nI (i + 1) from nI_add _ _]) ?_
            refine wq_run1 (pc' := 56) (L' := [(0, .ref 92), (1, .int (nI l)), (2, .int (nI q)), (3, .int (nI ((fkN kk ww wr (ww l) (nI (wr l / 168)) i) + 1))), (4, .int (nI (i + 1)))]) (S' := []) (f' := f) rfl ?_
            have h9 := ih (i + 1) (by omega) (by omega)
            rw [show fkN kk ww wr (ww l) (nI (wr l / 168)) (i + 1) = _ from if_pos ⟨c_71, c_87, c_109⟩] at h9
            exact h9
          · have k_109 : ¬ (wr i / 168) = (wr l / 168) := fun q => c_109 ((nI_eq (a := (wr i / 168)) (b := (wr l / 168)) (by omega) (by omega)).mpr q)
            refine wq_run2 (pc' := 118) (L' := [(0, .ref 92), (1, .int (nI l)), (2, .int (nI q)), (3, .int (nI (fkN kk ww wr (ww l) (nI (wr l / 168)) i))), (4, .int (nI i))]) (S' := [.int ((nI (fkN kk ww wr (ww l) (nI (wr l / 168)) i)) + 0)]) (f' := f) rfl ?_
            refine wq_v (y := (nI ((fkN kk ww wr (ww l) (nI (wr l / 168)) i) + 0))) (nI_add (fkN kk ww wr (ww l) (nI (wr l / 168)) i) 0) ?_
            refine wq_run2 (pc' := 122) (L' := [(0, .ref 92), (1, .int (nI l)), (2, .int (nI q)), (3, .int (nI ((fkN kk ww wr (ww l) (nI (wr l / 168)) i) + 0))), (4, .int ((nI i) + 1))]) (S' := []) (f' := f) rfl ?_
            refine wq_L (L' := [(0, .ref 92), (1, .int (nI l)), (2, .int (nI q)), (3, .int (nI ((fkN kk ww wr (ww l) (nI (wr l / 168)) i) + 0))), (4, .int (nI (i + 1)))]) (by rw [show nI i + 1 = nI (i + 1) from nI_add _ _]) ?_
            refine wq_run1 (pc' := 56) (L' := [(0, .ref 92), (1, .int (nI l)), (2, .int (nI q)), (3, .int (nI ((fkN kk ww wr (ww l) (nI (wr l / 168)) i) + 0))), (4, .int (nI (i + 1)))]) (S' := []) (f' := f) rfl ?_
            have h9 := ih (i + 1) (by omega) (by omega)
            rw [show fkN kk ww wr (ww l) (nI (wr l / 168)) (i + 1) = _ from if_neg (fun q => c_109 q.2.2)] at h9
            exact h9
        · refine wq_run2 (pc' := 118) (L' := [(0, .ref 92), (1, .int (nI l)), (2, .int (nI q)), (3, .int (nI (fkN kk ww wr (ww l) (nI (wr l / 168)) i))), (4, .int (nI i))]) (S' := [.int ((nI (fkN kk ww wr (ww l) (nI (wr l / 168)) i)) + 0)]) (f' := f) rfl ?_
          refine wq_v (y := (nI ((fkN kk ww wr (ww l) (nI (wr l / 168)) i) + 0))) (nI_add (fkN kk ww wr (ww l) (nI (wr l / 168)) i) 0) ?_
          refine wq_run2 (pc' := 122) (L' := [(0, .ref 92), (1, .int (nI l)), (2, .int (nI q)), (3, .int (nI ((fkN kk ww wr (ww l) (nI (wr l / 168)) i) + 0))), (4, .int ((nI i) + 1))]) (S' := []) (f' := f) rfl ?_
          refine wq_L (L' := [(0, .ref 92), (1, .int (nI l)), (2, .int (nI q)), (3, .int (nI ((fkN kk ww wr (ww l) (nI (wr l / 168)) i) + 0))), (4, .int (nI (i + 1)))]) (by rw [show nI i + 1 = nI (i + 1) from nI_add _ _]) ?_
          refine wq_run1 (pc' := 56) (L' := [(0, .ref 92), (1, .int (nI l)), (2, .int (nI q)), (3, .int (nI ((fkN kk ww wr (ww l) (nI (wr l / 168)) i) + 0))), (4, .int (nI (i + 1)))]) (S' := []) (f' := f) rfl ?_
          have h9 := ih (i + 1) (by omega) (by omega)
          rw [show fkN kk ww wr (ww l) (nI (wr l / 168)) (i + 1) = _ from if_neg (fun q => c_87 q.2.1)] at h9
          exact h9
      · refine wq_run2 (pc' := 118) (L' := [(0, .ref 92), (1, .int (nI l)), (2, .int (nI q)), (3, .int (nI (fkN kk ww wr (ww l) (nI (wr l / 168)) i))), (4, .int (nI i))]) (S' := [.int ((nI (fkN kk ww wr (ww l) (nI (wr l / 168)) i)) + 0)]) (f' := f) rfl ?_
        refine wq_v (y := (nI ((fkN kk ww wr (ww l) (nI (wr l / 168)) i) + 0))) (nI_add (fkN kk ww wr (ww l) (nI (wr l / 168)) i) 0) ?_
        refine wq_run2 (pc' := 122) (L' := [(0, .ref 92), (1, .int (nI l)), (2, .int (nI q)), (3, .int (nI ((fkN kk ww wr (ww l) (nI (wr l / 168)) i) + 0))), (4, .int ((nI i) + 1))]) (S' := []) (f' := f) rfl ?_
        refine wq_L (L' := [(0, .ref 92), (1, .int (nI l)), (2, .int (nI q)), (3, .int (nI ((fkN kk ww wr (ww l) (nI (wr l / 168)) i) + 0))), (4, .int (nI (i + 1)))]) (by rw [show nI i + 1 = nI (i + 1) from nI_add _ _]) ?_
        refine wq_run1 (pc' := 56) (L' := [(0, .ref 92), (1, .int (nI l)), (2, .int (nI q)), (3, .int (nI ((fkN kk ww wr (ww l) (nI (wr l / 168)) i) + 0))), (4, .int (nI (i + 1)))]) (S' := []) (f' := f) rfl ?_
        have h9 := ih (i + 1) (by omega) (by omega)
        rw [show fkN kk ww wr (ww l) (nI (wr l / 168)) (i + 1) = _ from if_neg (fun q => c_71 q.1)] at h9
        exact h9
theorem mp_owes {f : HI} {n l a b h am : Nat} {kk ww : Nat → Int32} {wr : Nat → Nat} {Kn Dy FR CH : Nat → Int32} {D : Nat → Nat → Nat} {sh dr : Int32} (hln : l < n) (ha : a < 10) (hb : b < 10) (h9000 : h ≤ 9000) (ham5 : am ≤ 5) (hl : LtM f n kk ww) (hwr : ∀ i, i < n → f 114 i = nI (wr i) ∧ wr i ≤ 9000) (h0 : f 107 l = nI a) (h1 : f 108 l = nI b) (h2 : f 109 l = sh) (h3 : f 110 l = dr) (h8 : f 92 8 = nI h) (ham : f 92 17 = nI am) (hkd : ∀ i, i < am → f 106 (10 * i + b) = Kn i ∧ f 105 i = Dy i) (hac : ∀ q, q < am → ∃ c K N P, c ≤ 8 ∧ f 101 q = nI c ∧ AcM f q c K N P ∧ frA K N c = FR q ∧ chA K N P (dJ (D a b)) sh dr 0 c = CH q) {W : Nat → Nat → Nat} {w : Nat} (hM : LaM f W w) (hI : LaI f W w D) : Sp 4 169 [.ref 92, .int (nI l)] f (fun v f' => v = some (.int (owA (kk l) (nI (fkN kk ww wr (ww l) (nI (wr l / 168)) l)) FR CH (toA Kn Dy (nI h) (nI (h / 24)) am))) ∧ ∃ g, f' = up1 f 136 g) := by
  show wq 4 169 (fun v f' => v = some (.int (owA (kk l) (nI (fkN kk ww wr (ww l) (nI (wr l / 168)) l)) FR CH (toA Kn Dy (nI h) (nI (h / 24)) am))) ∧ ∃ g, f' = up1 f 136 g) 0 [(0, .ref 92), (1, .int (nI l))] [] f
  have hl24 : l < 24 := by have := hl.2.1; omega
  have hwl := (hwr l hln).2
  have hn24 := hl.2.1
  refine wq_run3 (pc' := 5) (L' := [(0, .ref 92), (1, .int (nI l))]) (S' := [.int (nI l), .ref 112]) (f' := f) rfl ?_
  refine wq_ald (j := l) (n := 24) (v := (kk l)) rfl rfl rfl rfl (by omega) (Nat.le_of_ble_eq_true rfl) (hl.2.2 l hln).1 ?_
  refine wq_run1 (pc' := 7) (L' := [(0, .ref 92), (1, .int (nI l))]) (S' := [.int 1, .int (kk l)]) (f' := f) rfl ?_
  refine wq_if (c := (kk l) = 1) (p1 := 10) (L1 := [(0, .ref 92), (1, .int (nI l))]) (S1 := []) (p2 := 12) (L2 := [(0, .ref 92), (1, .int (nI l))]) (S2 := []) rfl (fun c_7 => ?_) (fun c_7 => ?_)
  · refine wq_run1 (pc' := 11) (L' := [(0, .ref 92), (1, .int (nI l))]) (S' := [.int 0]) (f' := f) rfl ?_
    exact wq_ret rfl ⟨by rw [ow_1 _ c_7], f 136, (up1_id f 136).symm⟩
  · refine wq_run4 (pc' := 18) (L' := [(0, .ref 92), (1, .int (nI l))]) (S' := [.int (nI l), .ref 108, .ref 92]) (f' := f) rfl ?_
    refine wq_ald (j := l) (n := 24) (v := (nI b)) rfl rfl rfl rfl (by omega) (Nat.le_of_ble_eq_true rfl) h1 ?_
    refine wq_run2 (pc' := 23) (L' := [(0, .ref 92), (1, .int (nI l))]) (S' := [.int (f 92 8), .int (nI b), .ref 92]) (f' := f) rfl ?_
    refine wq_v (y := (nI h)) (h8) ?_
    refine wq_run2 (pc' := 27) (L' := [(0, .ref 92), (1, .int (nI l))]) (S' := [.int (f 92 8), .int (nI h), .int (nI b), .ref 92]) (f' := f) rfl ?_
    refine wq_v (y := (nI h)) (h8) ?_
    refine wq_callI (r := (nI (h / 24))) (mp_day f (x := h) (by omega)) (Nat.le_of_ble_eq_true rfl) (pc' := 30) (L' := [(0, .ref 92), (1, .int (nI l))]) (S' := [.int (nI h), .int (nI b), .ref 92]) rfl (Nat.le_of_ble_eq_true rfl) rfl rfl (Nat.le_of_ble_eq_true rfl) (Nat.le_of_ble_eq_true rfl) ?_
    refine wq_callI (r := (obI (toA Kn Dy (nI h) (nI (h / 24)) am))) ((show Sp 1 155 [.ref 92, .int (nI b), .int (nI h), .int (nI (h / 24))] f (Ret (obI (toA Kn Dy (nI h) (nI (h / 24)) am)) f) from by have h9 := mp_actOf f (nI h) (nI (h / 24)) (t := b) (m := am) hb ham ham5; rw [toA_c (Kn' := Kn) (Dy' := Dy) hkd] at h9; exact h9)) (Nat.le_of_ble_eq_true rfl) (pc' := 33) (L' := [(0, .ref 92), (1, .int (nI l))]) (S' := []) rfl (Nat.le_of_ble_eq_true rfl) rfl rfl (Nat.le_of_ble_eq_true rfl) (Nat.le_of_ble_eq_true rfl) ?_
    refine wq_run3 (pc' := 36) (L' := [(0, .ref 92), (1, .int (nI l)), (2, .int (obI (toA Kn Dy (nI h) (nI (h / 24)) am)))]) (S' := [.int (-1), .int (obI (toA Kn Dy (nI h) (nI (h / 24)) am))]) (f' := f) rfl ?_
    refine wq_if (c := (obI (toA Kn Dy (nI h) (nI (h / 24)) am)) = (-1)) (p1 := 39) (L1 := [(0, .ref 92), (1, .int (nI l)), (2, .int (obI (toA Kn Dy (nI h) (nI (h / 24)) am)))]) (S1 := []) (p2 := 41) (L2 := [(0, .ref 92), (1, .int (nI l)), (2, .int (obI (toA Kn Dy (nI h) (nI (h / 24)) am)))]) (S2 := []) rfl (fun c_36 => ?_) (fun c_36 => ?_)
    · refine wq_run1 (pc' := 40) (L' := [(0, .ref 92), (1, .int (nI l)), (2, .int (obI (toA Kn Dy (nI h) (nI (h / 24)) am)))]) (S' := [.int 0]) (f' := f) rfl ?_
      exact wq_ret rfl ⟨by rw [(toA_0 (c := am) (by omega)).mp c_36]; rfl, f 136, (up1_id f 136).symm⟩
    · obtain ⟨q, hq8⟩ := obI_y c_36
      have hq9 := toA_lt hq8
      have hq5 : q < 5 := by omega
      refine wq_L (L' := [(0, .ref 92), (1, .int (nI l)), (2, .int (nI q))]) (by rw [hq8]; rfl) ?_
      refine wq_run3 (pc' := 46) (L' := [(0, .ref 92), (1, .int (nI l)), (2, .int (nI q))]) (S' := [.int (nI l), .ref 112]) (f' := f) rfl ?_
      refine wq_ald (j := l) (n := 24) (v := (kk l)) rfl rfl rfl rfl (by omega) (Nat.le_of_ble_eq_true rfl) (hl.2.2 l hln).1 ?_
      refine wq_run1 (pc' := 48) (L' := [(0, .ref 92), (1, .int (nI l)), (2, .int (nI q))]) (S' := [.int 2, .int (kk l)]) (f' := f) rfl ?_
      refine wq_if (c := (kk l) = 2) (p1 := 51) (L1 := [(0, .ref 92), (1, .int (nI l)), (2, .int (nI q))]) (S1 := []) (p2 := 136) (L2 := [(0, .ref 92), (1, .int (nI l)), (2, .int (nI q))]) (S2 := []) rfl (fun c_48 => ?_) (fun c_48 => ?_)
      · refine wq_run4 (pc' := 56) (L' := [(0, .ref 92), (1, .int (nI l)), (2, .int (nI q)), (3, .int 0), (4, .int 0)]) (S' := []) (f' := f) rfl ?_
        exact mlp_owes hln ha hb h9000 ham5 hl hwr h0 h1 h2 h3 h8 ham hkd hac hM hI c_7 c_48 hq8 hq9 (l - 0 + 1) 0 (Nat.zero_le _) (Nat.lt_succ_self _)
      · refine wq_run6 (pc' := 144) (L' := [(0, .ref 92), (1, .int (nI l)), (2, .int (nI q))]) (S' := [.int (nI l), .ref 107, .ref 92, .int (nI q), .ref 92]) (f' := f) rfl ?_
        refine wq_ald (j := l) (n := 24) (v := (nI a)) rfl rfl rfl rfl (by omega) (Nat.le_of_ble_eq_true rfl) h0 ?_
        refine wq_run3 (pc' := 150) (L' := [(0, .ref 92), (1, .int (nI l)), (2, .int (nI q))]) (S' := [.int (nI l), .ref 108, .int (nI a), .ref 92, .int (nI q), .ref 92]) (f' := f) rfl ?_
        refine wq_ald (j := l) (n := 24) (v := (nI b)) rfl rfl rfl rfl (by omega) (Nat.le_of_ble_eq_true rfl) h1 ?_
        refine wq_call (mp_farOf (f := f) (a := a) (b := b) hM hI ha hb) (Nat.le_of_ble_eq_true rfl) (pc' := 154) (L' := [(0, .ref 92), (1, .int (nI l)), (2, .int (nI q))]) (S' := [.int (nI q), .ref 92]) rfl (Nat.le_of_ble_eq_true rfl) rfl rfl (Nat.le_of_ble_eq_true rfl) (Nat.le_of_ble_eq_true rfl) ?_
        rintro v f9 ⟨g2, e0, ef⟩
        subst e0
        subst ef
        refine wq_run3 (pc' := 159) (L' := [(0, .ref 92), (1, .int (nI l)), (2, .int (nI q))]) (S' := [.int (nI l), .ref 109, .int (dJ (D a b)), .int (nI q), .ref 92]) (f' := (up1 f 136 g2)) rfl ?_
        refine wq_ald (j := l) (n := 24) (v := sh) rfl rfl rfl rfl (by omega) (Nat.le_of_ble_eq_true rfl) h2 ?_
        refine wq_run3 (pc' := 165) (L' := [(0, .ref 92), (1, .int (nI l)), (2, .int (nI q))]) (S' := [.int (nI l), .ref 110, .int sh, .int (dJ (D a b)), .int (nI q), .ref 92]) (f' := (up1 f 136 g2)) rfl ?_
        refine wq_ald (j := l) (n := 24) (v := dr) rfl rfl rfl rfl (by omega) (Nat.le_of_ble_eq_true rfl) h3 ?_
        refine wq_run1 (pc' := 167) (L' := [(0, .ref 92), (1, .int (nI l)), (2, .int (nI q))]) (S' := [.int 0, .int dr, .int sh, .int (dJ (D a b)), .int (nI q), .ref 92]) (f' := (up1 f 136 g2)) rfl ?_
        refine wq_callI (r := (CH q)) ((show Sp 3 159 [.ref 92, .int (nI q), .int (dJ (D a b)), .int sh, .int dr, .int 0] (up1 f 136 g2) (Ret (CH q) (up1 f 136 g2)) from by obtain ⟨c, K, N, P, hc1, hc2, hc3, hc4, hc5⟩ := hac q hq9; have h9 := mp_postageOf (up1 f 136 g2) (a := q) (n := c) (K := K) (N := N) (P := P) (by omega) hc2 hc1 hc3 (dJ (D a b)) sh dr 0 dJ_x; rw [hc5] at h9; exact h9)) (Nat.le_of_ble_eq_true rfl) (pc' := 170) (L' := [(0, .ref 92), (1, .int (nI l)), (2, .int (nI q))]) (S' := []) rfl (Nat.le_of_ble_eq_true rfl) rfl rfl (Nat.le_of_ble_eq_true rfl) (Nat.le_of_ble_eq_true rfl) ?_
        refine wq_run3 (pc' := 173) (L' := [(0, .ref 92), (1, .int (nI l)), (2, .int (nI q)), (3, .int (CH q))]) (S' := [.int (-1), .int (CH q)]) (f' := (up1 f 136 g2)) rfl ?_
        refine wq_if (c := (CH q) = (-1)) (p1 := 176) (L1 := [(0, .ref 92), (1, .int (nI l)), (2, .int (nI q)), (3, .int (CH q))]) (S1 := []) (p2 := 180) (L2 := [(0, .ref 92), (1, .int (nI l)), (2, .int (nI q)), (3, .int (CH q))]) (S2 := []) rfl (fun c_173 => ?_) (fun c_173 => ?_)
        · refine wq_run2 (pc' := 181) (L' := [(0, .ref 92), (1, .int (nI l)), (2, .int (nI q)), (3, .int (CH q))]) (S' := [.int 0]) (f' := (up1 f 136 g2)) rfl ?_
          have hcn : CH q = -1 ∨ 0 ≤ CH q := by
            obtain ⟨c, K, N, P, hc1, hc2, hc3, hc4, hc5⟩ := hac q hq9
            rw [← hc5]
            exact ch_nn K N P (dJ (D a b)) sh dr 0 c
          have hz : ¬ (kk l = 2 ∧ (nI (fkN kk ww wr (ww l) (nI (wr l / 168)) l)) < FR q) := fun z => c_48 z.1
          exact wq_ret rfl ⟨by rw [hq8, ow_3 c_7 hz, c_173]; rfl, g2, rfl⟩
        · refine wq_run1 (pc' := 181) (L' := [(0, .ref 92), (1, .int (nI l)), (2, .int (nI q)), (3, .int (CH q))]) (S' := [.int (CH q)]) (f' := (up1 f 136 g2)) rfl ?_
          have hcn : CH q = -1 ∨ 0 ≤ CH q := by
            obtain ⟨c, K, N, P, hc1, hc2, hc3, hc4, hc5⟩ := hac q hq9
            rw [← hc5]
            exact ch_nn K N P (dJ (D a b)) sh dr 0 c
          have hz : ¬ (kk l = 2 ∧ (nI (fkN kk ww wr (ww l) (nI (wr l / 168)) l)) < FR q) := fun z => c_48 z.1
          exact wq_ret rfl ⟨by rw [hq8, ow_3 c_7 hz]; exact congrArg some (congrArg Value.int (imax_00 (hcn.resolve_left c_173)).symm), g2, rfl⟩
