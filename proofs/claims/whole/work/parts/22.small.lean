/-! small methods -/
abbrev inR (v lo hi : Int32) : Prop := lo ≤ v ∧ v ≤ hi
theorem i64_le {x y : Int32} : x.toInt64 ≤ y.toInt64 ↔ x ≤ y := by
  rw [Int64.le_iff_toInt_le, Int32.le_iff_toInt_le, Int32.toInt_toInt64, Int32.toInt_toInt64]
theorem i64_lt {x y : Int32} : x.toInt64 < y.toInt64 ↔ x < y := by
  rw [Int64.lt_iff_toInt_lt, Int32.lt_iff_toInt_lt, Int32.toInt_toInt64, Int32.toInt_toInt64]
theorem sp_within (f : HI) (v lo hi : Int32) : Sp 1 118 [.int v, .int lo, .int hi] f (Ret (b2i (inR v lo hi)) f) := by
  show wq 1 118 (Ret (b2i (inR v lo hi)) f) 0 [(0, .int v), (1, .int lo), (2, .int hi)] [] f
  refine wq_run2 (pc' := 2) (L' := [(0, .int v), (1, .int lo), (2, .int hi)]) (S' := [.int lo, .int v]) (f' := f) rfl ?_
  refine wq_if (c := v < lo) (p1 := 14) (L1 := [(0, .int v), (1, .int lo), (2, .int hi)]) (S1 := []) (p2 := 5) (L2 := [(0, .int v), (1, .int lo), (2, .int hi)]) (S2 := []) rfl (fun c_2 => ?_) (fun c_2 => ?_)
  · refine wq_run1 (pc' := 15) (L' := [(0, .int v), (1, .int lo), (2, .int hi)]) (S' := [.int 0]) (f' := f) rfl ?_
    exact wq_retZ rfl (Or.inl rfl) ⟨congrArg some (congrArg Value.int (b2i_f (fun q => absurd q.1 (Int32.not_le.mpr c_2))).symm), rfl⟩
  · refine wq_run2 (pc' := 7) (L' := [(0, .int v), (1, .int lo), (2, .int hi)]) (S' := [.int hi, .int v]) (f' := f) rfl ?_
    refine wq_if (c := hi < v) (p1 := 14) (L1 := [(0, .int v), (1, .int lo), (2, .int hi)]) (S1 := []) (p2 := 10) (L2 := [(0, .int v), (1, .int lo), (2, .int hi)]) (S2 := []) rfl (fun c_7 => ?_) (fun c_7 => ?_)
    · refine wq_run1 (pc' := 15) (L' := [(0, .int v), (1, .int lo), (2, .int hi)]) (S' := [.int 0]) (f' := f) rfl ?_
      exact wq_retZ rfl (Or.inl rfl) ⟨congrArg some (congrArg Value.int (b2i_f (fun q => absurd q.2 (Int32.not_le.mpr c_7))).symm), rfl⟩
    · refine wq_run2 (pc' := 15) (L' := [(0, .int v), (1, .int lo), (2, .int hi)]) (S' := [.int 1]) (f' := f) rfl ?_
      exact wq_retZ rfl (Or.inr rfl) ⟨congrArg some (congrArg Value.int (b2i_t ⟨Int32.not_lt.mp c_2, Int32.not_lt.mp c_7⟩).symm), rfl⟩
theorem sp_isTown (f : HI) (v : Int32) : Sp 2 119 [.int v] f (Ret (b2i (inR v 0 9)) f) := by
  show wq 2 119 (Ret (b2i (inR v 0 9)) f) 0 [(0, .int v)] [] f
  refine wq_run3 (pc' := 4) (L' := [(0, .int v)]) (S' := [.int 9, .int 0, .int v]) (f' := f) rfl ?_
  refine wq_callI (r := (b2i (inR v 0 9))) (sp_within f v 0 9) (Nat.le_of_ble_eq_true rfl) (pc' := 7) (L' := [(0, .int v)]) (S' := []) rfl (Nat.le_of_ble_eq_true rfl) rfl rfl (Nat.le_of_ble_eq_true rfl) (Nat.le_of_ble_eq_true rfl) ?_
  exact wq_retZ rfl b2i_z ⟨rfl, rfl⟩
theorem sp_isMember (f : HI) (v : Int32) : Sp 2 121 [.int v] f (Ret (b2i (inR v 0 5)) f) := by
  show wq 2 121 (Ret (b2i (inR v 0 5)) f) 0 [(0, .int v)] [] f
  refine wq_run3 (pc' := 3) (L' := [(0, .int v)]) (S' := [.int 5, .int 0, .int v]) (f' := f) rfl ?_
  refine wq_callI (r := (b2i (inR v 0 5))) (sp_within f v 0 5) (Nat.le_of_ble_eq_true rfl) (pc' := 6) (L' := [(0, .int v)]) (S' := []) rfl (Nat.le_of_ble_eq_true rfl) rfl rfl (Nat.le_of_ble_eq_true rfl) (Nat.le_of_ble_eq_true rfl) ?_
  exact wq_retZ rfl b2i_z ⟨rfl, rfl⟩
theorem sp_isStamp (f : HI) (v : Int32) : Sp 2 122 [.int v] f (Ret (b2i (inR v 0 2399)) f) := by
  show wq 2 122 (Ret (b2i (inR v 0 2399)) f) 0 [(0, .int v)] [] f
  refine wq_run3 (pc' := 5) (L' := [(0, .int v)]) (S' := [.int 2399, .int 0, .int v]) (f' := f) rfl ?_
  refine wq_callI (r := (b2i (inR v 0 2399))) (sp_within f v 0 2399) (Nat.le_of_ble_eq_true rfl) (pc' := 8) (L' := [(0, .int v)]) (S' := []) rfl (Nat.le_of_ble_eq_true rfl) rfl rfl (Nat.le_of_ble_eq_true rfl) (Nat.le_of_ble_eq_true rfl) ?_
  exact wq_retZ rfl b2i_z ⟨rfl, rfl⟩
theorem mp_in0 (f : HI) (v lo hi : Int64) : Sp 1 129 [.long v, .long lo, .long hi] f (Ret (b2i (lo ≤ v ∧ v ≤ hi)) f) := by
  show wq 1 129 (Ret (b2i (lo ≤ v ∧ v ≤ hi)) f) 0 [(0, .long v), (2, .long lo), (4, .long hi)] [] f
  refine wq_run3 (pc' := 3) (L' := [(0, .long v), (2, .long lo), (4, .long hi)]) (S' := [.int (lg_cmp v lo)]) (f' := f) rfl ?_
  refine wq_if (c := (lg_cmp v lo) < 0) (p1 := 17) (L1 := [(0, .long v), (2, .long lo), (4, .long hi)]) (S1 := []) (p2 := 6) (L2 := [(0, .long v), (2, .long lo), (4, .long hi)]) (S2 := []) rfl (fun c_3 => ?_) (fun c_3 => ?_)
  · refine wq_run1 (pc' := 18) (L' := [(0, .long v), (2, .long lo), (4, .long hi)]) (S' := [.int 0]) (f' := f) rfl ?_
    exact wq_retZ rfl (Or.inl rfl) ⟨congrArg some (congrArg Value.int (b2i_f (fun q => absurd q.1 (Int64.not_le.mpr (lgc_lt.mp c_3)))).symm), rfl⟩
  · refine wq_run3 (pc' := 10) (L' := [(0, .long v), (2, .long lo), (4, .long hi)]) (S' := [.int (lg_cmp v hi)]) (f' := f) rfl ?_
    refine wq_if (c := 0 < (lg_cmp v hi)) (p1 := 17) (L1 := [(0, .long v), (2, .long lo), (4, .long hi)]) (S1 := []) (p2 := 13) (L2 := [(0, .long v), (2, .long lo), (4, .long hi)]) (S2 := []) rfl (fun c_10 => ?_) (fun c_10 => ?_)
    · refine wq_run1 (pc' := 18) (L' := [(0, .long v), (2, .long lo), (4, .long hi)]) (S' := [.int 0]) (f' := f) rfl ?_
      exact wq_retZ rfl (Or.inl rfl) ⟨congrArg some (congrArg Value.int (b2i_f (fun q => absurd q.2 (Int64.not_le.mpr (lgc_gt.mp c_10)))).symm), rfl⟩
    · refine wq_run2 (pc' := 18) (L' := [(0, .long v), (2, .long lo), (4, .long hi)]) (S' := [.int 1]) (f' := f) rfl ?_
      exact wq_retZ rfl (Or.inr rfl) ⟨congrArg some (congrArg Value.int (b2i_t ⟨Int64.not_lt.mp (fun q => c_3 (lgc_lt.mpr q)), Int64.not_lt.mp (fun q => c_10 (lgc_gt.mpr q))⟩).symm), rfl⟩
theorem mp_in (f : HI) (v lo hi : Int32) : Sp 1 129 [.long v.toInt64, .long lo.toInt64, .long hi.toInt64] f (Ret (b2i (inR v lo hi)) f) := by
  have h := mp_in0 f v.toInt64 lo.toInt64 hi.toInt64
  rw [b2i_c (q := inR v lo hi) ⟨fun q => ⟨i64_le.mp q.1, i64_le.mp q.2⟩, fun q => ⟨i64_le.mpr q.1, i64_le.mpr q.2⟩⟩] at h
  exact h
theorem mp_isTown (f : HI) (v : Int32) : Sp 2 130 [.int v] f (Ret (b2i (inR v 0 9)) f) := by
  show wq 2 130 (Ret (b2i (inR v 0 9)) f) 0 [(0, .int v)] [] f
  refine wq_run4 (pc' := 6) (L' := [(0, .int v)]) (S' := [.long 9, .long 0, .long v.toInt64]) (f' := f) rfl ?_
  refine wq_callI (r := (b2i (inR v 0 9))) (mp_in f v 0 9) (Nat.le_of_ble_eq_true rfl) (pc' := 9) (L' := [(0, .int v)]) (S' := []) rfl (Nat.le_of_ble_eq_true rfl) rfl rfl (Nat.le_of_ble_eq_true rfl) (Nat.le_of_ble_eq_true rfl) ?_
  exact wq_retZ rfl b2i_z ⟨rfl, rfl⟩
theorem mp_isMember (f : HI) (v : Int32) : Sp 2 166 [.int v] f (Ret (b2i (inR v 0 5)) f) := by
  show wq 2 166 (Ret (b2i (inR v 0 5)) f) 0 [(0, .int v)] [] f
  refine wq_run4 (pc' := 6) (L' := [(0, .int v)]) (S' := [.long 5, .long 0, .long v.toInt64]) (f' := f) rfl ?_
  refine wq_callI (r := (b2i (inR v 0 5))) (mp_in f v 0 5) (Nat.le_of_ble_eq_true rfl) (pc' := 9) (L' := [(0, .int v)]) (S' := []) rfl (Nat.le_of_ble_eq_true rfl) rfl rfl (Nat.le_of_ble_eq_true rfl) (Nat.le_of_ble_eq_true rfl) ?_
  exact wq_retZ rfl b2i_z ⟨rfl, rfl⟩
abbrev imin (a b : Int32) : Int32 := if a < b then a else b
abbrev imax (a b : Int32) : Int32 := if b < a then a else b
theorem mp_least (f : HI) (a b : Int32) : Sp 1 131 [.int a, .int b] f (Ret (imin a b) f) := by
  show wq 1 131 (Ret (imin a b) f) 0 [(0, .int a), (1, .int b)] [] f
  refine wq_run2 (pc' := 2) (L' := [(0, .int a), (1, .int b)]) (S' := [.int b, .int a]) (f' := f) rfl ?_
  refine wq_if (c := b ≤ a) (p1 := 9) (L1 := [(0, .int a), (1, .int b)]) (S1 := []) (p2 := 5) (L2 := [(0, .int a), (1, .int b)]) (S2 := []) rfl (fun c_2 => ?_) (fun c_2 => ?_)
  · refine wq_run1 (pc' := 10) (L' := [(0, .int a), (1, .int b)]) (S' := [.int b]) (f' := f) rfl ?_
    exact wq_ret rfl ⟨congrArg some (congrArg Value.int (if_neg (Int32.not_lt.mpr c_2)).symm), rfl⟩
  · refine wq_run2 (pc' := 10) (L' := [(0, .int a), (1, .int b)]) (S' := [.int a]) (f' := f) rfl ?_
    exact wq_ret rfl ⟨congrArg some (congrArg Value.int (if_pos (Int32.not_le.mp c_2)).symm), rfl⟩
theorem mp_most (f : HI) (a b : Int32) : Sp 1 132 [.int a, .int b] f (Ret (imax a b) f) := by
  show wq 1 132 (Ret (imax a b) f) 0 [(0, .int a), (1, .int b)] [] f
  refine wq_run2 (pc' := 2) (L' := [(0, .int a), (1, .int b)]) (S' := [.int b, .int a]) (f' := f) rfl ?_
  refine wq_if (c := a ≤ b) (p1 := 9) (L1 := [(0, .int a), (1, .int b)]) (S1 := []) (p2 := 5) (L2 := [(0, .int a), (1, .int b)]) (S2 := []) rfl (fun c_2 => ?_) (fun c_2 => ?_)
  · refine wq_run1 (pc' := 10) (L' := [(0, .int a), (1, .int b)]) (S' := [.int b]) (f' := f) rfl ?_
    exact wq_ret rfl ⟨congrArg some (congrArg Value.int (if_neg (Int32.not_lt.mpr c_2)).symm), rfl⟩
  · refine wq_run2 (pc' := 10) (L' := [(0, .int a), (1, .int b)]) (S' := [.int a]) (f' := f) rfl ?_
    exact wq_ret rfl ⟨congrArg some (congrArg Value.int (if_pos (Int32.not_le.mp c_2)).symm), rfl⟩
