/-! methods without loops: the class, the reference -/
abbrev twoT (a b : Int32) : Prop := inR a 0 9 ∧ inR b 0 9 ∧ ¬ a = b
theorem sp_two (f : HI) (a b : Int32) : Sp 3 120 [.int a, .int b] f (Ret (b2i (twoT a b)) f) := by
  show wq 3 120 _ 0 [(0, .int a), (1, .int b)] [] f
  refine wq_run1 (pc' := 1) (L' := [(0, .int a), (1, .int b)]) (S' := [.int a]) (f' := f) rfl ?_
  refine wq_callI (sp_isTown f a) (Nat.le_of_ble_eq_true rfl) (pc' := 4) (L' := [(0, .int a), (1, .int b)]) (S' := []) rfl (Nat.le_of_ble_eq_true rfl) rfl rfl (Nat.le_of_ble_eq_true rfl) (Nat.le_of_ble_eq_true rfl) ?_
  refine wq_if (c := (b2i (inR a 0 9)) = 0) (p1 := 23) (L1 := [(0, .int a), (1, .int b)]) (S1 := []) (p2 := 7) (L2 := [(0, .int a), (1, .int b)]) (S2 := []) rfl (fun c_4 => ?_) (fun c_4 => ?_)
  · have h_4 := b2i_0.mp c_4
    refine wq_run1 (pc' := 24) (L' := [(0, .int a), (1, .int b)]) (S' := [.int 0]) (f' := f) rfl ?_
    exact wq_retZ rfl (by first | exact Or.inl rfl | exact Or.inr rfl) ⟨congrArg some (congrArg Value.int ((b2i_f (fun q => h_4 q.1)).symm)), rfl⟩
  · have h_4 := b2i_n0.mp c_4
    refine wq_run1 (pc' := 8) (L' := [(0, .int a), (1, .int b)]) (S' := [.int b]) (f' := f) rfl ?_
    refine wq_callI (sp_isTown f b) (Nat.le_of_ble_eq_true rfl) (pc' := 11) (L' := [(0, .int a), (1, .int b)]) (S' := []) rfl (Nat.le_of_ble_eq_true rfl) rfl rfl (Nat.le_of_ble_eq_true rfl) (Nat.le_of_ble_eq_true rfl) ?_
    refine wq_if (c := (b2i (inR b 0 9)) = 0) (p1 := 23) (L1 := [(0, .int a), (1, .int b)]) (S1 := []) (p2 := 14) (L2 := [(0, .int a), (1, .int b)]) (S2 := []) rfl (fun c_11 => ?_) (fun c_11 => ?_)
    · have h_11 := b2i_0.mp c_11
      refine wq_run1 (pc' := 24) (L' := [(0, .int a), (1, .int b)]) (S' := [.int 0]) (f' := f) rfl ?_
      exact wq_retZ rfl (by first | exact Or.inl rfl | exact Or.inr rfl) ⟨congrArg some (congrArg Value.int ((b2i_f (fun q => h_11 q.2.1)).symm)), rfl⟩
    · have h_11 := b2i_n0.mp c_11
      refine wq_run2 (pc' := 16) (L' := [(0, .int a), (1, .int b)]) (S' := [.int b, .int a]) (f' := f) rfl ?_
      refine wq_if (c := a = b) (p1 := 23) (L1 := [(0, .int a), (1, .int b)]) (S1 := []) (p2 := 19) (L2 := [(0, .int a), (1, .int b)]) (S2 := []) rfl (fun c_16 => ?_) (fun c_16 => ?_)
      · refine wq_run1 (pc' := 24) (L' := [(0, .int a), (1, .int b)]) (S' := [.int 0]) (f' := f) rfl ?_
        exact wq_retZ rfl (by first | exact Or.inl rfl | exact Or.inr rfl) ⟨congrArg some (congrArg Value.int ((b2i_f (fun q => q.2.2 c_16)).symm)), rfl⟩
      · refine wq_run2 (pc' := 24) (L' := [(0, .int a), (1, .int b)]) (S' := [.int 1]) (f' := f) rfl ?_
        exact wq_retZ rfl (by first | exact Or.inl rfl | exact Or.inr rfl) ⟨congrArg some (congrArg Value.int ((b2i_t ⟨h_4, h_11, c_16⟩).symm)), rfl⟩
theorem sp_size (f : HI) (a b : Int32) : Sp 2 123 [.int a, .int b] f (Ret (b2i (inR a 1 9 ∧ inR b 1 64)) f) := by
  show wq 2 123 _ 0 [(0, .int a), (1, .int b)] [] f
  refine wq_run3 (pc' := 4) (L' := [(0, .int a), (1, .int b)]) (S' := [.int 9, .int 1, .int a]) (f' := f) rfl ?_
  refine wq_callI (sp_within f a 1 9) (Nat.le_of_ble_eq_true rfl) (pc' := 7) (L' := [(0, .int a), (1, .int b)]) (S' := []) rfl (Nat.le_of_ble_eq_true rfl) rfl rfl (Nat.le_of_ble_eq_true rfl) (Nat.le_of_ble_eq_true rfl) ?_
  refine wq_if (c := (b2i (inR a 1 9)) = 0) (p1 := 24) (L1 := [(0, .int a), (1, .int b)]) (S1 := []) (p2 := 10) (L2 := [(0, .int a), (1, .int b)]) (S2 := []) rfl (fun c_7 => ?_) (fun c_7 => ?_)
  · have h_7 := b2i_0.mp c_7
    refine wq_run1 (pc' := 25) (L' := [(0, .int a), (1, .int b)]) (S' := [.int 0]) (f' := f) rfl ?_
    exact wq_retZ rfl (by first | exact Or.inl rfl | exact Or.inr rfl) ⟨congrArg some (congrArg Value.int ((b2i_f (fun q => h_7 q.1)).symm)), rfl⟩
  · have h_7 := b2i_n0.mp c_7
    refine wq_run3 (pc' := 14) (L' := [(0, .int a), (1, .int b)]) (S' := [.int 64, .int 1, .int b]) (f' := f) rfl ?_
    refine wq_callI (sp_within f b 1 64) (Nat.le_of_ble_eq_true rfl) (pc' := 17) (L' := [(0, .int a), (1, .int b)]) (S' := []) rfl (Nat.le_of_ble_eq_true rfl) rfl rfl (Nat.le_of_ble_eq_true rfl) (Nat.le_of_ble_eq_true rfl) ?_
    refine wq_if (c := (b2i (inR b 1 64)) = 0) (p1 := 24) (L1 := [(0, .int a), (1, .int b)]) (S1 := []) (p2 := 20) (L2 := [(0, .int a), (1, .int b)]) (S2 := []) rfl (fun c_17 => ?_) (fun c_17 => ?_)
    · have h_17 := b2i_0.mp c_17
      refine wq_run1 (pc' := 25) (L' := [(0, .int a), (1, .int b)]) (S' := [.int 0]) (f' := f) rfl ?_
      exact wq_retZ rfl (by first | exact Or.inl rfl | exact Or.inr rfl) ⟨congrArg some (congrArg Value.int ((b2i_f (fun q => h_17 q.2)).symm)), rfl⟩
    · have h_17 := b2i_n0.mp c_17
      refine wq_run2 (pc' := 25) (L' := [(0, .int a), (1, .int b)]) (S' := [.int 1]) (f' := f) rfl ?_
      exact wq_retZ rfl (by first | exact Or.inl rfl | exact Or.inr rfl) ⟨congrArg some (congrArg Value.int ((b2i_t ⟨h_7, h_17⟩).symm)), rfl⟩
theorem sp_isAct (f : HI) (v : Int32) : Sp 2 124 [.ref 0, .int v] f (Ret (b2i (inR v 0 (f 16 1 - 1))) f) := by
  show wq 2 124 _ 0 [(0, .ref 0), (1, .int v)] [] f
  refine wq_run7 (pc' := 11) (L' := [(0, .ref 0), (1, .int v)]) (S' := [.int ((f 16 1) - 1), .int 0, .int v]) (f' := f) rfl ?_
  refine wq_callI (sp_within f v 0 ((f 16 1) - 1)) (Nat.le_of_ble_eq_true rfl) (pc' := 14) (L' := [(0, .ref 0), (1, .int v)]) (S' := []) rfl (Nat.le_of_ble_eq_true rfl) rfl rfl (Nat.le_of_ble_eq_true rfl) (Nat.le_of_ble_eq_true rfl) ?_
  exact wq_retZ rfl b2i_z ⟨rfl, rfl⟩
theorem sp_isLetter (f : HI) (v : Int32) : Sp 2 125 [.ref 0, .int v] f (Ret (b2i (inR v 0 (f 43 6 - 1))) f) := by
  show wq 2 125 _ 0 [(0, .ref 0), (1, .int v)] [] f
  refine wq_run7 (pc' := 11) (L' := [(0, .ref 0), (1, .int v)]) (S' := [.int ((f 43 6) - 1), .int 0, .int v]) (f' := f) rfl ?_
  refine wq_callI (sp_within f v 0 ((f 43 6) - 1)) (Nat.le_of_ble_eq_true rfl) (pc' := 14) (L' := [(0, .ref 0), (1, .int v)]) (S' := []) rfl (Nat.le_of_ble_eq_true rfl) rfl rfl (Nat.le_of_ble_eq_true rfl) (Nat.le_of_ble_eq_true rfl) ?_
  exact wq_retZ rfl b2i_z ⟨rfl, rfl⟩
theorem mp_isAct (f : HI) (v : Int32) : Sp 2 153 [.ref 92, .int v] f (Ret (b2i (inR v 0 (f 92 17 - 1))) f) := by
  show wq 2 153 _ 0 [(0, .ref 92), (1, .int v)] [] f
  refine wq_run8 (pc' := 10) (L' := [(0, .ref 92), (1, .int v)]) (S' := [.long ((f 92 17) - 1).toInt64, .long 0, .long v.toInt64]) (f' := f) rfl ?_
  refine wq_callI (mp_in f v 0 ((f 92 17) - 1)) (Nat.le_of_ble_eq_true rfl) (pc' := 13) (L' := [(0, .ref 92), (1, .int v)]) (S' := []) rfl (Nat.le_of_ble_eq_true rfl) rfl rfl (Nat.le_of_ble_eq_true rfl) (Nat.le_of_ble_eq_true rfl) ?_
  exact wq_retZ rfl b2i_z ⟨rfl, rfl⟩
theorem mp_isLetter (f : HI) (v : Int32) : Sp 2 165 [.ref 92, .int v] f (Ret (b2i (inR v 0 (f 92 35 - 1))) f) := by
  show wq 2 165 _ 0 [(0, .ref 92), (1, .int v)] [] f
  refine wq_run8 (pc' := 10) (L' := [(0, .ref 92), (1, .int v)]) (S' := [.long ((f 92 35) - 1).toInt64, .long 0, .long v.toInt64]) (f' := f) rfl ?_
  refine wq_callI (mp_in f v 0 ((f 92 35) - 1)) (Nat.le_of_ble_eq_true rfl) (pc' := 13) (L' := [(0, .ref 92), (1, .int v)]) (S' := []) rfl (Nat.le_of_ble_eq_true rfl) rfl rfl (Nat.le_of_ble_eq_true rfl) (Nat.le_of_ble_eq_true rfl) ?_
  exact wq_retZ rfl b2i_z ⟨rfl, rfl⟩
theorem mp_isDoor (f : HI) (v : Int32) : Sp 2 193 [.ref 92, .int v] f (Ret (b2i (inR v 0 (f 92 53 - 1))) f) := by
  show wq 2 193 _ 0 [(0, .ref 92), (1, .int v)] [] f
  refine wq_run8 (pc' := 10) (L' := [(0, .ref 92), (1, .int v)]) (S' := [.long ((f 92 53) - 1).toInt64, .long 0, .long v.toInt64]) (f' := f) rfl ?_
  refine wq_callI (mp_in f v 0 ((f 92 53) - 1)) (Nat.le_of_ble_eq_true rfl) (pc' := 13) (L' := [(0, .ref 92), (1, .int v)]) (S' := []) rfl (Nat.le_of_ble_eq_true rfl) rfl rfl (Nat.le_of_ble_eq_true rfl) (Nat.le_of_ble_eq_true rfl) ?_
  exact wq_retZ rfl b2i_z ⟨rfl, rfl⟩
theorem sp_purse1 (f : HI) (t v : Int32) (h1 : ¬ inR t 0 9) : Sp 3 97 [.ref 0, .int t, .int v] f (Ret (-2) f) := by
  show wq 3 97 _ 0 [(0, .ref 0), (1, .int t), (2, .int v)] [] f
  refine wq_run1 (pc' := 1) (L' := [(0, .ref 0), (1, .int t), (2, .int v)]) (S' := [.int t]) (f' := f) rfl ?_
  refine wq_callI (sp_isTown f t) (Nat.le_of_ble_eq_true rfl) (pc' := 4) (L' := [(0, .ref 0), (1, .int t), (2, .int v)]) (S' := []) rfl (Nat.le_of_ble_eq_true rfl) rfl rfl (Nat.le_of_ble_eq_true rfl) (Nat.le_of_ble_eq_true rfl) ?_
  refine wq_if (c := (b2i (inR t 0 9)) = 0) (p1 := 7) (L1 := [(0, .ref 0), (1, .int t), (2, .int v)]) (S1 := []) (p2 := 10) (L2 := [(0, .ref 0), (1, .int t), (2, .int v)]) (S2 := []) rfl (fun _ => ?_) (fun q => absurd (b2i_0.mpr h1) q)
  refine wq_run1 (pc' := 9) (L' := [(0, .ref 0), (1, .int t), (2, .int v)]) (S' := [.int (-2)]) (f' := f) rfl ?_
  exact wq_ret rfl ⟨rfl, rfl⟩
theorem sp_purse2 (f : HI) (t v : Int32) (h1 : inR t 0 9) (h2 : ¬ inR v 0 30000) : Sp 3 97 [.ref 0, .int t, .int v] f (Ret (-3) f) := by
  show wq 3 97 _ 0 [(0, .ref 0), (1, .int t), (2, .int v)] [] f
  refine wq_run1 (pc' := 1) (L' := [(0, .ref 0), (1, .int t), (2, .int v)]) (S' := [.int t]) (f' := f) rfl ?_
  refine wq_callI (sp_isTown f t) (Nat.le_of_ble_eq_true rfl) (pc' := 4) (L' := [(0, .ref 0), (1, .int t), (2, .int v)]) (S' := []) rfl (Nat.le_of_ble_eq_true rfl) rfl rfl (Nat.le_of_ble_eq_true rfl) (Nat.le_of_ble_eq_true rfl) ?_
  refine wq_if (c := (b2i (inR t 0 9)) = 0) (p1 := 7) (L1 := [(0, .ref 0), (1, .int t), (2, .int v)]) (S1 := []) (p2 := 10) (L2 := [(0, .ref 0), (1, .int t), (2, .int v)]) (S2 := []) rfl (fun q => absurd q (b2i_n0.mpr h1)) (fun _ => ?_)
  refine wq_run3 (pc' := 15) (L' := [(0, .ref 0), (1, .int t), (2, .int v)]) (S' := [.int 30000, .int 0, .int v]) (f' := f) rfl ?_
  refine wq_callI (sp_within f v 0 30000) (Nat.le_of_ble_eq_true rfl) (pc' := 18) (L' := [(0, .ref 0), (1, .int t), (2, .int v)]) (S' := []) rfl (Nat.le_of_ble_eq_true rfl) rfl rfl (Nat.le_of_ble_eq_true rfl) (Nat.le_of_ble_eq_true rfl) ?_
  refine wq_if (c := (b2i (inR v 0 30000)) = 0) (p1 := 21) (L1 := [(0, .ref 0), (1, .int t), (2, .int v)]) (S1 := []) (p2 := 24) (L2 := [(0, .ref 0), (1, .int t), (2, .int v)]) (S2 := []) rfl (fun _ => ?_) (fun q => absurd (b2i_0.mpr h2) q)
  refine wq_run1 (pc' := 23) (L' := [(0, .ref 0), (1, .int t), (2, .int v)]) (S' := [.int (-3)]) (f' := f) rfl ?_
  exact wq_ret rfl ⟨rfl, rfl⟩
theorem sp_purse3 (f : HI) (t v : Int32) (h1 : inR t 0 9) (h2 : inR v 0 30000) {j : Nat} (hj : j < 10) (hj2 : t = nI j) : Sp 3 97 [.ref 0, .int t, .int v] f (Ret (f 45 j) (up2 f 45 j v)) := by
  show wq 3 97 _ 0 [(0, .ref 0), (1, .int t), (2, .int v)] [] f
  refine wq_run1 (pc' := 1) (L' := [(0, .ref 0), (1, .int t), (2, .int v)]) (S' := [.int t]) (f' := f) rfl ?_
  refine wq_callI (sp_isTown f t) (Nat.le_of_ble_eq_true rfl) (pc' := 4) (L' := [(0, .ref 0), (1, .int t), (2, .int v)]) (S' := []) rfl (Nat.le_of_ble_eq_true rfl) rfl rfl (Nat.le_of_ble_eq_true rfl) (Nat.le_of_ble_eq_true rfl) ?_
  refine wq_if (c := (b2i (inR t 0 9)) = 0) (p1 := 7) (L1 := [(0, .ref 0), (1, .int t), (2, .int v)]) (S1 := []) (p2 := 10) (L2 := [(0, .ref 0), (1, .int t), (2, .int v)]) (S2 := []) rfl (fun q => absurd q (b2i_n0.mpr h1)) (fun _ => ?_)
  refine wq_run3 (pc' := 15) (L' := [(0, .ref 0), (1, .int t), (2, .int v)]) (S' := [.int 30000, .int 0, .int v]) (f' := f) rfl ?_
  refine wq_callI (sp_within f v 0 30000) (Nat.le_of_ble_eq_true rfl) (pc' := 18) (L' := [(0, .ref 0), (1, .int t), (2, .int v)]) (S' := []) rfl (Nat.le_of_ble_eq_true rfl) rfl rfl (Nat.le_of_ble_eq_true rfl) (Nat.le_of_ble_eq_true rfl) ?_
  refine wq_if (c := (b2i (inR v 0 30000)) = 0) (p1 := 21) (L1 := [(0, .ref 0), (1, .int t), (2, .int v)]) (S1 := []) (p2 := 24) (L2 := [(0, .ref 0), (1, .int t), (2, .int v)]) (S2 := []) rfl (fun q => absurd q (b2i_n0.mpr h2)) (fun _ => ?_)
  refine wq_run4 (pc' := 32) (L' := [(0, .ref 0), (1, .int t), (2, .int v)]) (S' := [.int t, .ref 45]) (f' := f) rfl ?_
  refine wq_ald (j := j) (n := 10) (v := (f 45 j)) rfl rfl rfl hj2 hj (Nat.le_of_ble_eq_true rfl) rfl ?_
  refine wq_run6 (pc' := 43) (L' := [(0, .ref 0), (1, .int t), (2, .int v), (3, .int (f 45 j))]) (S' := [.int v, .int t, .ref 45]) (f' := f) rfl ?_
  refine wq_ist (j := j) (n := 10) rfl rfl rfl hj2 hj (Nat.le_of_ble_eq_true rfl) ?_
  refine wq_run1 (pc' := 45) (L' := [(0, .ref 0), (1, .int t), (2, .int v), (3, .int (f 45 j))]) (S' := [.int (f 45 j)]) (f' := (up2 f 45 j v)) rfl ?_
  exact wq_ret rfl ⟨rfl, rfl⟩
theorem mp_purse1 (f : HI) (t v : Int32) (h1 : ¬ inR t 0 9) : Sp 3 177 [.ref 92, .int t, .int v] f (Ret (-2) f) := by
  show wq 3 177 _ 0 [(0, .ref 92), (1, .int t), (2, .int v)] [] f
  refine wq_run1 (pc' := 1) (L' := [(0, .ref 92), (1, .int t), (2, .int v)]) (S' := [.int t]) (f' := f) rfl ?_
  refine wq_callI (mp_isTown f t) (Nat.le_of_ble_eq_true rfl) (pc' := 4) (L' := [(0, .ref 92), (1, .int t), (2, .int v)]) (S' := []) rfl (Nat.le_of_ble_eq_true rfl) rfl rfl (Nat.le_of_ble_eq_true rfl) (Nat.le_of_ble_eq_true rfl) ?_
  refine wq_if (c := (b2i (inR t 0 9)) = 0) (p1 := 7) (L1 := [(0, .ref 92), (1, .int t), (2, .int v)]) (S1 := []) (p2 := 10) (L2 := [(0, .ref 92), (1, .int t), (2, .int v)]) (S2 := []) rfl (fun _ => ?_) (fun q => absurd (b2i_0.mpr h1) q)
  refine wq_run1 (pc' := 9) (L' := [(0, .ref 92), (1, .int t), (2, .int v)]) (S' := [.int (-2)]) (f' := f) rfl ?_
  exact wq_ret rfl ⟨rfl, rfl⟩
theorem mp_purse2 (f : HI) (t v : Int32) (h1 : inR t 0 9) (h2 : ¬ inR v 0 30000) : Sp 3 177 [.ref 92, .int t, .int v] f (Ret (-3) f) := by
  show wq 3 177 _ 0 [(0, .ref 92), (1, .int t), (2, .int v)] [] f
  refine wq_run1 (pc' := 1) (L' := [(0, .ref 92), (1, .int t), (2, .int v)]) (S' := [.int t]) (f' := f) rfl ?_
  refine wq_callI (mp_isTown f t) (Nat.le_of_ble_eq_true rfl) (pc' := 4) (L' := [(0, .ref 92), (1, .int t), (2, .int v)]) (S' := []) rfl (Nat.le_of_ble_eq_true rfl) rfl rfl (Nat.le_of_ble_eq_true rfl) (Nat.le_of_ble_eq_true rfl) ?_
  refine wq_if (c := (b2i (inR t 0 9)) = 0) (p1 := 7) (L1 := [(0, .ref 92), (1, .int t), (2, .int v)]) (S1 := []) (p2 := 10) (L2 := [(0, .ref 92), (1, .int t), (2, .int v)]) (S2 := []) rfl (fun q => absurd q (b2i_n0.mpr h1)) (fun _ => ?_)
  refine wq_run4 (pc' := 16) (L' := [(0, .ref 92), (1, .int t), (2, .int v)]) (S' := [.long 30000, .long 0, .long v.toInt64]) (f' := f) rfl ?_
  refine wq_callI (mp_in f v 0 30000) (Nat.le_of_ble_eq_true rfl) (pc' := 19) (L' := [(0, .ref 92), (1, .int t), (2, .int v)]) (S' := []) rfl (Nat.le_of_ble_eq_true rfl) rfl rfl (Nat.le_of_ble_eq_true rfl) (Nat.le_of_ble_eq_true rfl) ?_
  refine wq_if (c := (b2i (inR v 0 30000)) = 0) (p1 := 22) (L1 := [(0, .ref 92), (1, .int t), (2, .int v)]) (S1 := []) (p2 := 25) (L2 := [(0, .ref 92), (1, .int t), (2, .int v)]) (S2 := []) rfl (fun _ => ?_) (fun q => absurd (b2i_0.mpr h2) q)
  refine wq_run1 (pc' := 24) (L' := [(0, .ref 92), (1, .int t), (2, .int v)]) (S' := [.int (-3)]) (f' := f) rfl ?_
  exact wq_ret rfl ⟨rfl, rfl⟩
theorem mp_purse3 (f : HI) (t v : Int32) (h1 : inR t 0 9) (h2 : inR v 0 30000) {j : Nat} (hj : j < 10) (hj2 : t = nI j) : Sp 3 177 [.ref 92, .int t, .int v] f (Ret (f 124 j) (up2 f 124 j v)) := by
  show wq 3 177 _ 0 [(0, .ref 92), (1, .int t), (2, .int v)] [] f
  refine wq_run1 (pc' := 1) (L' := [(0, .ref 92), (1, .int t), (2, .int v)]) (S' := [.int t]) (f' := f) rfl ?_
  refine wq_callI (mp_isTown f t) (Nat.le_of_ble_eq_true rfl) (pc' := 4) (L' := [(0, .ref 92), (1, .int t), (2, .int v)]) (S' := []) rfl (Nat.le_of_ble_eq_true rfl) rfl rfl (Nat.le_of_ble_eq_true rfl) (Nat.le_of_ble_eq_true rfl) ?_
  refine wq_if (c := (b2i (inR t 0 9)) = 0) (p1 := 7) (L1 := [(0, .ref 92), (1, .int t), (2, .int v)]) (S1 := []) (p2 := 10) (L2 := [(0, .ref 92), (1, .int t), (2, .int v)]) (S2 := []) rfl (fun q => absurd q (b2i_n0.mpr h1)) (fun _ => ?_)
  refine wq_run4 (pc' := 16) (L' := [(0, .ref 92), (1, .int t), (2, .int v)]) (S' := [.long 30000, .long 0, .long v.toInt64]) (f' := f) rfl ?_
  refine wq_callI (mp_in f v 0 30000) (Nat.le_of_ble_eq_true rfl) (pc' := 19) (L' := [(0, .ref 92), (1, .int t), (2, .int v)]) (S' := []) rfl (Nat.le_of_ble_eq_true rfl) rfl rfl (Nat.le_of_ble_eq_true rfl) (Nat.le_of_ble_eq_true rfl) ?_
  refine wq_if (c := (b2i (inR v 0 30000)) = 0) (p1 := 22) (L1 := [(0, .ref 92), (1, .int t), (2, .int v)]) (S1 := []) (p2 := 25) (L2 := [(0, .ref 92), (1, .int t), (2, .int v)]) (S2 := []) rfl (fun q => absurd q (b2i_n0.mpr h2)) (fun _ => ?_)
  refine wq_run3 (pc' := 30) (L' := [(0, .ref 92), (1, .int t), (2, .int v)]) (S' := [.int t, .ref 124]) (f' := f) rfl ?_
  refine wq_ald (j := j) (n := 10) (v := (f 124 j)) rfl rfl rfl hj2 hj (Nat.le_of_ble_eq_true rfl) rfl ?_
  refine wq_run5 (pc' := 38) (L' := [(0, .ref 92), (1, .int t), (2, .int v), (3, .int (f 124 j))]) (S' := [.int v, .int t, .ref 124]) (f' := f) rfl ?_
  refine wq_ist (j := j) (n := 10) rfl rfl rfl hj2 hj (Nat.le_of_ble_eq_true rfl) ?_
  refine wq_run1 (pc' := 40) (L' := [(0, .ref 92), (1, .int t), (2, .int v), (3, .int (f 124 j))]) (S' := [.int (f 124 j)]) (f' := (up2 f 124 j v)) rfl ?_
  exact wq_ret rfl ⟨rfl, rfl⟩
theorem ix10 (i j : Nat) : nI i * 10 + nI j = nI (10 * i + j) := by
  rw [show (10 : Int32) = nI 10 from rfl, pk_mul, nI_add, Nat.mul_comm]
theorem ix10r (i j : Nat) : 10 * nI i + nI j = nI (10 * i + j) := by
  rw [show (10 : Int32) = nI 10 from rfl, pk_mul, nI_add]
theorem sp_code1 (f : HI) (a b v : Int32) (h1 : ¬ twoT a b) : Sp 4 98 [.ref 0, .int a, .int b, .int v] f (Ret (-2) f) := by
  show wq 4 98 _ 0 [(0, .ref 0), (1, .int a), (2, .int b), (3, .int v)] [] f
  refine wq_run2 (pc' := 2) (L' := [(0, .ref 0), (1, .int a), (2, .int b), (3, .int v)]) (S' := [.int b, .int a]) (f' := f) rfl ?_
  refine wq_callI (sp_two f a b) (Nat.le_of_ble_eq_true rfl) (pc' := 5) (L' := [(0, .ref 0), (1, .int a), (2, .int b), (3, .int v)]) (S' := []) rfl (Nat.le_of_ble_eq_true rfl) rfl rfl (Nat.le_of_ble_eq_true rfl) (Nat.le_of_ble_eq_true rfl) ?_
  refine wq_if (c := (b2i (twoT a b)) = 0) (p1 := 8) (L1 := [(0, .ref 0), (1, .int a), (2, .int b), (3, .int v)]) (S1 := []) (p2 := 11) (L2 := [(0, .ref 0), (1, .int a), (2, .int b), (3, .int v)]) (S2 := []) rfl (fun _ => ?_) (fun q => absurd (b2i_0.mpr h1) q)
  refine wq_run1 (pc' := 10) (L' := [(0, .ref 0), (1, .int a), (2, .int b), (3, .int v)]) (S' := [.int (-2)]) (f' := f) rfl ?_
  exact wq_ret rfl ⟨rfl, rfl⟩
theorem sp_code2 (f : HI) (a b v : Int32) (h1 : twoT a b) (h2 : ¬ v &&& (-255) = 0) : Sp 4 98 [.ref 0, .int a, .int b, .int v] f (Ret (-3) f) := by
  show wq 4 98 _ 0 [(0, .ref 0), (1, .int a), (2, .int b), (3, .int v)] [] f
  refine wq_run2 (pc' := 2) (L' := [(0, .ref 0), (1, .int a), (2, .int b), (3, .int v)]) (S' := [.int b, .int a]) (f' := f) rfl ?_
  refine wq_callI (sp_two f a b) (Nat.le_of_ble_eq_true rfl) (pc' := 5) (L' := [(0, .ref 0), (1, .int a), (2, .int b), (3, .int v)]) (S' := []) rfl (Nat.le_of_ble_eq_true rfl) rfl rfl (Nat.le_of_ble_eq_true rfl) (Nat.le_of_ble_eq_true rfl) ?_
  refine wq_if (c := (b2i (twoT a b)) = 0) (p1 := 8) (L1 := [(0, .ref 0), (1, .int a), (2, .int b), (3, .int v)]) (S1 := []) (p2 := 11) (L2 := [(0, .ref 0), (1, .int a), (2, .int b), (3, .int v)]) (S2 := []) rfl (fun q => absurd q (b2i_n0.mpr h1)) (fun _ => ?_)
  refine wq_run3 (pc' := 16) (L' := [(0, .ref 0), (1, .int a), (2, .int b), (3, .int v)]) (S' := [.int (v &&& (-255))]) (f' := f) rfl ?_
  refine wq_if (c := (v &&& (-255)) = 0) (p1 := 22) (L1 := [(0, .ref 0), (1, .int a), (2, .int b), (3, .int v)]) (S1 := []) (p2 := 19) (L2 := [(0, .ref 0), (1, .int a), (2, .int b), (3, .int v)]) (S2 := []) rfl (fun q => absurd q h2) (fun _ => ?_)
  refine wq_run1 (pc' := 21) (L' := [(0, .ref 0), (1, .int a), (2, .int b), (3, .int v)]) (S' := [.int (-3)]) (f' := f) rfl ?_
  exact wq_ret rfl ⟨rfl, rfl⟩
theorem sp_code3 (f : HI) (a b v : Int32) (h1 : twoT a b) (h2 : v &&& (-255) = 0) {i j : Nat} (hi : i < 10) (hi2 : a = nI i) (hj : j < 10) (hj2 : b = nI j) : Sp 4 98 [.ref 0, .int a, .int b, .int v] f (Ret (f 46 (10 * i + j)) (up2 f 46 (10 * i + j) v)) := by
  show wq 4 98 _ 0 [(0, .ref 0), (1, .int a), (2, .int b), (3, .int v)] [] f
  refine wq_run2 (pc' := 2) (L' := [(0, .ref 0), (1, .int a), (2, .int b), (3, .int v)]) (S' := [.int b, .int a]) (f' := f) rfl ?_
  refine wq_callI (sp_two f a b) (Nat.le_of_ble_eq_true rfl) (pc' := 5) (L' := [(0, .ref 0), (1, .int a), (2, .int b), (3, .int v)]) (S' := []) rfl (Nat.le_of_ble_eq_true rfl) rfl rfl (Nat.le_of_ble_eq_true rfl) (Nat.le_of_ble_eq_true rfl) ?_
  refine wq_if (c := (b2i (twoT a b)) = 0) (p1 := 8) (L1 := [(0, .ref 0), (1, .int a), (2, .int b), (3, .int v)]) (S1 := []) (p2 := 11) (L2 := [(0, .ref 0), (1, .int a), (2, .int b), (3, .int v)]) (S2 := []) rfl (fun q => absurd q (b2i_n0.mpr h1)) (fun _ => ?_)
  refine wq_run3 (pc' := 16) (L' := [(0, .ref 0), (1, .int a), (2, .int b), (3, .int v)]) (S' := [.int (v &&& (-255))]) (f' := f) rfl ?_
  refine wq_if (c := (v &&& (-255)) = 0) (p1 := 22) (L1 := [(0, .ref 0), (1, .int a), (2, .int b), (3, .int v)]) (S1 := []) (p2 := 19) (L2 := [(0, .ref 0), (1, .int a), (2, .int b), (3, .int v)]) (S2 := []) rfl (fun _ => ?_) (fun q => absurd h2 q)
  refine wq_run8 (pc' := 35) (L' := [(0, .ref 0), (1, .int a), (2, .int b), (3, .int v)]) (S' := [.int ((a * 10) + b), .ref 46]) (f' := f) rfl ?_
  refine wq_ald (j := (10 * i + j)) (n := 100) (v := (f 46 (10 * i + j))) rfl rfl rfl (by rw [hi2, hj2]; exact ix10 i j) (by omega) (Nat.le_of_ble_eq_true rfl) rfl ?_
  refine wq_run10 (pc' := 52) (L' := [(0, .ref 0), (1, .int a), (2, .int b), (3, .int v), (4, .int (f 46 (10 * i + j)))]) (S' := [.int v, .int ((a * 10) + b), .ref 46]) (f' := f) rfl ?_
  refine wq_ist (j := (10 * i + j)) (n := 100) rfl rfl rfl (by rw [hi2, hj2]; exact ix10 i j) (by omega) (Nat.le_of_ble_eq_true rfl) ?_
  refine wq_run1 (pc' := 55) (L' := [(0, .ref 0), (1, .int a), (2, .int b), (3, .int v), (4, .int (f 46 (10 * i + j)))]) (S' := [.int (f 46 (10 * i + j))]) (f' := (up2 f 46 (10 * i + j) v)) rfl ?_
  exact wq_ret rfl ⟨rfl, rfl⟩
theorem mp_code1 (f : HI) (a b v : Int32) (h1 : ¬ twoT a b) : Sp 4 178 [.ref 92, .int a, .int b, .int v] f (Ret (-2) f) := by
  show wq 4 178 _ 0 [(0, .ref 92), (1, .int a), (2, .int b), (3, .int v)] [] f
  refine wq_run1 (pc' := 1) (L' := [(0, .ref 92), (1, .int a), (2, .int b), (3, .int v)]) (S' := [.int a]) (f' := f) rfl ?_
  refine wq_callI (mp_isTown f a) (Nat.le_of_ble_eq_true rfl) (pc' := 4) (L' := [(0, .ref 92), (1, .int a), (2, .int b), (3, .int v)]) (S' := []) rfl (Nat.le_of_ble_eq_true rfl) rfl rfl (Nat.le_of_ble_eq_true rfl) (Nat.le_of_ble_eq_true rfl) ?_
  refine wq_if (c := (b2i (inR a 0 9)) = 0) (p1 := 19) (L1 := [(0, .ref 92), (1, .int a), (2, .int b), (3, .int v)]) (S1 := []) (p2 := 7) (L2 := [(0, .ref 92), (1, .int a), (2, .int b), (3, .int v)]) (S2 := []) rfl (fun c_4 => ?_) (fun c_4 => ?_)
  · have h_4 := b2i_0.mp c_4
    refine wq_run1 (pc' := 21) (L' := [(0, .ref 92), (1, .int a), (2, .int b), (3, .int v)]) (S' := [.int (-2)]) (f' := f) rfl ?_
    exact wq_ret rfl ⟨rfl, rfl⟩
  · have h_4 := b2i_n0.mp c_4
    refine wq_run1 (pc' := 8) (L' := [(0, .ref 92), (1, .int a), (2, .int b), (3, .int v)]) (S' := [.int b]) (f' := f) rfl ?_
    refine wq_callI (mp_isTown f b) (Nat.le_of_ble_eq_true rfl) (pc' := 11) (L' := [(0, .ref 92), (1, .int a), (2, .int b), (3, .int v)]) (S' := []) rfl (Nat.le_of_ble_eq_true rfl) rfl rfl (Nat.le_of_ble_eq_true rfl) (Nat.le_of_ble_eq_true rfl) ?_
    refine wq_if (c := (b2i (inR b 0 9)) = 0) (p1 := 19) (L1 := [(0, .ref 92), (1, .int a), (2, .int b), (3, .int v)]) (S1 := []) (p2 := 14) (L2 := [(0, .ref 92), (1, .int a), (2, .int b), (3, .int v)]) (S2 := []) rfl (fun c_11 => ?_) (fun c_11 => ?_)
    · have h_11 := b2i_0.mp c_11
      refine wq_run1 (pc' := 21) (L' := [(0, .ref 92), (1, .int a), (2, .int b), (3, .int v)]) (S' := [.int (-2)]) (f' := f) rfl ?_
      exact wq_ret rfl ⟨rfl, rfl⟩
    · have h_11 := b2i_n0.mp c_11
      refine wq_run2 (pc' := 16) (L' := [(0, .ref 92), (1, .int a), (2, .int b), (3, .int v)]) (S' := [.int b, .int a]) (f' := f) rfl ?_
      refine wq_if (c := a = b) (p1 := 19) (L1 := [(0, .ref 92), (1, .int a), (2, .int b), (3, .int v)]) (S1 := []) (p2 := 22) (L2 := [(0, .ref 92), (1, .int a), (2, .int b), (3, .int v)]) (S2 := []) rfl (fun c_16 => ?_) (fun c_16 => ?_)
      · refine wq_run1 (pc' := 21) (L' := [(0, .ref 92), (1, .int a), (2, .int b), (3, .int v)]) (S' := [.int (-2)]) (f' := f) rfl ?_
        exact wq_ret rfl ⟨rfl, rfl⟩
      · exact absurd ⟨h_4, h_11, c_16⟩ h1
theorem mp_code2 (f : HI) (a b v : Int32) (h1 : twoT a b) (h2 : ¬ v &&& (-255) = 0) : Sp 4 178 [.ref 92, .int a, .int b, .int v] f (Ret (-3) f) := by
  show wq 4 178 _ 0 [(0, .ref 92), (1, .int a), (2, .int b), (3, .int v)] [] f
  refine wq_run1 (pc' := 1) (L' := [(0, .ref 92), (1, .int a), (2, .int b), (3, .int v)]) (S' := [.int a]) (f' := f) rfl ?_
  refine wq_callI (mp_isTown f a) (Nat.le_of_ble_eq_true rfl) (pc' := 4) (L' := [(0, .ref 92), (1, .int a), (2, .int b), (3, .int v)]) (S' := []) rfl (Nat.le_of_ble_eq_true rfl) rfl rfl (Nat.le_of_ble_eq_true rfl) (Nat.le_of_ble_eq_true rfl) ?_
  refine wq_if (c := (b2i (inR a 0 9)) = 0) (p1 := 19) (L1 := [(0, .ref 92), (1, .int a), (2, .int b), (3, .int v)]) (S1 := []) (p2 := 7) (L2 := [(0, .ref 92), (1, .int a), (2, .int b), (3, .int v)]) (S2 := []) rfl (fun q => absurd q (b2i_n0.mpr h1.1)) (fun _ => ?_)
  refine wq_run1 (pc' := 8) (L' := [(0, .ref 92), (1, .int a), (2, .int b), (3, .int v)]) (S' := [.int b]) (f' := f) rfl ?_
  refine wq_callI (mp_isTown f b) (Nat.le_of_ble_eq_true rfl) (pc' := 11) (L' := [(0, .ref 92), (1, .int a), (2, .int b), (3, .int v)]) (S' := []) rfl (Nat.le_of_ble_eq_true rfl) rfl rfl (Nat.le_of_ble_eq_true rfl) (Nat.le_of_ble_eq_true rfl) ?_
  refine wq_if (c := (b2i (inR b 0 9)) = 0) (p1 := 19) (L1 := [(0, .ref 92), (1, .int a), (2, .int b), (3, .int v)]) (S1 := []) (p2 := 14) (L2 := [(0, .ref 92), (1, .int a), (2, .int b), (3, .int v)]) (S2 := []) rfl (fun q => absurd q (b2i_n0.mpr h1.2.1)) (fun _ => ?_)
  refine wq_run2 (pc' := 16) (L' := [(0, .ref 92), (1, .int a), (2, .int b), (3, .int v)]) (S' := [.int b, .int a]) (f' := f) rfl ?_
  refine wq_if (c := a = b) (p1 := 19) (L1 := [(0, .ref 92), (1, .int a), (2, .int b), (3, .int v)]) (S1 := []) (p2 := 22) (L2 := [(0, .ref 92), (1, .int a), (2, .int b), (3, .int v)]) (S2 := []) rfl (fun q => absurd q h1.2.2) (fun _ => ?_)
  refine wq_run3 (pc' := 27) (L' := [(0, .ref 92), (1, .int a), (2, .int b), (3, .int v)]) (S' := [.int (v &&& (-255))]) (f' := f) rfl ?_
  refine wq_if (c := (v &&& (-255)) = 0) (p1 := 33) (L1 := [(0, .ref 92), (1, .int a), (2, .int b), (3, .int v)]) (S1 := []) (p2 := 30) (L2 := [(0, .ref 92), (1, .int a), (2, .int b), (3, .int v)]) (S2 := []) rfl (fun q => absurd q h2) (fun _ => ?_)
  refine wq_run1 (pc' := 32) (L' := [(0, .ref 92), (1, .int a), (2, .int b), (3, .int v)]) (S' := [.int (-3)]) (f' := f) rfl ?_
  exact wq_ret rfl ⟨rfl, rfl⟩
theorem mp_code3 (f : HI) (a b v : Int32) (h1 : twoT a b) (h2 : v &&& (-255) = 0) {i j : Nat} (hi : i < 10) (hi2 : a = nI i) (hj : j < 10) (hj2 : b = nI j) : Sp 4 178 [.ref 92, .int a, .int b, .int v] f (Ret (f 125 (10 * i + j)) (up2 f 125 (10 * i + j) v)) := by
  show wq 4 178 _ 0 [(0, .ref 92), (1, .int a), (2, .int b), (3, .int v)] [] f
  refine wq_run1 (pc' := 1) (L' := [(0, .ref 92), (1, .int a), (2, .int b), (3, .int v)]) (S' := [.int a]) (f' := f) rfl ?_
  refine wq_callI (mp_isTown f a) (Nat.le_of_ble_eq_true rfl) (pc' := 4) (L' := [(0, .ref 92), (1, .int a), (2, .int b), (3, .int v)]) (S' := []) rfl (Nat.le_of_ble_eq_true rfl) rfl rfl (Nat.le_of_ble_eq_true rfl) (Nat.le_of_ble_eq_true rfl) ?_
  refine wq_if (c := (b2i (inR a 0 9)) = 0) (p1 := 19) (L1 := [(0, .ref 92), (1, .int a), (2, .int b), (3, .int v)]) (S1 := []) (p2 := 7) (L2 := [(0, .ref 92), (1, .int a), (2, .int b), (3, .int v)]) (S2 := []) rfl (fun q => absurd q (b2i_n0.mpr h1.1)) (fun _ => ?_)
  refine wq_run1 (pc' := 8) (L' := [(0, .ref 92), (1, .int a), (2, .int b), (3, .int v)]) (S' := [.int b]) (f' := f) rfl ?_
  refine wq_callI (mp_isTown f b) (Nat.le_of_ble_eq_true rfl) (pc' := 11) (L' := [(0, .ref 92), (1, .int a), (2, .int b), (3, .int v)]) (S' := []) rfl (Nat.le_of_ble_eq_true rfl) rfl rfl (Nat.le_of_ble_eq_true rfl) (Nat.le_of_ble_eq_true rfl) ?_
  refine wq_if (c := (b2i (inR b 0 9)) = 0) (p1 := 19) (L1 := [(0, .ref 92), (1, .int a), (2, .int b), (3, .int v)]) (S1 := []) (p2 := 14) (L2 := [(0, .ref 92), (1, .int a), (2, .int b), (3, .int v)]) (S2 := []) rfl (fun q => absurd q (b2i_n0.mpr h1.2.1)) (fun _ => ?_)
  refine wq_run2 (pc' := 16) (L' := [(0, .ref 92), (1, .int a), (2, .int b), (3, .int v)]) (S' := [.int b, .int a]) (f' := f) rfl ?_
  refine wq_if (c := a = b) (p1 := 19) (L1 := [(0, .ref 92), (1, .int a), (2, .int b), (3, .int v)]) (S1 := []) (p2 := 22) (L2 := [(0, .ref 92), (1, .int a), (2, .int b), (3, .int v)]) (S2 := []) rfl (fun q => absurd q h1.2.2) (fun _ => ?_)
  refine wq_run3 (pc' := 27) (L' := [(0, .ref 92), (1, .int a), (2, .int b), (3, .int v)]) (S' := [.int (v &&& (-255))]) (f' := f) rfl ?_
  refine wq_if (c := (v &&& (-255)) = 0) (p1 := 33) (L1 := [(0, .ref 92), (1, .int a), (2, .int b), (3, .int v)]) (S1 := []) (p2 := 30) (L2 := [(0, .ref 92), (1, .int a), (2, .int b), (3, .int v)]) (S2 := []) rfl (fun _ => ?_) (fun q => absurd h2 q)
  refine wq_run7 (pc' := 43) (L' := [(0, .ref 92), (1, .int a), (2, .int b), (3, .int v)]) (S' := [.int ((10 * a) + b), .ref 125]) (f' := f) rfl ?_
  refine wq_ald (j := (10 * i + j)) (n := 100) (v := (f 125 (10 * i + j))) rfl rfl rfl (by rw [hi2, hj2]; exact ix10r i j) (by omega) (Nat.le_of_ble_eq_true rfl) rfl ?_
  refine wq_run9 (pc' := 57) (L' := [(0, .ref 92), (1, .int a), (2, .int b), (3, .int v), (4, .int (f 125 (10 * i + j)))]) (S' := [.int v, .int ((10 * a) + b), .ref 125]) (f' := f) rfl ?_
  refine wq_ist (j := (10 * i + j)) (n := 100) rfl rfl rfl (by rw [hi2, hj2]; exact ix10r i j) (by omega) (Nat.le_of_ble_eq_true rfl) ?_
  refine wq_run1 (pc' := 60) (L' := [(0, .ref 92), (1, .int a), (2, .int b), (3, .int v), (4, .int (f 125 (10 * i + j)))]) (S' := [.int (f 125 (10 * i + j))]) (f' := (up2 f 125 (10 * i + j) v)) rfl ?_
  exact wq_ret rfl ⟨rfl, rfl⟩
theorem sp_addWant (f : HI) (a b p w t : Int32) {n : Nat} (hn : n < 8) (hn2 : f 83 6 = nI n) : Sp 1 43 [.ref 83, .int a, .int b, .int p, .int w, .int t] f (Ret (f 83 6) (up2 (up2 (up2 (up2 (up2 (up2 f 84 n a) 85 n b) 86 n p) 87 n w) 88 n t) 83 6 (f 83 6 + 1))) := by
  show wq 1 43 _ 0 [(0, .ref 83), (1, .int a), (2, .int b), (3, .int p), (4, .int w), (5, .int t)] [] f
  refine wq_run5 (pc' := 9) (L' := [(0, .ref 83), (1, .int a), (2, .int b), (3, .int p), (4, .int w), (5, .int t)]) (S' := [.int a, .int (f 83 6), .ref 84]) (f' := f) rfl ?_
  refine wq_ist (j := n) (n := 8) rfl rfl rfl hn2 (by omega) (Nat.le_of_ble_eq_true rfl) ?_
  refine wq_run5 (pc' := 19) (L' := [(0, .ref 83), (1, .int a), (2, .int b), (3, .int p), (4, .int w), (5, .int t)]) (S' := [.int b, .int (f 83 6), .ref 85]) (f' := (up2 f 84 n a)) rfl ?_
  refine wq_ist (j := n) (n := 8) rfl rfl rfl hn2 (by omega) (Nat.le_of_ble_eq_true rfl) ?_
  refine wq_run5 (pc' := 29) (L' := [(0, .ref 83), (1, .int a), (2, .int b), (3, .int p), (4, .int w), (5, .int t)]) (S' := [.int p, .int (f 83 6), .ref 86]) (f' := (up2 (up2 f 84 n a) 85 n b)) rfl ?_
  refine wq_ist (j := n) (n := 8) rfl rfl rfl hn2 (by omega) (Nat.le_of_ble_eq_true rfl) ?_
  refine wq_run5 (pc' := 40) (L' := [(0, .ref 83), (1, .int a), (2, .int b), (3, .int p), (4, .int w), (5, .int t)]) (S' := [.int w, .int (f 83 6), .ref 87]) (f' := (up2 (up2 (up2 f 84 n a) 85 n b) 86 n p)) rfl ?_
  refine wq_ist (j := n) (n := 8) rfl rfl rfl hn2 (by omega) (Nat.le_of_ble_eq_true rfl) ?_
  refine wq_run5 (pc' := 51) (L' := [(0, .ref 83), (1, .int a), (2, .int b), (3, .int p), (4, .int w), (5, .int t)]) (S' := [.int t, .int (f 83 6), .ref 88]) (f' := (up2 (up2 (up2 (up2 f 84 n a) 85 n b) 86 n p) 87 n w)) rfl ?_
  refine wq_ist (j := n) (n := 48) rfl rfl rfl hn2 (by omega) (Nat.le_of_ble_eq_true rfl) ?_
  refine wq_run7 (pc' := 63) (L' := [(0, .ref 83), (1, .int a), (2, .int b), (3, .int p), (4, .int w), (5, .int t)]) (S' := [.int (f 83 6)]) (f' := (up2 (up2 (up2 (up2 (up2 (up2 f 84 n a) 85 n b) 86 n p) 87 n w) 88 n t) 83 6 ((f 83 6) + 1))) rfl ?_
  exact wq_ret rfl ⟨rfl, rfl⟩
abbrev wantR (p w t : Int32) : Prop := inR p 1 500 ∧ inR w 0 99 ∧ inR t 0 60
theorem sp_want1 (f : HI) (a b p w t : Int32) (h1 : ¬ twoT a b) : Sp 4 109 [.ref 0, .int a, .int b, .int p, .int w, .int t] f (Ret (-2) f) := by
  show wq 4 109 _ 0 [(0, .ref 0), (1, .int a), (2, .int b), (3, .int p), (4, .int w), (5, .int t)] [] f
  refine wq_run2 (pc' := 2) (L' := [(0, .ref 0), (1, .int a), (2, .int b), (3, .int p), (4, .int w), (5, .int t)]) (S' := [.int b, .int a]) (f' := f) rfl ?_
  refine wq_callI (sp_two f a b) (Nat.le_of_ble_eq_true rfl) (pc' := 5) (L' := [(0, .ref 0), (1, .int a), (2, .int b), (3, .int p), (4, .int w), (5, .int t)]) (S' := []) rfl (Nat.le_of_ble_eq_true rfl) rfl rfl (Nat.le_of_ble_eq_true rfl) (Nat.le_of_ble_eq_true rfl) ?_
  refine wq_if (c := (b2i (twoT a b)) = 0) (p1 := 8) (L1 := [(0, .ref 0), (1, .int a), (2, .int b), (3, .int p), (4, .int w), (5, .int t)]) (S1 := []) (p2 := 11) (L2 := [(0, .ref 0), (1, .int a), (2, .int b), (3, .int p), (4, .int w), (5, .int t)]) (S2 := []) rfl (fun _ => ?_) (fun q => absurd (b2i_0.mpr h1) q)
  refine wq_run1 (pc' := 10) (L' := [(0, .ref 0), (1, .int a), (2, .int b), (3, .int p), (4, .int w), (5, .int t)]) (S' := [.int (-2)]) (f' := f) rfl ?_
  exact wq_ret rfl ⟨rfl, rfl⟩
theorem sp_want2 (f : HI) (a b p w t : Int32) (h1 : twoT a b) (h2 : ¬ wantR p w t) : Sp 4 109 [.ref 0, .int a, .int b, .int p, .int w, .int t] f (Ret (-3) f) := by
  show wq 4 109 _ 0 [(0, .ref 0), (1, .int a), (2, .int b), (3, .int p), (4, .int w), (5, .int t)] [] f
  refine wq_run2 (pc' := 2) (L' := [(0, .ref 0), (1, .int a), (2, .int b), (3, .int p), (4, .int w), (5, .int t)]) (S' := [.int b, .int a]) (f' := f) rfl ?_
  refine wq_callI (sp_two f a b) (Nat.le_of_ble_eq_true rfl) (pc' := 5) (L' := [(0, .ref 0), (1, .int a), (2, .int b), (3, .int p), (4, .int w), (5, .int t)]) (S' := []) rfl (Nat.le_of_ble_eq_true rfl) rfl rfl (Nat.le_of_ble_eq_true rfl) (Nat.le_of_ble_eq_true rfl) ?_
  refine wq_if (c := (b2i (twoT a b)) = 0) (p1 := 8) (L1 := [(0, .ref 0), (1, .int a), (2, .int b), (3, .int p), (4, .int w), (5, .int t)]) (S1 := []) (p2 := 11) (L2 := [(0, .ref 0), (1, .int a), (2, .int b), (3, .int p), (4, .int w), (5, .int t)]) (S2 := []) rfl (fun q => absurd q (b2i_n0.mpr h1)) (fun _ => ?_)
  refine wq_run3 (pc' := 16) (L' := [(0, .ref 0), (1, .int a), (2, .int b), (3, .int p), (4, .int w), (5, .int t)]) (S' := [.int 500, .int 1, .int p]) (f' := f) rfl ?_
  refine wq_callI (sp_within f p 1 500) (Nat.le_of_ble_eq_true rfl) (pc' := 19) (L' := [(0, .ref 0), (1, .int a), (2, .int b), (3, .int p), (4, .int w), (5, .int t)]) (S' := []) rfl (Nat.le_of_ble_eq_true rfl) rfl rfl (Nat.le_of_ble_eq_true rfl) (Nat.le_of_ble_eq_true rfl) ?_
  refine wq_if (c := (b2i (inR p 1 500)) = 0) (p1 := 44) (L1 := [(0, .ref 0), (1, .int a), (2, .int b), (3, .int p), (4, .int w), (5, .int t)]) (S1 := []) (p2 := 22) (L2 := [(0, .ref 0), (1, .int a), (2, .int b), (3, .int p), (4, .int w), (5, .int t)]) (S2 := []) rfl (fun c_19 => ?_) (fun c_19 => ?_)
  · have h_19 := b2i_0.mp c_19
    refine wq_run1 (pc' := 46) (L' := [(0, .ref 0), (1, .int a), (2, .int b), (3, .int p), (4, .int w), (5, .int t)]) (S' := [.int (-3)]) (f' := f) rfl ?_
    exact wq_ret rfl ⟨rfl, rfl⟩
  · have h_19 := b2i_n0.mp c_19
    refine wq_run3 (pc' := 27) (L' := [(0, .ref 0), (1, .int a), (2, .int b), (3, .int p), (4, .int w), (5, .int t)]) (S' := [.int 99, .int 0, .int w]) (f' := f) rfl ?_
    refine wq_callI (sp_within f w 0 99) (Nat.le_of_ble_eq_true rfl) (pc' := 30) (L' := [(0, .ref 0), (1, .int a), (2, .int b), (3, .int p), (4, .int w), (5, .int t)]) (S' := []) rfl (Nat.le_of_ble_eq_true rfl) rfl rfl (Nat.le_of_ble_eq_true rfl) (Nat.le_of_ble_eq_true rfl) ?_
    refine wq_if (c := (b2i (inR w 0 99)) = 0) (p1 := 44) (L1 := [(0, .ref 0), (1, .int a), (2, .int b), (3, .int p), (4, .int w), (5, .int t)]) (S1 := []) (p2 := 33) (L2 := [(0, .ref 0), (1, .int a), (2, .int b), (3, .int p), (4, .int w), (5, .int t)]) (S2 := []) rfl (fun c_30 => ?_) (fun c_30 => ?_)
    · have h_30 := b2i_0.mp c_30
      refine wq_run1 (pc' := 46) (L' := [(0, .ref 0), (1, .int a), (2, .int b), (3, .int p), (4, .int w), (5, .int t)]) (S' := [.int (-3)]) (f' := f) rfl ?_
      exact wq_ret rfl ⟨rfl, rfl⟩
    · have h_30 := b2i_n0.mp c_30
      refine wq_run3 (pc' := 38) (L' := [(0, .ref 0), (1, .int a), (2, .int b), (3, .int p), (4, .int w), (5, .int t)]) (S' := [.int 60, .int 0, .int t]) (f' := f) rfl ?_
      refine wq_callI (sp_within f t 0 60) (Nat.le_of_ble_eq_true rfl) (pc' := 41) (L' := [(0, .ref 0), (1, .int a), (2, .int b), (3, .int p), (4, .int w), (5, .int t)]) (S' := []) rfl (Nat.le_of_ble_eq_true rfl) rfl rfl (Nat.le_of_ble_eq_true rfl) (Nat.le_of_ble_eq_true rfl) ?_
      refine wq_if (c := (b2i (inR t 0 60)) = 0) (p1 := 44) (L1 := [(0, .ref 0), (1, .int a), (2, .int b), (3, .int p), (4, .int w), (5, .int t)]) (S1 := []) (p2 := 47) (L2 := [(0, .ref 0), (1, .int a), (2, .int b), (3, .int p), (4, .int w), (5, .int t)]) (S2 := []) rfl (fun c_41 => ?_) (fun c_41 => ?_)
      · have h_41 := b2i_0.mp c_41
        refine wq_run1 (pc' := 46) (L' := [(0, .ref 0), (1, .int a), (2, .int b), (3, .int p), (4, .int w), (5, .int t)]) (S' := [.int (-3)]) (f' := f) rfl ?_
        exact wq_ret rfl ⟨rfl, rfl⟩
      · have h_41 := b2i_n0.mp c_41
        exact absurd ⟨h_19, h_30, h_41⟩ h2
theorem sp_want3 (f : HI) (a b p w t : Int32) (h1 : twoT a b) (h2 : wantR p w t) (h3 : ¬ f 83 6 < 8) : Sp 4 109 [.ref 0, .int a, .int b, .int p, .int w, .int t] f (Ret (-5) f) := by
  show wq 4 109 _ 0 [(0, .ref 0), (1, .int a), (2, .int b), (3, .int p), (4, .int w), (5, .int t)] [] f
  refine wq_run2 (pc' := 2) (L' := [(0, .ref 0), (1, .int a), (2, .int b), (3, .int p), (4, .int w), (5, .int t)]) (S' := [.int b, .int a]) (f' := f) rfl ?_
  refine wq_callI (sp_two f a b) (Nat.le_of_ble_eq_true rfl) (pc' := 5) (L' := [(0, .ref 0), (1, .int a), (2, .int b), (3, .int p), (4, .int w), (5, .int t)]) (S' := []) rfl (Nat.le_of_ble_eq_true rfl) rfl rfl (Nat.le_of_ble_eq_true rfl) (Nat.le_of_ble_eq_true rfl) ?_
  refine wq_if (c := (b2i (twoT a b)) = 0) (p1 := 8) (L1 := [(0, .ref 0), (1, .int a), (2, .int b), (3, .int p), (4, .int w), (5, .int t)]) (S1 := []) (p2 := 11) (L2 := [(0, .ref 0), (1, .int a), (2, .int b), (3, .int p), (4, .int w), (5, .int t)]) (S2 := []) rfl (fun q => absurd q (b2i_n0.mpr h1)) (fun _ => ?_)
  refine wq_run3 (pc' := 16) (L' := [(0, .ref 0), (1, .int a), (2, .int b), (3, .int p), (4, .int w), (5, .int t)]) (S' := [.int 500, .int 1, .int p]) (f' := f) rfl ?_
  refine wq_callI (sp_within f p 1 500) (Nat.le_of_ble_eq_true rfl) (pc' := 19) (L' := [(0, .ref 0), (1, .int a), (2, .int b), (3, .int p), (4, .int w), (5, .int t)]) (S' := []) rfl (Nat.le_of_ble_eq_true rfl) rfl rfl (Nat.le_of_ble_eq_true rfl) (Nat.le_of_ble_eq_true rfl) ?_
  refine wq_if (c := (b2i (inR p 1 500)) = 0) (p1 := 44) (L1 := [(0, .ref 0), (1, .int a), (2, .int b), (3, .int p), (4, .int w), (5, .int t)]) (S1 := []) (p2 := 22) (L2 := [(0, .ref 0), (1, .int a), (2, .int b), (3, .int p), (4, .int w), (5, .int t)]) (S2 := []) rfl (fun q => absurd q (b2i_n0.mpr h2.1)) (fun _ => ?_)
  refine wq_run3 (pc' := 27) (L' := [(0, .ref 0), (1, .int a), (2, .int b), (3, .int p), (4, .int w), (5, .int t)]) (S' := [.int 99, .int 0, .int w]) (f' := f) rfl ?_
  refine wq_callI (sp_within f w 0 99) (Nat.le_of_ble_eq_true rfl) (pc' := 30) (L' := [(0, .ref 0), (1, .int a), (2, .int b), (3, .int p), (4, .int w), (5, .int t)]) (S' := []) rfl (Nat.le_of_ble_eq_true rfl) rfl rfl (Nat.le_of_ble_eq_true rfl) (Nat.le_of_ble_eq_true rfl) ?_
  refine wq_if (c := (b2i (inR w 0 99)) = 0) (p1 := 44) (L1 := [(0, .ref 0), (1, .int a), (2, .int b), (3, .int p), (4, .int w), (5, .int t)]) (S1 := []) (p2 := 33) (L2 := [(0, .ref 0), (1, .int a), (2, .int b), (3, .int p), (4, .int w), (5, .int t)]) (S2 := []) rfl (fun q => absurd q (b2i_n0.mpr h2.2.1)) (fun _ => ?_)
  refine wq_run3 (pc' := 38) (L' := [(0, .ref 0), (1, .int a), (2, .int b), (3, .int p), (4, .int w), (5, .int t)]) (S' := [.int 60, .int 0, .int t]) (f' := f) rfl ?_
  refine wq_callI (sp_within f t 0 60) (Nat.le_of_ble_eq_true rfl) (pc' := 41) (L' := [(0, .ref 0), (1, .int a), (2, .int b), (3, .int p), (4, .int w), (5, .int t)]) (S' := []) rfl (Nat.le_of_ble_eq_true rfl) rfl rfl (Nat.le_of_ble_eq_true rfl) (Nat.le_of_ble_eq_true rfl) ?_
  refine wq_if (c := (b2i (inR t 0 60)) = 0) (p1 := 44) (L1 := [(0, .ref 0), (1, .int a), (2, .int b), (3, .int p), (4, .int w), (5, .int t)]) (S1 := []) (p2 := 47) (L2 := [(0, .ref 0), (1, .int a), (2, .int b), (3, .int p), (4, .int w), (5, .int t)]) (S2 := []) rfl (fun q => absurd q (b2i_n0.mpr h2.2.2)) (fun _ => ?_)
  refine wq_run4 (pc' := 56) (L' := [(0, .ref 0), (1, .int a), (2, .int b), (3, .int p), (4, .int w), (5, .int t)]) (S' := [.int 8, .int (f 83 6)]) (f' := f) rfl ?_
  refine wq_if (c := (f 83 6) < 8) (p1 := 62) (L1 := [(0, .ref 0), (1, .int a), (2, .int b), (3, .int p), (4, .int w), (5, .int t)]) (S1 := []) (p2 := 59) (L2 := [(0, .ref 0), (1, .int a), (2, .int b), (3, .int p), (4, .int w), (5, .int t)]) (S2 := []) rfl (fun q => absurd q h3) (fun _ => ?_)
  refine wq_run1 (pc' := 61) (L' := [(0, .ref 0), (1, .int a), (2, .int b), (3, .int p), (4, .int w), (5, .int t)]) (S' := [.int (-5)]) (f' := f) rfl ?_
  exact wq_ret rfl ⟨rfl, rfl⟩
theorem sp_want4 (f : HI) (a b p w t : Int32) (h1 : twoT a b) (h2 : wantR p w t) (h3 : f 83 6 < 8) {n : Nat} (hn : n < 8) (hn2 : f 83 6 = nI n) : Sp 4 109 [.ref 0, .int a, .int b, .int p, .int w, .int t] f (Ret (f 83 6) (up2 (up2 (up2 (up2 (up2 (up2 f 84 n a) 85 n b) 86 n p) 87 n w) 88 n t) 83 6 (f 83 6 + 1))) := by
  show wq 4 109 _ 0 [(0, .ref 0), (1, .int a), (2, .int b), (3, .int p), (4, .int w), (5, .int t)] [] f
  refine wq_run2 (pc' := 2) (L' := [(0, .ref 0), (1, .int a), (2, .int b), (3, .int p), (4, .int w), (5, .int t)]) (S' := [.int b, .int a]) (f' := f) rfl ?_
  refine wq_callI (sp_two f a b) (Nat.le_of_ble_eq_true rfl) (pc' := 5) (L' := [(0, .ref 0), (1, .int a), (2, .int b), (3, .int p), (4, .int w), (5, .int t)]) (S' := []) rfl (Nat.le_of_ble_eq_true rfl) rfl rfl (Nat.le_of_ble_eq_true rfl) (Nat.le_of_ble_eq_true rfl) ?_
  refine wq_if (c := (b2i (twoT a b)) = 0) (p1 := 8) (L1 := [(0, .ref 0), (1, .int a), (2, .int b), (3, .int p), (4, .int w), (5, .int t)]) (S1 := []) (p2 := 11) (L2 := [(0, .ref 0), (1, .int a), (2, .int b), (3, .int p), (4, .int w), (5, .int t)]) (S2 := []) rfl (fun q => absurd q (b2i_n0.mpr h1)) (fun _ => ?_)
  refine wq_run3 (pc' := 16) (L' := [(0, .ref 0), (1, .int a), (2, .int b), (3, .int p), (4, .int w), (5, .int t)]) (S' := [.int 500, .int 1, .int p]) (f' := f) rfl ?_
  refine wq_callI (sp_within f p 1 500) (Nat.le_of_ble_eq_true rfl) (pc' := 19) (L' := [(0, .ref 0), (1, .int a), (2, .int b), (3, .int p), (4, .int w), (5, .int t)]) (S' := []) rfl (Nat.le_of_ble_eq_true rfl) rfl rfl (Nat.le_of_ble_eq_true rfl) (Nat.le_of_ble_eq_true rfl) ?_
  refine wq_if (c := (b2i (inR p 1 500)) = 0) (p1 := 44) (L1 := [(0, .ref 0), (1, .int a), (2, .int b), (3, .int p), (4, .int w), (5, .int t)]) (S1 := []) (p2 := 22) (L2 := [(0, .ref 0), (1, .int a), (2, .int b), (3, .int p), (4, .int w), (5, .int t)]) (S2 := []) rfl (fun q => absurd q (b2i_n0.mpr h2.1)) (fun _ => ?_)
  refine wq_run3 (pc' := 27) (L' := [(0, .ref 0), (1, .int a), (2, .int b), (3, .int p), (4, .int w), (5, .int t)]) (S' := [.int 99, .int 0, .int w]) (f' := f) rfl ?_
  refine wq_callI (sp_within f w 0 99) (Nat.le_of_ble_eq_true rfl) (pc' := 30) (L' := [(0, .ref 0), (1, .int a), (2, .int b), (3, .int p), (4, .int w), (5, .int t)]) (S' := []) rfl (Nat.le_of_ble_eq_true rfl) rfl rfl (Nat.le_of_ble_eq_true rfl) (Nat.le_of_ble_eq_true rfl) ?_
  refine wq_if (c := (b2i (inR w 0 99)) = 0) (p1 := 44) (L1 := [(0, .ref 0), (1, .int a), (2, .int b), (3, .int p), (4, .int w), (5, .int t)]) (S1 := []) (p2 := 33) (L2 := [(0, .ref 0), (1, .int a), (2, .int b), (3, .int p), (4, .int w), (5, .int t)]) (S2 := []) rfl (fun q => absurd q (b2i_n0.mpr h2.2.1)) (fun _ => ?_)
  refine wq_run3 (pc' := 38) (L' := [(0, .ref 0), (1, .int a), (2, .int b), (3, .int p), (4, .int w), (5, .int t)]) (S' := [.int 60, .int 0, .int t]) (f' := f) rfl ?_
  refine wq_callI (sp_within f t 0 60) (Nat.le_of_ble_eq_true rfl) (pc' := 41) (L' := [(0, .ref 0), (1, .int a), (2, .int b), (3, .int p), (4, .int w), (5, .int t)]) (S' := []) rfl (Nat.le_of_ble_eq_true rfl) rfl rfl (Nat.le_of_ble_eq_true rfl) (Nat.le_of_ble_eq_true rfl) ?_
  refine wq_if (c := (b2i (inR t 0 60)) = 0) (p1 := 44) (L1 := [(0, .ref 0), (1, .int a), (2, .int b), (3, .int p), (4, .int w), (5, .int t)]) (S1 := []) (p2 := 47) (L2 := [(0, .ref 0), (1, .int a), (2, .int b), (3, .int p), (4, .int w), (5, .int t)]) (S2 := []) rfl (fun q => absurd q (b2i_n0.mpr h2.2.2)) (fun _ => ?_)
  refine wq_run4 (pc' := 56) (L' := [(0, .ref 0), (1, .int a), (2, .int b), (3, .int p), (4, .int w), (5, .int t)]) (S' := [.int 8, .int (f 83 6)]) (f' := f) rfl ?_
  refine wq_if (c := (f 83 6) < 8) (p1 := 62) (L1 := [(0, .ref 0), (1, .int a), (2, .int b), (3, .int p), (4, .int w), (5, .int t)]) (S1 := []) (p2 := 59) (L2 := [(0, .ref 0), (1, .int a), (2, .int b), (3, .int p), (4, .int w), (5, .int t)]) (S2 := []) rfl (fun _ => ?_) (fun q => absurd h3 q)
  refine wq_run7 (pc' := 73) (L' := [(0, .ref 0), (1, .int a), (2, .int b), (3, .int p), (4, .int w), (5, .int t)]) (S' := [.int t, .int w, .int p, .int b, .int a, .ref 83]) (f' := f) rfl ?_
  refine wq_callI (sp_addWant f a b p w t hn hn2) (Nat.le_of_ble_eq_true rfl) (pc' := 76) (L' := [(0, .ref 0), (1, .int a), (2, .int b), (3, .int p), (4, .int w), (5, .int t)]) (S' := []) rfl (Nat.le_of_ble_eq_true rfl) rfl rfl (Nat.le_of_ble_eq_true rfl) (Nat.le_of_ble_eq_true rfl) ?_
  exact wq_ret rfl ⟨rfl, rfl⟩
theorem mp_want1 (f : HI) (a b p w t : Int32) (h1 : ¬ twoT a b) : Sp 4 197 [.ref 92, .int a, .int b, .int p, .int w, .int t] f (Ret (-2) f) := by
  show wq 4 197 _ 0 [(0, .ref 92), (1, .int a), (2, .int b), (3, .int p), (4, .int w), (5, .int t)] [] f
  refine wq_run1 (pc' := 1) (L' := [(0, .ref 92), (1, .int a), (2, .int b), (3, .int p), (4, .int w), (5, .int t)]) (S' := [.int a]) (f' := f) rfl ?_
  refine wq_callI (mp_isTown f a) (Nat.le_of_ble_eq_true rfl) (pc' := 4) (L' := [(0, .ref 92), (1, .int a), (2, .int b), (3, .int p), (4, .int w), (5, .int t)]) (S' := []) rfl (Nat.le_of_ble_eq_true rfl) rfl rfl (Nat.le_of_ble_eq_true rfl) (Nat.le_of_ble_eq_true rfl) ?_
  refine wq_if (c := (b2i (inR a 0 9)) = 0) (p1 := 19) (L1 := [(0, .ref 92), (1, .int a), (2, .int b), (3, .int p), (4, .int w), (5, .int t)]) (S1 := []) (p2 := 7) (L2 := [(0, .ref 92), (1, .int a), (2, .int b), (3, .int p), (4, .int w), (5, .int t)]) (S2 := []) rfl (fun c_4 => ?_) (fun c_4 => ?_)
  · have h_4 := b2i_0.mp c_4
    refine wq_run1 (pc' := 21) (L' := [(0, .ref 92), (1, .int a), (2, .int b), (3, .int p), (4, .int w), (5, .int t)]) (S' := [.int (-2)]) (f' := f) rfl ?_
    exact wq_ret rfl ⟨rfl, rfl⟩
  · have h_4 := b2i_n0.mp c_4
    refine wq_run1 (pc' := 8) (L' := [(0, .ref 92), (1, .int a), (2, .int b), (3, .int p), (4, .int w), (5, .int t)]) (S' := [.int b]) (f' := f) rfl ?_
    refine wq_callI (mp_isTown f b) (Nat.le_of_ble_eq_true rfl) (pc' := 11) (L' := [(0, .ref 92), (1, .int a), (2, .int b), (3, .int p), (4, .int w), (5, .int t)]) (S' := []) rfl (Nat.le_of_ble_eq_true rfl) rfl rfl (Nat.le_of_ble_eq_true rfl) (Nat.le_of_ble_eq_true rfl) ?_
    refine wq_if (c := (b2i (inR b 0 9)) = 0) (p1 := 19) (L1 := [(0, .ref 92), (1, .int a), (2, .int b), (3, .int p), (4, .int w), (5, .int t)]) (S1 := []) (p2 := 14) (L2 := [(0, .ref 92), (1, .int a), (2, .int b), (3, .int p), (4, .int w), (5, .int t)]) (S2 := []) rfl (fun c_11 => ?_) (fun c_11 => ?_)
    · have h_11 := b2i_0.mp c_11
      refine wq_run1 (pc' := 21) (L' := [(0, .ref 92), (1, .int a), (2, .int b), (3, .int p), (4, .int w), (5, .int t)]) (S' := [.int (-2)]) (f' := f) rfl ?_
      exact wq_ret rfl ⟨rfl, rfl⟩
    · have h_11 := b2i_n0.mp c_11
      refine wq_run2 (pc' := 16) (L' := [(0, .ref 92), (1, .int a), (2, .int b), (3, .int p), (4, .int w), (5, .int t)]) (S' := [.int b, .int a]) (f' := f) rfl ?_
      refine wq_if (c := a = b) (p1 := 19) (L1 := [(0, .ref 92), (1, .int a), (2, .int b), (3, .int p), (4, .int w), (5, .int t)]) (S1 := []) (p2 := 22) (L2 := [(0, .ref 92), (1, .int a), (2, .int b), (3, .int p), (4, .int w), (5, .int t)]) (S2 := []) rfl (fun c_16 => ?_) (fun c_16 => ?_)
      · refine wq_run1 (pc' := 21) (L' := [(0, .ref 92), (1, .int a), (2, .int b), (3, .int p), (4, .int w), (5, .int t)]) (S' := [.int (-2)]) (f' := f) rfl ?_
        exact wq_ret rfl ⟨rfl, rfl⟩
      · exact absurd ⟨h_4, h_11, c_16⟩ h1
theorem mp_want2 (f : HI) (a b p w t : Int32) (h1 : twoT a b) (h2 : ¬ wantR p w t) : Sp 4 197 [.ref 92, .int a, .int b, .int p, .int w, .int t] f (Ret (-3) f) := by
  show wq 4 197 _ 0 [(0, .ref 92), (1, .int a), (2, .int b), (3, .int p), (4, .int w), (5, .int t)] [] f
  refine wq_run1 (pc' := 1) (L' := [(0, .ref 92), (1, .int a), (2, .int b), (3, .int p), (4, .int w), (5, .int t)]) (S' := [.int a]) (f' := f) rfl ?_
  refine wq_callI (mp_isTown f a) (Nat.le_of_ble_eq_true rfl) (pc' := 4) (L' := [(0, .ref 92), (1, .int a), (2, .int b), (3, .int p), (4, .int w), (5, .int t)]) (S' := []) rfl (Nat.le_of_ble_eq_true rfl) rfl rfl (Nat.le_of_ble_eq_true rfl) (Nat.le_of_ble_eq_true rfl) ?_
  refine wq_if (c := (b2i (inR a 0 9)) = 0) (p1 := 19) (L1 := [(0, .ref 92), (1, .int a), (2, .int b), (3, .int p), (4, .int w), (5, .int t)]) (S1 := []) (p2 := 7) (L2 := [(0, .ref 92), (1, .int a), (2, .int b), (3, .int p), (4, .int w), (5, .int t)]) (S2 := []) rfl (fun q => absurd q (b2i_n0.mpr h1.1)) (fun _ => ?_)
  refine wq_run1 (pc' := 8) (L' := [(0, .ref 92), (1, .int a), (2, .int b), (3, .int p), (4, .int w), (5, .int t)]) (S' := [.int b]) (f' := f) rfl ?_
  refine wq_callI (mp_isTown f b) (Nat.le_of_ble_eq_true rfl) (pc' := 11) (L' := [(0, .ref 92), (1, .int a), (2, .int b), (3, .int p), (4, .int w), (5, .int t)]) (S' := []) rfl (Nat.le_of_ble_eq_true rfl) rfl rfl (Nat.le_of_ble_eq_true rfl) (Nat.le_of_ble_eq_true rfl) ?_
  refine wq_if (c := (b2i (inR b 0 9)) = 0) (p1 := 19) (L1 := [(0, .ref 92), (1, .int a), (2, .int b), (3, .int p), (4, .int w), (5, .int t)]) (S1 := []) (p2 := 14) (L2 := [(0, .ref 92), (1, .int a), (2, .int b), (3, .int p), (4, .int w), (5, .int t)]) (S2 := []) rfl (fun q => absurd q (b2i_n0.mpr h1.2.1)) (fun _ => ?_)
  refine wq_run2 (pc' := 16) (L' := [(0, .ref 92), (1, .int a), (2, .int b), (3, .int p), (4, .int w), (5, .int t)]) (S' := [.int b, .int a]) (f' := f) rfl ?_
  refine wq_if (c := a = b) (p1 := 19) (L1 := [(0, .ref 92), (1, .int a), (2, .int b), (3, .int p), (4, .int w), (5, .int t)]) (S1 := []) (p2 := 22) (L2 := [(0, .ref 92), (1, .int a), (2, .int b), (3, .int p), (4, .int w), (5, .int t)]) (S2 := []) rfl (fun q => absurd q h1.2.2) (fun _ => ?_)
  refine wq_run4 (pc' := 28) (L' := [(0, .ref 92), (1, .int a), (2, .int b), (3, .int p), (4, .int w), (5, .int t)]) (S' := [.long 500, .long 1, .long p.toInt64]) (f' := f) rfl ?_
  refine wq_callI (mp_in f p 1 500) (Nat.le_of_ble_eq_true rfl) (pc' := 31) (L' := [(0, .ref 92), (1, .int a), (2, .int b), (3, .int p), (4, .int w), (5, .int t)]) (S' := []) rfl (Nat.le_of_ble_eq_true rfl) rfl rfl (Nat.le_of_ble_eq_true rfl) (Nat.le_of_ble_eq_true rfl) ?_
  refine wq_if (c := (b2i (inR p 1 500)) = 0) (p1 := 60) (L1 := [(0, .ref 92), (1, .int a), (2, .int b), (3, .int p), (4, .int w), (5, .int t)]) (S1 := []) (p2 := 34) (L2 := [(0, .ref 92), (1, .int a), (2, .int b), (3, .int p), (4, .int w), (5, .int t)]) (S2 := []) rfl (fun c_31 => ?_) (fun c_31 => ?_)
  · have h_31 := b2i_0.mp c_31
    refine wq_run1 (pc' := 62) (L' := [(0, .ref 92), (1, .int a), (2, .int b), (3, .int p), (4, .int w), (5, .int t)]) (S' := [.int (-3)]) (f' := f) rfl ?_
    exact wq_ret rfl ⟨rfl, rfl⟩
  · have h_31 := b2i_n0.mp c_31
    refine wq_run4 (pc' := 41) (L' := [(0, .ref 92), (1, .int a), (2, .int b), (3, .int p), (4, .int w), (5, .int t)]) (S' := [.long 99, .long 0, .long w.toInt64]) (f' := f) rfl ?_
    refine wq_callI (mp_in f w 0 99) (Nat.le_of_ble_eq_true rfl) (pc' := 44) (L' := [(0, .ref 92), (1, .int a), (2, .int b), (3, .int p), (4, .int w), (5, .int t)]) (S' := []) rfl (Nat.le_of_ble_eq_true rfl) rfl rfl (Nat.le_of_ble_eq_true rfl) (Nat.le_of_ble_eq_true rfl) ?_
    refine wq_if (c := (b2i (inR w 0 99)) = 0) (p1 := 60) (L1 := [(0, .ref 92), (1, .int a), (2, .int b), (3, .int p), (4, .int w), (5, .int t)]) (S1 := []) (p2 := 47) (L2 := [(0, .ref 92), (1, .int a), (2, .int b), (3, .int p), (4, .int w), (5, .int t)]) (S2 := []) rfl (fun c_44 => ?_) (fun c_44 => ?_)
    · have h_44 := b2i_0.mp c_44
      refine wq_run1 (pc' := 62) (L' := [(0, .ref 92), (1, .int a), (2, .int b), (3, .int p), (4, .int w), (5, .int t)]) (S' := [.int (-3)]) (f' := f) rfl ?_
      exact wq_ret rfl ⟨rfl, rfl⟩
    · have h_44 := b2i_n0.mp c_44
      refine wq_run4 (pc' := 54) (L' := [(0, .ref 92), (1, .int a), (2, .int b), (3, .int p), (4, .int w), (5, .int t)]) (S' := [.long 60, .long 0, .long t.toInt64]) (f' := f) rfl ?_
      refine wq_callI (mp_in f t 0 60) (Nat.le_of_ble_eq_true rfl) (pc' := 57) (L' := [(0, .ref 92), (1, .int a), (2, .int b), (3, .int p), (4, .int w), (5, .int t)]) (S' := []) rfl (Nat.le_of_ble_eq_true rfl) rfl rfl (Nat.le_of_ble_eq_true rfl) (Nat.le_of_ble_eq_true rfl) ?_
      refine wq_if (c := (b2i (inR t 0 60)) = 0) (p1 := 60) (L1 := [(0, .ref 92), (1, .int a), (2, .int b), (3, .int p), (4, .int w), (5, .int t)]) (S1 := []) (p2 := 63) (L2 := [(0, .ref 92), (1, .int a), (2, .int b), (3, .int p), (4, .int w), (5, .int t)]) (S2 := []) rfl (fun c_57 => ?_) (fun c_57 => ?_)
      · have h_57 := b2i_0.mp c_57
        refine wq_run1 (pc' := 62) (L' := [(0, .ref 92), (1, .int a), (2, .int b), (3, .int p), (4, .int w), (5, .int t)]) (S' := [.int (-3)]) (f' := f) rfl ?_
        exact wq_ret rfl ⟨rfl, rfl⟩
      · have h_57 := b2i_n0.mp c_57
        exact absurd ⟨h_31, h_44, h_57⟩ h2
theorem mp_want3 (f : HI) (a b p w t : Int32) (h1 : twoT a b) (h2 : wantR p w t) (h3 : f 92 61 = 8) : Sp 4 197 [.ref 92, .int a, .int b, .int p, .int w, .int t] f (Ret (-5) f) := by
  show wq 4 197 _ 0 [(0, .ref 92), (1, .int a), (2, .int b), (3, .int p), (4, .int w), (5, .int t)] [] f
  refine wq_run1 (pc' := 1) (L' := [(0, .ref 92), (1, .int a), (2, .int b), (3, .int p), (4, .int w), (5, .int t)]) (S' := [.int a]) (f' := f) rfl ?_
  refine wq_callI (mp_isTown f a) (Nat.le_of_ble_eq_true rfl) (pc' := 4) (L' := [(0, .ref 92), (1, .int a), (2, .int b), (3, .int p), (4, .int w), (5, .int t)]) (S' := []) rfl (Nat.le_of_ble_eq_true rfl) rfl rfl (Nat.le_of_ble_eq_true rfl) (Nat.le_of_ble_eq_true rfl) ?_
  refine wq_if (c := (b2i (inR a 0 9)) = 0) (p1 := 19) (L1 := [(0, .ref 92), (1, .int a), (2, .int b), (3, .int p), (4, .int w), (5, .int t)]) (S1 := []) (p2 := 7) (L2 := [(0, .ref 92), (1, .int a), (2, .int b), (3, .int p), (4, .int w), (5, .int t)]) (S2 := []) rfl (fun q => absurd q (b2i_n0.mpr h1.1)) (fun _ => ?_)
  refine wq_run1 (pc' := 8) (L' := [(0, .ref 92), (1, .int a), (2, .int b), (3, .int p), (4, .int w), (5, .int t)]) (S' := [.int b]) (f' := f) rfl ?_
  refine wq_callI (mp_isTown f b) (Nat.le_of_ble_eq_true rfl) (pc' := 11) (L' := [(0, .ref 92), (1, .int a), (2, .int b), (3, .int p), (4, .int w), (5, .int t)]) (S' := []) rfl (Nat.le_of_ble_eq_true rfl) rfl rfl (Nat.le_of_ble_eq_true rfl) (Nat.le_of_ble_eq_true rfl) ?_
  refine wq_if (c := (b2i (inR b 0 9)) = 0) (p1 := 19) (L1 := [(0, .ref 92), (1, .int a), (2, .int b), (3, .int p), (4, .int w), (5, .int t)]) (S1 := []) (p2 := 14) (L2 := [(0, .ref 92), (1, .int a), (2, .int b), (3, .int p), (4, .int w), (5, .int t)]) (S2 := []) rfl (fun q => absurd q (b2i_n0.mpr h1.2.1)) (fun _ => ?_)
  refine wq_run2 (pc' := 16) (L' := [(0, .ref 92), (1, .int a), (2, .int b), (3, .int p), (4, .int w), (5, .int t)]) (S' := [.int b, .int a]) (f' := f) rfl ?_
  refine wq_if (c := a = b) (p1 := 19) (L1 := [(0, .ref 92), (1, .int a), (2, .int b), (3, .int p), (4, .int w), (5, .int t)]) (S1 := []) (p2 := 22) (L2 := [(0, .ref 92), (1, .int a), (2, .int b), (3, .int p), (4, .int w), (5, .int t)]) (S2 := []) rfl (fun q => absurd q h1.2.2) (fun _ => ?_)
  refine wq_run4 (pc' := 28) (L' := [(0, .ref 92), (1, .int a), (2, .int b), (3, .int p), (4, .int w), (5, .int t)]) (S' := [.long 500, .long 1, .long p.toInt64]) (f' := f) rfl ?_
  refine wq_callI (mp_in f p 1 500) (Nat.le_of_ble_eq_true rfl) (pc' := 31) (L' := [(0, .ref 92), (1, .int a), (2, .int b), (3, .int p), (4, .int w), (5, .int t)]) (S' := []) rfl (Nat.le_of_ble_eq_true rfl) rfl rfl (Nat.le_of_ble_eq_true rfl) (Nat.le_of_ble_eq_true rfl) ?_
  refine wq_if (c := (b2i (inR p 1 500)) = 0) (p1 := 60) (L1 := [(0, .ref 92), (1, .int a), (2, .int b), (3, .int p), (4, .int w), (5, .int t)]) (S1 := []) (p2 := 34) (L2 := [(0, .ref 92), (1, .int a), (2, .int b), (3, .int p), (4, .int w), (5, .int t)]) (S2 := []) rfl (fun q => absurd q (b2i_n0.mpr h2.1)) (fun _ => ?_)
  refine wq_run4 (pc' := 41) (L' := [(0, .ref 92), (1, .int a), (2, .int b), (3, .int p), (4, .int w), (5, .int t)]) (S' := [.long 99, .long 0, .long w.toInt64]) (f' := f) rfl ?_
  refine wq_callI (mp_in f w 0 99) (Nat.le_of_ble_eq_true rfl) (pc' := 44) (L' := [(0, .ref 92), (1, .int a), (2, .int b), (3, .int p), (4, .int w), (5, .int t)]) (S' := []) rfl (Nat.le_of_ble_eq_true rfl) rfl rfl (Nat.le_of_ble_eq_true rfl) (Nat.le_of_ble_eq_true rfl) ?_
  refine wq_if (c := (b2i (inR w 0 99)) = 0) (p1 := 60) (L1 := [(0, .ref 92), (1, .int a), (2, .int b), (3, .int p), (4, .int w), (5, .int t)]) (S1 := []) (p2 := 47) (L2 := [(0, .ref 92), (1, .int a), (2, .int b), (3, .int p), (4, .int w), (5, .int t)]) (S2 := []) rfl (fun q => absurd q (b2i_n0.mpr h2.2.1)) (fun _ => ?_)
  refine wq_run4 (pc' := 54) (L' := [(0, .ref 92), (1, .int a), (2, .int b), (3, .int p), (4, .int w), (5, .int t)]) (S' := [.long 60, .long 0, .long t.toInt64]) (f' := f) rfl ?_
  refine wq_callI (mp_in f t 0 60) (Nat.le_of_ble_eq_true rfl) (pc' := 57) (L' := [(0, .ref 92), (1, .int a), (2, .int b), (3, .int p), (4, .int w), (5, .int t)]) (S' := []) rfl (Nat.le_of_ble_eq_true rfl) rfl rfl (Nat.le_of_ble_eq_true rfl) (Nat.le_of_ble_eq_true rfl) ?_
  refine wq_if (c := (b2i (inR t 0 60)) = 0) (p1 := 60) (L1 := [(0, .ref 92), (1, .int a), (2, .int b), (3, .int p), (4, .int w), (5, .int t)]) (S1 := []) (p2 := 63) (L2 := [(0, .ref 92), (1, .int a), (2, .int b), (3, .int p), (4, .int w), (5, .int t)]) (S2 := []) rfl (fun q => absurd q (b2i_n0.mpr h2.2.2)) (fun _ => ?_)
  refine wq_run3 (pc' := 69) (L' := [(0, .ref 92), (1, .int a), (2, .int b), (3, .int p), (4, .int w), (5, .int t)]) (S' := [.int 8, .int (f 92 61)]) (f' := f) rfl ?_
  refine wq_if (c := (f 92 61) = 8) (p1 := 72) (L1 := [(0, .ref 92), (1, .int a), (2, .int b), (3, .int p), (4, .int w), (5, .int t)]) (S1 := []) (p2 := 75) (L2 := [(0, .ref 92), (1, .int a), (2, .int b), (3, .int p), (4, .int w), (5, .int t)]) (S2 := []) rfl (fun _ => ?_) (fun q => absurd h3 q)
  refine wq_run1 (pc' := 74) (L' := [(0, .ref 92), (1, .int a), (2, .int b), (3, .int p), (4, .int w), (5, .int t)]) (S' := [.int (-5)]) (f' := f) rfl ?_
  exact wq_ret rfl ⟨rfl, rfl⟩
theorem mp_want4 (f : HI) (a b p w t : Int32) (h1 : twoT a b) (h2 : wantR p w t) (h3 : ¬ f 92 61 = 8) {n : Nat} (hn : n < 8) (hn2 : f 92 61 = nI n) : Sp 4 197 [.ref 92, .int a, .int b, .int p, .int w, .int t] f (Ret (f 92 61 + 1 - 1) (up2 (up2 (up2 (up2 (up2 (up2 f 130 n a) 131 n b) 132 n p) 133 n w) 134 n t) 92 61 (f 92 61 + 1))) := by
  show wq 4 197 _ 0 [(0, .ref 92), (1, .int a), (2, .int b), (3, .int p), (4, .int w), (5, .int t)] [] f
  refine wq_run1 (pc' := 1) (L' := [(0, .ref 92), (1, .int a), (2, .int b), (3, .int p), (4, .int w), (5, .int t)]) (S' := [.int a]) (f' := f) rfl ?_
  refine wq_callI (mp_isTown f a) (Nat.le_of_ble_eq_true rfl) (pc' := 4) (L' := [(0, .ref 92), (1, .int a), (2, .int b), (3, .int p), (4, .int w), (5, .int t)]) (S' := []) rfl (Nat.le_of_ble_eq_true rfl) rfl rfl (Nat.le_of_ble_eq_true rfl) (Nat.le_of_ble_eq_true rfl) ?_
  refine wq_if (c := (b2i (inR a 0 9)) = 0) (p1 := 19) (L1 := [(0, .ref 92), (1, .int a), (2, .int b), (3, .int p), (4, .int w), (5, .int t)]) (S1 := []) (p2 := 7) (L2 := [(0, .ref 92), (1, .int a), (2, .int b), (3, .int p), (4, .int w), (5, .int t)]) (S2 := []) rfl (fun q => absurd q (b2i_n0.mpr h1.1)) (fun _ => ?_)
  refine wq_run1 (pc' := 8) (L' := [(0, .ref 92), (1, .int a), (2, .int b), (3, .int p), (4, .int w), (5, .int t)]) (S' := [.int b]) (f' := f) rfl ?_
  refine wq_callI (mp_isTown f b) (Nat.le_of_ble_eq_true rfl) (pc' := 11) (L' := [(0, .ref 92), (1, .int a), (2, .int b), (3, .int p), (4, .int w), (5, .int t)]) (S' := []) rfl (Nat.le_of_ble_eq_true rfl) rfl rfl (Nat.le_of_ble_eq_true rfl) (Nat.le_of_ble_eq_true rfl) ?_
  refine wq_if (c := (b2i (inR b 0 9)) = 0) (p1 := 19) (L1 := [(0, .ref 92), (1, .int a), (2, .int b), (3, .int p), (4, .int w), (5, .int t)]) (S1 := []) (p2 := 14) (L2 := [(0, .ref 92), (1, .int a), (2, .int b), (3, .int p), (4, .int w), (5, .int t)]) (S2 := []) rfl (fun q => absurd q (b2i_n0.mpr h1.2.1)) (fun _ => ?_)
  refine wq_run2 (pc' := 16) (L' := [(0, .ref 92), (1, .int a), (2, .int b), (3, .int p), (4, .int w), (5, .int t)]) (S' := [.int b, .int a]) (f' := f) rfl ?_
  refine wq_if (c := a = b) (p1 := 19) (L1 := [(0, .ref 92), (1, .int a), (2, .int b), (3, .int p), (4, .int w), (5, .int t)]) (S1 := []) (p2 := 22) (L2 := [(0, .ref 92), (1, .int a), (2, .int b), (3, .int p), (4, .int w), (5, .int t)]) (S2 := []) rfl (fun q => absurd q h1.2.2) (fun _ => ?_)
  refine wq_run4 (pc' := 28) (L' := [(0, .ref 92), (1, .int a), (2, .int b), (3, .int p), (4, .int w), (5, .int t)]) (S' := [.long 500, .long 1, .long p.toInt64]) (f' := f) rfl ?_
  refine wq_callI (mp_in f p 1 500) (Nat.le_of_ble_eq_true rfl) (pc' := 31) (L' := [(0, .ref 92), (1, .int a), (2, .int b), (3, .int p), (4, .int w), (5, .int t)]) (S' := []) rfl (Nat.le_of_ble_eq_true rfl) rfl rfl (Nat.le_of_ble_eq_true rfl) (Nat.le_of_ble_eq_true rfl) ?_
  refine wq_if (c := (b2i (inR p 1 500)) = 0) (p1 := 60) (L1 := [(0, .ref 92), (1, .int a), (2, .int b), (3, .int p), (4, .int w), (5, .int t)]) (S1 := []) (p2 := 34) (L2 := [(0, .ref 92), (1, .int a), (2, .int b), (3, .int p), (4, .int w), (5, .int t)]) (S2 := []) rfl (fun q => absurd q (b2i_n0.mpr h2.1)) (fun _ => ?_)
  refine wq_run4 (pc' := 41) (L' := [(0, .ref 92), (1, .int a), (2, .int b), (3, .int p), (4, .int w), (5, .int t)]) (S' := [.long 99, .long 0, .long w.toInt64]) (f' := f) rfl ?_
  refine wq_callI (mp_in f w 0 99) (Nat.le_of_ble_eq_true rfl) (pc' := 44) (L' := [(0, .ref 92), (1, .int a), (2, .int b), (3, .int p), (4, .int w), (5, .int t)]) (S' := []) rfl (Nat.le_of_ble_eq_true rfl) rfl rfl (Nat.le_of_ble_eq_true rfl) (Nat.le_of_ble_eq_true rfl) ?_
  refine wq_if (c := (b2i (inR w 0 99)) = 0) (p1 := 60) (L1 := [(0, .ref 92), (1, .int a), (2, .int b), (3, .int p), (4, .int w), (5, .int t)]) (S1 := []) (p2 := 47) (L2 := [(0, .ref 92), (1, .int a), (2, .int b), (3, .int p), (4, .int w), (5, .int t)]) (S2 := []) rfl (fun q => absurd q (b2i_n0.mpr h2.2.1)) (fun _ => ?_)
  refine wq_run4 (pc' := 54) (L' := [(0, .ref 92), (1, .int a), (2, .int b), (3, .int p), (4, .int w), (5, .int t)]) (S' := [.long 60, .long 0, .long t.toInt64]) (f' := f) rfl ?_
  refine wq_callI (mp_in f t 0 60) (Nat.le_of_ble_eq_true rfl) (pc' := 57) (L' := [(0, .ref 92), (1, .int a), (2, .int b), (3, .int p), (4, .int w), (5, .int t)]) (S' := []) rfl (Nat.le_of_ble_eq_true rfl) rfl rfl (Nat.le_of_ble_eq_true rfl) (Nat.le_of_ble_eq_true rfl) ?_
  refine wq_if (c := (b2i (inR t 0 60)) = 0) (p1 := 60) (L1 := [(0, .ref 92), (1, .int a), (2, .int b), (3, .int p), (4, .int w), (5, .int t)]) (S1 := []) (p2 := 63) (L2 := [(0, .ref 92), (1, .int a), (2, .int b), (3, .int p), (4, .int w), (5, .int t)]) (S2 := []) rfl (fun q => absurd q (b2i_n0.mpr h2.2.2)) (fun _ => ?_)
  refine wq_run3 (pc' := 69) (L' := [(0, .ref 92), (1, .int a), (2, .int b), (3, .int p), (4, .int w), (5, .int t)]) (S' := [.int 8, .int (f 92 61)]) (f' := f) rfl ?_
  refine wq_if (c := (f 92 61) = 8) (p1 := 72) (L1 := [(0, .ref 92), (1, .int a), (2, .int b), (3, .int p), (4, .int w), (5, .int t)]) (S1 := []) (p2 := 75) (L2 := [(0, .ref 92), (1, .int a), (2, .int b), (3, .int p), (4, .int w), (5, .int t)]) (S2 := []) rfl (fun q => absurd q h3) (fun _ => ?_)
  refine wq_run5 (pc' := 84) (L' := [(0, .ref 92), (1, .int a), (2, .int b), (3, .int p), (4, .int w), (5, .int t)]) (S' := [.int a, .int (f 92 61), .ref 130]) (f' := f) rfl ?_
  refine wq_ist (j := n) (n := 8) rfl rfl rfl hn2 (by omega) (Nat.le_of_ble_eq_true rfl) ?_
  refine wq_run5 (pc' := 94) (L' := [(0, .ref 92), (1, .int a), (2, .int b), (3, .int p), (4, .int w), (5, .int t)]) (S' := [.int b, .int (f 92 61), .ref 131]) (f' := (up2 f 130 n a)) rfl ?_
  refine wq_ist (j := n) (n := 8) rfl rfl rfl hn2 (by omega) (Nat.le_of_ble_eq_true rfl) ?_
  refine wq_run5 (pc' := 104) (L' := [(0, .ref 92), (1, .int a), (2, .int b), (3, .int p), (4, .int w), (5, .int t)]) (S' := [.int p, .int (f 92 61), .ref 132]) (f' := (up2 (up2 f 130 n a) 131 n b)) rfl ?_
  refine wq_ist (j := n) (n := 8) rfl rfl rfl hn2 (by omega) (Nat.le_of_ble_eq_true rfl) ?_
  refine wq_run5 (pc' := 115) (L' := [(0, .ref 92), (1, .int a), (2, .int b), (3, .int p), (4, .int w), (5, .int t)]) (S' := [.int w, .int (f 92 61), .ref 133]) (f' := (up2 (up2 (up2 f 130 n a) 131 n b) 132 n p)) rfl ?_
  refine wq_ist (j := n) (n := 8) rfl rfl rfl hn2 (by omega) (Nat.le_of_ble_eq_true rfl) ?_
  refine wq_run5 (pc' := 126) (L' := [(0, .ref 92), (1, .int a), (2, .int b), (3, .int p), (4, .int w), (5, .int t)]) (S' := [.int t, .int (f 92 61), .ref 134]) (f' := (up2 (up2 (up2 (up2 f 130 n a) 131 n b) 132 n p) 133 n w)) rfl ?_
  refine wq_ist (j := n) (n := 8) rfl rfl rfl hn2 (by omega) (Nat.le_of_ble_eq_true rfl) ?_
  refine wq_run10 (pc' := 143) (L' := [(0, .ref 92), (1, .int a), (2, .int b), (3, .int p), (4, .int w), (5, .int t)]) (S' := [.int (((f 92 61) + 1) - 1)]) (f' := (up2 (up2 (up2 (up2 (up2 (up2 f 130 n a) 131 n b) 132 n p) 133 n w) 134 n t) 92 61 ((f 92 61) + 1))) rfl ?_
  exact wq_ret rfl ⟨rfl, rfl⟩
