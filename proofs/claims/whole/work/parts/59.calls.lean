/-! calls of the land and of acts: both sides -/
theorem sp_far1 (f : HI) {a b : Int32} (h1 : ¬ (inR a 0 9 ∧ inR b 0 9)) : Sp 3 83 [.ref 0, .int a, .int b] f (Ret (-2) f) := by
  show wq 3 83 (Ret (-2) f) 0 [(0, .ref 0), (1, .int a), (2, .int b)] [] f
  refine wq_run1 (pc' := 1) (L' := [(0, .ref 0), (1, .int a), (2, .int b)]) (S' := [.int a]) (f' := f) rfl ?_
  refine wq_callI (r := (b2i (inR a 0 9))) (sp_isTown f a) (Nat.le_of_ble_eq_true rfl) (pc' := 4) (L' := [(0, .ref 0), (1, .int a), (2, .int b)]) (S' := []) rfl (Nat.le_of_ble_eq_true rfl) rfl rfl (Nat.le_of_ble_eq_true rfl) (Nat.le_of_ble_eq_true rfl) ?_
  refine wq_if (c := (b2i (inR a 0 9)) = 0) (p1 := 14) (L1 := [(0, .ref 0), (1, .int a), (2, .int b)]) (S1 := []) (p2 := 7) (L2 := [(0, .ref 0), (1, .int a), (2, .int b)]) (S2 := []) rfl (fun c_4 => ?_) (fun c_4 => ?_)
  · have h_4 := b2i_0.mp c_4
    refine wq_run1 (pc' := 16) (L' := [(0, .ref 0), (1, .int a), (2, .int b)]) (S' := [.int (-2)]) (f' := f) rfl ?_
    exact wq_ret rfl ⟨rfl, rfl⟩
  · have h_4 := b2i_n0.mp c_4
    refine wq_run1 (pc' := 8) (L' := [(0, .ref 0), (1, .int a), (2, .int b)]) (S' := [.int b]) (f' := f) rfl ?_
    refine wq_callI (r := (b2i (inR b 0 9))) (sp_isTown f b) (Nat.le_of_ble_eq_true rfl) (pc' := 11) (L' := [(0, .ref 0), (1, .int a), (2, .int b)]) (S' := []) rfl (Nat.le_of_ble_eq_true rfl) rfl rfl (Nat.le_of_ble_eq_true rfl) (Nat.le_of_ble_eq_true rfl) ?_
    refine wq_if (c := (b2i (inR b 0 9)) = 0) (p1 := 14) (L1 := [(0, .ref 0), (1, .int a), (2, .int b)]) (S1 := []) (p2 := 17) (L2 := [(0, .ref 0), (1, .int a), (2, .int b)]) (S2 := []) rfl (fun c_11 => ?_) (fun c_11 => ?_)
    · have h_11 := b2i_0.mp c_11
      refine wq_run1 (pc' := 16) (L' := [(0, .ref 0), (1, .int a), (2, .int b)]) (S' := [.int (-2)]) (f' := f) rfl ?_
      exact wq_ret rfl ⟨rfl, rfl⟩
    · have h_11 := b2i_n0.mp c_11
      exact absurd ⟨h_4, h_11⟩ h1
theorem mp_far1 (f : HI) {a b : Int32} (h1 : ¬ (inR a 0 9 ∧ inR b 0 9)) : Sp 3 136 [.ref 92, .int a, .int b] f (Ret (-2) f) := by
  show wq 3 136 (Ret (-2) f) 0 [(0, .ref 92), (1, .int a), (2, .int b)] [] f
  refine wq_run1 (pc' := 1) (L' := [(0, .ref 92), (1, .int a), (2, .int b)]) (S' := [.int a]) (f' := f) rfl ?_
  refine wq_callI (r := (b2i (inR a 0 9))) (mp_isTown f a) (Nat.le_of_ble_eq_true rfl) (pc' := 4) (L' := [(0, .ref 92), (1, .int a), (2, .int b)]) (S' := []) rfl (Nat.le_of_ble_eq_true rfl) rfl rfl (Nat.le_of_ble_eq_true rfl) (Nat.le_of_ble_eq_true rfl) ?_
  refine wq_if (c := (b2i (inR a 0 9)) = 0) (p1 := 23) (L1 := [(0, .ref 92), (1, .int a), (2, .int b)]) (S1 := []) (p2 := 7) (L2 := [(0, .ref 92), (1, .int a), (2, .int b)]) (S2 := []) rfl (fun c_4 => ?_) (fun c_4 => ?_)
  · have h_4 := b2i_0.mp c_4
    refine wq_run1 (pc' := 25) (L' := [(0, .ref 92), (1, .int a), (2, .int b)]) (S' := [.int (-2)]) (f' := f) rfl ?_
    exact wq_ret rfl ⟨rfl, rfl⟩
  · have h_4 := b2i_n0.mp c_4
    refine wq_run1 (pc' := 8) (L' := [(0, .ref 92), (1, .int a), (2, .int b)]) (S' := [.int b]) (f' := f) rfl ?_
    refine wq_callI (r := (b2i (inR b 0 9))) (mp_isTown f b) (Nat.le_of_ble_eq_true rfl) (pc' := 11) (L' := [(0, .ref 92), (1, .int a), (2, .int b)]) (S' := []) rfl (Nat.le_of_ble_eq_true rfl) rfl rfl (Nat.le_of_ble_eq_true rfl) (Nat.le_of_ble_eq_true rfl) ?_
    refine wq_if (c := (b2i (inR b 0 9)) = 0) (p1 := 23) (L1 := [(0, .ref 92), (1, .int a), (2, .int b)]) (S1 := []) (p2 := 14) (L2 := [(0, .ref 92), (1, .int a), (2, .int b)]) (S2 := []) rfl (fun c_11 => ?_) (fun c_11 => ?_)
    · have h_11 := b2i_0.mp c_11
      refine wq_run1 (pc' := 25) (L' := [(0, .ref 92), (1, .int a), (2, .int b)]) (S' := [.int (-2)]) (f' := f) rfl ?_
      exact wq_ret rfl ⟨rfl, rfl⟩
    · have h_11 := b2i_n0.mp c_11
      exact absurd ⟨h_4, h_11⟩ h1
theorem sp_due1 (f : HI) {a b h : Int32} (h1 : ¬ (inR a 0 9 ∧ inR b 0 9)) : Sp 3 84 [.ref 0, .int a, .int b, .int h] f (Ret (-2) f) := by
  show wq 3 84 (Ret (-2) f) 0 [(0, .ref 0), (1, .int a), (2, .int b), (3, .int h)] [] f
  refine wq_run1 (pc' := 1) (L' := [(0, .ref 0), (1, .int a), (2, .int b), (3, .int h)]) (S' := [.int a]) (f' := f) rfl ?_
  refine wq_callI (r := (b2i (inR a 0 9))) (sp_isTown f a) (Nat.le_of_ble_eq_true rfl) (pc' := 4) (L' := [(0, .ref 0), (1, .int a), (2, .int b), (3, .int h)]) (S' := []) rfl (Nat.le_of_ble_eq_true rfl) rfl rfl (Nat.le_of_ble_eq_true rfl) (Nat.le_of_ble_eq_true rfl) ?_
  refine wq_if (c := (b2i (inR a 0 9)) = 0) (p1 := 14) (L1 := [(0, .ref 0), (1, .int a), (2, .int b), (3, .int h)]) (S1 := []) (p2 := 7) (L2 := [(0, .ref 0), (1, .int a), (2, .int b), (3, .int h)]) (S2 := []) rfl (fun c_4 => ?_) (fun c_4 => ?_)
  · have h_4 := b2i_0.mp c_4
    refine wq_run1 (pc' := 16) (L' := [(0, .ref 0), (1, .int a), (2, .int b), (3, .int h)]) (S' := [.int (-2)]) (f' := f) rfl ?_
    exact wq_ret rfl ⟨rfl, rfl⟩
  · have h_4 := b2i_n0.mp c_4
    refine wq_run1 (pc' := 8) (L' := [(0, .ref 0), (1, .int a), (2, .int b), (3, .int h)]) (S' := [.int b]) (f' := f) rfl ?_
    refine wq_callI (r := (b2i (inR b 0 9))) (sp_isTown f b) (Nat.le_of_ble_eq_true rfl) (pc' := 11) (L' := [(0, .ref 0), (1, .int a), (2, .int b), (3, .int h)]) (S' := []) rfl (Nat.le_of_ble_eq_true rfl) rfl rfl (Nat.le_of_ble_eq_true rfl) (Nat.le_of_ble_eq_true rfl) ?_
    refine wq_if (c := (b2i (inR b 0 9)) = 0) (p1 := 14) (L1 := [(0, .ref 0), (1, .int a), (2, .int b), (3, .int h)]) (S1 := []) (p2 := 17) (L2 := [(0, .ref 0), (1, .int a), (2, .int b), (3, .int h)]) (S2 := []) rfl (fun c_11 => ?_) (fun c_11 => ?_)
    · have h_11 := b2i_0.mp c_11
      refine wq_run1 (pc' := 16) (L' := [(0, .ref 0), (1, .int a), (2, .int b), (3, .int h)]) (S' := [.int (-2)]) (f' := f) rfl ?_
      exact wq_ret rfl ⟨rfl, rfl⟩
    · have h_11 := b2i_n0.mp c_11
      exact absurd ⟨h_4, h_11⟩ h1
theorem mp_due1 (f : HI) {a b h : Int32} (h1 : ¬ (inR a 0 9 ∧ inR b 0 9)) : Sp 3 140 [.ref 92, .int a, .int b, .int h] f (Ret (-2) f) := by
  show wq 3 140 (Ret (-2) f) 0 [(0, .ref 92), (1, .int a), (2, .int b), (3, .int h)] [] f
  refine wq_run1 (pc' := 1) (L' := [(0, .ref 92), (1, .int a), (2, .int b), (3, .int h)]) (S' := [.int a]) (f' := f) rfl ?_
  refine wq_callI (r := (b2i (inR a 0 9))) (mp_isTown f a) (Nat.le_of_ble_eq_true rfl) (pc' := 4) (L' := [(0, .ref 92), (1, .int a), (2, .int b), (3, .int h)]) (S' := []) rfl (Nat.le_of_ble_eq_true rfl) rfl rfl (Nat.le_of_ble_eq_true rfl) (Nat.le_of_ble_eq_true rfl) ?_
  refine wq_if (c := (b2i (inR a 0 9)) = 0) (p1 := 14) (L1 := [(0, .ref 92), (1, .int a), (2, .int b), (3, .int h)]) (S1 := []) (p2 := 7) (L2 := [(0, .ref 92), (1, .int a), (2, .int b), (3, .int h)]) (S2 := []) rfl (fun c_4 => ?_) (fun c_4 => ?_)
  · have h_4 := b2i_0.mp c_4
    refine wq_run1 (pc' := 16) (L' := [(0, .ref 92), (1, .int a), (2, .int b), (3, .int h)]) (S' := [.int (-2)]) (f' := f) rfl ?_
    exact wq_ret rfl ⟨rfl, rfl⟩
  · have h_4 := b2i_n0.mp c_4
    refine wq_run1 (pc' := 8) (L' := [(0, .ref 92), (1, .int a), (2, .int b), (3, .int h)]) (S' := [.int b]) (f' := f) rfl ?_
    refine wq_callI (r := (b2i (inR b 0 9))) (mp_isTown f b) (Nat.le_of_ble_eq_true rfl) (pc' := 11) (L' := [(0, .ref 92), (1, .int a), (2, .int b), (3, .int h)]) (S' := []) rfl (Nat.le_of_ble_eq_true rfl) rfl rfl (Nat.le_of_ble_eq_true rfl) (Nat.le_of_ble_eq_true rfl) ?_
    refine wq_if (c := (b2i (inR b 0 9)) = 0) (p1 := 14) (L1 := [(0, .ref 92), (1, .int a), (2, .int b), (3, .int h)]) (S1 := []) (p2 := 17) (L2 := [(0, .ref 92), (1, .int a), (2, .int b), (3, .int h)]) (S2 := []) rfl (fun c_11 => ?_) (fun c_11 => ?_)
    · have h_11 := b2i_0.mp c_11
      refine wq_run1 (pc' := 16) (L' := [(0, .ref 92), (1, .int a), (2, .int b), (3, .int h)]) (S' := [.int (-2)]) (f' := f) rfl ?_
      exact wq_ret rfl ⟨rfl, rfl⟩
    · have h_11 := b2i_n0.mp c_11
      exact absurd ⟨h_4, h_11⟩ h1
theorem sp_due2 (f : HI) {a b h : Int32} (h1 : inR a 0 9 ∧ inR b 0 9) (h2 : ¬ inR h 0 20000) : Sp 3 84 [.ref 0, .int a, .int b, .int h] f (Ret (-3) f) := by
  show wq 3 84 (Ret (-3) f) 0 [(0, .ref 0), (1, .int a), (2, .int b), (3, .int h)] [] f
  refine wq_run1 (pc' := 1) (L' := [(0, .ref 0), (1, .int a), (2, .int b), (3, .int h)]) (S' := [.int a]) (f' := f) rfl ?_
  refine wq_callI (r := (b2i (inR a 0 9))) (sp_isTown f a) (Nat.le_of_ble_eq_true rfl) (pc' := 4) (L' := [(0, .ref 0), (1, .int a), (2, .int b), (3, .int h)]) (S' := []) rfl (Nat.le_of_ble_eq_true rfl) rfl rfl (Nat.le_of_ble_eq_true rfl) (Nat.le_of_ble_eq_true rfl) ?_
  refine wq_if (c := (b2i (inR a 0 9)) = 0) (p1 := 14) (L1 := [(0, .ref 0), (1, .int a), (2, .int b), (3, .int h)]) (S1 := []) (p2 := 7) (L2 := [(0, .ref 0), (1, .int a), (2, .int b), (3, .int h)]) (S2 := []) rfl (fun q => absurd q (b2i_n0.mpr h1.1)) (fun _ => ?_)
  refine wq_run1 (pc' := 8) (L' := [(0, .ref 0), (1, .int a), (2, .int b), (3, .int h)]) (S' := [.int b]) (f' := f) rfl ?_
  refine wq_callI (r := (b2i (inR b 0 9))) (sp_isTown f b) (Nat.le_of_ble_eq_true rfl) (pc' := 11) (L' := [(0, .ref 0), (1, .int a), (2, .int b), (3, .int h)]) (S' := []) rfl (Nat.le_of_ble_eq_true rfl) rfl rfl (Nat.le_of_ble_eq_true rfl) (Nat.le_of_ble_eq_true rfl) ?_
  refine wq_if (c := (b2i (inR b 0 9)) = 0) (p1 := 14) (L1 := [(0, .ref 0), (1, .int a), (2, .int b), (3, .int h)]) (S1 := []) (p2 := 17) (L2 := [(0, .ref 0), (1, .int a), (2, .int b), (3, .int h)]) (S2 := []) rfl (fun q => absurd q (b2i_n0.mpr h1.2)) (fun _ => ?_)
  refine wq_run3 (pc' := 22) (L' := [(0, .ref 0), (1, .int a), (2, .int b), (3, .int h)]) (S' := [.int 20000, .int 0, .int h]) (f' := f) rfl ?_
  refine wq_callI (r := (b2i (inR h 0 20000))) (sp_within f h 0 20000) (Nat.le_of_ble_eq_true rfl) (pc' := 25) (L' := [(0, .ref 0), (1, .int a), (2, .int b), (3, .int h)]) (S' := []) rfl (Nat.le_of_ble_eq_true rfl) rfl rfl (Nat.le_of_ble_eq_true rfl) (Nat.le_of_ble_eq_true rfl) ?_
  refine wq_if (c := (b2i (inR h 0 20000)) = 0) (p1 := 28) (L1 := [(0, .ref 0), (1, .int a), (2, .int b), (3, .int h)]) (S1 := []) (p2 := 31) (L2 := [(0, .ref 0), (1, .int a), (2, .int b), (3, .int h)]) (S2 := []) rfl (fun _ => ?_) (fun q => absurd (b2i_0.mpr h2) q)
  refine wq_run1 (pc' := 30) (L' := [(0, .ref 0), (1, .int a), (2, .int b), (3, .int h)]) (S' := [.int (-3)]) (f' := f) rfl ?_
  exact wq_ret rfl ⟨rfl, rfl⟩
theorem mp_due2 (f : HI) {a b h : Int32} (h1 : inR a 0 9 ∧ inR b 0 9) (h2 : ¬ inR h 0 20000) : Sp 3 140 [.ref 92, .int a, .int b, .int h] f (Ret (-3) f) := by
  show wq 3 140 (Ret (-3) f) 0 [(0, .ref 92), (1, .int a), (2, .int b), (3, .int h)] [] f
  refine wq_run1 (pc' := 1) (L' := [(0, .ref 92), (1, .int a), (2, .int b), (3, .int h)]) (S' := [.int a]) (f' := f) rfl ?_
  refine wq_callI (r := (b2i (inR a 0 9))) (mp_isTown f a) (Nat.le_of_ble_eq_true rfl) (pc' := 4) (L' := [(0, .ref 92), (1, .int a), (2, .int b), (3, .int h)]) (S' := []) rfl (Nat.le_of_ble_eq_true rfl) rfl rfl (Nat.le_of_ble_eq_true rfl) (Nat.le_of_ble_eq_true rfl) ?_
  refine wq_if (c := (b2i (inR a 0 9)) = 0) (p1 := 14) (L1 := [(0, .ref 92), (1, .int a), (2, .int b), (3, .int h)]) (S1 := []) (p2 := 7) (L2 := [(0, .ref 92), (1, .int a), (2, .int b), (3, .int h)]) (S2 := []) rfl (fun q => absurd q (b2i_n0.mpr h1.1)) (fun _ => ?_)
  refine wq_run1 (pc' := 8) (L' := [(0, .ref 92), (1, .int a), (2, .int b), (3, .int h)]) (S' := [.int b]) (f' := f) rfl ?_
  refine wq_callI (r := (b2i (inR b 0 9))) (mp_isTown f b) (Nat.le_of_ble_eq_true rfl) (pc' := 11) (L' := [(0, .ref 92), (1, .int a), (2, .int b), (3, .int h)]) (S' := []) rfl (Nat.le_of_ble_eq_true rfl) rfl rfl (Nat.le_of_ble_eq_true rfl) (Nat.le_of_ble_eq_true rfl) ?_
  refine wq_if (c := (b2i (inR b 0 9)) = 0) (p1 := 14) (L1 := [(0, .ref 92), (1, .int a), (2, .int b), (3, .int h)]) (S1 := []) (p2 := 17) (L2 := [(0, .ref 92), (1, .int a), (2, .int b), (3, .int h)]) (S2 := []) rfl (fun q => absurd q (b2i_n0.mpr h1.2)) (fun _ => ?_)
  refine wq_run4 (pc' := 23) (L' := [(0, .ref 92), (1, .int a), (2, .int b), (3, .int h)]) (S' := [.long 20000, .long 0, .long h.toInt64]) (f' := f) rfl ?_
  refine wq_callI (r := (b2i (inR h 0 20000))) (mp_in f h 0 20000) (Nat.le_of_ble_eq_true rfl) (pc' := 26) (L' := [(0, .ref 92), (1, .int a), (2, .int b), (3, .int h)]) (S' := []) rfl (Nat.le_of_ble_eq_true rfl) rfl rfl (Nat.le_of_ble_eq_true rfl) (Nat.le_of_ble_eq_true rfl) ?_
  refine wq_if (c := (b2i (inR h 0 20000)) = 0) (p1 := 39) (L1 := [(0, .ref 92), (1, .int a), (2, .int b), (3, .int h)]) (S1 := []) (p2 := 29) (L2 := [(0, .ref 92), (1, .int a), (2, .int b), (3, .int h)]) (S2 := []) rfl (fun _ => ?_) (fun q => absurd (b2i_0.mpr h2) q)
  refine wq_run1 (pc' := 41) (L' := [(0, .ref 92), (1, .int a), (2, .int b), (3, .int h)]) (S' := [.int (-3)]) (f' := f) rfl ?_
  exact wq_ret rfl ⟨rfl, rfl⟩
theorem sp_next1 (f : HI) {a b h : Int32} (h1 : ¬ (inR a 0 9 ∧ inR b 0 9)) : Sp 3 85 [.ref 0, .int a, .int b, .int h] f (Ret (-2) f) := by
  show wq 3 85 (Ret (-2) f) 0 [(0, .ref 0), (1, .int a), (2, .int b), (3, .int h)] [] f
  refine wq_run1 (pc' := 1) (L' := [(0, .ref 0), (1, .int a), (2, .int b), (3, .int h)]) (S' := [.int a]) (f' := f) rfl ?_
  refine wq_callI (r := (b2i (inR a 0 9))) (sp_isTown f a) (Nat.le_of_ble_eq_true rfl) (pc' := 4) (L' := [(0, .ref 0), (1, .int a), (2, .int b), (3, .int h)]) (S' := []) rfl (Nat.le_of_ble_eq_true rfl) rfl rfl (Nat.le_of_ble_eq_true rfl) (Nat.le_of_ble_eq_true rfl) ?_
  refine wq_if (c := (b2i (inR a 0 9)) = 0) (p1 := 14) (L1 := [(0, .ref 0), (1, .int a), (2, .int b), (3, .int h)]) (S1 := []) (p2 := 7) (L2 := [(0, .ref 0), (1, .int a), (2, .int b), (3, .int h)]) (S2 := []) rfl (fun c_4 => ?_) (fun c_4 => ?_)
  · have h_4 := b2i_0.mp c_4
    refine wq_run1 (pc' := 16) (L' := [(0, .ref 0), (1, .int a), (2, .int b), (3, .int h)]) (S' := [.int (-2)]) (f' := f) rfl ?_
    exact wq_ret rfl ⟨rfl, rfl⟩
  · have h_4 := b2i_n0.mp c_4
    refine wq_run1 (pc' := 8) (L' := [(0, .ref 0), (1, .int a), (2, .int b), (3, .int h)]) (S' := [.int b]) (f' := f) rfl ?_
    refine wq_callI (r := (b2i (inR b 0 9))) (sp_isTown f b) (Nat.le_of_ble_eq_true rfl) (pc' := 11) (L' := [(0, .ref 0), (1, .int a), (2, .int b), (3, .int h)]) (S' := []) rfl (Nat.le_of_ble_eq_true rfl) rfl rfl (Nat.le_of_ble_eq_true rfl) (Nat.le_of_ble_eq_true rfl) ?_
    refine wq_if (c := (b2i (inR b 0 9)) = 0) (p1 := 14) (L1 := [(0, .ref 0), (1, .int a), (2, .int b), (3, .int h)]) (S1 := []) (p2 := 17) (L2 := [(0, .ref 0), (1, .int a), (2, .int b), (3, .int h)]) (S2 := []) rfl (fun c_11 => ?_) (fun c_11 => ?_)
    · have h_11 := b2i_0.mp c_11
      refine wq_run1 (pc' := 16) (L' := [(0, .ref 0), (1, .int a), (2, .int b), (3, .int h)]) (S' := [.int (-2)]) (f' := f) rfl ?_
      exact wq_ret rfl ⟨rfl, rfl⟩
    · have h_11 := b2i_n0.mp c_11
      exact absurd ⟨h_4, h_11⟩ h1
theorem mp_next1 (f : HI) {a b h : Int32} (h1 : ¬ (inR a 0 9 ∧ inR b 0 9)) : Sp 3 142 [.ref 92, .int a, .int b, .int h] f (Ret (-2) f) := by
  show wq 3 142 (Ret (-2) f) 0 [(0, .ref 92), (1, .int a), (2, .int b), (3, .int h)] [] f
  refine wq_run1 (pc' := 1) (L' := [(0, .ref 92), (1, .int a), (2, .int b), (3, .int h)]) (S' := [.int a]) (f' := f) rfl ?_
  refine wq_callI (r := (b2i (inR a 0 9))) (mp_isTown f a) (Nat.le_of_ble_eq_true rfl) (pc' := 4) (L' := [(0, .ref 92), (1, .int a), (2, .int b), (3, .int h)]) (S' := []) rfl (Nat.le_of_ble_eq_true rfl) rfl rfl (Nat.le_of_ble_eq_true rfl) (Nat.le_of_ble_eq_true rfl) ?_
  refine wq_if (c := (b2i (inR a 0 9)) = 0) (p1 := 14) (L1 := [(0, .ref 92), (1, .int a), (2, .int b), (3, .int h)]) (S1 := []) (p2 := 7) (L2 := [(0, .ref 92), (1, .int a), (2, .int b), (3, .int h)]) (S2 := []) rfl (fun c_4 => ?_) (fun c_4 => ?_)
  · have h_4 := b2i_0.mp c_4
    refine wq_run1 (pc' := 16) (L' := [(0, .ref 92), (1, .int a), (2, .int b), (3, .int h)]) (S' := [.int (-2)]) (f' := f) rfl ?_
    exact wq_ret rfl ⟨rfl, rfl⟩
  · have h_4 := b2i_n0.mp c_4
    refine wq_run1 (pc' := 8) (L' := [(0, .ref 92), (1, .int a), (2, .int b), (3, .int h)]) (S' := [.int b]) (f' := f) rfl ?_
    refine wq_callI (r := (b2i (inR b 0 9))) (mp_isTown f b) (Nat.le_of_ble_eq_true rfl) (pc' := 11) (L' := [(0, .ref 92), (1, .int a), (2, .int b), (3, .int h)]) (S' := []) rfl (Nat.le_of_ble_eq_true rfl) rfl rfl (Nat.le_of_ble_eq_true rfl) (Nat.le_of_ble_eq_true rfl) ?_
    refine wq_if (c := (b2i (inR b 0 9)) = 0) (p1 := 14) (L1 := [(0, .ref 92), (1, .int a), (2, .int b), (3, .int h)]) (S1 := []) (p2 := 17) (L2 := [(0, .ref 92), (1, .int a), (2, .int b), (3, .int h)]) (S2 := []) rfl (fun c_11 => ?_) (fun c_11 => ?_)
    · have h_11 := b2i_0.mp c_11
      refine wq_run1 (pc' := 16) (L' := [(0, .ref 92), (1, .int a), (2, .int b), (3, .int h)]) (S' := [.int (-2)]) (f' := f) rfl ?_
      exact wq_ret rfl ⟨rfl, rfl⟩
    · have h_11 := b2i_n0.mp c_11
      exact absurd ⟨h_4, h_11⟩ h1
theorem sp_next2 (f : HI) {a b h : Int32} (h1 : inR a 0 9 ∧ inR b 0 9) (h2 : ¬ inR h 0 20000) : Sp 3 85 [.ref 0, .int a, .int b, .int h] f (Ret (-3) f) := by
  show wq 3 85 (Ret (-3) f) 0 [(0, .ref 0), (1, .int a), (2, .int b), (3, .int h)] [] f
  refine wq_run1 (pc' := 1) (L' := [(0, .ref 0), (1, .int a), (2, .int b), (3, .int h)]) (S' := [.int a]) (f' := f) rfl ?_
  refine wq_callI (r := (b2i (inR a 0 9))) (sp_isTown f a) (Nat.le_of_ble_eq_true rfl) (pc' := 4) (L' := [(0, .ref 0), (1, .int a), (2, .int b), (3, .int h)]) (S' := []) rfl (Nat.le_of_ble_eq_true rfl) rfl rfl (Nat.le_of_ble_eq_true rfl) (Nat.le_of_ble_eq_true rfl) ?_
  refine wq_if (c := (b2i (inR a 0 9)) = 0) (p1 := 14) (L1 := [(0, .ref 0), (1, .int a), (2, .int b), (3, .int h)]) (S1 := []) (p2 := 7) (L2 := [(0, .ref 0), (1, .int a), (2, .int b), (3, .int h)]) (S2 := []) rfl (fun q => absurd q (b2i_n0.mpr h1.1)) (fun _ => ?_)
  refine wq_run1 (pc' := 8) (L' := [(0, .ref 0), (1, .int a), (2, .int b), (3, .int h)]) (S' := [.int b]) (f' := f) rfl ?_
  refine wq_callI (r := (b2i (inR b 0 9))) (sp_isTown f b) (Nat.le_of_ble_eq_true rfl) (pc' := 11) (L' := [(0, .ref 0), (1, .int a), (2, .int b), (3, .int h)]) (S' := []) rfl (Nat.le_of_ble_eq_true rfl) rfl rfl (Nat.le_of_ble_eq_true rfl) (Nat.le_of_ble_eq_true rfl) ?_
  refine wq_if (c := (b2i (inR b 0 9)) = 0) (p1 := 14) (L1 := [(0, .ref 0), (1, .int a), (2, .int b), (3, .int h)]) (S1 := []) (p2 := 17) (L2 := [(0, .ref 0), (1, .int a), (2, .int b), (3, .int h)]) (S2 := []) rfl (fun q => absurd q (b2i_n0.mpr h1.2)) (fun _ => ?_)
  refine wq_run3 (pc' := 22) (L' := [(0, .ref 0), (1, .int a), (2, .int b), (3, .int h)]) (S' := [.int 20000, .int 0, .int h]) (f' := f) rfl ?_
  refine wq_callI (r := (b2i (inR h 0 20000))) (sp_within f h 0 20000) (Nat.le_of_ble_eq_true rfl) (pc' := 25) (L' := [(0, .ref 0), (1, .int a), (2, .int b), (3, .int h)]) (S' := []) rfl (Nat.le_of_ble_eq_true rfl) rfl rfl (Nat.le_of_ble_eq_true rfl) (Nat.le_of_ble_eq_true rfl) ?_
  refine wq_if (c := (b2i (inR h 0 20000)) = 0) (p1 := 28) (L1 := [(0, .ref 0), (1, .int a), (2, .int b), (3, .int h)]) (S1 := []) (p2 := 31) (L2 := [(0, .ref 0), (1, .int a), (2, .int b), (3, .int h)]) (S2 := []) rfl (fun _ => ?_) (fun q => absurd (b2i_0.mpr h2) q)
  refine wq_run1 (pc' := 30) (L' := [(0, .ref 0), (1, .int a), (2, .int b), (3, .int h)]) (S' := [.int (-3)]) (f' := f) rfl ?_
  exact wq_ret rfl ⟨rfl, rfl⟩
theorem mp_next2 (f : HI) {a b h : Int32} (h1 : inR a 0 9 ∧ inR b 0 9) (h2 : ¬ inR h 0 20000) : Sp 3 142 [.ref 92, .int a, .int b, .int h] f (Ret (-3) f) := by
  show wq 3 142 (Ret (-3) f) 0 [(0, .ref 92), (1, .int a), (2, .int b), (3, .int h)] [] f
  refine wq_run1 (pc' := 1) (L' := [(0, .ref 92), (1, .int a), (2, .int b), (3, .int h)]) (S' := [.int a]) (f' := f) rfl ?_
  refine wq_callI (r := (b2i (inR a 0 9))) (mp_isTown f a) (Nat.le_of_ble_eq_true rfl) (pc' := 4) (L' := [(0, .ref 92), (1, .int a), (2, .int b), (3, .int h)]) (S' := []) rfl (Nat.le_of_ble_eq_true rfl) rfl rfl (Nat.le_of_ble_eq_true rfl) (Nat.le_of_ble_eq_true rfl) ?_
  refine wq_if (c := (b2i (inR a 0 9)) = 0) (p1 := 14) (L1 := [(0, .ref 92), (1, .int a), (2, .int b), (3, .int h)]) (S1 := []) (p2 := 7) (L2 := [(0, .ref 92), (1, .int a), (2, .int b), (3, .int h)]) (S2 := []) rfl (fun q => absurd q (b2i_n0.mpr h1.1)) (fun _ => ?_)
  refine wq_run1 (pc' := 8) (L' := [(0, .ref 92), (1, .int a), (2, .int b), (3, .int h)]) (S' := [.int b]) (f' := f) rfl ?_
  refine wq_callI (r := (b2i (inR b 0 9))) (mp_isTown f b) (Nat.le_of_ble_eq_true rfl) (pc' := 11) (L' := [(0, .ref 92), (1, .int a), (2, .int b), (3, .int h)]) (S' := []) rfl (Nat.le_of_ble_eq_true rfl) rfl rfl (Nat.le_of_ble_eq_true rfl) (Nat.le_of_ble_eq_true rfl) ?_
  refine wq_if (c := (b2i (inR b 0 9)) = 0) (p1 := 14) (L1 := [(0, .ref 92), (1, .int a), (2, .int b), (3, .int h)]) (S1 := []) (p2 := 17) (L2 := [(0, .ref 92), (1, .int a), (2, .int b), (3, .int h)]) (S2 := []) rfl (fun q => absurd q (b2i_n0.mpr h1.2)) (fun _ => ?_)
  refine wq_run4 (pc' := 23) (L' := [(0, .ref 92), (1, .int a), (2, .int b), (3, .int h)]) (S' := [.long 20000, .long 0, .long h.toInt64]) (f' := f) rfl ?_
  refine wq_callI (r := (b2i (inR h 0 20000))) (mp_in f h 0 20000) (Nat.le_of_ble_eq_true rfl) (pc' := 26) (L' := [(0, .ref 92), (1, .int a), (2, .int b), (3, .int h)]) (S' := []) rfl (Nat.le_of_ble_eq_true rfl) rfl rfl (Nat.le_of_ble_eq_true rfl) (Nat.le_of_ble_eq_true rfl) ?_
  refine wq_if (c := (b2i (inR h 0 20000)) = 0) (p1 := 39) (L1 := [(0, .ref 92), (1, .int a), (2, .int b), (3, .int h)]) (S1 := []) (p2 := 29) (L2 := [(0, .ref 92), (1, .int a), (2, .int b), (3, .int h)]) (S2 := []) rfl (fun _ => ?_) (fun q => absurd (b2i_0.mpr h2) q)
  refine wq_run1 (pc' := 41) (L' := [(0, .ref 92), (1, .int a), (2, .int b), (3, .int h)]) (S' := [.int (-3)]) (f' := f) rfl ?_
  exact wq_ret rfl ⟨rfl, rfl⟩
theorem sp_far2 {f : HI} {D : Nat → Nat → Nat} {a b : Nat} (ha : a < 10) (hb : b < 10) (hsz : f 3 0 = 10) (hD : Mt 10 100000000 200 D) (hr : ∀ p q, p < 10 → q < 10 → f 4 (p * 10 + q) = nI (D p q)) : Sp 3 83 [.ref 0, .int (nI a), .int (nI b)] f (Ret (dJ (D a b)) f) := by
  show wq 3 83 (Ret (dJ (D a b)) f) 0 [(0, .ref 0), (1, .int (nI a)), (2, .int (nI b))] [] f
  have hta : inR (nI a) 0 9 := ⟨nI_pos' (by omega), (nI_leI (a := a) (b := 9) (by omega) (by omega)).mpr (by omega)⟩
  have htb : inR (nI b) 0 9 := ⟨nI_pos' (by omega), (nI_leI (a := b) (b := 9) (by omega) (by omega)).mpr (by omega)⟩
  refine wq_run1 (pc' := 1) (L' := [(0, .ref 0), (1, .int (nI a)), (2, .int (nI b))]) (S' := [.int (nI a)]) (f' := f) rfl ?_
  refine wq_callI (r := (b2i (inR (nI a) 0 9))) (sp_isTown f (nI a)) (Nat.le_of_ble_eq_true rfl) (pc' := 4) (L' := [(0, .ref 0), (1, .int (nI a)), (2, .int (nI b))]) (S' := []) rfl (Nat.le_of_ble_eq_true rfl) rfl rfl (Nat.le_of_ble_eq_true rfl) (Nat.le_of_ble_eq_true rfl) ?_
  refine wq_if (c := (b2i (inR (nI a) 0 9)) = 0) (p1 := 14) (L1 := [(0, .ref 0), (1, .int (nI a)), (2, .int (nI b))]) (S1 := []) (p2 := 7) (L2 := [(0, .ref 0), (1, .int (nI a)), (2, .int (nI b))]) (S2 := []) rfl (fun q => absurd q (b2i_n0.mpr hta)) (fun _ => ?_)
  refine wq_run1 (pc' := 8) (L' := [(0, .ref 0), (1, .int (nI a)), (2, .int (nI b))]) (S' := [.int (nI b)]) (f' := f) rfl ?_
  refine wq_callI (r := (b2i (inR (nI b) 0 9))) (sp_isTown f (nI b)) (Nat.le_of_ble_eq_true rfl) (pc' := 11) (L' := [(0, .ref 0), (1, .int (nI a)), (2, .int (nI b))]) (S' := []) rfl (Nat.le_of_ble_eq_true rfl) rfl rfl (Nat.le_of_ble_eq_true rfl) (Nat.le_of_ble_eq_true rfl) ?_
  refine wq_if (c := (b2i (inR (nI b) 0 9)) = 0) (p1 := 14) (L1 := [(0, .ref 0), (1, .int (nI a)), (2, .int (nI b))]) (S1 := []) (p2 := 17) (L2 := [(0, .ref 0), (1, .int (nI a)), (2, .int (nI b))]) (S2 := []) rfl (fun q => absurd q (b2i_n0.mpr htb)) (fun _ => ?_)
  refine wq_run5 (pc' := 26) (L' := [(0, .ref 0), (1, .int (nI a)), (2, .int (nI b))]) (S' := [.int (nI b), .int (nI a), .ref 3]) (f' := f) rfl ?_
  refine wq_callI (r := (dJ (D a b))) (sp_betweenL hsz hD ha hb hr) (Nat.le_of_ble_eq_true rfl) (pc' := 29) (L' := [(0, .ref 0), (1, .int (nI a)), (2, .int (nI b))]) (S' := []) rfl (Nat.le_of_ble_eq_true rfl) rfl rfl (Nat.le_of_ble_eq_true rfl) (Nat.le_of_ble_eq_true rfl) ?_
  exact wq_ret rfl ⟨rfl, rfl⟩
theorem mp_far2 {f : HI} {D : Nat → Nat → Nat} {a b : Nat} (ha : a < 10) (hb : b < 10) {W : Nat → Nat → Nat} {w : Nat} (hM : LaM f W w) (hI : LaI f W w D) : Sp 3 136 [.ref 92, .int (nI a), .int (nI b)] f (fun v f' => ∃ g, v = some (.int (dJ (D a b))) ∧ f' = up1 f 136 g) := by
  show wq 3 136 (fun v f' => ∃ g, v = some (.int (dJ (D a b))) ∧ f' = up1 f 136 g) 0 [(0, .ref 92), (1, .int (nI a)), (2, .int (nI b))] [] f
  have hta : inR (nI a) 0 9 := ⟨nI_pos' (by omega), (nI_leI (a := a) (b := 9) (by omega) (by omega)).mpr (by omega)⟩
  have htb : inR (nI b) 0 9 := ⟨nI_pos' (by omega), (nI_leI (a := b) (b := 9) (by omega) (by omega)).mpr (by omega)⟩
  refine wq_run1 (pc' := 1) (L' := [(0, .ref 92), (1, .int (nI a)), (2, .int (nI b))]) (S' := [.int (nI a)]) (f' := f) rfl ?_
  refine wq_callI (r := (b2i (inR (nI a) 0 9))) (mp_isTown f (nI a)) (Nat.le_of_ble_eq_true rfl) (pc' := 4) (L' := [(0, .ref 92), (1, .int (nI a)), (2, .int (nI b))]) (S' := []) rfl (Nat.le_of_ble_eq_true rfl) rfl rfl (Nat.le_of_ble_eq_true rfl) (Nat.le_of_ble_eq_true rfl) ?_
  refine wq_if (c := (b2i (inR (nI a) 0 9)) = 0) (p1 := 23) (L1 := [(0, .ref 92), (1, .int (nI a)), (2, .int (nI b))]) (S1 := []) (p2 := 7) (L2 := [(0, .ref 92), (1, .int (nI a)), (2, .int (nI b))]) (S2 := []) rfl (fun q => absurd q (b2i_n0.mpr hta)) (fun _ => ?_)
  refine wq_run1 (pc' := 8) (L' := [(0, .ref 92), (1, .int (nI a)), (2, .int (nI b))]) (S' := [.int (nI b)]) (f' := f) rfl ?_
  refine wq_callI (r := (b2i (inR (nI b) 0 9))) (mp_isTown f (nI b)) (Nat.le_of_ble_eq_true rfl) (pc' := 11) (L' := [(0, .ref 92), (1, .int (nI a)), (2, .int (nI b))]) (S' := []) rfl (Nat.le_of_ble_eq_true rfl) rfl rfl (Nat.le_of_ble_eq_true rfl) (Nat.le_of_ble_eq_true rfl) ?_
  refine wq_if (c := (b2i (inR (nI b) 0 9)) = 0) (p1 := 23) (L1 := [(0, .ref 92), (1, .int (nI a)), (2, .int (nI b))]) (S1 := []) (p2 := 14) (L2 := [(0, .ref 92), (1, .int (nI a)), (2, .int (nI b))]) (S2 := []) rfl (fun q => absurd q (b2i_n0.mpr htb)) (fun _ => ?_)
  refine wq_run3 (pc' := 17) (L' := [(0, .ref 92), (1, .int (nI a)), (2, .int (nI b))]) (S' := [.int (nI b), .int (nI a), .ref 92]) (f' := f) rfl ?_
  refine wq_call (mp_farOf hM hI ha hb) (Nat.le_of_ble_eq_true rfl) (pc' := 20) (L' := [(0, .ref 92), (1, .int (nI a)), (2, .int (nI b))]) (S' := []) rfl (Nat.le_of_ble_eq_true rfl) rfl rfl (Nat.le_of_ble_eq_true rfl) (Nat.le_of_ble_eq_true rfl) ?_
  rintro v f9 ⟨g, e0, ef⟩
  subst e0
  subst ef
  refine wq_run1 (pc' := 25) (L' := [(0, .ref 92), (1, .int (nI a)), (2, .int (nI b))]) (S' := [.int (dJ (D a b))]) (f' := (up1 f 136 g)) rfl ?_
  exact wq_ret rfl ⟨g, rfl, rfl⟩
theorem sp_due3 {f : HI} {W : Nat → Nat → Nat} {w a b h : Nat} (ha : a < 10) (hb : b < 10) (hh : h ≤ 20000) (hL : LaC f W w) : Sp 5 84 [.ref 0, .int (nI a), .int (nI b), .int (nI h)] f (fun v f' => ∃ g, v = some (.int (dI (arN W w a h b))) ∧ f' = up1 f 10 g) := by
  show wq 5 84 (fun v f' => ∃ g, v = some (.int (dI (arN W w a h b))) ∧ f' = up1 f 10 g) 0 [(0, .ref 0), (1, .int (nI a)), (2, .int (nI b)), (3, .int (nI h))] [] f
  have hta : inR (nI a) 0 9 := ⟨nI_pos' (by omega), (nI_leI (a := a) (b := 9) (by omega) (by omega)).mpr (by omega)⟩
  have htb : inR (nI b) 0 9 := ⟨nI_pos' (by omega), (nI_leI (a := b) (b := 9) (by omega) (by omega)).mpr (by omega)⟩
  have hth : inR (nI h) 0 20000 := ⟨nI_pos' (by omega), (nI_leI (a := h) (b := 20000) (by omega) (by omega)).mpr (by omega)⟩
  refine wq_run1 (pc' := 1) (L' := [(0, .ref 0), (1, .int (nI a)), (2, .int (nI b)), (3, .int (nI h))]) (S' := [.int (nI a)]) (f' := f) rfl ?_
  refine wq_callI (r := (b2i (inR (nI a) 0 9))) (sp_isTown f (nI a)) (Nat.le_of_ble_eq_true rfl) (pc' := 4) (L' := [(0, .ref 0), (1, .int (nI a)), (2, .int (nI b)), (3, .int (nI h))]) (S' := []) rfl (Nat.le_of_ble_eq_true rfl) rfl rfl (Nat.le_of_ble_eq_true rfl) (Nat.le_of_ble_eq_true rfl) ?_
  refine wq_if (c := (b2i (inR (nI a) 0 9)) = 0) (p1 := 14) (L1 := [(0, .ref 0), (1, .int (nI a)), (2, .int (nI b)), (3, .int (nI h))]) (S1 := []) (p2 := 7) (L2 := [(0, .ref 0), (1, .int (nI a)), (2, .int (nI b)), (3, .int (nI h))]) (S2 := []) rfl (fun q => absurd q (b2i_n0.mpr hta)) (fun _ => ?_)
  refine wq_run1 (pc' := 8) (L' := [(0, .ref 0), (1, .int (nI a)), (2, .int (nI b)), (3, .int (nI h))]) (S' := [.int (nI b)]) (f' := f) rfl ?_
  refine wq_callI (r := (b2i (inR (nI b) 0 9))) (sp_isTown f (nI b)) (Nat.le_of_ble_eq_true rfl) (pc' := 11) (L' := [(0, .ref 0), (1, .int (nI a)), (2, .int (nI b)), (3, .int (nI h))]) (S' := []) rfl (Nat.le_of_ble_eq_true rfl) rfl rfl (Nat.le_of_ble_eq_true rfl) (Nat.le_of_ble_eq_true rfl) ?_
  refine wq_if (c := (b2i (inR (nI b) 0 9)) = 0) (p1 := 14) (L1 := [(0, .ref 0), (1, .int (nI a)), (2, .int (nI b)), (3, .int (nI h))]) (S1 := []) (p2 := 17) (L2 := [(0, .ref 0), (1, .int (nI a)), (2, .int (nI b)), (3, .int (nI h))]) (S2 := []) rfl (fun q => absurd q (b2i_n0.mpr htb)) (fun _ => ?_)
  refine wq_run3 (pc' := 22) (L' := [(0, .ref 0), (1, .int (nI a)), (2, .int (nI b)), (3, .int (nI h))]) (S' := [.int 20000, .int 0, .int (nI h)]) (f' := f) rfl ?_
  refine wq_callI (r := (b2i (inR (nI h) 0 20000))) (sp_within f (nI h) 0 20000) (Nat.le_of_ble_eq_true rfl) (pc' := 25) (L' := [(0, .ref 0), (1, .int (nI a)), (2, .int (nI b)), (3, .int (nI h))]) (S' := []) rfl (Nat.le_of_ble_eq_true rfl) rfl rfl (Nat.le_of_ble_eq_true rfl) (Nat.le_of_ble_eq_true rfl) ?_
  refine wq_if (c := (b2i (inR (nI h) 0 20000)) = 0) (p1 := 28) (L1 := [(0, .ref 0), (1, .int (nI a)), (2, .int (nI b)), (3, .int (nI h))]) (S1 := []) (p2 := 31) (L2 := [(0, .ref 0), (1, .int (nI a)), (2, .int (nI b)), (3, .int (nI h))]) (S2 := []) rfl (fun q => absurd q (b2i_n0.mpr hth)) (fun _ => ?_)
  refine wq_run5 (pc' := 38) (L' := [(0, .ref 0), (1, .int (nI a)), (2, .int (nI b)), (3, .int (nI h))]) (S' := [.int (nI h), .int (nI b), .int (nI a), .ref 2]) (f' := f) rfl ?_
  refine wq_call (sp_arrival hL ha hb (by omega)) (Nat.le_of_ble_eq_true rfl) (pc' := 41) (L' := [(0, .ref 0), (1, .int (nI a)), (2, .int (nI b)), (3, .int (nI h))]) (S' := []) rfl (Nat.le_of_ble_eq_true rfl) rfl rfl (Nat.le_of_ble_eq_true rfl) (Nat.le_of_ble_eq_true rfl) ?_
  rintro v f9 ⟨g, e0, ef⟩
  subst e0
  subst ef
  exact wq_ret rfl ⟨g, rfl, rfl⟩
theorem mp_due3 {f : HI} {W : Nat → Nat → Nat} {w a b h : Nat} (ha : a < 10) (hb : b < 10) (hh : h ≤ 20000) (hM : LaM f W w) : Sp 4 140 [.ref 92, .int (nI a), .int (nI b), .int (nI h)] f (fun v f' => ∃ g, v = some (.int (dI (arN W w a h b))) ∧ f' = up1 f 136 g) := by
  show wq 4 140 (fun v f' => ∃ g, v = some (.int (dI (arN W w a h b))) ∧ f' = up1 f 136 g) 0 [(0, .ref 92), (1, .int (nI a)), (2, .int (nI b)), (3, .int (nI h))] [] f
  have hta : inR (nI a) 0 9 := ⟨nI_pos' (by omega), (nI_leI (a := a) (b := 9) (by omega) (by omega)).mpr (by omega)⟩
  have htb : inR (nI b) 0 9 := ⟨nI_pos' (by omega), (nI_leI (a := b) (b := 9) (by omega) (by omega)).mpr (by omega)⟩
  have hth : inR (nI h) 0 20000 := ⟨nI_pos' (by omega), (nI_leI (a := h) (b := 20000) (by omega) (by omega)).mpr (by omega)⟩
  refine wq_run1 (pc' := 1) (L' := [(0, .ref 92), (1, .int (nI a)), (2, .int (nI b)), (3, .int (nI h))]) (S' := [.int (nI a)]) (f' := f) rfl ?_
  refine wq_callI (r := (b2i (inR (nI a) 0 9))) (mp_isTown f (nI a)) (Nat.le_of_ble_eq_true rfl) (pc' := 4) (L' := [(0, .ref 92), (1, .int (nI a)), (2, .int (nI b)), (3, .int (nI h))]) (S' := []) rfl (Nat.le_of_ble_eq_true rfl) rfl rfl (Nat.le_of_ble_eq_true rfl) (Nat.le_of_ble_eq_true rfl) ?_
  refine wq_if (c := (b2i (inR (nI a) 0 9)) = 0) (p1 := 14) (L1 := [(0, .ref 92), (1, .int (nI a)), (2, .int (nI b)), (3, .int (nI h))]) (S1 := []) (p2 := 7) (L2 := [(0, .ref 92), (1, .int (nI a)), (2, .int (nI b)), (3, .int (nI h))]) (S2 := []) rfl (fun q => absurd q (b2i_n0.mpr hta)) (fun _ => ?_)
  refine wq_run1 (pc' := 8) (L' := [(0, .ref 92), (1, .int (nI a)), (2, .int (nI b)), (3, .int (nI h))]) (S' := [.int (nI b)]) (f' := f) rfl ?_
  refine wq_callI (r := (b2i (inR (nI b) 0 9))) (mp_isTown f (nI b)) (Nat.le_of_ble_eq_true rfl) (pc' := 11) (L' := [(0, .ref 92), (1, .int (nI a)), (2, .int (nI b)), (3, .int (nI h))]) (S' := []) rfl (Nat.le_of_ble_eq_true rfl) rfl rfl (Nat.le_of_ble_eq_true rfl) (Nat.le_of_ble_eq_true rfl) ?_
  refine wq_if (c := (b2i (inR (nI b) 0 9)) = 0) (p1 := 14) (L1 := [(0, .ref 92), (1, .int (nI a)), (2, .int (nI b)), (3, .int (nI h))]) (S1 := []) (p2 := 17) (L2 := [(0, .ref 92), (1, .int (nI a)), (2, .int (nI b)), (3, .int (nI h))]) (S2 := []) rfl (fun q => absurd q (b2i_n0.mpr htb)) (fun _ => ?_)
  refine wq_run4 (pc' := 23) (L' := [(0, .ref 92), (1, .int (nI a)), (2, .int (nI b)), (3, .int (nI h))]) (S' := [.long 20000, .long 0, .long (nI h).toInt64]) (f' := f) rfl ?_
  refine wq_callI (r := (b2i (inR (nI h) 0 20000))) (mp_in f (nI h) 0 20000) (Nat.le_of_ble_eq_true rfl) (pc' := 26) (L' := [(0, .ref 92), (1, .int (nI a)), (2, .int (nI b)), (3, .int (nI h))]) (S' := []) rfl (Nat.le_of_ble_eq_true rfl) rfl rfl (Nat.le_of_ble_eq_true rfl) (Nat.le_of_ble_eq_true rfl) ?_
  refine wq_if (c := (b2i (inR (nI h) 0 20000)) = 0) (p1 := 39) (L1 := [(0, .ref 92), (1, .int (nI a)), (2, .int (nI b)), (3, .int (nI h))]) (S1 := []) (p2 := 29) (L2 := [(0, .ref 92), (1, .int (nI a)), (2, .int (nI b)), (3, .int (nI h))]) (S2 := []) rfl (fun q => absurd q (b2i_n0.mpr hth)) (fun _ => ?_)
  refine wq_run4 (pc' := 33) (L' := [(0, .ref 92), (1, .int (nI a)), (2, .int (nI b)), (3, .int (nI h))]) (S' := [.int (nI h), .int (nI b), .int (nI a), .ref 92]) (f' := f) rfl ?_
  refine wq_call (mp_dueOf hM ha hb (by omega)) (Nat.le_of_ble_eq_true rfl) (pc' := 36) (L' := [(0, .ref 92), (1, .int (nI a)), (2, .int (nI b)), (3, .int (nI h))]) (S' := []) rfl (Nat.le_of_ble_eq_true rfl) rfl rfl (Nat.le_of_ble_eq_true rfl) (Nat.le_of_ble_eq_true rfl) ?_
  rintro v f9 ⟨g, e0, ef⟩
  subst e0
  subst ef
  refine wq_run1 (pc' := 41) (L' := [(0, .ref 92), (1, .int (nI a)), (2, .int (nI b)), (3, .int (nI h))]) (S' := [.int (dI (arN W w a h b))]) (f' := (up1 f 136 g)) rfl ?_
  exact wq_ret rfl ⟨g, rfl, rfl⟩
theorem sp_next3 {f : HI} {W : Nat → Nat → Nat} {w a b h : Nat} (ha : a < 10) (hb : b < 10) (hh : h ≤ 20000) (hL : LaC f W w) : Sp 6 85 [.ref 0, .int (nI a), .int (nI b), .int (nI h)] f (fun v f' => ∃ g, v = some (.int (obI (bsM W w a b h))) ∧ f' = up1 f 10 g) := by
  show wq 6 85 (fun v f' => ∃ g, v = some (.int (obI (bsM W w a b h))) ∧ f' = up1 f 10 g) 0 [(0, .ref 0), (1, .int (nI a)), (2, .int (nI b)), (3, .int (nI h))] [] f
  have hta : inR (nI a) 0 9 := ⟨nI_pos' (by omega), (nI_leI (a := a) (b := 9) (by omega) (by omega)).mpr (by omega)⟩
  have htb : inR (nI b) 0 9 := ⟨nI_pos' (by omega), (nI_leI (a := b) (b := 9) (by omega) (by omega)).mpr (by omega)⟩
  have hth : inR (nI h) 0 20000 := ⟨nI_pos' (by omega), (nI_leI (a := h) (b := 20000) (by omega) (by omega)).mpr (by omega)⟩
  refine wq_run1 (pc' := 1) (L' := [(0, .ref 0), (1, .int (nI a)), (2, .int (nI b)), (3, .int (nI h))]) (S' := [.int (nI a)]) (f' := f) rfl ?_
  refine wq_callI (r := (b2i (inR (nI a) 0 9))) (sp_isTown f (nI a)) (Nat.le_of_ble_eq_true rfl) (pc' := 4) (L' := [(0, .ref 0), (1, .int (nI a)), (2, .int (nI b)), (3, .int (nI h))]) (S' := []) rfl (Nat.le_of_ble_eq_true rfl) rfl rfl (Nat.le_of_ble_eq_true rfl) (Nat.le_of_ble_eq_true rfl) ?_
  refine wq_if (c := (b2i (inR (nI a) 0 9)) = 0) (p1 := 14) (L1 := [(0, .ref 0), (1, .int (nI a)), (2, .int (nI b)), (3, .int (nI h))]) (S1 := []) (p2 := 7) (L2 := [(0, .ref 0), (1, .int (nI a)), (2, .int (nI b)), (3, .int (nI h))]) (S2 := []) rfl (fun q => absurd q (b2i_n0.mpr hta)) (fun _ => ?_)
  refine wq_run1 (pc' := 8) (L' := [(0, .ref 0), (1, .int (nI a)), (2, .int (nI b)), (3, .int (nI h))]) (S' := [.int (nI b)]) (f' := f) rfl ?_
  refine wq_callI (r := (b2i (inR (nI b) 0 9))) (sp_isTown f (nI b)) (Nat.le_of_ble_eq_true rfl) (pc' := 11) (L' := [(0, .ref 0), (1, .int (nI a)), (2, .int (nI b)), (3, .int (nI h))]) (S' := []) rfl (Nat.le_of_ble_eq_true rfl) rfl rfl (Nat.le_of_ble_eq_true rfl) (Nat.le_of_ble_eq_true rfl) ?_
  refine wq_if (c := (b2i (inR (nI b) 0 9)) = 0) (p1 := 14) (L1 := [(0, .ref 0), (1, .int (nI a)), (2, .int (nI b)), (3, .int (nI h))]) (S1 := []) (p2 := 17) (L2 := [(0, .ref 0), (1, .int (nI a)), (2, .int (nI b)), (3, .int (nI h))]) (S2 := []) rfl (fun q => absurd q (b2i_n0.mpr htb)) (fun _ => ?_)
  refine wq_run3 (pc' := 22) (L' := [(0, .ref 0), (1, .int (nI a)), (2, .int (nI b)), (3, .int (nI h))]) (S' := [.int 20000, .int 0, .int (nI h)]) (f' := f) rfl ?_
  refine wq_callI (r := (b2i (inR (nI h) 0 20000))) (sp_within f (nI h) 0 20000) (Nat.le_of_ble_eq_true rfl) (pc' := 25) (L' := [(0, .ref 0), (1, .int (nI a)), (2, .int (nI b)), (3, .int (nI h))]) (S' := []) rfl (Nat.le_of_ble_eq_true rfl) rfl rfl (Nat.le_of_ble_eq_true rfl) (Nat.le_of_ble_eq_true rfl) ?_
  refine wq_if (c := (b2i (inR (nI h) 0 20000)) = 0) (p1 := 28) (L1 := [(0, .ref 0), (1, .int (nI a)), (2, .int (nI b)), (3, .int (nI h))]) (S1 := []) (p2 := 31) (L2 := [(0, .ref 0), (1, .int (nI a)), (2, .int (nI b)), (3, .int (nI h))]) (S2 := []) rfl (fun q => absurd q (b2i_n0.mpr hth)) (fun _ => ?_)
  refine wq_run5 (pc' := 38) (L' := [(0, .ref 0), (1, .int (nI a)), (2, .int (nI b)), (3, .int (nI h))]) (S' := [.int (nI h), .int (nI b), .int (nI a), .ref 2]) (f' := f) rfl ?_
  refine wq_call (sp_bestEnd hL ha hb (by omega)) (Nat.le_of_ble_eq_true rfl) (pc' := 41) (L' := [(0, .ref 0), (1, .int (nI a)), (2, .int (nI b)), (3, .int (nI h))]) (S' := []) rfl (Nat.le_of_ble_eq_true rfl) rfl rfl (Nat.le_of_ble_eq_true rfl) (Nat.le_of_ble_eq_true rfl) ?_
  rintro v f9 ⟨g, e0, ef⟩
  subst e0
  subst ef
  refine wq_run3 (pc' := 46) (L' := [(0, .ref 0), (1, .int (nI a)), (2, .int (nI b)), (3, .int (nI h)), (4, .int (obI (bsE W w a b h)))]) (S' := [.int (-1), .int (obI (bsE W w a b h))]) (f' := (up1 f 10 g)) rfl ?_
  refine wq_if (c := (obI (bsE W w a b h)) = (-1)) (p1 := 49) (L1 := [(0, .ref 0), (1, .int (nI a)), (2, .int (nI b)), (3, .int (nI h)), (4, .int (obI (bsE W w a b h)))]) (S1 := []) (p2 := 53) (L2 := [(0, .ref 0), (1, .int (nI a)), (2, .int (nI b)), (3, .int (nI h)), (4, .int (obI (bsE W w a b h)))]) (S2 := []) rfl (fun c_46 => ?_) (fun c_46 => ?_)
  · refine wq_run2 (pc' := 57) (L' := [(0, .ref 0), (1, .int (nI a)), (2, .int (nI b)), (3, .int (nI h)), (4, .int (obI (bsE W w a b h)))]) (S' := [.int (-1)]) (f' := (up1 f 10 g)) rfl ?_
    exact wq_ret rfl ⟨g, by rw [bsM, (obI_0 (n := 2 * w) (by have := hL.2.1; omega) (fun e q => (bs_lt q).1)).mp c_46]; rfl, rfl⟩
  · obtain ⟨e, he⟩ := obI_y c_46
    have hew := bs_lt he
    have hw16 := hL.2.1
    refine wq_L (L' := [(0, .ref 0), (1, .int (nI a)), (2, .int (nI b)), (3, .int (nI h)), (4, .int (nI e))]) (by rw [he]; rfl) ?_
    refine wq_run2 (pc' := 56) (L' := [(0, .ref 0), (1, .int (nI a)), (2, .int (nI b)), (3, .int (nI h)), (4, .int (nI e))]) (S' := [.int 2, .int (nI e)]) (f' := (up1 f 10 g)) rfl ?_
    refine wq_div rfl (by decide) ?_
    refine wq_v (y := (nI (e / 2))) (pk_div (a := e) (d := 2) (by omega) (by omega) (by omega)) ?_
    exact wq_ret rfl ⟨g, by rw [bsM, he]; rfl, rfl⟩
theorem mp_next3 {f : HI} {W : Nat → Nat → Nat} {w a b h : Nat} (ha : a < 10) (hb : b < 10) (hh : h ≤ 20000) (hM : LaM f W w) : Sp 5 142 [.ref 92, .int (nI a), .int (nI b), .int (nI h)] f (fun v f' => ∃ g, v = some (.int (obI (bsM W w a b h))) ∧ f' = up1 f 136 g) := by
  show wq 5 142 (fun v f' => ∃ g, v = some (.int (obI (bsM W w a b h))) ∧ f' = up1 f 136 g) 0 [(0, .ref 92), (1, .int (nI a)), (2, .int (nI b)), (3, .int (nI h))] [] f
  have hta : inR (nI a) 0 9 := ⟨nI_pos' (by omega), (nI_leI (a := a) (b := 9) (by omega) (by omega)).mpr (by omega)⟩
  have htb : inR (nI b) 0 9 := ⟨nI_pos' (by omega), (nI_leI (a := b) (b := 9) (by omega) (by omega)).mpr (by omega)⟩
  have hth : inR (nI h) 0 20000 := ⟨nI_pos' (by omega), (nI_leI (a := h) (b := 20000) (by omega) (by omega)).mpr (by omega)⟩
  refine wq_run1 (pc' := 1) (L' := [(0, .ref 92), (1, .int (nI a)), (2, .int (nI b)), (3, .int (nI h))]) (S' := [.int (nI a)]) (f' := f) rfl ?_
  refine wq_callI (r := (b2i (inR (nI a) 0 9))) (mp_isTown f (nI a)) (Nat.le_of_ble_eq_true rfl) (pc' := 4) (L' := [(0, .ref 92), (1, .int (nI a)), (2, .int (nI b)), (3, .int (nI h))]) (S' := []) rfl (Nat.le_of_ble_eq_true rfl) rfl rfl (Nat.le_of_ble_eq_true rfl) (Nat.le_of_ble_eq_true rfl) ?_
  refine wq_if (c := (b2i (inR (nI a) 0 9)) = 0) (p1 := 14) (L1 := [(0, .ref 92), (1, .int (nI a)), (2, .int (nI b)), (3, .int (nI h))]) (S1 := []) (p2 := 7) (L2 := [(0, .ref 92), (1, .int (nI a)), (2, .int (nI b)), (3, .int (nI h))]) (S2 := []) rfl (fun q => absurd q (b2i_n0.mpr hta)) (fun _ => ?_)
  refine wq_run1 (pc' := 8) (L' := [(0, .ref 92), (1, .int (nI a)), (2, .int (nI b)), (3, .int (nI h))]) (S' := [.int (nI b)]) (f' := f) rfl ?_
  refine wq_callI (r := (b2i (inR (nI b) 0 9))) (mp_isTown f (nI b)) (Nat.le_of_ble_eq_true rfl) (pc' := 11) (L' := [(0, .ref 92), (1, .int (nI a)), (2, .int (nI b)), (3, .int (nI h))]) (S' := []) rfl (Nat.le_of_ble_eq_true rfl) rfl rfl (Nat.le_of_ble_eq_true rfl) (Nat.le_of_ble_eq_true rfl) ?_
  refine wq_if (c := (b2i (inR (nI b) 0 9)) = 0) (p1 := 14) (L1 := [(0, .ref 92), (1, .int (nI a)), (2, .int (nI b)), (3, .int (nI h))]) (S1 := []) (p2 := 17) (L2 := [(0, .ref 92), (1, .int (nI a)), (2, .int (nI b)), (3, .int (nI h))]) (S2 := []) rfl (fun q => absurd q (b2i_n0.mpr htb)) (fun _ => ?_)
  refine wq_run4 (pc' := 23) (L' := [(0, .ref 92), (1, .int (nI a)), (2, .int (nI b)), (3, .int (nI h))]) (S' := [.long 20000, .long 0, .long (nI h).toInt64]) (f' := f) rfl ?_
  refine wq_callI (r := (b2i (inR (nI h) 0 20000))) (mp_in f (nI h) 0 20000) (Nat.le_of_ble_eq_true rfl) (pc' := 26) (L' := [(0, .ref 92), (1, .int (nI a)), (2, .int (nI b)), (3, .int (nI h))]) (S' := []) rfl (Nat.le_of_ble_eq_true rfl) rfl rfl (Nat.le_of_ble_eq_true rfl) (Nat.le_of_ble_eq_true rfl) ?_
  refine wq_if (c := (b2i (inR (nI h) 0 20000)) = 0) (p1 := 39) (L1 := [(0, .ref 92), (1, .int (nI a)), (2, .int (nI b)), (3, .int (nI h))]) (S1 := []) (p2 := 29) (L2 := [(0, .ref 92), (1, .int (nI a)), (2, .int (nI b)), (3, .int (nI h))]) (S2 := []) rfl (fun q => absurd q (b2i_n0.mpr hth)) (fun _ => ?_)
  refine wq_run4 (pc' := 33) (L' := [(0, .ref 92), (1, .int (nI a)), (2, .int (nI b)), (3, .int (nI h))]) (S' := [.int (nI h), .int (nI b), .int (nI a), .ref 92]) (f' := f) rfl ?_
  refine wq_call (mp_nextOf hM ha hb (by omega)) (Nat.le_of_ble_eq_true rfl) (pc' := 36) (L' := [(0, .ref 92), (1, .int (nI a)), (2, .int (nI b)), (3, .int (nI h))]) (S' := []) rfl (Nat.le_of_ble_eq_true rfl) rfl rfl (Nat.le_of_ble_eq_true rfl) (Nat.le_of_ble_eq_true rfl) ?_
  rintro v f9 ⟨g, e0, ef⟩
  subst e0
  subst ef
  refine wq_run1 (pc' := 41) (L' := [(0, .ref 92), (1, .int (nI a)), (2, .int (nI b)), (3, .int (nI h))]) (S' := [.int (obI (bsM W w a b h))]) (f' := (up1 f 136 g)) rfl ?_
  exact wq_ret rfl ⟨g, rfl, rfl⟩
theorem sp_act2 (f : HI) {t h d : Int32} (h1 : ¬ inR t 0 9) : Sp 3 91 [.ref 0, .int t, .int h, .int d] f (Ret (-2) f) := by
  show wq 3 91 (Ret (-2) f) 0 [(0, .ref 0), (1, .int t), (2, .int h), (3, .int d)] [] f
  refine wq_run1 (pc' := 1) (L' := [(0, .ref 0), (1, .int t), (2, .int h), (3, .int d)]) (S' := [.int t]) (f' := f) rfl ?_
  refine wq_callI (r := (b2i (inR t 0 9))) (sp_isTown f t) (Nat.le_of_ble_eq_true rfl) (pc' := 4) (L' := [(0, .ref 0), (1, .int t), (2, .int h), (3, .int d)]) (S' := []) rfl (Nat.le_of_ble_eq_true rfl) rfl rfl (Nat.le_of_ble_eq_true rfl) (Nat.le_of_ble_eq_true rfl) ?_
  refine wq_if (c := (b2i (inR t 0 9)) = 0) (p1 := 7) (L1 := [(0, .ref 0), (1, .int t), (2, .int h), (3, .int d)]) (S1 := []) (p2 := 10) (L2 := [(0, .ref 0), (1, .int t), (2, .int h), (3, .int d)]) (S2 := []) rfl (fun _ => ?_) (fun q => absurd (b2i_0.mpr h1) q)
  refine wq_run1 (pc' := 9) (L' := [(0, .ref 0), (1, .int t), (2, .int h), (3, .int d)]) (S' := [.int (-2)]) (f' := f) rfl ?_
  exact wq_ret rfl ⟨rfl, rfl⟩
theorem sp_act3 (f : HI) {t h d : Int32} (h1 : inR t 0 9) (h2 : ¬ (inR h 0 20000 ∧ inR d 0 1000)) : Sp 3 91 [.ref 0, .int t, .int h, .int d] f (Ret (-3) f) := by
  show wq 3 91 (Ret (-3) f) 0 [(0, .ref 0), (1, .int t), (2, .int h), (3, .int d)] [] f
  refine wq_run1 (pc' := 1) (L' := [(0, .ref 0), (1, .int t), (2, .int h), (3, .int d)]) (S' := [.int t]) (f' := f) rfl ?_
  refine wq_callI (r := (b2i (inR t 0 9))) (sp_isTown f t) (Nat.le_of_ble_eq_true rfl) (pc' := 4) (L' := [(0, .ref 0), (1, .int t), (2, .int h), (3, .int d)]) (S' := []) rfl (Nat.le_of_ble_eq_true rfl) rfl rfl (Nat.le_of_ble_eq_true rfl) (Nat.le_of_ble_eq_true rfl) ?_
  refine wq_if (c := (b2i (inR t 0 9)) = 0) (p1 := 7) (L1 := [(0, .ref 0), (1, .int t), (2, .int h), (3, .int d)]) (S1 := []) (p2 := 10) (L2 := [(0, .ref 0), (1, .int t), (2, .int h), (3, .int d)]) (S2 := []) rfl (fun q => absurd q (b2i_n0.mpr h1)) (fun _ => ?_)
  refine wq_run3 (pc' := 15) (L' := [(0, .ref 0), (1, .int t), (2, .int h), (3, .int d)]) (S' := [.int 20000, .int 0, .int h]) (f' := f) rfl ?_
  refine wq_callI (r := (b2i (inR h 0 20000))) (sp_within f h 0 20000) (Nat.le_of_ble_eq_true rfl) (pc' := 18) (L' := [(0, .ref 0), (1, .int t), (2, .int h), (3, .int d)]) (S' := []) rfl (Nat.le_of_ble_eq_true rfl) rfl rfl (Nat.le_of_ble_eq_true rfl) (Nat.le_of_ble_eq_true rfl) ?_
  refine wq_if (c := (b2i (inR h 0 20000)) = 0) (p1 := 32) (L1 := [(0, .ref 0), (1, .int t), (2, .int h), (3, .int d)]) (S1 := []) (p2 := 21) (L2 := [(0, .ref 0), (1, .int t), (2, .int h), (3, .int d)]) (S2 := []) rfl (fun c_18 => ?_) (fun c_18 => ?_)
  · have h_18 := b2i_0.mp c_18
    refine wq_run1 (pc' := 34) (L' := [(0, .ref 0), (1, .int t), (2, .int h), (3, .int d)]) (S' := [.int (-3)]) (f' := f) rfl ?_
    exact wq_ret rfl ⟨rfl, rfl⟩
  · have h_18 := b2i_n0.mp c_18
    refine wq_run3 (pc' := 26) (L' := [(0, .ref 0), (1, .int t), (2, .int h), (3, .int d)]) (S' := [.int 1000, .int 0, .int d]) (f' := f) rfl ?_
    refine wq_callI (r := (b2i (inR d 0 1000))) (sp_within f d 0 1000) (Nat.le_of_ble_eq_true rfl) (pc' := 29) (L' := [(0, .ref 0), (1, .int t), (2, .int h), (3, .int d)]) (S' := []) rfl (Nat.le_of_ble_eq_true rfl) rfl rfl (Nat.le_of_ble_eq_true rfl) (Nat.le_of_ble_eq_true rfl) ?_
    refine wq_if (c := (b2i (inR d 0 1000)) = 0) (p1 := 32) (L1 := [(0, .ref 0), (1, .int t), (2, .int h), (3, .int d)]) (S1 := []) (p2 := 35) (L2 := [(0, .ref 0), (1, .int t), (2, .int h), (3, .int d)]) (S2 := []) rfl (fun c_29 => ?_) (fun c_29 => ?_)
    · have h_29 := b2i_0.mp c_29
      refine wq_run1 (pc' := 34) (L' := [(0, .ref 0), (1, .int t), (2, .int h), (3, .int d)]) (S' := [.int (-3)]) (f' := f) rfl ?_
      exact wq_ret rfl ⟨rfl, rfl⟩
    · have h_29 := b2i_n0.mp c_29
      exact absurd ⟨h_18, h_29⟩ h2
theorem sp_knows2 (f : HI) {t a : Int32} (h1 : ¬ (inR t 0 9 ∧ inR a 0 (f 16 1 - 1))) : Sp 3 90 [.ref 0, .int t, .int a] f (Ret (-2) f) := by
  show wq 3 90 (Ret (-2) f) 0 [(0, .ref 0), (1, .int t), (2, .int a)] [] f
  refine wq_run1 (pc' := 1) (L' := [(0, .ref 0), (1, .int t), (2, .int a)]) (S' := [.int t]) (f' := f) rfl ?_
  refine wq_callI (r := (b2i (inR t 0 9))) (sp_isTown f t) (Nat.le_of_ble_eq_true rfl) (pc' := 4) (L' := [(0, .ref 0), (1, .int t), (2, .int a)]) (S' := []) rfl (Nat.le_of_ble_eq_true rfl) rfl rfl (Nat.le_of_ble_eq_true rfl) (Nat.le_of_ble_eq_true rfl) ?_
  refine wq_if (c := (b2i (inR t 0 9)) = 0) (p1 := 15) (L1 := [(0, .ref 0), (1, .int t), (2, .int a)]) (S1 := []) (p2 := 7) (L2 := [(0, .ref 0), (1, .int t), (2, .int a)]) (S2 := []) rfl (fun c_4 => ?_) (fun c_4 => ?_)
  · have h_4 := b2i_0.mp c_4
    refine wq_run1 (pc' := 17) (L' := [(0, .ref 0), (1, .int t), (2, .int a)]) (S' := [.int (-2)]) (f' := f) rfl ?_
    exact wq_ret rfl ⟨rfl, rfl⟩
  · have h_4 := b2i_n0.mp c_4
    refine wq_run2 (pc' := 9) (L' := [(0, .ref 0), (1, .int t), (2, .int a)]) (S' := [.int a, .ref 0]) (f' := f) rfl ?_
    refine wq_callI (r := (b2i (inR a 0 ((f 16 1) - 1)))) (sp_isAct f a) (Nat.le_of_ble_eq_true rfl) (pc' := 12) (L' := [(0, .ref 0), (1, .int t), (2, .int a)]) (S' := []) rfl (Nat.le_of_ble_eq_true rfl) rfl rfl (Nat.le_of_ble_eq_true rfl) (Nat.le_of_ble_eq_true rfl) ?_
    refine wq_if (c := (b2i (inR a 0 ((f 16 1) - 1))) = 0) (p1 := 15) (L1 := [(0, .ref 0), (1, .int t), (2, .int a)]) (S1 := []) (p2 := 18) (L2 := [(0, .ref 0), (1, .int t), (2, .int a)]) (S2 := []) rfl (fun c_12 => ?_) (fun c_12 => ?_)
    · have h_12 := b2i_0.mp c_12
      refine wq_run1 (pc' := 17) (L' := [(0, .ref 0), (1, .int t), (2, .int a)]) (S' := [.int (-2)]) (f' := f) rfl ?_
      exact wq_ret rfl ⟨rfl, rfl⟩
    · have h_12 := b2i_n0.mp c_12
      exact absurd ⟨h_4, h_12⟩ h1
theorem sp_postage2 (f : HI) {a x s d p : Int32} (h1 : ¬ inR a 0 (f 16 1 - 1)) : Sp 3 92 [.ref 0, .int a, .int x, .int s, .int d, .int p] f (Ret (-2) f) := by
  show wq 3 92 (Ret (-2) f) 0 [(0, .ref 0), (1, .int a), (2, .int x), (3, .int s), (4, .int d), (5, .int p)] [] f
  refine wq_run2 (pc' := 2) (L' := [(0, .ref 0), (1, .int a), (2, .int x), (3, .int s), (4, .int d), (5, .int p)]) (S' := [.int a, .ref 0]) (f' := f) rfl ?_
  refine wq_callI (r := (b2i (inR a 0 ((f 16 1) - 1)))) (sp_isAct f a) (Nat.le_of_ble_eq_true rfl) (pc' := 5) (L' := [(0, .ref 0), (1, .int a), (2, .int x), (3, .int s), (4, .int d), (5, .int p)]) (S' := []) rfl (Nat.le_of_ble_eq_true rfl) rfl rfl (Nat.le_of_ble_eq_true rfl) (Nat.le_of_ble_eq_true rfl) ?_
  refine wq_if (c := (b2i (inR a 0 ((f 16 1) - 1))) = 0) (p1 := 8) (L1 := [(0, .ref 0), (1, .int a), (2, .int x), (3, .int s), (4, .int d), (5, .int p)]) (S1 := []) (p2 := 11) (L2 := [(0, .ref 0), (1, .int a), (2, .int x), (3, .int s), (4, .int d), (5, .int p)]) (S2 := []) rfl (fun _ => ?_) (fun q => absurd (b2i_0.mpr h1) q)
  refine wq_run1 (pc' := 10) (L' := [(0, .ref 0), (1, .int a), (2, .int x), (3, .int s), (4, .int d), (5, .int p)]) (S' := [.int (-2)]) (f' := f) rfl ?_
  exact wq_ret rfl ⟨rfl, rfl⟩
theorem sp_postage3 (f : HI) {a x s d p : Int32} (h1 : inR a 0 (f 16 1 - 1)) (h2 : ¬ (inR x 0 5000 ∧ inR s 1 9 ∧ inR d 1 64)) : Sp 3 92 [.ref 0, .int a, .int x, .int s, .int d, .int p] f (Ret (-3) f) := by
  show wq 3 92 (Ret (-3) f) 0 [(0, .ref 0), (1, .int a), (2, .int x), (3, .int s), (4, .int d), (5, .int p)] [] f
  refine wq_run2 (pc' := 2) (L' := [(0, .ref 0), (1, .int a), (2, .int x), (3, .int s), (4, .int d), (5, .int p)]) (S' := [.int a, .ref 0]) (f' := f) rfl ?_
  refine wq_callI (r := (b2i (inR a 0 ((f 16 1) - 1)))) (sp_isAct f a) (Nat.le_of_ble_eq_true rfl) (pc' := 5) (L' := [(0, .ref 0), (1, .int a), (2, .int x), (3, .int s), (4, .int d), (5, .int p)]) (S' := []) rfl (Nat.le_of_ble_eq_true rfl) rfl rfl (Nat.le_of_ble_eq_true rfl) (Nat.le_of_ble_eq_true rfl) ?_
  refine wq_if (c := (b2i (inR a 0 ((f 16 1) - 1))) = 0) (p1 := 8) (L1 := [(0, .ref 0), (1, .int a), (2, .int x), (3, .int s), (4, .int d), (5, .int p)]) (S1 := []) (p2 := 11) (L2 := [(0, .ref 0), (1, .int a), (2, .int x), (3, .int s), (4, .int d), (5, .int p)]) (S2 := []) rfl (fun q => absurd q (b2i_n0.mpr h1)) (fun _ => ?_)
  refine wq_run3 (pc' := 16) (L' := [(0, .ref 0), (1, .int a), (2, .int x), (3, .int s), (4, .int d), (5, .int p)]) (S' := [.int 5000, .int 0, .int x]) (f' := f) rfl ?_
  refine wq_callI (r := (b2i (inR x 0 5000))) (sp_within f x 0 5000) (Nat.le_of_ble_eq_true rfl) (pc' := 19) (L' := [(0, .ref 0), (1, .int a), (2, .int x), (3, .int s), (4, .int d), (5, .int p)]) (S' := []) rfl (Nat.le_of_ble_eq_true rfl) rfl rfl (Nat.le_of_ble_eq_true rfl) (Nat.le_of_ble_eq_true rfl) ?_
  refine wq_if (c := (b2i (inR x 0 5000)) = 0) (p1 := 31) (L1 := [(0, .ref 0), (1, .int a), (2, .int x), (3, .int s), (4, .int d), (5, .int p)]) (S1 := []) (p2 := 22) (L2 := [(0, .ref 0), (1, .int a), (2, .int x), (3, .int s), (4, .int d), (5, .int p)]) (S2 := []) rfl (fun c_19 => ?_) (fun c_19 => ?_)
  · have h_19 := b2i_0.mp c_19
    refine wq_run1 (pc' := 33) (L' := [(0, .ref 0), (1, .int a), (2, .int x), (3, .int s), (4, .int d), (5, .int p)]) (S' := [.int (-3)]) (f' := f) rfl ?_
    exact wq_ret rfl ⟨rfl, rfl⟩
  · have h_19 := b2i_n0.mp c_19
    refine wq_run2 (pc' := 25) (L' := [(0, .ref 0), (1, .int a), (2, .int x), (3, .int s), (4, .int d), (5, .int p)]) (S' := [.int d, .int s]) (f' := f) rfl ?_
    refine wq_callI (r := (b2i (inR s 1 9 ∧ inR d 1 64))) (sp_size f s d) (Nat.le_of_ble_eq_true rfl) (pc' := 28) (L' := [(0, .ref 0), (1, .int a), (2, .int x), (3, .int s), (4, .int d), (5, .int p)]) (S' := []) rfl (Nat.le_of_ble_eq_true rfl) rfl rfl (Nat.le_of_ble_eq_true rfl) (Nat.le_of_ble_eq_true rfl) ?_
    refine wq_if (c := (b2i (inR s 1 9 ∧ inR d 1 64)) = 0) (p1 := 31) (L1 := [(0, .ref 0), (1, .int a), (2, .int x), (3, .int s), (4, .int d), (5, .int p)]) (S1 := []) (p2 := 34) (L2 := [(0, .ref 0), (1, .int a), (2, .int x), (3, .int s), (4, .int d), (5, .int p)]) (S2 := []) rfl (fun c_28 => ?_) (fun c_28 => ?_)
    · have h_28 := b2i_0.mp c_28
      refine wq_run1 (pc' := 33) (L' := [(0, .ref 0), (1, .int a), (2, .int x), (3, .int s), (4, .int d), (5, .int p)]) (S' := [.int (-3)]) (f' := f) rfl ?_
      exact wq_ret rfl ⟨rfl, rfl⟩
    · have h_28 := b2i_n0.mp c_28
      exact absurd ⟨h_19, h_28⟩ h2
theorem sp_why3 (f : HI) {a x : Int32} (h1 : inR a 0 (f 16 1 - 1)) (h2 : ¬ inR x 0 5000) : Sp 3 93 [.ref 0, .int a, .int x] f (Ret (-3) f) := by
  show wq 3 93 (Ret (-3) f) 0 [(0, .ref 0), (1, .int a), (2, .int x)] [] f
  refine wq_run2 (pc' := 2) (L' := [(0, .ref 0), (1, .int a), (2, .int x)]) (S' := [.int a, .ref 0]) (f' := f) rfl ?_
  refine wq_callI (r := (b2i (inR a 0 ((f 16 1) - 1)))) (sp_isAct f a) (Nat.le_of_ble_eq_true rfl) (pc' := 5) (L' := [(0, .ref 0), (1, .int a), (2, .int x)]) (S' := []) rfl (Nat.le_of_ble_eq_true rfl) rfl rfl (Nat.le_of_ble_eq_true rfl) (Nat.le_of_ble_eq_true rfl) ?_
  refine wq_if (c := (b2i (inR a 0 ((f 16 1) - 1))) = 0) (p1 := 8) (L1 := [(0, .ref 0), (1, .int a), (2, .int x)]) (S1 := []) (p2 := 11) (L2 := [(0, .ref 0), (1, .int a), (2, .int x)]) (S2 := []) rfl (fun q => absurd q (b2i_n0.mpr h1)) (fun _ => ?_)
  refine wq_run3 (pc' := 16) (L' := [(0, .ref 0), (1, .int a), (2, .int x)]) (S' := [.int 5000, .int 0, .int x]) (f' := f) rfl ?_
  refine wq_callI (r := (b2i (inR x 0 5000))) (sp_within f x 0 5000) (Nat.le_of_ble_eq_true rfl) (pc' := 19) (L' := [(0, .ref 0), (1, .int a), (2, .int x)]) (S' := []) rfl (Nat.le_of_ble_eq_true rfl) rfl rfl (Nat.le_of_ble_eq_true rfl) (Nat.le_of_ble_eq_true rfl) ?_
  refine wq_if (c := (b2i (inR x 0 5000)) = 0) (p1 := 22) (L1 := [(0, .ref 0), (1, .int a), (2, .int x)]) (S1 := []) (p2 := 25) (L2 := [(0, .ref 0), (1, .int a), (2, .int x)]) (S2 := []) rfl (fun _ => ?_) (fun q => absurd (b2i_0.mpr h2) q)
  refine wq_run1 (pc' := 24) (L' := [(0, .ref 0), (1, .int a), (2, .int x)]) (S' := [.int (-3)]) (f' := f) rfl ?_
  exact wq_ret rfl ⟨rfl, rfl⟩
theorem mp_act2 (f : HI) {t h d : Int32} (h1 : ¬ inR t 0 9) : Sp 3 156 [.ref 92, .int t, .int h, .int d] f (Ret (-2) f) := by
  show wq 3 156 (Ret (-2) f) 0 [(0, .ref 92), (1, .int t), (2, .int h), (3, .int d)] [] f
  refine wq_run1 (pc' := 1) (L' := [(0, .ref 92), (1, .int t), (2, .int h), (3, .int d)]) (S' := [.int t]) (f' := f) rfl ?_
  refine wq_callI (r := (b2i (inR t 0 9))) (mp_isTown f t) (Nat.le_of_ble_eq_true rfl) (pc' := 4) (L' := [(0, .ref 92), (1, .int t), (2, .int h), (3, .int d)]) (S' := []) rfl (Nat.le_of_ble_eq_true rfl) rfl rfl (Nat.le_of_ble_eq_true rfl) (Nat.le_of_ble_eq_true rfl) ?_
  refine wq_if (c := (b2i (inR t 0 9)) = 0) (p1 := 7) (L1 := [(0, .ref 92), (1, .int t), (2, .int h), (3, .int d)]) (S1 := []) (p2 := 10) (L2 := [(0, .ref 92), (1, .int t), (2, .int h), (3, .int d)]) (S2 := []) rfl (fun _ => ?_) (fun q => absurd (b2i_0.mpr h1) q)
  refine wq_run1 (pc' := 9) (L' := [(0, .ref 92), (1, .int t), (2, .int h), (3, .int d)]) (S' := [.int (-2)]) (f' := f) rfl ?_
  exact wq_ret rfl ⟨rfl, rfl⟩
theorem mp_act3 (f : HI) {t h d : Int32} (h1 : inR t 0 9) (h2 : ¬ (inR h 0 20000 ∧ inR d 0 1000)) : Sp 3 156 [.ref 92, .int t, .int h, .int d] f (Ret (-3) f) := by
  show wq 3 156 (Ret (-3) f) 0 [(0, .ref 92), (1, .int t), (2, .int h), (3, .int d)] [] f
  refine wq_run1 (pc' := 1) (L' := [(0, .ref 92), (1, .int t), (2, .int h), (3, .int d)]) (S' := [.int t]) (f' := f) rfl ?_
  refine wq_callI (r := (b2i (inR t 0 9))) (mp_isTown f t) (Nat.le_of_ble_eq_true rfl) (pc' := 4) (L' := [(0, .ref 92), (1, .int t), (2, .int h), (3, .int d)]) (S' := []) rfl (Nat.le_of_ble_eq_true rfl) rfl rfl (Nat.le_of_ble_eq_true rfl) (Nat.le_of_ble_eq_true rfl) ?_
  refine wq_if (c := (b2i (inR t 0 9)) = 0) (p1 := 7) (L1 := [(0, .ref 92), (1, .int t), (2, .int h), (3, .int d)]) (S1 := []) (p2 := 10) (L2 := [(0, .ref 92), (1, .int t), (2, .int h), (3, .int d)]) (S2 := []) rfl (fun q => absurd q (b2i_n0.mpr h1)) (fun _ => ?_)
  refine wq_run4 (pc' := 16) (L' := [(0, .ref 92), (1, .int t), (2, .int h), (3, .int d)]) (S' := [.long 20000, .long 0, .long h.toInt64]) (f' := f) rfl ?_
  refine wq_callI (r := (b2i (inR h 0 20000))) (mp_in f h 0 20000) (Nat.le_of_ble_eq_true rfl) (pc' := 19) (L' := [(0, .ref 92), (1, .int t), (2, .int h), (3, .int d)]) (S' := []) rfl (Nat.le_of_ble_eq_true rfl) rfl rfl (Nat.le_of_ble_eq_true rfl) (Nat.le_of_ble_eq_true rfl) ?_
  refine wq_if (c := (b2i (inR h 0 20000)) = 0) (p1 := 44) (L1 := [(0, .ref 92), (1, .int t), (2, .int h), (3, .int d)]) (S1 := []) (p2 := 22) (L2 := [(0, .ref 92), (1, .int t), (2, .int h), (3, .int d)]) (S2 := []) rfl (fun c_19 => ?_) (fun c_19 => ?_)
  · have h_19 := b2i_0.mp c_19
    refine wq_run1 (pc' := 46) (L' := [(0, .ref 92), (1, .int t), (2, .int h), (3, .int d)]) (S' := [.int (-3)]) (f' := f) rfl ?_
    exact wq_ret rfl ⟨rfl, rfl⟩
  · have h_19 := b2i_n0.mp c_19
    refine wq_run4 (pc' := 28) (L' := [(0, .ref 92), (1, .int t), (2, .int h), (3, .int d)]) (S' := [.long 1000, .long 0, .long d.toInt64]) (f' := f) rfl ?_
    refine wq_callI (r := (b2i (inR d 0 1000))) (mp_in f d 0 1000) (Nat.le_of_ble_eq_true rfl) (pc' := 31) (L' := [(0, .ref 92), (1, .int t), (2, .int h), (3, .int d)]) (S' := []) rfl (Nat.le_of_ble_eq_true rfl) rfl rfl (Nat.le_of_ble_eq_true rfl) (Nat.le_of_ble_eq_true rfl) ?_
    refine wq_if (c := (b2i (inR d 0 1000)) = 0) (p1 := 44) (L1 := [(0, .ref 92), (1, .int t), (2, .int h), (3, .int d)]) (S1 := []) (p2 := 34) (L2 := [(0, .ref 92), (1, .int t), (2, .int h), (3, .int d)]) (S2 := []) rfl (fun c_31 => ?_) (fun c_31 => ?_)
    · have h_31 := b2i_0.mp c_31
      refine wq_run1 (pc' := 46) (L' := [(0, .ref 92), (1, .int t), (2, .int h), (3, .int d)]) (S' := [.int (-3)]) (f' := f) rfl ?_
      exact wq_ret rfl ⟨rfl, rfl⟩
    · have h_31 := b2i_n0.mp c_31
      exact absurd ⟨h_19, h_31⟩ h2
theorem mp_knows2 (f : HI) {t a : Int32} (h1 : ¬ (inR t 0 9 ∧ inR a 0 (f 92 17 - 1))) : Sp 3 154 [.ref 92, .int t, .int a] f (Ret (-2) f) := by
  show wq 3 154 (Ret (-2) f) 0 [(0, .ref 92), (1, .int t), (2, .int a)] [] f
  refine wq_run1 (pc' := 1) (L' := [(0, .ref 92), (1, .int t), (2, .int a)]) (S' := [.int t]) (f' := f) rfl ?_
  refine wq_callI (r := (b2i (inR t 0 9))) (mp_isTown f t) (Nat.le_of_ble_eq_true rfl) (pc' := 4) (L' := [(0, .ref 92), (1, .int t), (2, .int a)]) (S' := []) rfl (Nat.le_of_ble_eq_true rfl) rfl rfl (Nat.le_of_ble_eq_true rfl) (Nat.le_of_ble_eq_true rfl) ?_
  refine wq_if (c := (b2i (inR t 0 9)) = 0) (p1 := 29) (L1 := [(0, .ref 92), (1, .int t), (2, .int a)]) (S1 := []) (p2 := 7) (L2 := [(0, .ref 92), (1, .int t), (2, .int a)]) (S2 := []) rfl (fun c_4 => ?_) (fun c_4 => ?_)
  · have h_4 := b2i_0.mp c_4
    refine wq_run1 (pc' := 31) (L' := [(0, .ref 92), (1, .int t), (2, .int a)]) (S' := [.int (-2)]) (f' := f) rfl ?_
    exact wq_ret rfl ⟨rfl, rfl⟩
  · have h_4 := b2i_n0.mp c_4
    refine wq_run2 (pc' := 9) (L' := [(0, .ref 92), (1, .int t), (2, .int a)]) (S' := [.int a, .ref 92]) (f' := f) rfl ?_
    refine wq_callI (r := (b2i (inR a 0 ((f 92 17) - 1)))) (mp_isAct f a) (Nat.le_of_ble_eq_true rfl) (pc' := 12) (L' := [(0, .ref 92), (1, .int t), (2, .int a)]) (S' := []) rfl (Nat.le_of_ble_eq_true rfl) rfl rfl (Nat.le_of_ble_eq_true rfl) (Nat.le_of_ble_eq_true rfl) ?_
    refine wq_if (c := (b2i (inR a 0 ((f 92 17) - 1))) = 0) (p1 := 29) (L1 := [(0, .ref 92), (1, .int t), (2, .int a)]) (S1 := []) (p2 := 15) (L2 := [(0, .ref 92), (1, .int t), (2, .int a)]) (S2 := []) rfl (fun c_12 => ?_) (fun c_12 => ?_)
    · have h_12 := b2i_0.mp c_12
      refine wq_run1 (pc' := 31) (L' := [(0, .ref 92), (1, .int t), (2, .int a)]) (S' := [.int (-2)]) (f' := f) rfl ?_
      exact wq_ret rfl ⟨rfl, rfl⟩
    · have h_12 := b2i_n0.mp c_12
      exact absurd ⟨h_4, h_12⟩ h1
theorem mp_postage2 (f : HI) {a x s d p : Int32} (h1 : ¬ inR a 0 (f 92 17 - 1)) : Sp 3 160 [.ref 92, .int a, .int x, .int s, .int d, .int p] f (Ret (-2) f) := by
  show wq 3 160 (Ret (-2) f) 0 [(0, .ref 92), (1, .int a), (2, .int x), (3, .int s), (4, .int d), (5, .int p)] [] f
  refine wq_run2 (pc' := 2) (L' := [(0, .ref 92), (1, .int a), (2, .int x), (3, .int s), (4, .int d), (5, .int p)]) (S' := [.int a, .ref 92]) (f' := f) rfl ?_
  refine wq_callI (r := (b2i (inR a 0 ((f 92 17) - 1)))) (mp_isAct f a) (Nat.le_of_ble_eq_true rfl) (pc' := 5) (L' := [(0, .ref 92), (1, .int a), (2, .int x), (3, .int s), (4, .int d), (5, .int p)]) (S' := []) rfl (Nat.le_of_ble_eq_true rfl) rfl rfl (Nat.le_of_ble_eq_true rfl) (Nat.le_of_ble_eq_true rfl) ?_
  refine wq_if (c := (b2i (inR a 0 ((f 92 17) - 1))) = 0) (p1 := 8) (L1 := [(0, .ref 92), (1, .int a), (2, .int x), (3, .int s), (4, .int d), (5, .int p)]) (S1 := []) (p2 := 11) (L2 := [(0, .ref 92), (1, .int a), (2, .int x), (3, .int s), (4, .int d), (5, .int p)]) (S2 := []) rfl (fun _ => ?_) (fun q => absurd (b2i_0.mpr h1) q)
  refine wq_run1 (pc' := 10) (L' := [(0, .ref 92), (1, .int a), (2, .int x), (3, .int s), (4, .int d), (5, .int p)]) (S' := [.int (-2)]) (f' := f) rfl ?_
  exact wq_ret rfl ⟨rfl, rfl⟩
theorem mp_postage3 (f : HI) {a x s d p : Int32} (h1 : inR a 0 (f 92 17 - 1)) (h2 : ¬ (inR x 0 5000 ∧ inR s 1 9 ∧ inR d 1 64)) : Sp 3 160 [.ref 92, .int a, .int x, .int s, .int d, .int p] f (Ret (-3) f) := by
  show wq 3 160 (Ret (-3) f) 0 [(0, .ref 92), (1, .int a), (2, .int x), (3, .int s), (4, .int d), (5, .int p)] [] f
  refine wq_run2 (pc' := 2) (L' := [(0, .ref 92), (1, .int a), (2, .int x), (3, .int s), (4, .int d), (5, .int p)]) (S' := [.int a, .ref 92]) (f' := f) rfl ?_
  refine wq_callI (r := (b2i (inR a 0 ((f 92 17) - 1)))) (mp_isAct f a) (Nat.le_of_ble_eq_true rfl) (pc' := 5) (L' := [(0, .ref 92), (1, .int a), (2, .int x), (3, .int s), (4, .int d), (5, .int p)]) (S' := []) rfl (Nat.le_of_ble_eq_true rfl) rfl rfl (Nat.le_of_ble_eq_true rfl) (Nat.le_of_ble_eq_true rfl) ?_
  refine wq_if (c := (b2i (inR a 0 ((f 92 17) - 1))) = 0) (p1 := 8) (L1 := [(0, .ref 92), (1, .int a), (2, .int x), (3, .int s), (4, .int d), (5, .int p)]) (S1 := []) (p2 := 11) (L2 := [(0, .ref 92), (1, .int a), (2, .int x), (3, .int s), (4, .int d), (5, .int p)]) (S2 := []) rfl (fun q => absurd q (b2i_n0.mpr h1)) (fun _ => ?_)
  refine wq_run4 (pc' := 17) (L' := [(0, .ref 92), (1, .int a), (2, .int x), (3, .int s), (4, .int d), (5, .int p)]) (S' := [.long 5000, .long 0, .long x.toInt64]) (f' := f) rfl ?_
  refine wq_callI (r := (b2i (inR x 0 5000))) (mp_in f x 0 5000) (Nat.le_of_ble_eq_true rfl) (pc' := 20) (L' := [(0, .ref 92), (1, .int a), (2, .int x), (3, .int s), (4, .int d), (5, .int p)]) (S' := []) rfl (Nat.le_of_ble_eq_true rfl) rfl rfl (Nat.le_of_ble_eq_true rfl) (Nat.le_of_ble_eq_true rfl) ?_
  refine wq_if (c := (b2i (inR x 0 5000)) = 0) (p1 := 62) (L1 := [(0, .ref 92), (1, .int a), (2, .int x), (3, .int s), (4, .int d), (5, .int p)]) (S1 := []) (p2 := 23) (L2 := [(0, .ref 92), (1, .int a), (2, .int x), (3, .int s), (4, .int d), (5, .int p)]) (S2 := []) rfl (fun c_20 => ?_) (fun c_20 => ?_)
  · have h_20 := b2i_0.mp c_20
    refine wq_run1 (pc' := 64) (L' := [(0, .ref 92), (1, .int a), (2, .int x), (3, .int s), (4, .int d), (5, .int p)]) (S' := [.int (-3)]) (f' := f) rfl ?_
    exact wq_ret rfl ⟨rfl, rfl⟩
  · have h_20 := b2i_n0.mp c_20
    refine wq_run4 (pc' := 29) (L' := [(0, .ref 92), (1, .int a), (2, .int x), (3, .int s), (4, .int d), (5, .int p)]) (S' := [.long 9, .long 1, .long s.toInt64]) (f' := f) rfl ?_
    refine wq_callI (r := (b2i (inR s 1 9))) (mp_in f s 1 9) (Nat.le_of_ble_eq_true rfl) (pc' := 32) (L' := [(0, .ref 92), (1, .int a), (2, .int x), (3, .int s), (4, .int d), (5, .int p)]) (S' := []) rfl (Nat.le_of_ble_eq_true rfl) rfl rfl (Nat.le_of_ble_eq_true rfl) (Nat.le_of_ble_eq_true rfl) ?_
    refine wq_if (c := (b2i (inR s 1 9)) = 0) (p1 := 62) (L1 := [(0, .ref 92), (1, .int a), (2, .int x), (3, .int s), (4, .int d), (5, .int p)]) (S1 := []) (p2 := 35) (L2 := [(0, .ref 92), (1, .int a), (2, .int x), (3, .int s), (4, .int d), (5, .int p)]) (S2 := []) rfl (fun c_32 => ?_) (fun c_32 => ?_)
    · have h_32 := b2i_0.mp c_32
      refine wq_run1 (pc' := 64) (L' := [(0, .ref 92), (1, .int a), (2, .int x), (3, .int s), (4, .int d), (5, .int p)]) (S' := [.int (-3)]) (f' := f) rfl ?_
      exact wq_ret rfl ⟨rfl, rfl⟩
    · have h_32 := b2i_n0.mp c_32
      refine wq_run4 (pc' := 42) (L' := [(0, .ref 92), (1, .int a), (2, .int x), (3, .int s), (4, .int d), (5, .int p)]) (S' := [.long 64, .long 1, .long d.toInt64]) (f' := f) rfl ?_
      refine wq_callI (r := (b2i (inR d 1 64))) (mp_in f d 1 64) (Nat.le_of_ble_eq_true rfl) (pc' := 45) (L' := [(0, .ref 92), (1, .int a), (2, .int x), (3, .int s), (4, .int d), (5, .int p)]) (S' := []) rfl (Nat.le_of_ble_eq_true rfl) rfl rfl (Nat.le_of_ble_eq_true rfl) (Nat.le_of_ble_eq_true rfl) ?_
      refine wq_if (c := (b2i (inR d 1 64)) = 0) (p1 := 62) (L1 := [(0, .ref 92), (1, .int a), (2, .int x), (3, .int s), (4, .int d), (5, .int p)]) (S1 := []) (p2 := 48) (L2 := [(0, .ref 92), (1, .int a), (2, .int x), (3, .int s), (4, .int d), (5, .int p)]) (S2 := []) rfl (fun c_45 => ?_) (fun c_45 => ?_)
      · have h_45 := b2i_0.mp c_45
        refine wq_run1 (pc' := 64) (L' := [(0, .ref 92), (1, .int a), (2, .int x), (3, .int s), (4, .int d), (5, .int p)]) (S' := [.int (-3)]) (f' := f) rfl ?_
        exact wq_ret rfl ⟨rfl, rfl⟩
      · have h_45 := b2i_n0.mp c_45
        exact absurd ⟨h_20, h_32, h_45⟩ h2
theorem mp_why3 (f : HI) {a x : Int32} (h1 : inR a 0 (f 92 17 - 1)) (h2 : ¬ inR x 0 5000) : Sp 3 161 [.ref 92, .int a, .int x] f (Ret (-3) f) := by
  show wq 3 161 (Ret (-3) f) 0 [(0, .ref 92), (1, .int a), (2, .int x)] [] f
  refine wq_run2 (pc' := 2) (L' := [(0, .ref 92), (1, .int a), (2, .int x)]) (S' := [.int a, .ref 92]) (f' := f) rfl ?_
  refine wq_callI (r := (b2i (inR a 0 ((f 92 17) - 1)))) (mp_isAct f a) (Nat.le_of_ble_eq_true rfl) (pc' := 5) (L' := [(0, .ref 92), (1, .int a), (2, .int x)]) (S' := []) rfl (Nat.le_of_ble_eq_true rfl) rfl rfl (Nat.le_of_ble_eq_true rfl) (Nat.le_of_ble_eq_true rfl) ?_
  refine wq_if (c := (b2i (inR a 0 ((f 92 17) - 1))) = 0) (p1 := 8) (L1 := [(0, .ref 92), (1, .int a), (2, .int x)]) (S1 := []) (p2 := 11) (L2 := [(0, .ref 92), (1, .int a), (2, .int x)]) (S2 := []) rfl (fun q => absurd q (b2i_n0.mpr h1)) (fun _ => ?_)
  refine wq_run4 (pc' := 17) (L' := [(0, .ref 92), (1, .int a), (2, .int x)]) (S' := [.long 5000, .long 0, .long x.toInt64]) (f' := f) rfl ?_
  refine wq_callI (r := (b2i (inR x 0 5000))) (mp_in f x 0 5000) (Nat.le_of_ble_eq_true rfl) (pc' := 20) (L' := [(0, .ref 92), (1, .int a), (2, .int x)]) (S' := []) rfl (Nat.le_of_ble_eq_true rfl) rfl rfl (Nat.le_of_ble_eq_true rfl) (Nat.le_of_ble_eq_true rfl) ?_
  refine wq_if (c := (b2i (inR x 0 5000)) = 0) (p1 := 23) (L1 := [(0, .ref 92), (1, .int a), (2, .int x)]) (S1 := []) (p2 := 26) (L2 := [(0, .ref 92), (1, .int a), (2, .int x)]) (S2 := []) rfl (fun _ => ?_) (fun q => absurd (b2i_0.mpr h2) q)
  refine wq_run1 (pc' := 25) (L' := [(0, .ref 92), (1, .int a), (2, .int x)]) (S' := [.int (-3)]) (f' := f) rfl ?_
  exact wq_ret rfl ⟨rfl, rfl⟩
theorem mp_knows1 (f : HI) {a t : Nat} (ha : a < 5) (ht : t < 10) (hA : inR (nI a) 0 (f 92 17 - 1)) (hT : inR (nI t) 0 9) : Sp 3 154 [.ref 92, .int (nI t), .int (nI a)] f (Ret (f 106 (10 * a + t)) f) := by
  show wq 3 154 (Ret (f 106 (10 * a + t)) f) 0 [(0, .ref 92), (1, .int (nI t)), (2, .int (nI a))] [] f
  refine wq_run1 (pc' := 1) (L' := [(0, .ref 92), (1, .int (nI t)), (2, .int (nI a))]) (S' := [.int (nI t)]) (f' := f) rfl ?_
  refine wq_callI (r := (b2i (inR (nI t) 0 9))) (mp_isTown f (nI t)) (Nat.le_of_ble_eq_true rfl) (pc' := 4) (L' := [(0, .ref 92), (1, .int (nI t)), (2, .int (nI a))]) (S' := []) rfl (Nat.le_of_ble_eq_true rfl) rfl rfl (Nat.le_of_ble_eq_true rfl) (Nat.le_of_ble_eq_true rfl) ?_
  refine wq_if (c := (b2i (inR (nI t) 0 9)) = 0) (p1 := 29) (L1 := [(0, .ref 92), (1, .int (nI t)), (2, .int (nI a))]) (S1 := []) (p2 := 7) (L2 := [(0, .ref 92), (1, .int (nI t)), (2, .int (nI a))]) (S2 := []) rfl (fun q => absurd q (b2i_n0.mpr hT)) (fun _ => ?_)
  refine wq_run2 (pc' := 9) (L' := [(0, .ref 92), (1, .int (nI t)), (2, .int (nI a))]) (S' := [.int (nI a), .ref 92]) (f' := f) rfl ?_
  refine wq_callI (r := (b2i (inR (nI a) 0 ((f 92 17) - 1)))) (mp_isAct f (nI a)) (Nat.le_of_ble_eq_true rfl) (pc' := 12) (L' := [(0, .ref 92), (1, .int (nI t)), (2, .int (nI a))]) (S' := []) rfl (Nat.le_of_ble_eq_true rfl) rfl rfl (Nat.le_of_ble_eq_true rfl) (Nat.le_of_ble_eq_true rfl) ?_
  refine wq_if (c := (b2i (inR (nI a) 0 ((f 92 17) - 1))) = 0) (p1 := 29) (L1 := [(0, .ref 92), (1, .int (nI t)), (2, .int (nI a))]) (S1 := []) (p2 := 15) (L2 := [(0, .ref 92), (1, .int (nI t)), (2, .int (nI a))]) (S2 := []) rfl (fun q => absurd q (b2i_n0.mpr hA)) (fun _ => ?_)
  refine wq_run5 (pc' := 23) (L' := [(0, .ref 92), (1, .int (nI t)), (2, .int (nI a))]) (S' := [.int (10 * (nI a)), .ref 106]) (f' := f) rfl ?_
  refine wq_v (y := (nI (10 * a))) (pk_mul 10 a) ?_
  refine wq_run2 (pc' := 25) (L' := [(0, .ref 92), (1, .int (nI t)), (2, .int (nI a))]) (S' := [.int ((nI (10 * a)) + (nI t)), .ref 106]) (f' := f) rfl ?_
  refine wq_v (y := (nI ((10 * a) + t))) (nI_add (10 * a) t) ?_
  refine wq_ald (j := ((10 * a) + t)) (n := 50) (v := (f 106 ((10 * a) + t))) rfl rfl rfl rfl (by omega) (Nat.le_of_ble_eq_true rfl) rfl ?_
  refine wq_run1 (pc' := 31) (L' := [(0, .ref 92), (1, .int (nI t)), (2, .int (nI a))]) (S' := [.int (f 106 ((10 * a) + t))]) (f' := f) rfl ?_
  exact wq_ret rfl ⟨rfl, rfl⟩
theorem mp_act1 (f : HI) (h day : Int32) {t m : Nat} (ht : t < 10) (hm2 : f 92 17 = nI m) (hm5 : m ≤ 5) (hT : inR (nI t) 0 9) (hh : inR h 0 20000) (hd : inR day 0 1000) : Sp 3 156 [.ref 92, .int (nI t), .int h, .int day] f (Ret (obI (toA (fun c => f 106 (10 * c + t)) (f 105) h day m)) f) := by
  show wq 3 156 (Ret (obI (toA (fun c => f 106 (10 * c + t)) (f 105) h day m)) f) 0 [(0, .ref 92), (1, .int (nI t)), (2, .int h), (3, .int day)] [] f
  refine wq_run1 (pc' := 1) (L' := [(0, .ref 92), (1, .int (nI t)), (2, .int h), (3, .int day)]) (S' := [.int (nI t)]) (f' := f) rfl ?_
  refine wq_callI (r := (b2i (inR (nI t) 0 9))) (mp_isTown f (nI t)) (Nat.le_of_ble_eq_true rfl) (pc' := 4) (L' := [(0, .ref 92), (1, .int (nI t)), (2, .int h), (3, .int day)]) (S' := []) rfl (Nat.le_of_ble_eq_true rfl) rfl rfl (Nat.le_of_ble_eq_true rfl) (Nat.le_of_ble_eq_true rfl) ?_
  refine wq_if (c := (b2i (inR (nI t) 0 9)) = 0) (p1 := 7) (L1 := [(0, .ref 92), (1, .int (nI t)), (2, .int h), (3, .int day)]) (S1 := []) (p2 := 10) (L2 := [(0, .ref 92), (1, .int (nI t)), (2, .int h), (3, .int day)]) (S2 := []) rfl (fun q => absurd q (b2i_n0.mpr hT)) (fun _ => ?_)
  refine wq_run4 (pc' := 16) (L' := [(0, .ref 92), (1, .int (nI t)), (2, .int h), (3, .int day)]) (S' := [.long 20000, .long 0, .long h.toInt64]) (f' := f) rfl ?_
  refine wq_callI (r := (b2i (inR h 0 20000))) (mp_in f h 0 20000) (Nat.le_of_ble_eq_true rfl) (pc' := 19) (L' := [(0, .ref 92), (1, .int (nI t)), (2, .int h), (3, .int day)]) (S' := []) rfl (Nat.le_of_ble_eq_true rfl) rfl rfl (Nat.le_of_ble_eq_true rfl) (Nat.le_of_ble_eq_true rfl) ?_
  refine wq_if (c := (b2i (inR h 0 20000)) = 0) (p1 := 44) (L1 := [(0, .ref 92), (1, .int (nI t)), (2, .int h), (3, .int day)]) (S1 := []) (p2 := 22) (L2 := [(0, .ref 92), (1, .int (nI t)), (2, .int h), (3, .int day)]) (S2 := []) rfl (fun q => absurd q (b2i_n0.mpr hh)) (fun _ => ?_)
  refine wq_run4 (pc' := 28) (L' := [(0, .ref 92), (1, .int (nI t)), (2, .int h), (3, .int day)]) (S' := [.long 1000, .long 0, .long day.toInt64]) (f' := f) rfl ?_
  refine wq_callI (r := (b2i (inR day 0 1000))) (mp_in f day 0 1000) (Nat.le_of_ble_eq_true rfl) (pc' := 31) (L' := [(0, .ref 92), (1, .int (nI t)), (2, .int h), (3, .int day)]) (S' := []) rfl (Nat.le_of_ble_eq_true rfl) rfl rfl (Nat.le_of_ble_eq_true rfl) (Nat.le_of_ble_eq_true rfl) ?_
  refine wq_if (c := (b2i (inR day 0 1000)) = 0) (p1 := 44) (L1 := [(0, .ref 92), (1, .int (nI t)), (2, .int h), (3, .int day)]) (S1 := []) (p2 := 34) (L2 := [(0, .ref 92), (1, .int (nI t)), (2, .int h), (3, .int day)]) (S2 := []) rfl (fun q => absurd q (b2i_n0.mpr hd)) (fun _ => ?_)
  refine wq_run4 (pc' := 38) (L' := [(0, .ref 92), (1, .int (nI t)), (2, .int h), (3, .int day)]) (S' := [.int day, .int h, .int (nI t), .ref 92]) (f' := f) rfl ?_
  refine wq_callI (r := (obI (toA (fun c => f 106 (10 * c + t)) (f 105) h day m))) (mp_actOf f h day ht hm2 hm5) (Nat.le_of_ble_eq_true rfl) (pc' := 41) (L' := [(0, .ref 92), (1, .int (nI t)), (2, .int h), (3, .int day)]) (S' := []) rfl (Nat.le_of_ble_eq_true rfl) rfl rfl (Nat.le_of_ble_eq_true rfl) (Nat.le_of_ble_eq_true rfl) ?_
  refine wq_run1 (pc' := 46) (L' := [(0, .ref 92), (1, .int (nI t)), (2, .int h), (3, .int day)]) (S' := [.int (obI (toA (fun c => f 106 (10 * c + t)) (f 105) h day m))]) (f' := f) rfl ?_
  exact wq_ret rfl ⟨rfl, rfl⟩
theorem mp_postage1 {f : HI} {a n : Nat} {K N P : Nat → Int32} (ha : a < 5) (hn2 : f 101 a = nI n) (hn8 : n ≤ 8) (hac : AcM f a n K N P) (hA : inR (nI a) 0 (f 92 17 - 1)) {x sh dr h : Int32} (hx : inR x 0 5000) (hs : inR sh 1 9) (hd : inR dr 1 64) : Sp 4 160 [.ref 92, .int (nI a), .int x, .int sh, .int dr, .int h] f (Ret (chA K N P x sh dr h n) f) := by
  show wq 4 160 (Ret (chA K N P x sh dr h n) f) 0 [(0, .ref 92), (1, .int (nI a)), (2, .int x), (3, .int sh), (4, .int dr), (5, .int h)] [] f
  refine wq_run2 (pc' := 2) (L' := [(0, .ref 92), (1, .int (nI a)), (2, .int x), (3, .int sh), (4, .int dr), (5, .int h)]) (S' := [.int (nI a), .ref 92]) (f' := f) rfl ?_
  refine wq_callI (r := (b2i (inR (nI a) 0 ((f 92 17) - 1)))) (mp_isAct f (nI a)) (Nat.le_of_ble_eq_true rfl) (pc' := 5) (L' := [(0, .ref 92), (1, .int (nI a)), (2, .int x), (3, .int sh), (4, .int dr), (5, .int h)]) (S' := []) rfl (Nat.le_of_ble_eq_true rfl) rfl rfl (Nat.le_of_ble_eq_true rfl) (Nat.le_of_ble_eq_true rfl) ?_
  refine wq_if (c := (b2i (inR (nI a) 0 ((f 92 17) - 1))) = 0) (p1 := 8) (L1 := [(0, .ref 92), (1, .int (nI a)), (2, .int x), (3, .int sh), (4, .int dr), (5, .int h)]) (S1 := []) (p2 := 11) (L2 := [(0, .ref 92), (1, .int (nI a)), (2, .int x), (3, .int sh), (4, .int dr), (5, .int h)]) (S2 := []) rfl (fun q => absurd q (b2i_n0.mpr hA)) (fun _ => ?_)
  refine wq_run4 (pc' := 17) (L' := [(0, .ref 92), (1, .int (nI a)), (2, .int x), (3, .int sh), (4, .int dr), (5, .int h)]) (S' := [.long 5000, .long 0, .long x.toInt64]) (f' := f) rfl ?_
  refine wq_callI (r := (b2i (inR x 0 5000))) (mp_in f x 0 5000) (Nat.le_of_ble_eq_true rfl) (pc' := 20) (L' := [(0, .ref 92), (1, .int (nI a)), (2, .int x), (3, .int sh), (4, .int dr), (5, .int h)]) (S' := []) rfl (Nat.le_of_ble_eq_true rfl) rfl rfl (Nat.le_of_ble_eq_true rfl) (Nat.le_of_ble_eq_true rfl) ?_
  refine wq_if (c := (b2i (inR x 0 5000)) = 0) (p1 := 62) (L1 := [(0, .ref 92), (1, .int (nI a)), (2, .int x), (3, .int sh), (4, .int dr), (5, .int h)]) (S1 := []) (p2 := 23) (L2 := [(0, .ref 92), (1, .int (nI a)), (2, .int x), (3, .int sh), (4, .int dr), (5, .int h)]) (S2 := []) rfl (fun q => absurd q (b2i_n0.mpr hx)) (fun _ => ?_)
  refine wq_run4 (pc' := 29) (L' := [(0, .ref 92), (1, .int (nI a)), (2, .int x), (3, .int sh), (4, .int dr), (5, .int h)]) (S' := [.long 9, .long 1, .long sh.toInt64]) (f' := f) rfl ?_
  refine wq_callI (r := (b2i (inR sh 1 9))) (mp_in f sh 1 9) (Nat.le_of_ble_eq_true rfl) (pc' := 32) (L' := [(0, .ref 92), (1, .int (nI a)), (2, .int x), (3, .int sh), (4, .int dr), (5, .int h)]) (S' := []) rfl (Nat.le_of_ble_eq_true rfl) rfl rfl (Nat.le_of_ble_eq_true rfl) (Nat.le_of_ble_eq_true rfl) ?_
  refine wq_if (c := (b2i (inR sh 1 9)) = 0) (p1 := 62) (L1 := [(0, .ref 92), (1, .int (nI a)), (2, .int x), (3, .int sh), (4, .int dr), (5, .int h)]) (S1 := []) (p2 := 35) (L2 := [(0, .ref 92), (1, .int (nI a)), (2, .int x), (3, .int sh), (4, .int dr), (5, .int h)]) (S2 := []) rfl (fun q => absurd q (b2i_n0.mpr hs)) (fun _ => ?_)
  refine wq_run4 (pc' := 42) (L' := [(0, .ref 92), (1, .int (nI a)), (2, .int x), (3, .int sh), (4, .int dr), (5, .int h)]) (S' := [.long 64, .long 1, .long dr.toInt64]) (f' := f) rfl ?_
  refine wq_callI (r := (b2i (inR dr 1 64))) (mp_in f dr 1 64) (Nat.le_of_ble_eq_true rfl) (pc' := 45) (L' := [(0, .ref 92), (1, .int (nI a)), (2, .int x), (3, .int sh), (4, .int dr), (5, .int h)]) (S' := []) rfl (Nat.le_of_ble_eq_true rfl) rfl rfl (Nat.le_of_ble_eq_true rfl) (Nat.le_of_ble_eq_true rfl) ?_
  refine wq_if (c := (b2i (inR dr 1 64)) = 0) (p1 := 62) (L1 := [(0, .ref 92), (1, .int (nI a)), (2, .int x), (3, .int sh), (4, .int dr), (5, .int h)]) (S1 := []) (p2 := 48) (L2 := [(0, .ref 92), (1, .int (nI a)), (2, .int x), (3, .int sh), (4, .int dr), (5, .int h)]) (S2 := []) rfl (fun q => absurd q (b2i_n0.mpr hd)) (fun _ => ?_)
  refine wq_run6 (pc' := 56) (L' := [(0, .ref 92), (1, .int (nI a)), (2, .int x), (3, .int sh), (4, .int dr), (5, .int h)]) (S' := [.int h, .int dr, .int sh, .int x, .int (nI a), .ref 92]) (f' := f) rfl ?_
  refine wq_callI (r := (chA K N P x sh dr h n)) (mp_postageOf f ha hn2 hn8 hac x sh dr h (fun _ => Int32.not_lt.mpr hx.1)) (Nat.le_of_ble_eq_true rfl) (pc' := 59) (L' := [(0, .ref 92), (1, .int (nI a)), (2, .int x), (3, .int sh), (4, .int dr), (5, .int h)]) (S' := []) rfl (Nat.le_of_ble_eq_true rfl) rfl rfl (Nat.le_of_ble_eq_true rfl) (Nat.le_of_ble_eq_true rfl) ?_
  refine wq_run1 (pc' := 64) (L' := [(0, .ref 92), (1, .int (nI a)), (2, .int x), (3, .int sh), (4, .int dr), (5, .int h)]) (S' := [.int (chA K N P x sh dr h n)]) (f' := f) rfl ?_
  exact wq_ret rfl ⟨rfl, rfl⟩
theorem mp_why1 {f : HI} {a n : Nat} {K N P : Nat → Int32} (ha : a < 5) (hn2 : f 101 a = nI n) (hn8 : n ≤ 8) (hac : AcM f a n K N P) (hA : inR (nI a) 0 (f 92 17 - 1)) {x : Int32} (hx : inR x 0 5000) : Sp 3 161 [.ref 92, .int (nI a), .int x] f (Ret (obI (clA K N x n)) f) := by
  show wq 3 161 (Ret (obI (clA K N x n)) f) 0 [(0, .ref 92), (1, .int (nI a)), (2, .int x)] [] f
  refine wq_run2 (pc' := 2) (L' := [(0, .ref 92), (1, .int (nI a)), (2, .int x)]) (S' := [.int (nI a), .ref 92]) (f' := f) rfl ?_
  refine wq_callI (r := (b2i (inR (nI a) 0 ((f 92 17) - 1)))) (mp_isAct f (nI a)) (Nat.le_of_ble_eq_true rfl) (pc' := 5) (L' := [(0, .ref 92), (1, .int (nI a)), (2, .int x)]) (S' := []) rfl (Nat.le_of_ble_eq_true rfl) rfl rfl (Nat.le_of_ble_eq_true rfl) (Nat.le_of_ble_eq_true rfl) ?_
  refine wq_if (c := (b2i (inR (nI a) 0 ((f 92 17) - 1))) = 0) (p1 := 8) (L1 := [(0, .ref 92), (1, .int (nI a)), (2, .int x)]) (S1 := []) (p2 := 11) (L2 := [(0, .ref 92), (1, .int (nI a)), (2, .int x)]) (S2 := []) rfl (fun q => absurd q (b2i_n0.mpr hA)) (fun _ => ?_)
  refine wq_run4 (pc' := 17) (L' := [(0, .ref 92), (1, .int (nI a)), (2, .int x)]) (S' := [.long 5000, .long 0, .long x.toInt64]) (f' := f) rfl ?_
  refine wq_callI (r := (b2i (inR x 0 5000))) (mp_in f x 0 5000) (Nat.le_of_ble_eq_true rfl) (pc' := 20) (L' := [(0, .ref 92), (1, .int (nI a)), (2, .int x)]) (S' := []) rfl (Nat.le_of_ble_eq_true rfl) rfl rfl (Nat.le_of_ble_eq_true rfl) (Nat.le_of_ble_eq_true rfl) ?_
  refine wq_if (c := (b2i (inR x 0 5000)) = 0) (p1 := 23) (L1 := [(0, .ref 92), (1, .int (nI a)), (2, .int x)]) (S1 := []) (p2 := 26) (L2 := [(0, .ref 92), (1, .int (nI a)), (2, .int x)]) (S2 := []) rfl (fun q => absurd q (b2i_n0.mpr hx)) (fun _ => ?_)
  refine wq_run3 (pc' := 29) (L' := [(0, .ref 92), (1, .int (nI a)), (2, .int x)]) (S' := [.int x, .int (nI a), .ref 92]) (f' := f) rfl ?_
  refine wq_callI (r := (obJ a (clA K N x n))) (mp_clauseOf2 f ha hn2 hn8 hac x) (Nat.le_of_ble_eq_true rfl) (pc' := 32) (L' := [(0, .ref 92), (1, .int (nI a)), (2, .int x)]) (S' := []) rfl (Nat.le_of_ble_eq_true rfl) rfl rfl (Nat.le_of_ble_eq_true rfl) (Nat.le_of_ble_eq_true rfl) ?_
  refine wq_run3 (pc' := 35) (L' := [(0, .ref 92), (1, .int (nI a)), (2, .int x), (3, .int (obJ a (clA K N x n)))]) (S' := [.int (-1), .int (obJ a (clA K N x n))]) (f' := f) rfl ?_
  refine wq_if (c := (obJ a (clA K N x n)) = (-1)) (p1 := 38) (L1 := [(0, .ref 92), (1, .int (nI a)), (2, .int x), (3, .int (obJ a (clA K N x n)))]) (S1 := []) (p2 := 42) (L2 := [(0, .ref 92), (1, .int (nI a)), (2, .int x), (3, .int (obJ a (clA K N x n)))]) (S2 := []) rfl (fun c_35 => ?_) (fun c_35 => ?_)
  · refine wq_run2 (pc' := 48) (L' := [(0, .ref 92), (1, .int (nI a)), (2, .int x), (3, .int (obJ a (clA K N x n)))]) (S' := [.int (-1)]) (f' := f) rfl ?_
    exact wq_ret rfl (Ret.of (by rw [(obJ_0 (a := a) (n := n) (by omega) (fun _ h => clA_lt h)).mp c_35]; rfl) rfl)
  · obtain ⟨b, hb⟩ := obJ_y c_35
    have hb8 := clA_lt hb
    refine wq_L (L' := [(0, .ref 92), (1, .int (nI a)), (2, .int x), (3, .int (nI (8 * a + b)))]) (by rw [hb]; rfl) ?_
    refine wq_run4 (pc' := 47) (L' := [(0, .ref 92), (1, .int (nI a)), (2, .int x), (3, .int (nI (8 * a + b)))]) (S' := [.int (8 * (nI a)), .int (nI (8 * a + b))]) (f' := f) rfl ?_
    refine wq_v (y := (nI (8 * a))) (pk_mul 8 a) ?_
    refine wq_run1 (pc' := 48) (L' := [(0, .ref 92), (1, .int (nI a)), (2, .int x), (3, .int (nI (8 * a + b)))]) (S' := [.int ((nI (8 * a + b)) - (nI (8 * a)))]) (f' := f) rfl ?_
    refine wq_v (y := (nI ((8 * a + b) - (8 * a)))) (pk_sub (a := (8 * a + b)) (b := (8 * a)) (by omega)) ?_
    exact wq_ret rfl (Ret.of (by rw [hb]; exact congrArg nI (by omega)) rfl)
