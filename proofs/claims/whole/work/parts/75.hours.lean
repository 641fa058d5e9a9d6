/-! the hour (class) -/
theorem sp_passHour {f : HI} {S2 S3 : Nat → HI} {W : Nat → Nat → Nat} {w n h : Nat} {P : HI → Prop} (hn24 : n ≤ 24) (hh : h ≤ 30000) (hc : f 43 6 = nI n) (h43 : f 43 7 = nI h) (i2 : S2 0 = mapL (cIn (nI h)) f n) (c2 : ∀ i, i ≤ n → S2 i 43 6 = nI n) (d2 : ∀ i, i < n → DrS S2 i) (i3 : S3 0 = S2 n) (c3 : ∀ i, i ≤ n → S3 i 43 6 = nI n ∧ S3 i 43 7 = nI h ∧ LaC (S3 i) W w) (d3 : ∀ i, i < n → LvS S3 W w h i) (d4 : ∀ g, ∃ S : Nat → HI, S 0 = up1 (S3 n) 10 g ∧ (∀ i, i ≤ n → S i 43 6 = nI n) ∧ (∀ i, i < n → PrS S n i) ∧ S n 43 7 = nI h ∧ P (S n)) : Sp 8 27 [.ref 43] f (fun v f' => v = none ∧ ∃ s, P s ∧ f' = up1 s 43 (upd (s 43) 7 (nI (h + 1)))) := by
  show wq 8 27 (fun v f' => v = none ∧ ∃ s, P s ∧ f' = up1 s 43 (upd (s 43) 7 (nI (h + 1)))) 0 [(0, .ref 43)] [] f
  refine wq_run1 (pc' := 1) (L' := [(0, .ref 43)]) (S' := [.ref 43]) (f' := f) rfl ?_
  refine wq_callV (g := (S2 0)) ((show Sp 2 28 [.ref 43] f (RetV (S2 0)) from by rw [i2, ← h43]; exact sp_comeIn hc hn24)) (Nat.le_of_ble_eq_true rfl) (pc' := 4) (L' := [(0, .ref 43)]) (S' := []) rfl (Nat.le_of_ble_eq_true rfl) rfl rfl (Nat.le_of_ble_eq_true rfl) (Nat.le_of_ble_eq_true rfl) ?_
  refine wq_run1 (pc' := 5) (L' := [(0, .ref 43)]) (S' := [.ref 43]) (f' := (S2 0)) rfl ?_
  refine wq_callV (g := (S2 n)) ((show Sp 5 29 [.ref 43] (S2 0) (RetV (S2 n)) from sp_goToDoors hn24 c2 d2)) (Nat.le_of_ble_eq_true rfl) (pc' := 8) (L' := [(0, .ref 43)]) (S' := []) rfl (Nat.le_of_ble_eq_true rfl) rfl rfl (Nat.le_of_ble_eq_true rfl) (Nat.le_of_ble_eq_true rfl) ?_
  refine wq_run1 (pc' := 9) (L' := [(0, .ref 43)]) (S' := [.ref 43]) (f' := (S2 n)) rfl ?_
  refine wq_call ((show Sp 7 35 [.ref 43] (S2 n) (fun v f' => ∃ g, v = none ∧ f' = up1 (S3 n) 10 g) from by have h9 := sp_leaveTowns hn24 hh c3 d3 (S3 0 10); rw [up1_id, i3] at h9; exact h9)) (Nat.le_of_ble_eq_true rfl) (pc' := 12) (L' := [(0, .ref 43)]) (S' := []) rfl (Nat.le_of_ble_eq_true rfl) rfl rfl (Nat.le_of_ble_eq_true rfl) (Nat.le_of_ble_eq_true rfl) ?_
  rintro v f9 ⟨g, e0, ef⟩
  subst e0
  subst ef
  obtain ⟨S, e4, c4, p4, h4, hP⟩ := d4 g
  refine wq_run1 (pc' := 13) (L' := [(0, .ref 43)]) (S' := [.ref 43]) (f' := (up1 (S3 n) 10 g)) rfl ?_
  refine wq_callV (g := (S n)) ((show Sp 5 37 [.ref 43] (up1 (S3 n) 10 g) (RetV (S n)) from by rw [← e4]; exact sp_partRuns hn24 c4 p4)) (Nat.le_of_ble_eq_true rfl) (pc' := 16) (L' := [(0, .ref 43)]) (S' := []) rfl (Nat.le_of_ble_eq_true rfl) rfl rfl (Nat.le_of_ble_eq_true rfl) (Nat.le_of_ble_eq_true rfl) ?_
  refine wq_run3 (pc' := 21) (L' := [(0, .ref 43)]) (S' := [.int ((S n) 43 7), .ref 43]) (f' := (S n)) rfl ?_
  refine wq_v (y := (nI h)) (h4) ?_
  refine wq_run2 (pc' := 23) (L' := [(0, .ref 43)]) (S' := [.int ((nI h) + 1), .ref 43]) (f' := (S n)) rfl ?_
  refine wq_v (y := (nI (h + 1))) (nI_add h 1) ?_
  refine wq_putI rfl rfl ?_
  refine wq_h (f' := (up1 (S n) 43 (upd ((S n) 43) 7 (nI (h + 1))))) (up2_eq1 (S n) 43 7 (nI (h + 1))) ?_
  exact wq_ret rfl ⟨rfl, _, hP, rfl⟩
theorem sq_ex {α : Type} {P : Nat → α → Prop} {R : Nat → α → α → Prop} {a : α} : ∀ (n : Nat), P 0 a → (∀ i x, i < n → P i x → ∃ y, R i x y ∧ P (i + 1) y) → ∃ S : Nat → α, S 0 = a ∧ (∀ i, i < n → R i (S i) (S (i + 1))) ∧ ∀ i, i ≤ n → P i (S i)
  | 0, h0, _ => ⟨fun _ => a, rfl, fun i h => absurd h (Nat.not_lt_zero _), fun i h => by rw [Nat.le_zero.mp h]; exact h0⟩
  | n + 1, h0, hs => by
    obtain ⟨S, e, h1, h2⟩ := sq_ex n h0 (fun i x hi hp => hs i x (by omega) hp)
    obtain ⟨y, r, p⟩ := hs n (S n) (Nat.lt_succ_self _) (h2 n (Nat.le_refl _))
    refine ⟨fun j => if j = n + 1 then y else S j, ?_, ?_, ?_⟩
    · show (if 0 = n + 1 then y else S 0) = a
      rw [if_neg (by omega)]; exact e
    · intro i hi
      show R i (if i = n + 1 then y else S i) (if i + 1 = n + 1 then y else S (i + 1))
      rw [if_neg (by omega)]
      by_cases c : i = n
      · rw [if_pos (by omega), c]; exact r
      · rw [if_neg (by omega)]; exact h1 i (by omega)
    · intro i hi
      show P i (if i = n + 1 then y else S i)
      by_cases c : i = n + 1
      · rw [if_pos c, c]; exact p
      · rw [if_neg c]; exact h2 i (by omega)
theorem lp_hours {f : HI} {N h : Nat} {I : Nat → HI → Prop} (hN1 : 1 ≤ N) (hN : N ≤ 60) (hhN : h + N ≤ 9000) (hf : I 0 f) (hh : ∀ i f1, i ≤ N → I i f1 → f1 43 7 = nI (h + i)) (hs : ∀ i f1, i < N → I i f1 → Sp 8 27 [.ref 43] f1 (fun v f' => v = none ∧ I (i + 1) f')) : ∀ (m9 : Nat) (i : Nat) (f1 : HI), (i ≤ N) → (I i f1) → N - i < m9 → wq 9 95 (fun v f' => v = some (.int (nI (h + N))) ∧ I N f') 30 [(0, .ref 0), (1, .int (nI N)), (2, .int (nI i))] [] f1 := by
  intro m9
  induction m9 with
  | zero => intro i f1 hi hf1 hn; exact absurd hn (Nat.not_lt_zero _)
  | succ m9 ih =>
    intro i f1 hi hf1 hn
    refine wq_run2 (pc' := 32) (L' := [(0, .ref 0), (1, .int (nI N)), (2, .int (nI i))]) (S' := [.int (nI N), .int (nI i)]) (f' := f1) rfl ?_
    refine wq_if (c := (nI N) ≤ (nI i)) (p1 := 48) (L1 := [(0, .ref 0), (1, .int (nI N)), (2, .int (nI i))]) (S1 := []) (p2 := 35) (L2 := [(0, .ref 0), (1, .int (nI N)), (2, .int (nI i))]) (S2 := []) rfl (fun c_32 => ?_) (fun c_32 => ?_)
    · have k_32 : N ≤ i := (nI_leI (a := N) (b := i) (by omega) (by omega)).mp c_32
      refine wq_run3 (pc' := 55) (L' := [(0, .ref 0), (1, .int (nI N)), (2, .int (nI i))]) (S' := [.int (f1 43 7)]) (f' := f1) rfl ?_
      refine wq_v (y := (nI (h + i))) ((hh i f1 hi hf1)) ?_
      have e : i = N := by omega
      rw [e] at hf1
      exact wq_ret rfl ⟨by rw [e], hf1⟩
    · have k_32 : ¬ N ≤ i := fun q => c_32 ((nI_leI (a := N) (b := i) (by omega) (by omega)).mpr q)
      refine wq_run2 (pc' := 39) (L' := [(0, .ref 0), (1, .int (nI N)), (2, .int (nI i))]) (S' := [.ref 43]) (f' := f1) rfl ?_
      refine wq_call ((hs i f1 (by omega) hf1)) (Nat.le_of_ble_eq_true rfl) (pc' := 42) (L' := [(0, .ref 0), (1, .int (nI N)), (2, .int (nI i))]) (S' := []) rfl (Nat.le_of_ble_eq_true rfl) rfl rfl (Nat.le_of_ble_eq_true rfl) (Nat.le_of_ble_eq_true rfl) ?_
      rintro v f9 ⟨e0, ef⟩
      subst e0
      refine wq_run1 (pc' := 45) (L' := [(0, .ref 0), (1, .int (nI N)), (2, .int ((nI i) + 1))]) (S' := []) (f' := f9) rfl ?_
      refine wq_L (L' := [(0, .ref 0), (1, .int (nI N)), (2, .int (nI (i + 1)))]) (by rw [show nI i + 1 = nI (i + 1) from nI_add _ _]) ?_
      refine wq_run1 (pc' := 30) (L' := [(0, .ref 0), (1, .int (nI N)), (2, .int (nI (i + 1)))]) (S' := []) (f' := f9) rfl ?_
      exact ih (i + 1) f9 (by omega) ef (by omega)
theorem sp_hours3 {f : HI} {N h : Nat} {I : Nat → HI → Prop} (hN1 : 1 ≤ N) (hN : N ≤ 60) (hhN : h + N ≤ 9000) (hf : I 0 f) (hh : ∀ i f1, i ≤ N → I i f1 → f1 43 7 = nI (h + i)) (hs : ∀ i f1, i < N → I i f1 → Sp 8 27 [.ref 43] f1 (fun v f' => v = none ∧ I (i + 1) f')) : Sp 9 95 [.ref 0, .int (nI N)] f (fun v f' => v = some (.int (nI (h + N))) ∧ I N f') := by
  show wq 9 95 (fun v f' => v = some (.int (nI (h + N))) ∧ I N f') 0 [(0, .ref 0), (1, .int (nI N))] [] f
  have h60 : inR (nI N) 1 60 := ⟨nI_le (a := 1) hN1 (by omega), nI_le (b := 60) hN (by decide)⟩
  refine wq_run3 (pc' := 4) (L' := [(0, .ref 0), (1, .int (nI N))]) (S' := [.int 60, .int 1, .int (nI N)]) (f' := f) rfl ?_
  refine wq_callI (r := (b2i (inR (nI N) 1 60))) (sp_within f (nI N) 1 60) (Nat.le_of_ble_eq_true rfl) (pc' := 7) (L' := [(0, .ref 0), (1, .int (nI N))]) (S' := []) rfl (Nat.le_of_ble_eq_true rfl) rfl rfl (Nat.le_of_ble_eq_true rfl) (Nat.le_of_ble_eq_true rfl) ?_
  refine wq_if (c := (b2i (inR (nI N) 1 60)) = 0) (p1 := 25) (L1 := [(0, .ref 0), (1, .int (nI N))]) (S1 := []) (p2 := 10) (L2 := [(0, .ref 0), (1, .int (nI N))]) (S2 := []) rfl (fun q => absurd q (b2i_n0.mpr h60)) (fun _ => ?_)
  refine wq_run3 (pc' := 17) (L' := [(0, .ref 0), (1, .int (nI N))]) (S' := [.int (f 43 7)]) (f' := f) rfl ?_
  refine wq_v (y := (nI h)) ((by have h9 := hh 0 f (Nat.zero_le _) hf; exact h9)) ?_
  refine wq_run2 (pc' := 19) (L' := [(0, .ref 0), (1, .int (nI N))]) (S' := [.int ((nI h) + (nI N))]) (f' := f) rfl ?_
  refine wq_v (y := (nI (h + N))) (nI_add h N) ?_
  refine wq_run1 (pc' := 22) (L' := [(0, .ref 0), (1, .int (nI N))]) (S' := [.int 9000, .int (nI (h + N))]) (f' := f) rfl ?_
  refine wq_if (c := (nI (h + N)) ≤ 9000) (p1 := 28) (L1 := [(0, .ref 0), (1, .int (nI N))]) (S1 := []) (p2 := 25) (L2 := [(0, .ref 0), (1, .int (nI N))]) (S2 := []) rfl (fun _ => ?_) (fun q => absurd ((nI_leI (a := (h + N)) (b := 9000) (by omega) (by omega)).mpr (by omega)) q)
  refine wq_run2 (pc' := 30) (L' := [(0, .ref 0), (1, .int (nI N)), (2, .int 0)]) (S' := []) (f' := f) rfl ?_
  exact lp_hours hN1 hN hhN hf hh hs (N - 0 + 1) 0 f (Nat.zero_le _) hf (Nat.lt_succ_self _)
theorem mlp_hours {f : HI} {N h : Nat} {I : Nat → HI → Prop} (hN1 : 1 ≤ N) (hN : N ≤ 60) (hhN : h + N ≤ 9000) (hf : I 0 f) (hh : ∀ i f1, i ≤ N → I i f1 → f1 92 8 = nI (h + i)) (hs : ∀ i f1, i < N → I i f1 → Sp 6 174 [.ref 92] f1 (fun v f' => v = none ∧ I (i + 1) f')) : ∀ (m9 : Nat) (i : Nat) (f1 : HI), (i ≤ N) → (I i f1) → N - i < m9 → wq 7 175 (fun v f' => v = some (.int (nI (h + N))) ∧ I N f') 29 [(0, .ref 92), (1, .int (nI N)), (2, .int (nI i))] [] f1 := by
  intro m9
  induction m9 with
  | zero => intro i f1 hi hf1 hn; exact absurd hn (Nat.not_lt_zero _)
  | succ m9 ih =>
    intro i f1 hi hf1 hn
    refine wq_run2 (pc' := 31) (L' := [(0, .ref 92), (1, .int (nI N)), (2, .int (nI i))]) (S' := [.int (nI N), .int (nI i)]) (f' := f1) rfl ?_
    refine wq_if (c := (nI N) ≤ (nI i)) (p1 := 44) (L1 := [(0, .ref 92), (1, .int (nI N)), (2, .int (nI i))]) (S1 := []) (p2 := 34) (L2 := [(0, .ref 92), (1, .int (nI N)), (2, .int (nI i))]) (S2 := []) rfl (fun c_31 => ?_) (fun c_31 => ?_)
    · have k_31 : N ≤ i := (nI_leI (a := N) (b := i) (by omega) (by omega)).mp c_31
      refine wq_run2 (pc' := 48) (L' := [(0, .ref 92), (1, .int (nI N)), (2, .int (nI i))]) (S' := [.int (f1 92 8)]) (f' := f1) rfl ?_
      refine wq_v (y := (nI (h + i))) ((hh i f1 hi hf1)) ?_
      have e : i = N := by omega
      rw [e] at hf1
      exact wq_ret rfl ⟨by rw [e], hf1⟩
    · have k_31 : ¬ N ≤ i := fun q => c_31 ((nI_leI (a := N) (b := i) (by omega) (by omega)).mpr q)
      refine wq_run1 (pc' := 35) (L' := [(0, .ref 92), (1, .int (nI N)), (2, .int (nI i))]) (S' := [.ref 92]) (f' := f1) rfl ?_
      refine wq_call ((hs i f1 (by omega) hf1)) (Nat.le_of_ble_eq_true rfl) (pc' := 38) (L' := [(0, .ref 92), (1, .int (nI N)), (2, .int (nI i))]) (S' := []) rfl (Nat.le_of_ble_eq_true rfl) rfl rfl (Nat.le_of_ble_eq_true rfl) (Nat.le_of_ble_eq_true rfl) ?_
      rintro v f9 ⟨e0, ef⟩
      subst e0
      refine wq_run1 (pc' := 41) (L' := [(0, .ref 92), (1, .int (nI N)), (2, .int ((nI i) + 1))]) (S' := []) (f' := f9) rfl ?_
      refine wq_L (L' := [(0, .ref 92), (1, .int (nI N)), (2, .int (nI (i + 1)))]) (by rw [show nI i + 1 = nI (i + 1) from nI_add _ _]) ?_
      refine wq_run1 (pc' := 29) (L' := [(0, .ref 92), (1, .int (nI N)), (2, .int (nI (i + 1)))]) (S' := []) (f' := f9) rfl ?_
      exact ih (i + 1) f9 (by omega) ef (by omega)
theorem mp_hours3 {f : HI} {N h : Nat} {I : Nat → HI → Prop} (hN1 : 1 ≤ N) (hN : N ≤ 60) (hhN : h + N ≤ 9000) (hf : I 0 f) (hh : ∀ i f1, i ≤ N → I i f1 → f1 92 8 = nI (h + i)) (hs : ∀ i f1, i < N → I i f1 → Sp 6 174 [.ref 92] f1 (fun v f' => v = none ∧ I (i + 1) f')) : Sp 7 175 [.ref 92, .int (nI N)] f (fun v f' => v = some (.int (nI (h + N))) ∧ I N f') := by
  show wq 7 175 (fun v f' => v = some (.int (nI (h + N))) ∧ I N f') 0 [(0, .ref 92), (1, .int (nI N))] [] f
  have h60 : inR (nI N) 1 60 := ⟨nI_le (a := 1) hN1 (by omega), nI_le (b := 60) hN (by decide)⟩
  refine wq_run4 (pc' := 6) (L' := [(0, .ref 92), (1, .int (nI N))]) (S' := [.long 60, .long 1, .long (nI N).toInt64]) (f' := f) rfl ?_
  refine wq_callI (r := (b2i (inR (nI N) 1 60))) (mp_in f (nI N) 1 60) (Nat.le_of_ble_eq_true rfl) (pc' := 9) (L' := [(0, .ref 92), (1, .int (nI N))]) (S' := []) rfl (Nat.le_of_ble_eq_true rfl) rfl rfl (Nat.le_of_ble_eq_true rfl) (Nat.le_of_ble_eq_true rfl) ?_
  refine wq_if (c := (b2i (inR (nI N) 1 60)) = 0) (p1 := 24) (L1 := [(0, .ref 92), (1, .int (nI N))]) (S1 := []) (p2 := 12) (L2 := [(0, .ref 92), (1, .int (nI N))]) (S2 := []) rfl (fun q => absurd q (b2i_n0.mpr h60)) (fun _ => ?_)
  refine wq_run2 (pc' := 16) (L' := [(0, .ref 92), (1, .int (nI N))]) (S' := [.int (f 92 8)]) (f' := f) rfl ?_
  refine wq_v (y := (nI h)) ((by have h9 := hh 0 f (Nat.zero_le _) hf; exact h9)) ?_
  refine wq_run2 (pc' := 18) (L' := [(0, .ref 92), (1, .int (nI N))]) (S' := [.int ((nI h) + (nI N))]) (f' := f) rfl ?_
  refine wq_v (y := (nI (h + N))) (nI_add h N) ?_
  refine wq_run1 (pc' := 21) (L' := [(0, .ref 92), (1, .int (nI N))]) (S' := [.int 9000, .int (nI (h + N))]) (f' := f) rfl ?_
  refine wq_if (c := (nI (h + N)) ≤ 9000) (p1 := 27) (L1 := [(0, .ref 92), (1, .int (nI N))]) (S1 := []) (p2 := 24) (L2 := [(0, .ref 92), (1, .int (nI N))]) (S2 := []) rfl (fun _ => ?_) (fun q => absurd ((nI_leI (a := (h + N)) (b := 9000) (by omega) (by omega)).mpr (by omega)) q)
  refine wq_run2 (pc' := 29) (L' := [(0, .ref 92), (1, .int (nI N)), (2, .int 0)]) (S' := []) (f' := f) rfl ?_
  exact mlp_hours hN1 hN hhN hf hh hs (N - 0 + 1) 0 f (Nat.zero_le _) hf (Nat.lt_succ_self _)
theorem sp_hours1 (f : HI) {n : Int32} (h1 : ¬ inR n 1 60) : Sp 3 95 [.ref 0, .int n] f (Ret (-3) f) := by
  show wq 3 95 (Ret (-3) f) 0 [(0, .ref 0), (1, .int n)] [] f
  refine wq_run3 (pc' := 4) (L' := [(0, .ref 0), (1, .int n)]) (S' := [.int 60, .int 1, .int n]) (f' := f) rfl ?_
  refine wq_callI (r := (b2i (inR n 1 60))) (sp_within f n 1 60) (Nat.le_of_ble_eq_true rfl) (pc' := 7) (L' := [(0, .ref 0), (1, .int n)]) (S' := []) rfl (Nat.le_of_ble_eq_true rfl) rfl rfl (Nat.le_of_ble_eq_true rfl) (Nat.le_of_ble_eq_true rfl) ?_
  refine wq_if (c := (b2i (inR n 1 60)) = 0) (p1 := 25) (L1 := [(0, .ref 0), (1, .int n)]) (S1 := []) (p2 := 10) (L2 := [(0, .ref 0), (1, .int n)]) (S2 := []) rfl (fun _ => ?_) (fun q => absurd (b2i_0.mpr h1) q)
  refine wq_run1 (pc' := 27) (L' := [(0, .ref 0), (1, .int n)]) (S' := [.int (-3)]) (f' := f) rfl ?_
  exact wq_ret rfl ⟨rfl, rfl⟩
theorem mp_hours1 (f : HI) {n : Int32} (h1 : ¬ inR n 1 60) : Sp 3 175 [.ref 92, .int n] f (Ret (-3) f) := by
  show wq 3 175 (Ret (-3) f) 0 [(0, .ref 92), (1, .int n)] [] f
  refine wq_run4 (pc' := 6) (L' := [(0, .ref 92), (1, .int n)]) (S' := [.long 60, .long 1, .long n.toInt64]) (f' := f) rfl ?_
  refine wq_callI (r := (b2i (inR n 1 60))) (mp_in f n 1 60) (Nat.le_of_ble_eq_true rfl) (pc' := 9) (L' := [(0, .ref 92), (1, .int n)]) (S' := []) rfl (Nat.le_of_ble_eq_true rfl) rfl rfl (Nat.le_of_ble_eq_true rfl) (Nat.le_of_ble_eq_true rfl) ?_
  refine wq_if (c := (b2i (inR n 1 60)) = 0) (p1 := 24) (L1 := [(0, .ref 92), (1, .int n)]) (S1 := []) (p2 := 12) (L2 := [(0, .ref 92), (1, .int n)]) (S2 := []) rfl (fun _ => ?_) (fun q => absurd (b2i_0.mpr h1) q)
  refine wq_run1 (pc' := 26) (L' := [(0, .ref 92), (1, .int n)]) (S' := [.int (-3)]) (f' := f) rfl ?_
  exact wq_ret rfl ⟨rfl, rfl⟩
theorem sp_hours2 {f : HI} {N h : Nat} (hN1 : 1 ≤ N) (hN : N ≤ 60) (hhN : 9000 < h + N) (h9000 : h ≤ 9000) (h43 : f 43 7 = nI h) : Sp 3 95 [.ref 0, .int (nI N)] f (Ret (-3) f) := by
  show wq 3 95 (Ret (-3) f) 0 [(0, .ref 0), (1, .int (nI N))] [] f
  have h60 : inR (nI N) 1 60 := ⟨nI_le (a := 1) hN1 (by omega), nI_le (b := 60) hN (by decide)⟩
  refine wq_run3 (pc' := 4) (L' := [(0, .ref 0), (1, .int (nI N))]) (S' := [.int 60, .int 1, .int (nI N)]) (f' := f) rfl ?_
  refine wq_callI (r := (b2i (inR (nI N) 1 60))) (sp_within f (nI N) 1 60) (Nat.le_of_ble_eq_true rfl) (pc' := 7) (L' := [(0, .ref 0), (1, .int (nI N))]) (S' := []) rfl (Nat.le_of_ble_eq_true rfl) rfl rfl (Nat.le_of_ble_eq_true rfl) (Nat.le_of_ble_eq_true rfl) ?_
  refine wq_if (c := (b2i (inR (nI N) 1 60)) = 0) (p1 := 25) (L1 := [(0, .ref 0), (1, .int (nI N))]) (S1 := []) (p2 := 10) (L2 := [(0, .ref 0), (1, .int (nI N))]) (S2 := []) rfl (fun q => absurd q (b2i_n0.mpr h60)) (fun _ => ?_)
  refine wq_run3 (pc' := 17) (L' := [(0, .ref 0), (1, .int (nI N))]) (S' := [.int (f 43 7)]) (f' := f) rfl ?_
  refine wq_v (y := (nI h)) (h43) ?_
  refine wq_run2 (pc' := 19) (L' := [(0, .ref 0), (1, .int (nI N))]) (S' := [.int ((nI h) + (nI N))]) (f' := f) rfl ?_
  refine wq_v (y := (nI (h + N))) (nI_add h N) ?_
  refine wq_run1 (pc' := 22) (L' := [(0, .ref 0), (1, .int (nI N))]) (S' := [.int 9000, .int (nI (h + N))]) (f' := f) rfl ?_
  refine wq_if (c := (nI (h + N)) ≤ 9000) (p1 := 28) (L1 := [(0, .ref 0), (1, .int (nI N))]) (S1 := []) (p2 := 25) (L2 := [(0, .ref 0), (1, .int (nI N))]) (S2 := []) rfl (fun q => absurd q (fun q => absurd ((nI_leI (a := (h + N)) (b := 9000) (by omega) (by omega)).mp q) (by omega))) (fun _ => ?_)
  refine wq_run1 (pc' := 27) (L' := [(0, .ref 0), (1, .int (nI N))]) (S' := [.int (-3)]) (f' := f) rfl ?_
  exact wq_ret rfl ⟨rfl, rfl⟩
theorem mp_hours2 {f : HI} {N h : Nat} (hN1 : 1 ≤ N) (hN : N ≤ 60) (hhN : 9000 < h + N) (h9000 : h ≤ 9000) (h8 : f 92 8 = nI h) : Sp 3 175 [.ref 92, .int (nI N)] f (Ret (-3) f) := by
  show wq 3 175 (Ret (-3) f) 0 [(0, .ref 92), (1, .int (nI N))] [] f
  have h60 : inR (nI N) 1 60 := ⟨nI_le (a := 1) hN1 (by omega), nI_le (b := 60) hN (by decide)⟩
  refine wq_run4 (pc' := 6) (L' := [(0, .ref 92), (1, .int (nI N))]) (S' := [.long 60, .long 1, .long (nI N).toInt64]) (f' := f) rfl ?_
  refine wq_callI (r := (b2i (inR (nI N) 1 60))) (mp_in f (nI N) 1 60) (Nat.le_of_ble_eq_true rfl) (pc' := 9) (L' := [(0, .ref 92), (1, .int (nI N))]) (S' := []) rfl (Nat.le_of_ble_eq_true rfl) rfl rfl (Nat.le_of_ble_eq_true rfl) (Nat.le_of_ble_eq_true rfl) ?_
  refine wq_if (c := (b2i (inR (nI N) 1 60)) = 0) (p1 := 24) (L1 := [(0, .ref 92), (1, .int (nI N))]) (S1 := []) (p2 := 12) (L2 := [(0, .ref 92), (1, .int (nI N))]) (S2 := []) rfl (fun q => absurd q (b2i_n0.mpr h60)) (fun _ => ?_)
  refine wq_run2 (pc' := 16) (L' := [(0, .ref 92), (1, .int (nI N))]) (S' := [.int (f 92 8)]) (f' := f) rfl ?_
  refine wq_v (y := (nI h)) (h8) ?_
  refine wq_run2 (pc' := 18) (L' := [(0, .ref 92), (1, .int (nI N))]) (S' := [.int ((nI h) + (nI N))]) (f' := f) rfl ?_
  refine wq_v (y := (nI (h + N))) (nI_add h N) ?_
  refine wq_run1 (pc' := 21) (L' := [(0, .ref 92), (1, .int (nI N))]) (S' := [.int 9000, .int (nI (h + N))]) (f' := f) rfl ?_
  refine wq_if (c := (nI (h + N)) ≤ 9000) (p1 := 27) (L1 := [(0, .ref 92), (1, .int (nI N))]) (S1 := []) (p2 := 24) (L2 := [(0, .ref 92), (1, .int (nI N))]) (S2 := []) rfl (fun q => absurd q (fun q => absurd ((nI_leI (a := (h + N)) (b := 9000) (by omega) (by omega)).mp q) (by omega))) (fun _ => ?_)
  refine wq_run1 (pc' := 26) (L' := [(0, .ref 92), (1, .int (nI N))]) (S' := [.int (-3)]) (f' := f) rfl ?_
  exact wq_ret rfl ⟨rfl, rfl⟩
