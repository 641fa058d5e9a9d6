/-! the text: numbers, clauses, faults -/
def knd (T : Nat → Int32) (s e : Nat) : Int32 := if wdI T 0 s e = 0 then (if wdI T 1 s e = 0 then (if wdI T 2 s e = 0 then (if wdI T 3 s e = 0 then (if wdI T 4 s e = 0 then (if wdI T 5 s e = 0 then -1 else 5) else 4) else 3) else 2) else 1) else 0
theorem knd_y {T : Nat → Int32} {s e : Nat} (h : ¬ knd T s e = -1) : ∃ j, j < 6 ∧ knd T s e = nI j := by
  unfold knd at h ⊢
  by_cases c0 : wdI T 0 s e = 0
  · rw [if_pos c0] at h ⊢
    by_cases c1 : wdI T 1 s e = 0
    · rw [if_pos c1] at h ⊢
      by_cases c2 : wdI T 2 s e = 0
      · rw [if_pos c2] at h ⊢
        by_cases c3 : wdI T 3 s e = 0
        · rw [if_pos c3] at h ⊢
          by_cases c4 : wdI T 4 s e = 0
          · rw [if_pos c4] at h ⊢
            by_cases c5 : wdI T 5 s e = 0
            · rw [if_pos c5] at h; exact absurd rfl h
            · rw [if_neg c5]; exact ⟨5, by decide, rfl⟩
          · rw [if_neg c4]; exact ⟨4, by decide, rfl⟩
        · rw [if_neg c3]; exact ⟨3, by decide, rfl⟩
      · rw [if_neg c2]; exact ⟨2, by decide, rfl⟩
    · rw [if_neg c1]; exact ⟨1, by decide, rfl⟩
  · rw [if_neg c0]; exact ⟨0, by decide, rfl⟩
def dgN (T : Nat → Int32) (s : Nat) : Nat → Int32
  | 0 => 0
  | i + 1 => dgN T s i * 10 + T (s + i) - 48
def nmI (T : Nat → Int32) (s e : Nat) : Int32 := if s < e ∧ e ≤ s + 3 ∧ srt (T s) = 1 then dgN T s (e - s) else -1
def loN (j : Nat) : Int32 := (tabB.getD 0 []).getD j 0
def hiN (j : Nat) : Int32 := (tabB.getD 1 []).getD j 0
theorem loN_0 : ∀ j, j < 6 → 0 ≤ loN j := by decide +kernel
/-- a clause behind place p: the fault, or kind, number, pence and the place behind it -/
def clR (T : Nat → Int32) (n p : Nat) : Nat ⊕ (Int32 × Int32 × Int32 × Nat) :=
  if knd T (tkS T n p) (tkE T n p) = -1 then .inl (tkS T n p) else
  if ¬ inR (nmI T (tkS T n (tkE T n p)) (tkE T n (tkE T n p))) (loN (knd T (tkS T n p) (tkE T n p)).toNatClampNeg) (hiN (knd T (tkS T n p) (tkE T n p)).toNatClampNeg) then .inl (tkS T n (tkE T n p)) else
  if (knd T (tkS T n p) (tkE T n p)).toNatClampNeg = 0 ∨ (knd T (tkS T n p) (tkE T n p)).toNatClampNeg = 1 then
    (if wdI T 6 (tkS T n (tkE T n (tkE T n p))) (tkE T n (tkE T n (tkE T n p))) = 0 then .inl (tkS T n (tkE T n (tkE T n p))) else
     if ¬ inR (nmI T (tkS T n (tkE T n (tkE T n (tkE T n p)))) (tkE T n (tkE T n (tkE T n (tkE T n p))))) 0 99 then .inl (tkS T n (tkE T n (tkE T n (tkE T n p)))) else
     .inr (knd T (tkS T n p) (tkE T n p), nmI T (tkS T n (tkE T n p)) (tkE T n (tkE T n p)), nmI T (tkS T n (tkE T n (tkE T n (tkE T n p)))) (tkE T n (tkE T n (tkE T n (tkE T n p)))), tkE T n (tkE T n (tkE T n (tkE T n p)))))
  else .inr (knd T (tkS T n p) (tkE T n p), nmI T (tkS T n (tkE T n p)) (tkE T n (tkE T n p)), nmI T (tkS T n (tkE T n p)) (tkE T n (tkE T n p)), tkE T n (tkE T n p))
theorem clR_ok {T : Nat → Int32} {n p p' : Nat} {k a b : Int32} (hp : p ≤ n) (h : clR T n p = .inr (k, a, b, p')) : p' ≤ n ∧ ∃ j, j < 6 ∧ k = nI j ∧ inR a (loN j) (hiN j) ∧ (j = 0 ∨ j = 1 ∨ b = a) := by
  have t1 := tk_b (T := T) hp
  have t2 := tk_b (T := T) t1.2.2.1
  have t3 := tk_b (T := T) t2.2.2.1
  have t4 := tk_b (T := T) t3.2.2.1
  unfold clR at h
  by_cases c1 : knd T (tkS T n p) (tkE T n p) = -1
  · rw [if_pos c1] at h; cases h
  rw [if_neg c1] at h
  obtain ⟨j, hj, e⟩ := knd_y c1
  rw [e, nI_clamp (by omega)] at h
  split at h
  · cases h
  rename_i c2
  have c2 := Decidable.not_not.mp c2
  split at h
  · rename_i c3
    split at h
    · cases h
    split at h
    · cases h
    · cases h
      exact ⟨t4.2.2.1, j, hj, rfl, c2, by omega⟩
  · cases h
    exact ⟨t2.2.2.1, j, hj, rfl, c2, Or.inr (Or.inr rfl)⟩
def pp (T : Nat → Int32) (n : Nat) : Nat → Nat
  | 0 => 0
  | i + 1 => match clR T n (pp T n i) with
    | .inl _ => 0
    | .inr r => tkE T n r.2.2.2
def cC (T : Nat → Int32) (n i : Nat) : Int32 × Int32 × Int32 × Nat := match clR T n (pp T n i) with
  | .inl _ => (0, 0, 0, 0)
  | .inr r => r
/-- the fault and how many clauses, from clause i on -/
def psF (T : Nat → Int32) (n : Nat) : Nat → Nat → Nat → Option Nat × Nat
  | 0, i, q => (some q, i)
  | m + 1, i, _ => match clR T n (pp T n i) with
    | .inl s => (some s, i)
    | .inr r => if n ≤ tkS T n r.2.2.2 then (none, i + 1) else if ¬ T (tkS T n r.2.2.2) = 59 then (some (tkS T n r.2.2.2), i + 1) else psF T n m (i + 1) (tkS T n r.2.2.2)
theorem pp_s {T : Nat → Int32} {n i : Nat} {r : Int32 × Int32 × Int32 × Nat} (h : clR T n (pp T n i) = .inr r) : pp T n (i + 1) = tkE T n r.2.2.2 := by
  show (match clR T n (pp T n i) with
    | .inl _ => 0
    | .inr r => tkE T n r.2.2.2) = _
  rw [h]
theorem cC_s {T : Nat → Int32} {n i : Nat} {r : Int32 × Int32 × Int32 × Nat} (h : clR T n (pp T n i) = .inr r) : cC T n i = r := by
  unfold cC
  rw [h]
theorem ps_l {T : Nat → Int32} {n m i q s : Nat} (h : clR T n (pp T n i) = .inl s) : psF T n (m + 1) i q = (some s, i) := by
  show (match clR T n (pp T n i) with
    | .inl s => (some s, i)
    | .inr r => if n ≤ tkS T n r.2.2.2 then (none, i + 1) else if ¬ T (tkS T n r.2.2.2) = 59 then (some (tkS T n r.2.2.2), i + 1) else psF T n m (i + 1) (tkS T n r.2.2.2)) = _
  rw [h]
theorem ps_r {T : Nat → Int32} {n m i q : Nat} {r : Int32 × Int32 × Int32 × Nat} (h : clR T n (pp T n i) = .inr r) : psF T n (m + 1) i q = if n ≤ tkS T n r.2.2.2 then (none, i + 1) else if ¬ T (tkS T n r.2.2.2) = 59 then (some (tkS T n r.2.2.2), i + 1) else psF T n m (i + 1) (tkS T n r.2.2.2) := by
  show (match clR T n (pp T n i) with
    | .inl s => (some s, i)
    | .inr r => if n ≤ tkS T n r.2.2.2 then (none, i + 1) else if ¬ T (tkS T n r.2.2.2) = 59 then (some (tkS T n r.2.2.2), i + 1) else psF T n m (i + 1) (tkS T n r.2.2.2)) = _
  rw [h]
theorem sp_kind {f : HI} {T : Nat → Int32} {n s e c : Nat} (hn1 : n ≤ 160) (hT : ∀ j, j < n → f 12 j = T j) (hx : TX (f 11) n s e c) (hse : s ≤ e) (hen : e ≤ n) : Sp 6 70 [.ref 11] f (Ret (knd T s e) f) := by
  show wq 6 70 (Ret (knd T s e) f) 0 [(0, .ref 11)] [] f
  refine wq_run2 (pc' := 3) (L' := [(0, .ref 11)]) (S' := [.ref 2000000, .ref 11]) (f' := f) rfl ?_
  refine wq_callI (r := (wdI T 0 s e)) (sp_word0 hn1 hT hx hse hen) (Nat.le_of_ble_eq_true rfl) (pc' := 6) (L' := [(0, .ref 11)]) (S' := []) rfl (Nat.le_of_ble_eq_true rfl) rfl rfl (Nat.le_of_ble_eq_true rfl) (Nat.le_of_ble_eq_true rfl) ?_
  refine wq_if (c := (wdI T 0 s e) = 0) (p1 := 11) (L1 := [(0, .ref 11)]) (S1 := []) (p2 := 9) (L2 := [(0, .ref 11)]) (S2 := []) rfl (fun c_6 => ?_) (fun c_6 => ?_)
  · refine wq_run2 (pc' := 14) (L' := [(0, .ref 11)]) (S' := [.ref 2000001, .ref 11]) (f' := f) rfl ?_
    refine wq_callI (r := (wdI T 1 s e)) (sp_word1 hn1 hT hx hse hen) (Nat.le_of_ble_eq_true rfl) (pc' := 17) (L' := [(0, .ref 11)]) (S' := []) rfl (Nat.le_of_ble_eq_true rfl) rfl rfl (Nat.le_of_ble_eq_true rfl) (Nat.le_of_ble_eq_true rfl) ?_
    refine wq_if (c := (wdI T 1 s e) = 0) (p1 := 22) (L1 := [(0, .ref 11)]) (S1 := []) (p2 := 20) (L2 := [(0, .ref 11)]) (S2 := []) rfl (fun c_17 => ?_) (fun c_17 => ?_)
    · refine wq_run2 (pc' := 25) (L' := [(0, .ref 11)]) (S' := [.ref 2000002, .ref 11]) (f' := f) rfl ?_
      refine wq_callI (r := (wdI T 2 s e)) (sp_word2 hn1 hT hx hse hen) (Nat.le_of_ble_eq_true rfl) (pc' := 28) (L' := [(0, .ref 11)]) (S' := []) rfl (Nat.le_of_ble_eq_true rfl) rfl rfl (Nat.le_of_ble_eq_true rfl) (Nat.le_of_ble_eq_true rfl) ?_
      refine wq_if (c := (wdI T 2 s e) = 0) (p1 := 33) (L1 := [(0, .ref 11)]) (S1 := []) (p2 := 31) (L2 := [(0, .ref 11)]) (S2 := []) rfl (fun c_28 => ?_) (fun c_28 => ?_)
      · refine wq_run2 (pc' := 36) (L' := [(0, .ref 11)]) (S' := [.ref 2000003, .ref 11]) (f' := f) rfl ?_
        refine wq_callI (r := (wdI T 3 s e)) (sp_word3 hn1 hT hx hse hen) (Nat.le_of_ble_eq_true rfl) (pc' := 39) (L' := [(0, .ref 11)]) (S' := []) rfl (Nat.le_of_ble_eq_true rfl) rfl rfl (Nat.le_of_ble_eq_true rfl) (Nat.le_of_ble_eq_true rfl) ?_
        refine wq_if (c := (wdI T 3 s e) = 0) (p1 := 44) (L1 := [(0, .ref 11)]) (S1 := []) (p2 := 42) (L2 := [(0, .ref 11)]) (S2 := []) rfl (fun c_39 => ?_) (fun c_39 => ?_)
        · refine wq_run2 (pc' := 47) (L' := [(0, .ref 11)]) (S' := [.ref 2000004, .ref 11]) (f' := f) rfl ?_
          refine wq_callI (r := (wdI T 4 s e)) (sp_word4 hn1 hT hx hse hen) (Nat.le_of_ble_eq_true rfl) (pc' := 50) (L' := [(0, .ref 11)]) (S' := []) rfl (Nat.le_of_ble_eq_true rfl) rfl rfl (Nat.le_of_ble_eq_true rfl) (Nat.le_of_ble_eq_true rfl) ?_
          refine wq_if (c := (wdI T 4 s e) = 0) (p1 := 55) (L1 := [(0, .ref 11)]) (S1 := []) (p2 := 53) (L2 := [(0, .ref 11)]) (S2 := []) rfl (fun c_50 => ?_) (fun c_50 => ?_)
          · refine wq_run2 (pc' := 58) (L' := [(0, .ref 11)]) (S' := [.ref 2000005, .ref 11]) (f' := f) rfl ?_
            refine wq_callI (r := (wdI T 5 s e)) (sp_word5 hn1 hT hx hse hen) (Nat.le_of_ble_eq_true rfl) (pc' := 61) (L' := [(0, .ref 11)]) (S' := []) rfl (Nat.le_of_ble_eq_true rfl) rfl rfl (Nat.le_of_ble_eq_true rfl) (Nat.le_of_ble_eq_true rfl) ?_
            refine wq_if (c := (wdI T 5 s e) = 0) (p1 := 68) (L1 := [(0, .ref 11)]) (S1 := []) (p2 := 64) (L2 := [(0, .ref 11)]) (S2 := []) rfl (fun c_61 => ?_) (fun c_61 => ?_)
            · refine wq_run1 (pc' := 69) (L' := [(0, .ref 11)]) (S' := [.int (-1)]) (f' := f) rfl ?_
              exact wq_ret rfl (Ret.of (by unfold knd; rw [if_pos c_6, if_pos c_17, if_pos c_28, if_pos c_39, if_pos c_50, if_pos c_61]) rfl)
            · refine wq_run2 (pc' := 69) (L' := [(0, .ref 11)]) (S' := [.int 5]) (f' := f) rfl ?_
              exact wq_ret rfl (Ret.of (by unfold knd; rw [if_pos c_6, if_pos c_17, if_pos c_28, if_pos c_39, if_pos c_50, if_neg c_61]) rfl)
          · refine wq_run1 (pc' := 54) (L' := [(0, .ref 11)]) (S' := [.int 4]) (f' := f) rfl ?_
            exact wq_ret rfl (Ret.of (by unfold knd; rw [if_pos c_6, if_pos c_17, if_pos c_28, if_pos c_39, if_neg c_50]) rfl)
        · refine wq_run1 (pc' := 43) (L' := [(0, .ref 11)]) (S' := [.int 3]) (f' := f) rfl ?_
          exact wq_ret rfl (Ret.of (by unfold knd; rw [if_pos c_6, if_pos c_17, if_pos c_28, if_neg c_39]) rfl)
      · refine wq_run1 (pc' := 32) (L' := [(0, .ref 11)]) (S' := [.int 2]) (f' := f) rfl ?_
        exact wq_ret rfl (Ret.of (by unfold knd; rw [if_pos c_6, if_pos c_17, if_neg c_28]) rfl)
    · refine wq_run1 (pc' := 21) (L' := [(0, .ref 11)]) (S' := [.int 1]) (f' := f) rfl ?_
      exact wq_ret rfl (Ret.of (by unfold knd; rw [if_pos c_6, if_neg c_17]) rfl)
  · refine wq_run1 (pc' := 10) (L' := [(0, .ref 11)]) (S' := [.int 0]) (f' := f) rfl ?_
    exact wq_ret rfl (Ret.of (by unfold knd; rw [if_neg c_6]) rfl)
theorem lp_number {f : HI} {T : Nat → Int32} {n s e c : Nat} (hn1 : n ≤ 160) (hT : ∀ j, j < n → f 12 j = T j) (hx : TX (f 11) n s e c) (hse : s ≤ e) (hen : e ≤ n) (hq : s < e ∧ e ≤ s + 3 ∧ srt (T s) = 1) : ∀ (m9 : Nat) (i : Nat), (s + i ≤ e) → e - i < m9 → wq 2 72 (Ret (nmI T s e) f) 51 [(0, .ref 11), (1, .int (dgN T s i)), (2, .int (nI (s + i)))] [] f := by
  intro m9
  induction m9 with
  | zero => intro i hi hn; exact absurd hn (Nat.not_lt_zero _)
  | succ m9 ih =>
    intro i hi hn
    refine wq_run3 (pc' := 56) (L' := [(0, .ref 11), (1, .int (dgN T s i)), (2, .int (nI (s + i)))]) (S' := [.int (f 11 3), .int (nI (s + i))]) (f' := f) rfl ?_
    refine wq_v (y := (nI e)) (hx.2.2.1) ?_
    refine wq_if (c := (nI e) ≤ (nI (s + i))) (p1 := 80) (L1 := [(0, .ref 11), (1, .int (dgN T s i)), (2, .int (nI (s + i)))]) (S1 := []) (p2 := 59) (L2 := [(0, .ref 11), (1, .int (dgN T s i)), (2, .int (nI (s + i)))]) (S2 := []) rfl (fun c_56 => ?_) (fun c_56 => ?_)
    · have k_56 : e ≤ (s + i) := (nI_leI (a := e) (b := (s + i)) (by omega) (by omega)).mp c_56
      refine wq_run1 (pc' := 81) (L' := [(0, .ref 11), (1, .int (dgN T s i)), (2, .int (nI (s + i)))]) (S' := [.int (dgN T s i)]) (f' := f) rfl ?_
      have e1 : e - s = i := by omega
      exact wq_ret rfl (Ret.of (by unfold nmI; rw [if_pos hq, e1]) rfl)
    · have k_56 : ¬ e ≤ (s + i) := fun q => c_56 ((nI_leI (a := e) (b := (s + i)) (by omega) (by omega)).mpr q)
      refine wq_run6 (pc' := 68) (L' := [(0, .ref 11), (1, .int (dgN T s i)), (2, .int (nI (s + i)))]) (S' := [.int (nI (s + i)), .ref 12, .int ((dgN T s i) * 10)]) (f' := f) rfl ?_
      refine wq_ald (j := (s + i)) (n := 160) (v := (T (s + i))) rfl rfl rfl rfl (by omega) (Nat.le_of_ble_eq_true rfl) (hT (s + i) (by omega)) ?_
      refine wq_run5 (pc' := 77) (L' := [(0, .ref 11), (1, .int ((((dgN T s i) * 10) + (T (s + i))) - 48)), (2, .int ((nI (s + i)) + 1))]) (S' := []) (f' := f) rfl ?_
      refine wq_L (L' := [(0, .ref 11), (1, .int ((((dgN T s i) * 10) + (T (s + i))) - 48)), (2, .int (nI ((s + i) + 1)))]) (by rw [show nI (s + i) + 1 = nI ((s + i) + 1) from nI_add _ _]) ?_
      refine wq_run1 (pc' := 51) (L' := [(0, .ref 11), (1, .int ((((dgN T s i) * 10) + (T (s + i))) - 48)), (2, .int (nI ((s + i) + 1)))]) (S' := []) (f' := f) rfl ?_
      exact ih (i + 1) (by omega) (by omega)
theorem sp_number {f : HI} {T : Nat → Int32} {n s e c : Nat} (hn1 : n ≤ 160) (hT : ∀ j, j < n → f 12 j = T j) (hx : TX (f 11) n s e c) (hse : s ≤ e) (hen : e ≤ n) : Sp 2 72 [.ref 11] f (Ret (nmI T s e) f) := by
  show wq 2 72 (Ret (nmI T s e) f) 0 [(0, .ref 11)] [] f
  refine wq_run2 (pc' := 4) (L' := [(0, .ref 11)]) (S' := [.int (f 11 3)]) (f' := f) rfl ?_
  refine wq_v (y := (nI e)) (hx.2.2.1) ?_
  refine wq_run2 (pc' := 8) (L' := [(0, .ref 11)]) (S' := [.int (f 11 2), .int (nI e)]) (f' := f) rfl ?_
  refine wq_v (y := (nI s)) (hx.2.1) ?_
  refine wq_run1 (pc' := 9) (L' := [(0, .ref 11)]) (S' := [.int ((nI e) - (nI s))]) (f' := f) rfl ?_
  refine wq_v (y := (nI (e - s))) (pk_sub (a := e) (b := s) (by omega)) ?_
  refine wq_run1 (pc' := 10) (L' := [(0, .ref 11)]) (S' := [.int 1, .int (nI (e - s))]) (f' := f) rfl ?_
  refine wq_if (c := (nI (e - s)) < 1) (p1 := 42) (L1 := [(0, .ref 11)]) (S1 := []) (p2 := 13) (L2 := [(0, .ref 11)]) (S2 := []) rfl (fun c_10 => ?_) (fun c_10 => ?_)
  · have k_10 : (e - s) < 1 := (nI_ltI (a := (e - s)) (b := 1) (by omega) (by omega)).mp c_10
    refine wq_run1 (pc' := 43) (L' := [(0, .ref 11)]) (S' := [.int (-1)]) (f' := f) rfl ?_
    exact wq_ret rfl (Ret.of (by unfold nmI; rw [if_neg (by omega)]) rfl)
  · have k_10 : ¬ (e - s) < 1 := fun q => c_10 ((nI_ltI (a := (e - s)) (b := 1) (by omega) (by omega)).mpr q)
    have h3 := srt_3 (T s)
    refine wq_run2 (pc' := 17) (L' := [(0, .ref 11)]) (S' := [.int (f 11 3)]) (f' := f) rfl ?_
    refine wq_v (y := (nI e)) (hx.2.2.1) ?_
    refine wq_run2 (pc' := 21) (L' := [(0, .ref 11)]) (S' := [.int (f 11 2), .int (nI e)]) (f' := f) rfl ?_
    refine wq_v (y := (nI s)) (hx.2.1) ?_
    refine wq_run1 (pc' := 22) (L' := [(0, .ref 11)]) (S' := [.int ((nI e) - (nI s))]) (f' := f) rfl ?_
    refine wq_v (y := (nI (e - s))) (pk_sub (a := e) (b := s) (by omega)) ?_
    refine wq_run1 (pc' := 23) (L' := [(0, .ref 11)]) (S' := [.int 3, .int (nI (e - s))]) (f' := f) rfl ?_
    refine wq_if (c := 3 < (nI (e - s))) (p1 := 42) (L1 := [(0, .ref 11)]) (S1 := []) (p2 := 26) (L2 := [(0, .ref 11)]) (S2 := []) rfl (fun c_23 => ?_) (fun c_23 => ?_)
    · have k_23 : 3 < (e - s) := (nI_ltI (a := 3) (b := (e - s)) (by omega) (by omega)).mp c_23
      refine wq_run1 (pc' := 43) (L' := [(0, .ref 11)]) (S' := [.int (-1)]) (f' := f) rfl ?_
      exact wq_ret rfl (Ret.of (by unfold nmI; rw [if_neg (by omega)]) rfl)
    · have k_23 : ¬ 3 < (e - s) := fun q => c_23 ((nI_ltI (a := 3) (b := (e - s)) (by omega) (by omega)).mpr q)
      refine wq_run4 (pc' := 34) (L' := [(0, .ref 11)]) (S' := [.int (f 11 2), .ref 12]) (f' := f) rfl ?_
      refine wq_v (y := (nI s)) (hx.2.1) ?_
      refine wq_ald (j := s) (n := 160) (v := (T s)) rfl rfl rfl rfl (by omega) (Nat.le_of_ble_eq_true rfl) (hT s (by omega)) ?_
      refine wq_callI (r := (nI (srt (T s)))) (sp_sortOf f (T s)) (Nat.le_of_ble_eq_true rfl) (pc' := 38) (L' := [(0, .ref 11)]) (S' := []) rfl (Nat.le_of_ble_eq_true rfl) rfl rfl (Nat.le_of_ble_eq_true rfl) (Nat.le_of_ble_eq_true rfl) ?_
      refine wq_run1 (pc' := 39) (L' := [(0, .ref 11)]) (S' := [.int 1, .int (nI (srt (T s)))]) (f' := f) rfl ?_
      refine wq_if (c := (nI (srt (T s))) = 1) (p1 := 44) (L1 := [(0, .ref 11)]) (S1 := []) (p2 := 42) (L2 := [(0, .ref 11)]) (S2 := []) rfl (fun c_39 => ?_) (fun c_39 => ?_)
      · have k_39 : (srt (T s)) = 1 := (nI_eq (a := (srt (T s))) (b := 1) (by omega) (by omega)).mp c_39
        refine wq_run4 (pc' := 50) (L' := [(0, .ref 11), (1, .int 0)]) (S' := [.int (f 11 2)]) (f' := f) rfl ?_
        refine wq_v (y := (nI s)) (hx.2.1) ?_
        refine wq_run1 (pc' := 51) (L' := [(0, .ref 11), (1, .int 0), (2, .int (nI s))]) (S' := []) (f' := f) rfl ?_
        exact lp_number hn1 hT hx hse hen ⟨by omega, by omega, k_39⟩ (e - 0 + 1) 0 hse (Nat.lt_succ_self _)
      · have k_39 : ¬ (srt (T s)) = 1 := fun q => c_39 ((nI_eq (a := (srt (T s))) (b := 1) (by omega) (by omega)).mpr q)
        refine wq_run1 (pc' := 43) (L' := [(0, .ref 11)]) (S' := [.int (-1)]) (f' := f) rfl ?_
        exact wq_ret rfl (Ret.of (by unfold nmI; rw [if_neg (by omega)]) rfl)
theorem sp_readClause {f : HI} {T : Nat → Int32} {n c : Nat} (hn1 : n ≤ 160) (hT : ∀ j, j < n → f 12 j = T j) {g K N P : Nat → Int32} {s0 p : Nat} (hp : p ≤ n) (hx : TX g n s0 p c) (hc8 : c < 8) : Sp 7 67 [.ref 11] (up1 (up1 (up1 (up1 f 15 P) 14 N) 13 K) 11 g) (fun v f' => ∃ r g' K' N' P', v = some (.int r) ∧ f' = (up1 (up1 (up1 (up1 f 15 P') 14 N') 13 K') 11 g') ∧ ((r = 0 ∧ ∃ s e, clR T n p = .inl s ∧ TX g' n s e c) ∨ (r = 1 ∧ ∃ s k a b p', clR T n p = .inr (k, a, b, p') ∧ TX g' n s p' (c + 1) ∧ K' = upd K c k ∧ N' = upd N c a ∧ P' = upd P c b))) := by
  show wq 7 67 (fun v f' => ∃ r g' K' N' P', v = some (.int r) ∧ f' = (up1 (up1 (up1 (up1 f 15 P') 14 N') 13 K') 11 g') ∧ ((r = 0 ∧ ∃ s e, clR T n p = .inl s ∧ TX g' n s e c) ∨ (r = 1 ∧ ∃ s k a b p', clR T n p = .inr (k, a, b, p') ∧ TX g' n s p' (c + 1) ∧ K' = upd K c k ∧ N' = upd N c a ∧ P' = upd P c b))) 0 [(0, .ref 11)] [] (up1 (up1 (up1 (up1 f 15 P) 14 N) 13 K) 11 g)
  refine wq_run1 (pc' := 1) (L' := [(0, .ref 11)]) (S' := [.ref 11]) (f' := (up1 (up1 (up1 (up1 f 15 P) 14 N) 13 K) 11 g)) rfl ?_
  refine wq_call (sp_readToken (f := (up1 (up1 (up1 f 15 P) 14 N) 13 K)) (T := T) (n := n) (c := c) (g := g) (p := p) hn1 hT hp hx) (Nat.le_of_ble_eq_true rfl) (pc' := 4) (L' := [(0, .ref 11)]) (S' := []) rfl (Nat.le_of_ble_eq_true rfl) rfl rfl (Nat.le_of_ble_eq_true rfl) (Nat.le_of_ble_eq_true rfl) ?_
  rintro v f9 ⟨g1, e0, ef, hx1⟩
  subst e0
  subst ef
  have t1 := tk_b (T := T) (n := n) (p := p) hp
  refine wq_run1 (pc' := 5) (L' := [(0, .ref 11)]) (S' := [.ref 11]) (f' := (up1 (up1 (up1 (up1 f 15 P) 14 N) 13 K) 11 g1)) rfl ?_
  refine wq_callI (r := (knd T (tkS T n p) (tkE T n p))) (sp_kind (f := (up1 (up1 (up1 (up1 f 15 P) 14 N) 13 K) 11 g1)) (T := T) (n := n) (s := tkS T n p) (e := tkE T n p) (c := c) hn1 hT hx1 t1.2.1 t1.2.2.1) (Nat.le_of_ble_eq_true rfl) (pc' := 8) (L' := [(0, .ref 11)]) (S' := []) rfl (Nat.le_of_ble_eq_true rfl) rfl rfl (Nat.le_of_ble_eq_true rfl) (Nat.le_of_ble_eq_true rfl) ?_
  refine wq_run3 (pc' := 11) (L' := [(0, .ref 11), (1, .int (knd T (tkS T n p) (tkE T n p)))]) (S' := [.int (-1), .int (knd T (tkS T n p) (tkE T n p))]) (f' := (up1 (up1 (up1 (up1 f 15 P) 14 N) 13 K) 11 g1)) rfl ?_
  refine wq_if (c := (knd T (tkS T n p) (tkE T n p)) = (-1)) (p1 := 23) (L1 := [(0, .ref 11), (1, .int (knd T (tkS T n p) (tkE T n p)))]) (S1 := []) (p2 := 14) (L2 := [(0, .ref 11), (1, .int (knd T (tkS T n p) (tkE T n p)))]) (S2 := []) rfl (fun c_11 => ?_) (fun c_11 => ?_)
  · refine wq_run1 (pc' := 24) (L' := [(0, .ref 11), (1, .int (knd T (tkS T n p) (tkE T n p)))]) (S' := [.int 0]) (f' := (up1 (up1 (up1 (up1 f 15 P) 14 N) 13 K) 11 g1)) rfl ?_
    exact wq_retZ rfl (Or.inl rfl) ⟨0, _, _, _, _, rfl, rfl, Or.inl ⟨rfl, _, _, if_pos c_11, hx1⟩⟩
  · obtain ⟨kd, hkd6, hkd⟩ := knd_y c_11
    refine wq_L (L' := [(0, .ref 11), (1, .int (nI kd))]) (by rw [hkd]) ?_
    refine wq_run2 (pc' := 18) (L' := [(0, .ref 11), (1, .int (nI kd))]) (S' := [.int (g1 7)]) (f' := (up1 (up1 (up1 (up1 f 15 P) 14 N) 13 K) 11 g1)) rfl ?_
    refine wq_v (y := (nI c)) (hx1.2.2.2) ?_
    refine wq_run1 (pc' := 20) (L' := [(0, .ref 11), (1, .int (nI kd))]) (S' := [.int 8, .int (nI c)]) (f' := (up1 (up1 (up1 (up1 f 15 P) 14 N) 13 K) 11 g1)) rfl ?_
    refine wq_if (c := (nI c) < 8) (p1 := 25) (L1 := [(0, .ref 11), (1, .int (nI kd))]) (S1 := []) (p2 := 23) (L2 := [(0, .ref 11), (1, .int (nI kd))]) (S2 := []) rfl (fun _ => ?_) (fun q => absurd ((nI_ltI (a := c) (b := 8) (by omega) (by omega)).mpr (by omega)) q)
    refine wq_run1 (pc' := 26) (L' := [(0, .ref 11), (1, .int (nI kd))]) (S' := [.ref 11]) (f' := (up1 (up1 (up1 (up1 f 15 P) 14 N) 13 K) 11 g1)) rfl ?_
    refine wq_call (sp_readToken (f := (up1 (up1 (up1 f 15 P) 14 N) 13 K)) (T := T) (n := n) (c := c) (g := g1) (p := (tkE T n p)) hn1 hT t1.2.2.1 hx1) (Nat.le_of_ble_eq_true rfl) (pc' := 29) (L' := [(0, .ref 11), (1, .int (nI kd))]) (S' := []) rfl (Nat.le_of_ble_eq_true rfl) rfl rfl (Nat.le_of_ble_eq_true rfl) (Nat.le_of_ble_eq_true rfl) ?_
    rintro v f9 ⟨g2, e0, ef, hx2⟩
    subst e0
    subst ef
    have t2 := tk_b (T := T) (n := n) (p := (tkE T n p)) t1.2.2.1
    refine wq_run1 (pc' := 30) (L' := [(0, .ref 11), (1, .int (nI kd))]) (S' := [.ref 11]) (f' := (up1 (up1 (up1 (up1 f 15 P) 14 N) 13 K) 11 g2)) rfl ?_
    refine wq_callI (r := (nmI T (tkS T n (tkE T n p)) (tkE T n (tkE T n p)))) (sp_number (f := (up1 (up1 (up1 (up1 f 15 P) 14 N) 13 K) 11 g2)) (T := T) (n := n) (s := tkS T n (tkE T n p)) (e := tkE T n (tkE T n p)) (c := c) hn1 hT hx2 t2.2.1 t2.2.2.1) (Nat.le_of_ble_eq_true rfl) (pc' := 33) (L' := [(0, .ref 11), (1, .int (nI kd))]) (S' := []) rfl (Nat.le_of_ble_eq_true rfl) rfl rfl (Nat.le_of_ble_eq_true rfl) (Nat.le_of_ble_eq_true rfl) ?_
    refine wq_run4 (pc' := 39) (L' := [(0, .ref 11), (1, .int (nI kd)), (2, .int (nmI T (tkS T n (tkE T n p)) (tkE T n (tkE T n p))))]) (S' := [.int (nI kd), .ref 4000000, .int (nmI T (tkS T n (tkE T n p)) (tkE T n (tkE T n p)))]) (f' := (up1 (up1 (up1 (up1 f 15 P) 14 N) 13 K) 11 g2)) rfl ?_
    refine wq_tabL (k0 := 0) (j := kd) (v := (loN kd)) rfl rfl ⟨hkd6, Nat.le_of_ble_eq_true rfl⟩ rfl ?_
    refine wq_run2 (pc' := 44) (L' := [(0, .ref 11), (1, .int (nI kd)), (2, .int (nmI T (tkS T n (tkE T n p)) (tkE T n (tkE T n p))))]) (S' := [.int (nI kd), .ref 4000001, .int (loN kd), .int (nmI T (tkS T n (tkE T n p)) (tkE T n (tkE T n p)))]) (f' := (up1 (up1 (up1 (up1 f 15 P) 14 N) 13 K) 11 g2)) rfl ?_
    refine wq_tabL (k0 := 1) (j := kd) (v := (hiN kd)) rfl rfl ⟨hkd6, Nat.le_of_ble_eq_true rfl⟩ rfl ?_
    refine wq_callI (r := (b2i (inR (nmI T (tkS T n (tkE T n p)) (tkE T n (tkE T n p))) (loN kd) (hiN kd)))) (sp_within (up1 (up1 (up1 (up1 f 15 P) 14 N) 13 K) 11 g2) (nmI T (tkS T n (tkE T n p)) (tkE T n (tkE T n p))) (loN kd) (hiN kd)) (Nat.le_of_ble_eq_true rfl) (pc' := 48) (L' := [(0, .ref 11), (1, .int (nI kd)), (2, .int (nmI T (tkS T n (tkE T n p)) (tkE T n (tkE T n p))))]) (S' := []) rfl (Nat.le_of_ble_eq_true rfl) rfl rfl (Nat.le_of_ble_eq_true rfl) (Nat.le_of_ble_eq_true rfl) ?_
    refine wq_if (c := (b2i (inR (nmI T (tkS T n (tkE T n p)) (tkE T n (tkE T n p))) (loN kd) (hiN kd))) = 0) (p1 := 51) (L1 := [(0, .ref 11), (1, .int (nI kd)), (2, .int (nmI T (tkS T n (tkE T n p)) (tkE T n (tkE T n p))))]) (S1 := []) (p2 := 53) (L2 := [(0, .ref 11), (1, .int (nI kd)), (2, .int (nmI T (tkS T n (tkE T n p)) (tkE T n (tkE T n p))))]) (S2 := []) rfl (fun c_48 => ?_) (fun c_48 => ?_)
    · have h_48 := b2i_0.mp c_48
      refine wq_run1 (pc' := 52) (L' := [(0, .ref 11), (1, .int (nI kd)), (2, .int (nmI T (tkS T n (tkE T n p)) (tkE T n (tkE T n p))))]) (S' := [.int 0]) (f' := (up1 (up1 (up1 (up1 f 15 P) 14 N) 13 K) 11 g2)) rfl ?_
      exact wq_retZ rfl (Or.inl rfl) ⟨0, _, _, _, _, rfl, rfl, Or.inl ⟨rfl, _, _, by unfold clR; rw [if_neg c_11, hkd, nI_clamp (by omega)]; exact if_pos h_48, hx2⟩⟩
    · have h_48 := b2i_n0.mp c_48
      refine wq_run4 (pc' := 61) (L' := [(0, .ref 11), (1, .int (nI kd)), (2, .int (nmI T (tkS T n (tkE T n p)) (tkE T n (tkE T n p))))]) (S' := [.int (g2 7), .ref 14]) (f' := (up1 (up1 (up1 (up1 f 15 P) 14 N) 13 K) 11 g2)) rfl ?_
      refine wq_v (y := (nI c)) (hx2.2.2.2) ?_
      refine wq_run1 (pc' := 62) (L' := [(0, .ref 11), (1, .int (nI kd)), (2, .int (nmI T (tkS T n (tkE T n p)) (tkE T n (tkE T n p))))]) (S' := [.int (nmI T (tkS T n (tkE T n p)) (tkE T n (tkE T n p))), .int (nI c), .ref 14]) (f' := (up1 (up1 (up1 (up1 f 15 P) 14 N) 13 K) 11 g2)) rfl ?_
      refine wq_ist (j := c) (n := 8) rfl rfl rfl rfl (by omega) (Nat.le_of_ble_eq_true rfl) ?_
      refine wq_h (f' := (up1 (up1 (up1 (up1 f 15 P) 14 (upd N c (nmI T (tkS T n (tkE T n p)) (tkE T n (tkE T n p))))) 13 K) 11 g2)) ((up2_up1_ne (f := (up1 (up1 (up1 f 15 P) 14 N) 13 K)) (g := g2) (k := c) (v := (nmI T (tkS T n (tkE T n p)) (tkE T n (tkE T n p)))) (show (14 : Nat) ≠ 11 by decide)).trans (congrArg (fun z => up1 z 11 g2) ((up2_up1_ne (f := (up1 (up1 f 15 P) 14 N)) (g := K) (k := c) (v := (nmI T (tkS T n (tkE T n p)) (tkE T n (tkE T n p)))) (show (14 : Nat) ≠ 13 by decide)).trans (congrArg (fun z => up1 z 13 K) ((up2_up1_eq (up1 f 15 P) 14 N c (nmI T (tkS T n (tkE T n p)) (tkE T n (tkE T n p)))).trans (congrArg (fun z => up1 (up1 f 15 P) 14 z) (rfl))))))) ?_
      refine wq_run1 (pc' := 64) (L' := [(0, .ref 11), (1, .int (nI kd)), (2, .int (nmI T (tkS T n (tkE T n p)) (tkE T n (tkE T n p))))]) (S' := [.int (nI kd)]) (f' := (up1 (up1 (up1 (up1 f 15 P) 14 (upd N c (nmI T (tkS T n (tkE T n p)) (tkE T n (tkE T n p))))) 13 K) 11 g2)) rfl ?_
      refine wq_if (c := (nI kd) = 0) (p1 := 72) (L1 := [(0, .ref 11), (1, .int (nI kd)), (2, .int (nmI T (tkS T n (tkE T n p)) (tkE T n (tkE T n p))))]) (S1 := []) (p2 := 67) (L2 := [(0, .ref 11), (1, .int (nI kd)), (2, .int (nmI T (tkS T n (tkE T n p)) (tkE T n (tkE T n p))))]) (S2 := []) rfl (fun c_64 => ?_) (fun c_64 => ?_)
      · have k_64 : kd = 0 := (nI_eq (a := kd) (b := 0) (by omega) (by omega)).mp c_64
        refine wq_run1 (pc' := 73) (L' := [(0, .ref 11), (1, .int (nI kd)), (2, .int (nmI T (tkS T n (tkE T n p)) (tkE T n (tkE T n p))))]) (S' := [.ref 11]) (f' := (up1 (up1 (up1 (up1 f 15 P) 14 (upd N c (nmI T (tkS T n (tkE T n p)) (tkE T n (tkE T n p))))) 13 K) 11 g2)) rfl ?_
        refine wq_call (sp_readToken (f := (up1 (up1 (up1 f 15 P) 14 (upd N c (nmI T (tkS T n (tkE T n p)) (tkE T n (tkE T n p))))) 13 K)) (T := T) (n := n) (c := c) (g := g2) (p := (tkE T n (tkE T n p))) hn1 hT t2.2.2.1 hx2) (Nat.le_of_ble_eq_true rfl) (pc' := 76) (L' := [(0, .ref 11), (1, .int (nI kd)), (2, .int (nmI T (tkS T n (tkE T n p)) (tkE T n (tkE T n p))))]) (S' := []) rfl (Nat.le_of_ble_eq_true rfl) rfl rfl (Nat.le_of_ble_eq_true rfl) (Nat.le_of_ble_eq_true rfl) ?_
        rintro v f9 ⟨g3, e0, ef, hx3⟩
        subst e0
        subst ef
        have t3 := tk_b (T := T) (n := n) (p := (tkE T n (tkE T n p))) t2.2.2.1
        refine wq_run2 (pc' := 79) (L' := [(0, .ref 11), (1, .int (nI kd)), (2, .int (nmI T (tkS T n (tkE T n p)) (tkE T n (tkE T n p))))]) (S' := [.ref 2000006, .ref 11]) (f' := (up1 (up1 (up1 (up1 f 15 P) 14 (upd N c (nmI T (tkS T n (tkE T n p)) (tkE T n (tkE T n p))))) 13 K) 11 g3)) rfl ?_
        refine wq_callI (r := (wdI T 6 (tkS T n (tkE T n (tkE T n p))) (tkE T n (tkE T n (tkE T n p))))) (sp_word6 (f := (up1 (up1 (up1 (up1 f 15 P) 14 (upd N c (nmI T (tkS T n (tkE T n p)) (tkE T n (tkE T n p))))) 13 K) 11 g3)) (T := T) (n := n) (s := tkS T n (tkE T n (tkE T n p))) (e := tkE T n (tkE T n (tkE T n p))) (c := c) hn1 hT hx3 t3.2.1 t3.2.2.1) (Nat.le_of_ble_eq_true rfl) (pc' := 82) (L' := [(0, .ref 11), (1, .int (nI kd)), (2, .int (nmI T (tkS T n (tkE T n p)) (tkE T n (tkE T n p))))]) (S' := []) rfl (Nat.le_of_ble_eq_true rfl) rfl rfl (Nat.le_of_ble_eq_true rfl) (Nat.le_of_ble_eq_true rfl) ?_
        refine wq_if (c := (wdI T 6 (tkS T n (tkE T n (tkE T n p))) (tkE T n (tkE T n (tkE T n p)))) = 0) (p1 := 85) (L1 := [(0, .ref 11), (1, .int (nI kd)), (2, .int (nmI T (tkS T n (tkE T n p)) (tkE T n (tkE T n p))))]) (S1 := []) (p2 := 87) (L2 := [(0, .ref 11), (1, .int (nI kd)), (2, .int (nmI T (tkS T n (tkE T n p)) (tkE T n (tkE T n p))))]) (S2 := []) rfl (fun c_82 => ?_) (fun c_82 => ?_)
        · refine wq_run1 (pc' := 86) (L' := [(0, .ref 11), (1, .int (nI kd)), (2, .int (nmI T (tkS T n (tkE T n p)) (tkE T n (tkE T n p))))]) (S' := [.int 0]) (f' := (up1 (up1 (up1 (up1 f 15 P) 14 (upd N c (nmI T (tkS T n (tkE T n p)) (tkE T n (tkE T n p))))) 13 K) 11 g3)) rfl ?_
          exact wq_retZ rfl (Or.inl rfl) ⟨0, _, _, _, _, rfl, rfl, Or.inl ⟨rfl, _, _, by unfold clR; rw [if_neg c_11, hkd, nI_clamp (by omega)]; rw [if_neg (fun q => q h_48), if_pos (Or.inl k_64)]; exact if_pos c_82, hx3⟩⟩
        · refine wq_run1 (pc' := 88) (L' := [(0, .ref 11), (1, .int (nI kd)), (2, .int (nmI T (tkS T n (tkE T n p)) (tkE T n (tkE T n p))))]) (S' := [.ref 11]) (f' := (up1 (up1 (up1 (up1 f 15 P) 14 (upd N c (nmI T (tkS T n (tkE T n p)) (tkE T n (tkE T n p))))) 13 K) 11 g3)) rfl ?_
          refine wq_call (sp_readToken (f := (up1 (up1 (up1 f 15 P) 14 (upd N c (nmI T (tkS T n (tkE T n p)) (tkE T n (tkE T n p))))) 13 K)) (T := T) (n := n) (c := c) (g := g3) (p := (tkE T n (tkE T n (tkE T n p)))) hn1 hT t3.2.2.1 hx3) (Nat.le_of_ble_eq_true rfl) (pc' := 91) (L' := [(0, .ref 11), (1, .int (nI kd)), (2, .int (nmI T (tkS T n (tkE T n p)) (tkE T n (tkE T n p))))]) (S' := []) rfl (Nat.le_of_ble_eq_true rfl) rfl rfl (Nat.le_of_ble_eq_true rfl) (Nat.le_of_ble_eq_true rfl) ?_
          rintro v f9 ⟨g4, e0, ef, hx4⟩
          subst e0
          subst ef
          have t4 := tk_b (T := T) (n := n) (p := (tkE T n (tkE T n (tkE T n p)))) t3.2.2.1
          refine wq_run1 (pc' := 92) (L' := [(0, .ref 11), (1, .int (nI kd)), (2, .int (nmI T (tkS T n (tkE T n p)) (tkE T n (tkE T n p))))]) (S' := [.ref 11]) (f' := (up1 (up1 (up1 (up1 f 15 P) 14 (upd N c (nmI T (tkS T n (tkE T n p)) (tkE T n (tkE T n p))))) 13 K) 11 g4)) rfl ?_
          refine wq_callI (r := (nmI T (tkS T n (tkE T n (tkE T n (tkE T n p)))) (tkE T n (tkE T n (tkE T n (tkE T n p)))))) (sp_number (f := (up1 (up1 (up1 (up1 f 15 P) 14 (upd N c (nmI T (tkS T n (tkE T n p)) (tkE T n (tkE T n p))))) 13 K) 11 g4)) (T := T) (n := n) (s := tkS T n (tkE T n (tkE T n (tkE T n p)))) (e := tkE T n (tkE T n (tkE T n (tkE T n p)))) (c := c) hn1 hT hx4 t4.2.1 t4.2.2.1) (Nat.le_of_ble_eq_true rfl) (pc' := 95) (L' := [(0, .ref 11), (1, .int (nI kd)), (2, .int (nmI T (tkS T n (tkE T n p)) (tkE T n (tkE T n p))))]) (S' := []) rfl (Nat.le_of_ble_eq_true rfl) rfl rfl (Nat.le_of_ble_eq_true rfl) (Nat.le_of_ble_eq_true rfl) ?_
          refine wq_run4 (pc' := 100) (L' := [(0, .ref 11), (1, .int (nI kd)), (2, .int (nmI T (tkS T n (tkE T n (tkE T n (tkE T n p)))) (tkE T n (tkE T n (tkE T n (tkE T n p))))))]) (S' := [.int 99, .int 0, .int (nmI T (tkS T n (tkE T n (tkE T n (tkE T n p)))) (tkE T n (tkE T n (tkE T n (tkE T n p)))))]) (f' := (up1 (up1 (up1 (up1 f 15 P) 14 (upd N c (nmI T (tkS T n (tkE T n p)) (tkE T n (tkE T n p))))) 13 K) 11 g4)) rfl ?_
          refine wq_callI (r := (b2i (inR (nmI T (tkS T n (tkE T n (tkE T n (tkE T n p)))) (tkE T n (tkE T n (tkE T n (tkE T n p))))) 0 99))) (sp_within (up1 (up1 (up1 (up1 f 15 P) 14 (upd N c (nmI T (tkS T n (tkE T n p)) (tkE T n (tkE T n p))))) 13 K) 11 g4) (nmI T (tkS T n (tkE T n (tkE T n (tkE T n p)))) (tkE T n (tkE T n (tkE T n (tkE T n p))))) 0 99) (Nat.le_of_ble_eq_true rfl) (pc' := 103) (L' := [(0, .ref 11), (1, .int (nI kd)), (2, .int (nmI T (tkS T n (tkE T n (tkE T n (tkE T n p)))) (tkE T n (tkE T n (tkE T n (tkE T n p))))))]) (S' := []) rfl (Nat.le_of_ble_eq_true rfl) rfl rfl (Nat.le_of_ble_eq_true rfl) (Nat.le_of_ble_eq_true rfl) ?_
          refine wq_if (c := (b2i (inR (nmI T (tkS T n (tkE T n (tkE T n (tkE T n p)))) (tkE T n (tkE T n (tkE T n (tkE T n p))))) 0 99)) = 0) (p1 := 106) (L1 := [(0, .ref 11), (1, .int (nI kd)), (2, .int (nmI T (tkS T n (tkE T n (tkE T n (tkE T n p)))) (tkE T n (tkE T n (tkE T n (tkE T n p))))))]) (S1 := []) (p2 := 108) (L2 := [(0, .ref 11), (1, .int (nI kd)), (2, .int (nmI T (tkS T n (tkE T n (tkE T n (tkE T n p)))) (tkE T n (tkE T n (tkE T n (tkE T n p))))))]) (S2 := []) rfl (fun c_103 => ?_) (fun c_103 => ?_)
          · have h_103 := b2i_0.mp c_103
            refine wq_run1 (pc' := 107) (L' := [(0, .ref 11), (1, .int (nI kd)), (2, .int (nmI T (tkS T n (tkE T n (tkE T n (tkE T n p)))) (tkE T n (tkE T n (tkE T n (tkE T n p))))))]) (S' := [.int 0]) (f' := (up1 (up1 (up1 (up1 f 15 P) 14 (upd N c (nmI T (tkS T n (tkE T n p)) (tkE T n (tkE T n p))))) 13 K) 11 g4)) rfl ?_
            exact wq_retZ rfl (Or.inl rfl) ⟨0, _, _, _, _, rfl, rfl, Or.inl ⟨rfl, _, _, by unfold clR; rw [if_neg c_11, hkd, nI_clamp (by omega)]; rw [if_neg (fun q => q h_48), if_pos (Or.inl k_64), if_neg c_82]; exact if_pos h_103, hx4⟩⟩
          · have h_103 := b2i_n0.mp c_103
            refine wq_run4 (pc' := 116) (L' := [(0, .ref 11), (1, .int (nI kd)), (2, .int (nmI T (tkS T n (tkE T n (tkE T n (tkE T n p)))) (tkE T n (tkE T n (tkE T n (tkE T n p))))))]) (S' := [.int (g4 7), .ref 13]) (f' := (up1 (up1 (up1 (up1 f 15 P) 14 (upd N c (nmI T (tkS T n (tkE T n p)) (tkE T n (tkE T n p))))) 13 K) 11 g4)) rfl ?_
            refine wq_v (y := (nI c)) (hx4.2.2.2) ?_
            refine wq_run1 (pc' := 117) (L' := [(0, .ref 11), (1, .int (nI kd)), (2, .int (nmI T (tkS T n (tkE T n (tkE T n (tkE T n p)))) (tkE T n (tkE T n (tkE T n (tkE T n p))))))]) (S' := [.int (nI kd), .int (nI c), .ref 13]) (f' := (up1 (up1 (up1 (up1 f 15 P) 14 (upd N c (nmI T (tkS T n (tkE T n p)) (tkE T n (tkE T n p))))) 13 K) 11 g4)) rfl ?_
            refine wq_ist (j := c) (n := 8) rfl rfl rfl rfl (by omega) (Nat.le_of_ble_eq_true rfl) ?_
            refine wq_h (f' := (up1 (up1 (up1 (up1 f 15 P) 14 (upd N c (nmI T (tkS T n (tkE T n p)) (tkE T n (tkE T n p))))) 13 (upd K c (nI kd))) 11 g4)) ((up2_up1_ne (f := (up1 (up1 (up1 f 15 P) 14 (upd N c (nmI T (tkS T n (tkE T n p)) (tkE T n (tkE T n p))))) 13 K)) (g := g4) (k := c) (v := (nI kd)) (show (13 : Nat) ≠ 11 by decide)).trans (congrArg (fun z => up1 z 11 g4) ((up2_up1_eq (up1 (up1 f 15 P) 14 (upd N c (nmI T (tkS T n (tkE T n p)) (tkE T n (tkE T n p))))) 13 K c (nI kd)).trans (congrArg (fun z => up1 (up1 (up1 f 15 P) 14 (upd N c (nmI T (tkS T n (tkE T n p)) (tkE T n (tkE T n p))))) 13 z) (rfl))))) ?_
            refine wq_run4 (pc' := 126) (L' := [(0, .ref 11), (1, .int (nI kd)), (2, .int (nmI T (tkS T n (tkE T n (tkE T n (tkE T n p)))) (tkE T n (tkE T n (tkE T n (tkE T n p))))))]) (S' := [.int (g4 7), .ref 15]) (f' := (up1 (up1 (up1 (up1 f 15 P) 14 (upd N c (nmI T (tkS T n (tkE T n p)) (tkE T n (tkE T n p))))) 13 (upd K c (nI kd))) 11 g4)) rfl ?_
            refine wq_v (y := (nI c)) (hx4.2.2.2) ?_
            refine wq_run1 (pc' := 127) (L' := [(0, .ref 11), (1, .int (nI kd)), (2, .int (nmI T (tkS T n (tkE T n (tkE T n (tkE T n p)))) (tkE T n (tkE T n (tkE T n (tkE T n p))))))]) (S' := [.int (nmI T (tkS T n (tkE T n (tkE T n (tkE T n p)))) (tkE T n (tkE T n (tkE T n (tkE T n p))))), .int (nI c), .ref 15]) (f' := (up1 (up1 (up1 (up1 f 15 P) 14 (upd N c (nmI T (tkS T n (tkE T n p)) (tkE T n (tkE T n p))))) 13 (upd K c (nI kd))) 11 g4)) rfl ?_
            refine wq_ist (j := c) (n := 8) rfl rfl rfl rfl (by omega) (Nat.le_of_ble_eq_true rfl) ?_
            refine wq_h (f' := (up1 (up1 (up1 (up1 f 15 (upd P c (nmI T (tkS T n (tkE T n (tkE T n (tkE T n p)))) (tkE T n (tkE T n (tkE T n (tkE T n p))))))) 14 (upd N c (nmI T (tkS T n (tkE T n p)) (tkE T n (tkE T n p))))) 13 (upd K c (nI kd))) 11 g4)) ((up2_up1_ne (f := (up1 (up1 (up1 f 15 P) 14 (upd N c (nmI T (tkS T n (tkE T n p)) (tkE T n (tkE T n p))))) 13 (upd K c (nI kd)))) (g := g4) (k := c) (v := (nmI T (tkS T n (tkE T n (tkE T n (tkE T n p)))) (tkE T n (tkE T n (tkE T n (tkE T n p)))))) (show (15 : Nat) ≠ 11 by decide)).trans (congrArg (fun z => up1 z 11 g4) ((up2_up1_ne (f := (up1 (up1 f 15 P) 14 (upd N c (nmI T (tkS T n (tkE T n p)) (tkE T n (tkE T n p)))))) (g := (upd K c (nI kd))) (k := c) (v := (nmI T (tkS T n (tkE T n (tkE T n (tkE T n p)))) (tkE T n (tkE T n (tkE T n (tkE T n p)))))) (show (15 : Nat) ≠ 13 by decide)).trans (congrArg (fun z => up1 z 13 (upd K c (nI kd))) ((up2_up1_ne (f := (up1 f 15 P)) (g := (upd N c (nmI T (tkS T n (tkE T n p)) (tkE T n (tkE T n p))))) (k := c) (v := (nmI T (tkS T n (tkE T n (tkE T n (tkE T n p)))) (tkE T n (tkE T n (tkE T n (tkE T n p)))))) (show (15 : Nat) ≠ 14 by decide)).trans (congrArg (fun z => up1 z 14 (upd N c (nmI T (tkS T n (tkE T n p)) (tkE T n (tkE T n p))))) ((up2_up1_eq f 15 P c (nmI T (tkS T n (tkE T n (tkE T n (tkE T n p)))) (tkE T n (tkE T n (tkE T n (tkE T n p)))))).trans (congrArg (fun z => up1 f 15 z) (rfl))))))))) ?_
            refine wq_run3 (pc' := 133) (L' := [(0, .ref 11), (1, .int (nI kd)), (2, .int (nmI T (tkS T n (tkE T n (tkE T n (tkE T n p)))) (tkE T n (tkE T n (tkE T n (tkE T n p))))))]) (S' := [.int (g4 7), .ref 11]) (f' := (up1 (up1 (up1 (up1 f 15 (upd P c (nmI T (tkS T n (tkE T n (tkE T n (tkE T n p)))) (tkE T n (tkE T n (tkE T n (tkE T n p))))))) 14 (upd N c (nmI T (tkS T n (tkE T n p)) (tkE T n (tkE T n p))))) 13 (upd K c (nI kd))) 11 g4)) rfl ?_
            refine wq_v (y := (nI c)) (hx4.2.2.2) ?_
            refine wq_run2 (pc' := 135) (L' := [(0, .ref 11), (1, .int (nI kd)), (2, .int (nmI T (tkS T n (tkE T n (tkE T n (tkE T n p)))) (tkE T n (tkE T n (tkE T n (tkE T n p))))))]) (S' := [.int ((nI c) + 1), .ref 11]) (f' := (up1 (up1 (up1 (up1 f 15 (upd P c (nmI T (tkS T n (tkE T n (tkE T n (tkE T n p)))) (tkE T n (tkE T n (tkE T n (tkE T n p))))))) 14 (upd N c (nmI T (tkS T n (tkE T n p)) (tkE T n (tkE T n p))))) 13 (upd K c (nI kd))) 11 g4)) rfl ?_
            refine wq_v (y := (nI (c + 1))) (nI_add c 1) ?_
            refine wq_putI rfl rfl ?_
            refine wq_h (f' := (up1 (up1 (up1 (up1 f 15 (upd P c (nmI T (tkS T n (tkE T n (tkE T n (tkE T n p)))) (tkE T n (tkE T n (tkE T n (tkE T n p))))))) 14 (upd N c (nmI T (tkS T n (tkE T n p)) (tkE T n (tkE T n p))))) 13 (upd K c (nI kd))) 11 (upd g4 7 (nI (c + 1))))) ((up2_up1_eq (up1 (up1 (up1 f 15 (upd P c (nmI T (tkS T n (tkE T n (tkE T n (tkE T n p)))) (tkE T n (tkE T n (tkE T n (tkE T n p))))))) 14 (upd N c (nmI T (tkS T n (tkE T n p)) (tkE T n (tkE T n p))))) 13 (upd K c (nI kd))) 11 g4 7 (nI (c + 1))).trans (congrArg (fun z => up1 (up1 (up1 (up1 f 15 (upd P c (nmI T (tkS T n (tkE T n (tkE T n (tkE T n p)))) (tkE T n (tkE T n (tkE T n (tkE T n p))))))) 14 (upd N c (nmI T (tkS T n (tkE T n p)) (tkE T n (tkE T n p))))) 13 (upd K c (nI kd))) 11 z) (rfl))) ?_
            refine wq_run1 (pc' := 139) (L' := [(0, .ref 11), (1, .int (nI kd)), (2, .int (nmI T (tkS T n (tkE T n (tkE T n (tkE T n p)))) (tkE T n (tkE T n (tkE T n (tkE T n p))))))]) (S' := [.int 1]) (f' := (up1 (up1 (up1 (up1 f 15 (upd P c (nmI T (tkS T n (tkE T n (tkE T n (tkE T n p)))) (tkE T n (tkE T n (tkE T n (tkE T n p))))))) 14 (upd N c (nmI T (tkS T n (tkE T n p)) (tkE T n (tkE T n p))))) 13 (upd K c (nI kd))) 11 (upd g4 7 (nI (c + 1))))) rfl ?_
            exact wq_retZ rfl (Or.inr rfl) ⟨1, _, _, _, _, rfl, rfl, Or.inr ⟨rfl, _, nI kd, _, _, _, by unfold clR; rw [if_neg c_11, hkd, nI_clamp (by omega)]; rw [if_neg (fun q => q h_48), if_pos (Or.inl k_64), if_neg c_82, if_neg (fun q => q h_103)], ⟨hx4.1, hx4.2.1, hx4.2.2.1, rfl⟩, rfl, rfl, rfl⟩⟩
      · have k_64 : ¬ kd = 0 := fun q => c_64 ((nI_eq (a := kd) (b := 0) (by omega) (by omega)).mpr q)
        refine wq_run2 (pc' := 69) (L' := [(0, .ref 11), (1, .int (nI kd)), (2, .int (nmI T (tkS T n (tkE T n p)) (tkE T n (tkE T n p))))]) (S' := [.int 1, .int (nI kd)]) (f' := (up1 (up1 (up1 (up1 f 15 P) 14 (upd N c (nmI T (tkS T n (tkE T n p)) (tkE T n (tkE T n p))))) 13 K) 11 g2)) rfl ?_
        refine wq_if (c := (nI kd) = 1) (p1 := 72) (L1 := [(0, .ref 11), (1, .int (nI kd)), (2, .int (nmI T (tkS T n (tkE T n p)) (tkE T n (tkE T n p))))]) (S1 := []) (p2 := 108) (L2 := [(0, .ref 11), (1, .int (nI kd)), (2, .int (nmI T (tkS T n (tkE T n p)) (tkE T n (tkE T n p))))]) (S2 := []) rfl (fun c_69 => ?_) (fun c_69 => ?_)
        · have k_69 : kd = 1 := (nI_eq (a := kd) (b := 1) (by omega) (by omega)).mp c_69
          refine wq_run1 (pc' := 73) (L' := [(0, .ref 11), (1, .int (nI kd)), (2, .int (nmI T (tkS T n (tkE T n p)) (tkE T n (tkE T n p))))]) (S' := [.ref 11]) (f' := (up1 (up1 (up1 (up1 f 15 P) 14 (upd N c (nmI T (tkS T n (tkE T n p)) (tkE T n (tkE T n p))))) 13 K) 11 g2)) rfl ?_
          refine wq_call (sp_readToken (f := (up1 (up1 (up1 f 15 P) 14 (upd N c (nmI T (tkS T n (tkE T n p)) (tkE T n (tkE T n p))))) 13 K)) (T := T) (n := n) (c := c) (g := g2) (p := (tkE T n (tkE T n p))) hn1 hT t2.2.2.1 hx2) (Nat.le_of_ble_eq_true rfl) (pc' := 76) (L' := [(0, .ref 11), (1, .int (nI kd)), (2, .int (nmI T (tkS T n (tkE T n p)) (tkE T n (tkE T n p))))]) (S' := []) rfl (Nat.le_of_ble_eq_true rfl) rfl rfl (Nat.le_of_ble_eq_true rfl) (Nat.le_of_ble_eq_true rfl) ?_
          rintro v f9 ⟨g3, e0, ef, hx3⟩
          subst e0
          subst ef
          have t3 := tk_b (T := T) (n := n) (p := (tkE T n (tkE T n p))) t2.2.2.1
          refine wq_run2 (pc' := 79) (L' := [(0, .ref 11), (1, .int (nI kd)), (2, .int (nmI T (tkS T n (tkE T n p)) (tkE T n (tkE T n p))))]) (S' := [.ref 2000006, .ref 11]) (f' := (up1 (up1 (up1 (up1 f 15 P) 14 (upd N c (nmI T (tkS T n (tkE T n p)) (tkE T n (tkE T n p))))) 13 K) 11 g3)) rfl ?_
          refine wq_callI (r := (wdI T 6 (tkS T n (tkE T n (tkE T n p))) (tkE T n (tkE T n (tkE T n p))))) (sp_word6 (f := (up1 (up1 (up1 (up1 f 15 P) 14 (upd N c (nmI T (tkS T n (tkE T n p)) (tkE T n (tkE T n p))))) 13 K) 11 g3)) (T := T) (n := n) (s := tkS T n (tkE T n (tkE T n p))) (e := tkE T n (tkE T n (tkE T n p))) (c := c) hn1 hT hx3 t3.2.1 t3.2.2.1) (Nat.le_of_ble_eq_true rfl) (pc' := 82) (L' := [(0, .ref 11), (1, .int (nI kd)), (2, .int (nmI T (tkS T n (tkE T n p)) (tkE T n (tkE T n p))))]) (S' := []) rfl (Nat.le_of_ble_eq_true rfl) rfl rfl (Nat.le_of_ble_eq_true rfl) (Nat.le_of_ble_eq_true rfl) ?_
          refine wq_if (c := (wdI T 6 (tkS T n (tkE T n (tkE T n p))) (tkE T n (tkE T n (tkE T n p)))) = 0) (p1 := 85) (L1 := [(0, .ref 11), (1, .int (nI kd)), (2, .int (nmI T (tkS T n (tkE T n p)) (tkE T n (tkE T n p))))]) (S1 := []) (p2 := 87) (L2 := [(0, .ref 11), (1, .int (nI kd)), (2, .int (nmI T (tkS T n (tkE T n p)) (tkE T n (tkE T n p))))]) (S2 := []) rfl (fun c_82 => ?_) (fun c_82 => ?_)
          · refine wq_run1 (pc' := 86) (L' := [(0, .ref 11), (1, .int (nI kd)), (2, .int (nmI T (tkS T n (tkE T n p)) (tkE T n (tkE T n p))))]) (S' := [.int 0]) (f' := (up1 (up1 (up1 (up1 f 15 P) 14 (upd N c (nmI T (tkS T n (tkE T n p)) (tkE T n (tkE T n p))))) 13 K) 11 g3)) rfl ?_
            exact wq_retZ rfl (Or.inl rfl) ⟨0, _, _, _, _, rfl, rfl, Or.inl ⟨rfl, _, _, by unfold clR; rw [if_neg c_11, hkd, nI_clamp (by omega)]; rw [if_neg (fun q => q h_48), if_pos (Or.inr k_69)]; exact if_pos c_82, hx3⟩⟩
          · refine wq_run1 (pc' := 88) (L' := [(0, .ref 11), (1, .int (nI kd)), (2, .int (nmI T (tkS T n (tkE T n p)) (tkE T n (tkE T n p))))]) (S' := [.ref 11]) (f' := (up1 (up1 (up1 (up1 f 15 P) 14 (upd N c (nmI T (tkS T n (tkE T n p)) (tkE T n (tkE T n p))))) 13 K) 11 g3)) rfl ?_
            refine wq_call (sp_readToken (f := (up1 (up1 (up1 f 15 P) 14 (upd N c (nmI T (tkS T n (tkE T n p)) (tkE T n (tkE T n p))))) 13 K)) (T := T) (n := n) (c := c) (g := g3) (p := (tkE T n (tkE T n (tkE T n p)))) hn1 hT t3.2.2.1 hx3) (Nat.le_of_ble_eq_true rfl) (pc' := 91) (L' := [(0, .ref 11), (1, .int (nI kd)), (2, .int (nmI T (tkS T n (tkE T n p)) (tkE T n (tkE T n p))))]) (S' := []) rfl (Nat.le_of_ble_eq_true rfl) rfl rfl (Nat.le_of_ble_eq_true rfl) (Nat.le_of_ble_eq_true rfl) ?_
            rintro v f9 ⟨g4, e0, ef, hx4⟩
            subst e0
            subst ef
            have t4 := tk_b (T := T) (n := n) (p := (tkE T n (tkE T n (tkE T n p)))) t3.2.2.1
            refine wq_run1 (pc' := 92) (L' := [(0, .ref 11), (1, .int (nI kd)), (2, .int (nmI T (tkS T n (tkE T n p)) (tkE T n (tkE T n p))))]) (S' := [.ref 11]) (f' := (up1 (up1 (up1 (up1 f 15 P) 14 (upd N c (nmI T (tkS T n (tkE T n p)) (tkE T n (tkE T n p))))) 13 K) 11 g4)) rfl ?_
            refine wq_callI (r := (nmI T (tkS T n (tkE T n (tkE T n (tkE T n p)))) (tkE T n (tkE T n (tkE T n (tkE T n p)))))) (sp_number (f := (up1 (up1 (up1 (up1 f 15 P) 14 (upd N c (nmI T (tkS T n (tkE T n p)) (tkE T n (tkE T n p))))) 13 K) 11 g4)) (T := T) (n := n) (s := tkS T n (tkE T n (tkE T n (tkE T n p)))) (e := tkE T n (tkE T n (tkE T n (tkE T n p)))) (c := c) hn1 hT hx4 t4.2.1 t4.2.2.1) (Nat.le_of_ble_eq_true rfl) (pc' := 95) (L' := [(0, .ref 11), (1, .int (nI kd)), (2, .int (nmI T (tkS T n (tkE T n p)) (tkE T n (tkE T n p))))]) (S' := []) rfl (Nat.le_of_ble_eq_true rfl) rfl rfl (Nat.le_of_ble_eq_true rfl) (Nat.le_of_ble_eq_true rfl) ?_
            refine wq_run4 (pc' := 100) (L' := [(0, .ref 11), (1, .int (nI kd)), (2, .int (nmI T (tkS T n (tkE T n (tkE T n (tkE T n p)))) (tkE T n (tkE T n (tkE T n (tkE T n p))))))]) (S' := [.int 99, .int 0, .int (nmI T (tkS T n (tkE T n (tkE T n (tkE T n p)))) (tkE T n (tkE T n (tkE T n (tkE T n p)))))]) (f' := (up1 (up1 (up1 (up1 f 15 P) 14 (upd N c (nmI T (tkS T n (tkE T n p)) (tkE T n (tkE T n p))))) 13 K) 11 g4)) rfl ?_
            refine wq_callI (r := (b2i (inR (nmI T (tkS T n (tkE T n (tkE T n (tkE T n p)))) (tkE T n (tkE T n (tkE T n (tkE T n p))))) 0 99))) (sp_within (up1 (up1 (up1 (up1 f 15 P) 14 (upd N c (nmI T (tkS T n (tkE T n p)) (tkE T n (tkE T n p))))) 13 K) 11 g4) (nmI T (tkS T n (tkE T n (tkE T n (tkE T n p)))) (tkE T n (tkE T n (tkE T n (tkE T n p))))) 0 99) (Nat.le_of_ble_eq_true rfl) (pc' := 103) (L' := [(0, .ref 11), (1, .int (nI kd)), (2, .int (nmI T (tkS T n (tkE T n (tkE T n (tkE T n p)))) (tkE T n (tkE T n (tkE T n (tkE T n p))))))]) (S' := []) rfl (Nat.le_of_ble_eq_true rfl) rfl rfl (Nat.le_of_ble_eq_true rfl) (Nat.le_of_ble_eq_true rfl) ?_
            refine wq_if (c := (b2i (inR (nmI T (tkS T n (tkE T n (tkE T n (tkE T n p)))) (tkE T n (tkE T n (tkE T n (tkE T n p))))) 0 99)) = 0) (p1 := 106) (L1 := [(0, .ref 11), (1, .int (nI kd)), (2, .int (nmI T (tkS T n (tkE T n (tkE T n (tkE T n p)))) (tkE T n (tkE T n (tkE T n (tkE T n p))))))]) (S1 := []) (p2 := 108) (L2 := [(0, .ref 11), (1, .int (nI kd)), (2, .int (nmI T (tkS T n (tkE T n (tkE T n (tkE T n p)))) (tkE T n (tkE T n (tkE T n (tkE T n p))))))]) (S2 := []) rfl (fun c_103 => ?_) (fun c_103 => ?_)
            · have h_103 := b2i_0.mp c_103
              refine wq_run1 (pc' := 107) (L' := [(0, .ref 11), (1, .int (nI kd)), (2, .int (nmI T (tkS T n (tkE T n (tkE T n (tkE T n p)))) (tkE T n (tkE T n (tkE T n (tkE T n p))))))]) (S' := [.int 0]) (f' := (up1 (up1 (up1 (up1 f 15 P) 14 (upd N c (nmI T (tkS T n (tkE T n p)) (tkE T n (tkE T n p))))) 13 K) 11 g4)) rfl ?_
              exact wq_retZ rfl (Or.inl rfl) ⟨0, _, _, _, _, rfl, rfl, Or.inl ⟨rfl, _, _, by unfold clR; rw [if_neg c_11, hkd, nI_clamp (by omega)]; rw [if_neg (fun q => q h_48), if_pos (Or.inr k_69), if_neg c_82]; exact if_pos h_103, hx4⟩⟩
            · have h_103 := b2i_n0.mp c_103
              refine wq_run4 (pc' := 116) (L' := [(0, .ref 11), (1, .int (nI kd)), (2, .int (nmI T (tkS T n (tkE T n (tkE T n (tkE T n p)))) (tkE T n (tkE T n (tkE T n (tkE T n p))))))]) (S' := [.int (g4 7), .ref 13]) (f' := (up1 (up1 (up1 (up1 f 15 P) 14 (upd N c (nmI T (tkS T n (tkE T n p)) (tkE T n (tkE T n p))))) 13 K) 11 g4)) rfl ?_
              refine wq_v (y := (nI c)) (hx4.2.2.2) ?_
              refine wq_run1 (pc' := 117) (L' := [(0, .ref 11), (1, .int (nI kd)), (2, .int (nmI T (tkS T n (tkE T n (tkE T n (tkE T n p)))) (tkE T n (tkE T n (tkE T n (tkE T n p))))))]) (S' := [.int (nI kd), .int (nI c), .ref 13]) (f' := (up1 (up1 (up1 (up1 f 15 P) 14 (upd N c (nmI T (tkS T n (tkE T n p)) (tkE T n (tkE T n p))))) 13 K) 11 g4)) rfl ?_
              refine wq_ist (j := c) (n := 8) rfl rfl rfl rfl (by omega) (Nat.le_of_ble_eq_true rfl) ?_
              refine wq_h (f' := (up1 (up1 (up1 (up1 f 15 P) 14 (upd N c (nmI T (tkS T n (tkE T n p)) (tkE T n (tkE T n p))))) 13 (upd K c (nI kd))) 11 g4)) ((up2_up1_ne (f := (up1 (up1 (up1 f 15 P) 14 (upd N c (nmI T (tkS T n (tkE T n p)) (tkE T n (tkE T n p))))) 13 K)) (g := g4) (k := c) (v := (nI kd)) (show (13 : Nat) ≠ 11 by decide)).trans (congrArg (fun z => up1 z 11 g4) ((up2_up1_eq (up1 (up1 f 15 P) 14 (upd N c (nmI T (tkS T n (tkE T n p)) (tkE T n (tkE T n p))))) 13 K c (nI kd)).trans (congrArg (fun z => up1 (up1 (up1 f 15 P) 14 (upd N c (nmI T (tkS T n (tkE T n p)) (tkE T n (tkE T n p))))) 13 z) (rfl))))) ?_
              refine wq_run4 (pc' := 126) (L' := [(0, .ref 11), (1, .int (nI kd)), (2, .int (nmI T (tkS T n (tkE T n (tkE T n (tkE T n p)))) (tkE T n (tkE T n (tkE T n (tkE T n p))))))]) (S' := [.int (g4 7), .ref 15]) (f' := (up1 (up1 (up1 (up1 f 15 P) 14 (upd N c (nmI T (tkS T n (tkE T n p)) (tkE T n (tkE T n p))))) 13 (upd K c (nI kd))) 11 g4)) rfl ?_
              refine wq_v (y := (nI c)) (hx4.2.2.2) ?_
              refine wq_run1 (pc' := 127) (L' := [(0, .ref 11), (1, .int (nI kd)), (2, .int (nmI T (tkS T n (tkE T n (tkE T n (tkE T n p)))) (tkE T n (tkE T n (tkE T n (tkE T n p))))))]) (S' := [.int (nmI T (tkS T n (tkE T n (tkE T n (tkE T n p)))) (tkE T n (tkE T n (tkE T n (tkE T n p))))), .int (nI c), .ref 15]) (f' := (up1 (up1 (up1 (up1 f 15 P) 14 (upd N c (nmI T (tkS T n (tkE T n p)) (tkE T n (tkE T n p))))) 13 (upd K c (nI kd))) 11 g4)) rfl ?_
              refine wq_ist (j := c) (n := 8) rfl rfl rfl rfl (by omega) (Nat.le_of_ble_eq_true rfl) ?_
              refine wq_h (f' := (up1 (up1 (up1 (up1 f 15 (upd P c (nmI T (tkS T n (tkE T n (tkE T n (tkE T n p)))) (tkE T n (tkE T n (tkE T n (tkE T n p))))))) 14 (upd N c (nmI T (tkS T n (tkE T n p)) (tkE T n (tkE T n p))))) 13 (upd K c (nI kd))) 11 g4)) ((up2_up1_ne (f := (up1 (up1 (up1 f 15 P) 14 (upd N c (nmI T (tkS T n (tkE T n p)) (tkE T n (tkE T n p))))) 13 (upd K c (nI kd)))) (g := g4) (k := c) (v := (nmI T (tkS T n (tkE T n (tkE T n (tkE T n p)))) (tkE T n (tkE T n (tkE T n (tkE T n p)))))) (show (15 : Nat) ≠ 11 by decide)).trans (congrArg (fun z => up1 z 11 g4) ((up2_up1_ne (f := (up1 (up1 f 15 P) 14 (upd N c (nmI T (tkS T n (tkE T n p)) (tkE T n (tkE T n p)))))) (g := (upd K c (nI kd))) (k := c) (v := (nmI T (tkS T n (tkE T n (tkE T n (tkE T n p)))) (tkE T n (tkE T n (tkE T n (tkE T n p)))))) (show (15 : Nat) ≠ 13 by decide)).trans (congrArg (fun z => up1 z 13 (upd K c (nI kd))) ((up2_up1_ne (f := (up1 f 15 P)) (g := (upd N c (nmI T (tkS T n (tkE T n p)) (tkE T n (tkE T n p))))) (k := c) (v := (nmI T (tkS T n (tkE T n (tkE T n (tkE T n p)))) (tkE T n (tkE T n (tkE T n (tkE T n p)))))) (show (15 : Nat) ≠ 14 by decide)).trans (congrArg (fun z => up1 z 14 (upd N c (nmI T (tkS T n (tkE T n p)) (tkE T n (tkE T n p))))) ((up2_up1_eq f 15 P c (nmI T (tkS T n (tkE T n (tkE T n (tkE T n p)))) (tkE T n (tkE T n (tkE T n (tkE T n p)))))).trans (congrArg (fun z => up1 f 15 z) (rfl))))))))) ?_
              refine wq_run3 (pc' := 133) (L' := [(0, .ref 11), (1, .int (nI kd)), (2, .int (nmI T (tkS T n (tkE T n (tkE T n (tkE T n p)))) (tkE T n (tkE T n (tkE T n (tkE T n p))))))]) (S' := [.int (g4 7), .ref 11]) (f' := (up1 (up1 (up1 (up1 f 15 (upd P c (nmI T (tkS T n (tkE T n (tkE T n (tkE T n p)))) (tkE T n (tkE T n (tkE T n (tkE T n p))))))) 14 (upd N c (nmI T (tkS T n (tkE T n p)) (tkE T n (tkE T n p))))) 13 (upd K c (nI kd))) 11 g4)) rfl ?_
              refine wq_v (y := (nI c)) (hx4.2.2.2) ?_
              refine wq_run2 (pc' := 135) (L' := [(0, .ref 11), (1, .int (nI kd)), (2, .int (nmI T (tkS T n (tkE T n (tkE T n (tkE T n p)))) (tkE T n (tkE T n (tkE T n (tkE T n p))))))]) (S' := [.int ((nI c) + 1), .ref 11]) (f' := (up1 (up1 (up1 (up1 f 15 (upd P c (nmI T (tkS T n (tkE T n (tkE T n (tkE T n p)))) (tkE T n (tkE T n (tkE T n (tkE T n p))))))) 14 (upd N c (nmI T (tkS T n (tkE T n p)) (tkE T n (tkE T n p))))) 13 (upd K c (nI kd))) 11 g4)) rfl ?_
              refine wq_v (y := (nI (c + 1))) (nI_add c 1) ?_
              refine wq_putI rfl rfl ?_
              refine wq_h (f' := (up1 (up1 (up1 (up1 f 15 (upd P c (nmI T (tkS T n (tkE T n (tkE T n (tkE T n p)))) (tkE T n (tkE T n (tkE T n (tkE T n p))))))) 14 (upd N c (nmI T (tkS T n (tkE T n p)) (tkE T n (tkE T n p))))) 13 (upd K c (nI kd))) 11 (upd g4 7 (nI (c + 1))))) ((up2_up1_eq (up1 (up1 (up1 f 15 (upd P c (nmI T (tkS T n (tkE T n (tkE T n (tkE T n p)))) (tkE T n (tkE T n (tkE T n (tkE T n p))))))) 14 (upd N c (nmI T (tkS T n (tkE T n p)) (tkE T n (tkE T n p))))) 13 (upd K c (nI kd))) 11 g4 7 (nI (c + 1))).trans (congrArg (fun z => up1 (up1 (up1 (up1 f 15 (upd P c (nmI T (tkS T n (tkE T n (tkE T n (tkE T n p)))) (tkE T n (tkE T n (tkE T n (tkE T n p))))))) 14 (upd N c (nmI T (tkS T n (tkE T n p)) (tkE T n (tkE T n p))))) 13 (upd K c (nI kd))) 11 z) (rfl))) ?_
              refine wq_run1 (pc' := 139) (L' := [(0, .ref 11), (1, .int (nI kd)), (2, .int (nmI T (tkS T n (tkE T n (tkE T n (tkE T n p)))) (tkE T n (tkE T n (tkE T n (tkE T n p))))))]) (S' := [.int 1]) (f' := (up1 (up1 (up1 (up1 f 15 (upd P c (nmI T (tkS T n (tkE T n (tkE T n (tkE T n p)))) (tkE T n (tkE T n (tkE T n (tkE T n p))))))) 14 (upd N c (nmI T (tkS T n (tkE T n p)) (tkE T n (tkE T n p))))) 13 (upd K c (nI kd))) 11 (upd g4 7 (nI (c + 1))))) rfl ?_
              exact wq_retZ rfl (Or.inr rfl) ⟨1, _, _, _, _, rfl, rfl, Or.inr ⟨rfl, _, nI kd, _, _, _, by unfold clR; rw [if_neg c_11, hkd, nI_clamp (by omega)]; rw [if_neg (fun q => q h_48), if_pos (Or.inr k_69), if_neg c_82, if_neg (fun q => q h_103)], ⟨hx4.1, hx4.2.1, hx4.2.2.1, rfl⟩, rfl, rfl, rfl⟩⟩
        · have k_69 : ¬ kd = 1 := fun q => c_69 ((nI_eq (a := kd) (b := 1) (by omega) (by omega)).mpr q)
          refine wq_run4 (pc' := 116) (L' := [(0, .ref 11), (1, .int (nI kd)), (2, .int (nmI T (tkS T n (tkE T n p)) (tkE T n (tkE T n p))))]) (S' := [.int (g2 7), .ref 13]) (f' := (up1 (up1 (up1 (up1 f 15 P) 14 (upd N c (nmI T (tkS T n (tkE T n p)) (tkE T n (tkE T n p))))) 13 K) 11 g2)) rfl ?_
          refine wq_v (y := (nI c)) (hx2.2.2.2) ?_
          refine wq_run1 (pc' := 117) (L' := [(0, .ref 11), (1, .int (nI kd)), (2, .int (nmI T (tkS T n (tkE T n p)) (tkE T n (tkE T n p))))]) (S' := [.int (nI kd), .int (nI c), .ref 13]) (f' := (up1 (up1 (up1 (up1 f 15 P) 14 (upd N c (nmI T (tkS T n (tkE T n p)) (tkE T n (tkE T n p))))) 13 K) 11 g2)) rfl ?_
          refine wq_ist (j := c) (n := 8) rfl rfl rfl rfl (by omega) (Nat.le_of_ble_eq_true rfl) ?_
          refine wq_h (f' := (up1 (up1 (up1 (up1 f 15 P) 14 (upd N c (nmI T (tkS T n (tkE T n p)) (tkE T n (tkE T n p))))) 13 (upd K c (nI kd))) 11 g2)) ((up2_up1_ne (f := (up1 (up1 (up1 f 15 P) 14 (upd N c (nmI T (tkS T n (tkE T n p)) (tkE T n (tkE T n p))))) 13 K)) (g := g2) (k := c) (v := (nI kd)) (show (13 : Nat) ≠ 11 by decide)).trans (congrArg (fun z => up1 z 11 g2) ((up2_up1_eq (up1 (up1 f 15 P) 14 (upd N c (nmI T (tkS T n (tkE T n p)) (tkE T n (tkE T n p))))) 13 K c (nI kd)).trans (congrArg (fun z => up1 (up1 (up1 f 15 P) 14 (upd N c (nmI T (tkS T n (tkE T n p)) (tkE T n (tkE T n p))))) 13 z) (rfl))))) ?_
          refine wq_run4 (pc' := 126) (L' := [(0, .ref 11), (1, .int (nI kd)), (2, .int (nmI T (tkS T n (tkE T n p)) (tkE T n (tkE T n p))))]) (S' := [.int (g2 7), .ref 15]) (f' := (up1 (up1 (up1 (up1 f 15 P) 14 (upd N c (nmI T (tkS T n (tkE T n p)) (tkE T n (tkE T n p))))) 13 (upd K c (nI kd))) 11 g2)) rfl ?_
          refine wq_v (y := (nI c)) (hx2.2.2.2) ?_
          refine wq_run1 (pc' := 127) (L' := [(0, .ref 11), (1, .int (nI kd)), (2, .int (nmI T (tkS T n (tkE T n p)) (tkE T n (tkE T n p))))]) (S' := [.int (nmI T (tkS T n (tkE T n p)) (tkE T n (tkE T n p))), .int (nI c), .ref 15]) (f' := (up1 (up1 (up1 (up1 f 15 P) 14 (upd N c (nmI T (tkS T n (tkE T n p)) (tkE T n (tkE T n p))))) 13 (upd K c (nI kd))) 11 g2)) rfl ?_
          refine wq_ist (j := c) (n := 8) rfl rfl rfl rfl (by omega) (Nat.le_of_ble_eq_true rfl) ?_
          refine wq_h (f' := (up1 (up1 (up1 (up1 f 15 (upd P c (nmI T (tkS T n (tkE T n p)) (tkE T n (tkE T n p))))) 14 (upd N c (nmI T (tkS T n (tkE T n p)) (tkE T n (tkE T n p))))) 13 (upd K c (nI kd))) 11 g2)) ((up2_up1_ne (f := (up1 (up1 (up1 f 15 P) 14 (upd N c (nmI T (tkS T n (tkE T n p)) (tkE T n (tkE T n p))))) 13 (upd K c (nI kd)))) (g := g2) (k := c) (v := (nmI T (tkS T n (tkE T n p)) (tkE T n (tkE T n p)))) (show (15 : Nat) ≠ 11 by decide)).trans (congrArg (fun z => up1 z 11 g2) ((up2_up1_ne (f := (up1 (up1 f 15 P) 14 (upd N c (nmI T (tkS T n (tkE T n p)) (tkE T n (tkE T n p)))))) (g := (upd K c (nI kd))) (k := c) (v := (nmI T (tkS T n (tkE T n p)) (tkE T n (tkE T n p)))) (show (15 : Nat) ≠ 13 by decide)).trans (congrArg (fun z => up1 z 13 (upd K c (nI kd))) ((up2_up1_ne (f := (up1 f 15 P)) (g := (upd N c (nmI T (tkS T n (tkE T n p)) (tkE T n (tkE T n p))))) (k := c) (v := (nmI T (tkS T n (tkE T n p)) (tkE T n (tkE T n p)))) (show (15 : Nat) ≠ 14 by decide)).trans (congrArg (fun z => up1 z 14 (upd N c (nmI T (tkS T n (tkE T n p)) (tkE T n (tkE T n p))))) ((up2_up1_eq f 15 P c (nmI T (tkS T n (tkE T n p)) (tkE T n (tkE T n p)))).trans (congrArg (fun z => up1 f 15 z) (rfl))))))))) ?_
          refine wq_run3 (pc' := 133) (L' := [(0, .ref 11), (1, .int (nI kd)), (2, .int (nmI T (tkS T n (tkE T n p)) (tkE T n (tkE T n p))))]) (S' := [.int (g2 7), .ref 11]) (f' := (up1 (up1 (up1 (up1 f 15 (upd P c (nmI T (tkS T n (tkE T n p)) (tkE T n (tkE T n p))))) 14 (upd N c (nmI T (tkS T n (tkE T n p)) (tkE T n (tkE T n p))))) 13 (upd K c (nI kd))) 11 g2)) rfl ?_
          refine wq_v (y := (nI c)) (hx2.2.2.2) ?_
          refine wq_run2 (pc' := 135) (L' := [(0, .ref 11), (1, .int (nI kd)), (2, .int (nmI T (tkS T n (tkE T n p)) (tkE T n (tkE T n p))))]) (S' := [.int ((nI c) + 1), .ref 11]) (f' := (up1 (up1 (up1 (up1 f 15 (upd P c (nmI T (tkS T n (tkE T n p)) (tkE T n (tkE T n p))))) 14 (upd N c (nmI T (tkS T n (tkE T n p)) (tkE T n (tkE T n p))))) 13 (upd K c (nI kd))) 11 g2)) rfl ?_
          refine wq_v (y := (nI (c + 1))) (nI_add c 1) ?_
          refine wq_putI rfl rfl ?_
          refine wq_h (f' := (up1 (up1 (up1 (up1 f 15 (upd P c (nmI T (tkS T n (tkE T n p)) (tkE T n (tkE T n p))))) 14 (upd N c (nmI T (tkS T n (tkE T n p)) (tkE T n (tkE T n p))))) 13 (upd K c (nI kd))) 11 (upd g2 7 (nI (c + 1))))) ((up2_up1_eq (up1 (up1 (up1 f 15 (upd P c (nmI T (tkS T n (tkE T n p)) (tkE T n (tkE T n p))))) 14 (upd N c (nmI T (tkS T n (tkE T n p)) (tkE T n (tkE T n p))))) 13 (upd K c (nI kd))) 11 g2 7 (nI (c + 1))).trans (congrArg (fun z => up1 (up1 (up1 (up1 f 15 (upd P c (nmI T (tkS T n (tkE T n p)) (tkE T n (tkE T n p))))) 14 (upd N c (nmI T (tkS T n (tkE T n p)) (tkE T n (tkE T n p))))) 13 (upd K c (nI kd))) 11 z) (rfl))) ?_
          refine wq_run1 (pc' := 139) (L' := [(0, .ref 11), (1, .int (nI kd)), (2, .int (nmI T (tkS T n (tkE T n p)) (tkE T n (tkE T n p))))]) (S' := [.int 1]) (f' := (up1 (up1 (up1 (up1 f 15 (upd P c (nmI T (tkS T n (tkE T n p)) (tkE T n (tkE T n p))))) 14 (upd N c (nmI T (tkS T n (tkE T n p)) (tkE T n (tkE T n p))))) 13 (upd K c (nI kd))) 11 (upd g2 7 (nI (c + 1))))) rfl ?_
          exact wq_retZ rfl (Or.inr rfl) ⟨1, _, _, _, _, rfl, rfl, Or.inr ⟨rfl, _, nI kd, _, _, _, by unfold clR; rw [if_neg c_11, hkd, nI_clamp (by omega)]; rw [if_neg (fun q => q h_48), if_neg (fun q => q.elim k_64 k_69)], ⟨hx2.1, hx2.2.1, hx2.2.2.1, rfl⟩, rfl, rfl, rfl⟩⟩
