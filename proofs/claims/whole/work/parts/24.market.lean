/-! the market: years -/
theorem imin_l {a b : Int32} (h : ¬ b < a) : imin a b = a := by
  unfold imin
  by_cases h2 : a < b
  · rw [if_pos h2]
  · rw [if_neg h2]; exact i_le_anti (Int32.not_lt.mp h2) (Int32.not_lt.mp h)
theorem imin_r {a b : Int32} (h : b < a) : imin a b = b := if_neg (fun q => Int32.lt_irrefl (Int32.lt_trans q h))
theorem imax_l {a b : Int32} (h : ¬ a < b) : imax a b = a := by
  unfold imax
  by_cases h2 : b < a
  · rw [if_pos h2]
  · rw [if_neg h2]; exact i_le_anti (Int32.not_lt.mp h) (Int32.not_lt.mp h2)
theorem imax_r {a b : Int32} (h : a < b) : imax a b = b := if_neg (fun q => Int32.lt_irrefl (Int32.lt_trans q h))
theorem jp_min (f : HI) (a b : Int32) : Sp 1 217 [.int a, .int b] f (Ret (imin a b) f) := by
  show wq 1 217 _ 0 [(0, .int a), (1, .int b)] [] f
  refine wq_run2 (pc' := 2) (L' := [(0, .int a), (1, .int b)]) (S' := [.int b, .int a]) (f' := f) rfl ?_
  refine wq_if (c := b < a) (p1 := 9) (L1 := [(0, .int a), (1, .int b)]) (S1 := []) (p2 := 5) (L2 := [(0, .int a), (1, .int b)]) (S2 := []) rfl (fun c_2 => ?_) (fun c_2 => ?_)
  · refine wq_run1 (pc' := 10) (L' := [(0, .int a), (1, .int b)]) (S' := [.int b]) (f' := f) rfl ?_
    exact wq_ret rfl (Ret.of (imin_r c_2).symm rfl)
  · refine wq_run2 (pc' := 10) (L' := [(0, .int a), (1, .int b)]) (S' := [.int a]) (f' := f) rfl ?_
    exact wq_ret rfl (Ret.of (imin_l c_2).symm rfl)
theorem jp_max (f : HI) (a b : Int32) : Sp 1 216 [.int a, .int b] f (Ret (imax a b) f) := by
  show wq 1 216 _ 0 [(0, .int a), (1, .int b)] [] f
  refine wq_run2 (pc' := 2) (L' := [(0, .int a), (1, .int b)]) (S' := [.int b, .int a]) (f' := f) rfl ?_
  refine wq_if (c := a < b) (p1 := 9) (L1 := [(0, .int a), (1, .int b)]) (S1 := []) (p2 := 5) (L2 := [(0, .int a), (1, .int b)]) (S2 := []) rfl (fun c_2 => ?_) (fun c_2 => ?_)
  · refine wq_run1 (pc' := 10) (L' := [(0, .int a), (1, .int b)]) (S' := [.int b]) (f' := f) rfl ?_
    exact wq_ret rfl (Ret.of (imax_r c_2).symm rfl)
  · refine wq_run2 (pc' := 10) (L' := [(0, .int a), (1, .int b)]) (S' := [.int a]) (f' := f) rfl ?_
    exact wq_ret rfl (Ret.of (imax_l c_2).symm rfl)
abbrev pst (V : Nat → Int32) (s : Int32) (w : Nat) (p : Int32) : Prop := p ≤ V w ∧ (s = -1 ∨ p ≤ s)
abbrev smg (V : Nat → Int32) (s : Int32) (w : Nat) : Prop := ¬ s = -1 ∧ s ≤ V w
/-- letters by the post, by smugglers, of the first wants -/
def pS (P V T : Nat → Int32) (s p : Int32) : Nat → Int32
  | 0 => 0
  | w + 1 => if pst V s w p then pS P V T s p w + P w * T w else pS P V T s p w
def sS (P V T : Nat → Int32) (s p : Int32) : Nat → Int32
  | 0 => 0
  | w + 1 => if pst V s w p then sS P V T s p w else if smg V s w then sS P V T s p w + P w * T w else sS P V T s p w
/-- the times of the year behind -/
def nT (V T : Nat → Int32) (s g p : Int32) (w : Nat) : Int32 := if pst V s w p then (if p ≤ V w / 2 then imin 60 (T w + g) else T w) else if smg V s w then T w else imax 0 (T w - 1)
def lossA (fx ea po p : Int32) : Int32 := fx + (ea * po + 5) / 6 - po * p
theorem sp_posted (f : HI) {w : Nat} (hw : w < 8) (p : Int32) : Sp 1 45 [.ref 83, .int (nI w), .int p] f (Ret (b2i (pst (f 87) (f 1 6) w p)) f) := by
  show wq 1 45 _ 0 [(0, .ref 83), (1, .int (nI w)), (2, .int p)] [] f
  refine wq_run4 (pc' := 6) (L' := [(0, .ref 83), (1, .int (nI w)), (2, .int p)]) (S' := [.int (nI w), .ref 87, .int p]) (f' := f) rfl ?_
  refine wq_ald (j := w) (n := 8) (v := (f 87 w)) rfl rfl rfl rfl hw (Nat.le_of_ble_eq_true rfl) rfl ?_
  refine wq_if (c := (f 87 w) < p) (p1 := 36) (L1 := [(0, .ref 83), (1, .int (nI w)), (2, .int p)]) (S1 := []) (p2 := 10) (L2 := [(0, .ref 83), (1, .int (nI w)), (2, .int p)]) (S2 := []) rfl (fun c_7 => ?_) (fun c_7 => ?_)
  · refine wq_run1 (pc' := 37) (L' := [(0, .ref 83), (1, .int (nI w)), (2, .int p)]) (S' := [.int 0]) (f' := f) rfl ?_
    exact wq_retZ rfl (by first | exact Or.inl rfl | exact Or.inr rfl) ⟨congrArg some (congrArg Value.int ((b2i_f (fun q => absurd q.1 (Int32.not_le.mpr c_7))).symm)), rfl⟩
  · refine wq_run3 (pc' := 16) (L' := [(0, .ref 83), (1, .int (nI w)), (2, .int p)]) (S' := [.int 6, .ref 1]) (f' := f) rfl ?_
    refine wq_ald (j := 6) (n := 7) (v := (f 1 6)) rfl rfl rfl rfl (Nat.le_of_ble_eq_true rfl) (Nat.le_of_ble_eq_true rfl) rfl ?_
    refine wq_run1 (pc' := 18) (L' := [(0, .ref 83), (1, .int (nI w)), (2, .int p)]) (S' := [.int (-1), .int (f 1 6)]) (f' := f) rfl ?_
    refine wq_if (c := (f 1 6) = (-1)) (p1 := 32) (L1 := [(0, .ref 83), (1, .int (nI w)), (2, .int p)]) (S1 := []) (p2 := 21) (L2 := [(0, .ref 83), (1, .int (nI w)), (2, .int p)]) (S2 := []) rfl (fun c_18 => ?_) (fun c_18 => ?_)
    · refine wq_run2 (pc' := 37) (L' := [(0, .ref 83), (1, .int (nI w)), (2, .int p)]) (S' := [.int 1]) (f' := f) rfl ?_
      exact wq_retZ rfl (by first | exact Or.inl rfl | exact Or.inr rfl) ⟨congrArg some (congrArg Value.int ((b2i_t ⟨Int32.not_lt.mp c_7, Or.inl c_18⟩).symm)), rfl⟩
    · refine wq_run4 (pc' := 28) (L' := [(0, .ref 83), (1, .int (nI w)), (2, .int p)]) (S' := [.int 6, .ref 1, .int p]) (f' := f) rfl ?_
      refine wq_ald (j := 6) (n := 7) (v := (f 1 6)) rfl rfl rfl rfl (Nat.le_of_ble_eq_true rfl) (Nat.le_of_ble_eq_true rfl) rfl ?_
      refine wq_if (c := (f 1 6) < p) (p1 := 36) (L1 := [(0, .ref 83), (1, .int (nI w)), (2, .int p)]) (S1 := []) (p2 := 32) (L2 := [(0, .ref 83), (1, .int (nI w)), (2, .int p)]) (S2 := []) rfl (fun c_29 => ?_) (fun c_29 => ?_)
      · refine wq_run1 (pc' := 37) (L' := [(0, .ref 83), (1, .int (nI w)), (2, .int p)]) (S' := [.int 0]) (f' := f) rfl ?_
        exact wq_retZ rfl (by first | exact Or.inl rfl | exact Or.inr rfl) ⟨congrArg some (congrArg Value.int ((b2i_f (fun q => q.2.elim c_18 (fun z => absurd z (Int32.not_le.mpr c_29)))).symm)), rfl⟩
      · refine wq_run2 (pc' := 37) (L' := [(0, .ref 83), (1, .int (nI w)), (2, .int p)]) (S' := [.int 1]) (f' := f) rfl ?_
        exact wq_retZ rfl (by first | exact Or.inl rfl | exact Or.inr rfl) ⟨congrArg some (congrArg Value.int ((b2i_t ⟨Int32.not_lt.mp c_7, Or.inr (Int32.not_lt.mp c_29)⟩).symm)), rfl⟩
theorem sp_smuggled (f : HI) {w : Nat} (hw : w < 8) : Sp 1 51 [.ref 83, .int (nI w)] f (Ret (b2i (smg (f 87) (f 1 6) w)) f) := by
  show wq 1 51 _ 0 [(0, .ref 83), (1, .int (nI w))] [] f
  refine wq_run3 (pc' := 6) (L' := [(0, .ref 83), (1, .int (nI w))]) (S' := [.int 6, .ref 1]) (f' := f) rfl ?_
  refine wq_ald (j := 6) (n := 7) (v := (f 1 6)) rfl rfl rfl rfl (Nat.le_of_ble_eq_true rfl) (Nat.le_of_ble_eq_true rfl) rfl ?_
  refine wq_run1 (pc' := 8) (L' := [(0, .ref 83), (1, .int (nI w))]) (S' := [.int (-1), .int (f 1 6)]) (f' := f) rfl ?_
  refine wq_if (c := (f 1 6) = (-1)) (p1 := 31) (L1 := [(0, .ref 83), (1, .int (nI w))]) (S1 := []) (p2 := 11) (L2 := [(0, .ref 83), (1, .int (nI w))]) (S2 := []) rfl (fun c_8 => ?_) (fun c_8 => ?_)
  · refine wq_run1 (pc' := 32) (L' := [(0, .ref 83), (1, .int (nI w))]) (S' := [.int 0]) (f' := f) rfl ?_
    exact wq_retZ rfl (by first | exact Or.inl rfl | exact Or.inr rfl) ⟨congrArg some (congrArg Value.int ((b2i_f (fun q => q.1 c_8)).symm)), rfl⟩
  · refine wq_run3 (pc' := 17) (L' := [(0, .ref 83), (1, .int (nI w))]) (S' := [.int 6, .ref 1]) (f' := f) rfl ?_
    refine wq_ald (j := 6) (n := 7) (v := (f 1 6)) rfl rfl rfl rfl (Nat.le_of_ble_eq_true rfl) (Nat.le_of_ble_eq_true rfl) rfl ?_
    refine wq_run3 (pc' := 23) (L' := [(0, .ref 83), (1, .int (nI w))]) (S' := [.int (nI w), .ref 87, .int (f 1 6)]) (f' := f) rfl ?_
    refine wq_ald (j := w) (n := 8) (v := (f 87 w)) rfl rfl rfl rfl hw (Nat.le_of_ble_eq_true rfl) rfl ?_
    refine wq_if (c := (f 87 w) < (f 1 6)) (p1 := 31) (L1 := [(0, .ref 83), (1, .int (nI w))]) (S1 := []) (p2 := 27) (L2 := [(0, .ref 83), (1, .int (nI w))]) (S2 := []) rfl (fun c_24 => ?_) (fun c_24 => ?_)
    · refine wq_run1 (pc' := 32) (L' := [(0, .ref 83), (1, .int (nI w))]) (S' := [.int 0]) (f' := f) rfl ?_
      exact wq_retZ rfl (by first | exact Or.inl rfl | exact Or.inr rfl) ⟨congrArg some (congrArg Value.int ((b2i_f (fun q => absurd q.2 (Int32.not_le.mpr c_24))).symm)), rfl⟩
    · refine wq_run2 (pc' := 32) (L' := [(0, .ref 83), (1, .int (nI w))]) (S' := [.int 1]) (f' := f) rfl ?_
      exact wq_retZ rfl (by first | exact Or.inl rfl | exact Or.inr rfl) ⟨congrArg some (congrArg Value.int ((b2i_t ⟨c_8, Int32.not_lt.mp c_24⟩).symm)), rfl⟩
theorem add6 (x : Int32) : x + 6 - 1 = x + 5 := by rw [Int32.sub_eq_add_neg, Int32.add_assoc]; rfl
theorem sp_loss (f : HI) (po p : Int32) : Sp 1 47 [.ref 83, .int po, .int p] f (Ret (lossA (f 1 2) (f 1 3) po p) f) := by
  show wq 1 47 _ 0 [(0, .ref 83), (1, .int po), (2, .int p)] [] f
  refine wq_run3 (pc' := 5) (L' := [(0, .ref 83), (1, .int po), (2, .int p)]) (S' := [.int 2, .ref 1]) (f' := f) rfl ?_
  refine wq_ald (j := 2) (n := 7) (v := (f 1 2)) rfl rfl rfl rfl (Nat.le_of_ble_eq_true rfl) (Nat.le_of_ble_eq_true rfl) rfl ?_
  refine wq_run3 (pc' := 11) (L' := [(0, .ref 83), (1, .int po), (2, .int p)]) (S' := [.int 3, .ref 1, .int (f 1 2)]) (f' := f) rfl ?_
  refine wq_ald (j := 3) (n := 7) (v := (f 1 3)) rfl rfl rfl rfl (Nat.le_of_ble_eq_true rfl) (Nat.le_of_ble_eq_true rfl) rfl ?_
  refine wq_run7 (pc' := 21) (L' := [(0, .ref 83), (1, .int po), (2, .int p)]) (S' := [.int 6, .int ((((f 1 3) * po) + 6) - 1), .int (f 1 2)]) (f' := f) rfl ?_
  refine wq_div rfl (by decide) ?_
  refine wq_run5 (pc' := 27) (L' := [(0, .ref 83), (1, .int po), (2, .int p)]) (S' := [.int (((f 1 2) + (((((f 1 3) * po) + 6) - 1) / 6)) - (po * p))]) (f' := f) rfl ?_
  exact wq_ret rfl (Ret.of (by unfold lossA; rw [add6]) rfl)
/-- the times row behind a year, of the first wants -/
def tG (V : Nat → Int32) (t : Nat → Int32) (s g p : Int32) (y i : Nat) : Nat → Int32 := fun j => if 8 * (y + 1) ≤ j ∧ j < 8 * (y + 1) + i then nT V (fun w => t (8 * y + w)) s g p (j - 8 * (y + 1)) else t j
theorem tG_0 {V t : Nat → Int32} {s g p : Int32} {y : Nat} : tG V t s g p y 0 = t := by
  funext j
  unfold tG
  rw [if_neg (by omega)]
theorem tG_s {V t : Nat → Int32} {s g p v : Int32} {y i : Nat} (hv : v = nT V (fun w => t (8 * y + w)) s g p i) : upd (tG V t s g p y i) (8 * (y + 1) + i) v = tG V t s g p y (i + 1) := by
  funext j
  by_cases h : j = 8 * (y + 1) + i
  · subst h
    rw [upd_s]
    unfold tG
    rw [if_pos (by omega), hv]
    congr 1
    omega
  · rw [upd_n h]
    unfold tG
    by_cases h2 : 8 * (y + 1) ≤ j ∧ j < 8 * (y + 1) + i
    · rw [if_pos h2, if_pos (by omega)]
    · rw [if_neg h2, if_neg (by omega)]
theorem tG_r {V t : Nat → Int32} {s g p : Int32} {y i w : Nat} (hw : w < 8) : tG V t s g p y i (8 * y + w) = t (8 * y + w) := by
  unfold tG
  rw [if_neg (by omega)]
theorem yw (y w : Nat) : nI y * 8 + nI w = nI (8 * y + w) := by rw [show (8 : Int32) = nI 8 from rfl, pk_mul, nI_add, Nat.mul_comm]
theorem yw1 (y w : Nat) : (nI y + 1) * 8 + nI w = nI (8 * (y + 1) + w) := by rw [nI_1, yw]
theorem lp_year (f : HI) {y n : Nat} (hy : y < 5) (hn8 : n ≤ 8) (hn2 : f 83 6 = nI n) (p : Int32) : ∀ (m9 : Nat) (i : Nat), i ≤ n → n - i < m9 → wq 3 46 (Ret (pS (f 86) (f 87) (fun w => f 88 (8 * y + w)) (f 1 6) p n) (up1 (up1 f 83 (upd (f 83) 9 (sS (f 86) (f 87) (fun w => f 88 (8 * y + w)) (f 1 6) p n))) 88 (tG (f 87) (f 88) (f 1 6) (f 1 4) p y n))) 10 [(0, .ref 83), (1, .int (nI y)), (2, .int p), (3, .int (pS (f 86) (f 87) (fun w => f 88 (8 * y + w)) (f 1 6) p i)), (4, .int (nI i))] [] (up1 (up1 f 83 (upd (f 83) 9 (sS (f 86) (f 87) (fun w => f 88 (8 * y + w)) (f 1 6) p i))) 88 (tG (f 87) (f 88) (f 1 6) (f 1 4) p y i)) := by
  intro m9
  induction m9 with
  | zero => intro i hin0 hn; exact absurd hn (Nat.not_lt_zero _)
  | succ m9 ih =>
    intro i hin0 hn
    refine wq_run3 (pc' := 16) (L' := [(0, .ref 83), (1, .int (nI y)), (2, .int p), (3, .int (pS (f 86) (f 87) (fun w => f 88 (8 * y + w)) (f 1 6) p i)), (4, .int (nI i))]) (S' := [.int ((f 83) 6), .int (nI i)]) (f' := (up1 (up1 f 83 (upd (f 83) 9 (sS (f 86) (f 87) (fun w => f 88 (8 * y + w)) (f 1 6) p i))) 88 (tG (f 87) (f 88) (f 1 6) (f 1 4) p y i))) rfl ?_
    refine wq_if (c := ((f 83) 6) ≤ (nI i)) (p1 := 155) (L1 := [(0, .ref 83), (1, .int (nI y)), (2, .int p), (3, .int (pS (f 86) (f 87) (fun w => f 88 (8 * y + w)) (f 1 6) p i)), (4, .int (nI i))]) (S1 := []) (p2 := 19) (L2 := [(0, .ref 83), (1, .int (nI y)), (2, .int p), (3, .int (pS (f 86) (f 87) (fun w => f 88 (8 * y + w)) (f 1 6) p i)), (4, .int (nI i))]) (S2 := []) rfl (fun c_16 => ?_) (fun c_16 => ?_)
    · refine wq_run1 (pc' := 156) (L' := [(0, .ref 83), (1, .int (nI y)), (2, .int p), (3, .int (pS (f 86) (f 87) (fun w => f 88 (8 * y + w)) (f 1 6) p i)), (4, .int (nI i))]) (S' := [.int (pS (f 86) (f 87) (fun w => f 88 (8 * y + w)) (f 1 6) p i)]) (f' := (up1 (up1 f 83 (upd (f 83) 9 (sS (f 86) (f 87) (fun w => f 88 (8 * y + w)) (f 1 6) p i))) 88 (tG (f 87) (f 88) (f 1 6) (f 1 4) p y i))) rfl ?_
      have e : i = n := Nat.le_antisymm hin0 (Nat.not_lt.mp (fun q => absurd (show f 83 6 ≤ nI i from c_16) (by rw [hn2]; exact nI_ge q (by omega))))
      subst e
      exact wq_ret rfl ⟨rfl, rfl⟩
    · have hin : i < n := Nat.lt_of_not_le (fun q => c_16 (by show f 83 6 ≤ nI i; rw [hn2]; exact nI_le q (by omega)))
      have hi8 : i < 8 := by omega
      refine wq_run7 (pc' := 30) (L' := [(0, .ref 83), (1, .int (nI y)), (2, .int p), (3, .int (pS (f 86) (f 87) (fun w => f 88 (8 * y + w)) (f 1 6) p i)), (4, .int (nI i))]) (S' := [.int (((nI y) * 8) + (nI i)), .ref 88]) (f' := (up1 (up1 f 83 (upd (f 83) 9 (sS (f 86) (f 87) (fun w => f 88 (8 * y + w)) (f 1 6) p i))) 88 (tG (f 87) (f 88) (f 1 6) (f 1 4) p y i))) rfl ?_
      refine wq_ald (j := (8 * y + i)) (n := 48) (v := (f 88 (8 * y + i))) rfl rfl rfl (yw y i) (by omega) (Nat.le_of_ble_eq_true rfl) (tG_r hi8) ?_
      refine wq_run6 (pc' := 41) (L' := [(0, .ref 83), (1, .int (nI y)), (2, .int p), (3, .int (pS (f 86) (f 87) (fun w => f 88 (8 * y + w)) (f 1 6) p i)), (4, .int (nI i)), (5, .int (f 88 (8 * y + i))), (6, .int (f 88 (8 * y + i)))]) (S' := [.int p, .int (nI i), .ref 83]) (f' := (up1 (up1 f 83 (upd (f 83) 9 (sS (f 86) (f 87) (fun w => f 88 (8 * y + w)) (f 1 6) p i))) 88 (tG (f 87) (f 88) (f 1 6) (f 1 4) p y i))) rfl ?_
      refine wq_callI (r := (b2i (pst (f 87) (f 1 6) i p))) (sp_posted (up1 (up1 f 83 (upd (f 83) 9 (sS (f 86) (f 87) (fun w => f 88 (8 * y + w)) (f 1 6) p i))) 88 (tG (f 87) (f 88) (f 1 6) (f 1 4) p y i)) (w := i) hi8 p) (Nat.le_of_ble_eq_true rfl) (pc' := 44) (L' := [(0, .ref 83), (1, .int (nI y)), (2, .int p), (3, .int (pS (f 86) (f 87) (fun w => f 88 (8 * y + w)) (f 1 6) p i)), (4, .int (nI i)), (5, .int (f 88 (8 * y + i))), (6, .int (f 88 (8 * y + i)))]) (S' := []) rfl (Nat.le_of_ble_eq_true rfl) rfl rfl (Nat.le_of_ble_eq_true rfl) (Nat.le_of_ble_eq_true rfl) ?_
      refine wq_if (c := (b2i (pst (f 87) (f 1 6) i p)) = 0) (p1 := 92) (L1 := [(0, .ref 83), (1, .int (nI y)), (2, .int p), (3, .int (pS (f 86) (f 87) (fun w => f 88 (8 * y + w)) (f 1 6) p i)), (4, .int (nI i)), (5, .int (f 88 (8 * y + i))), (6, .int (f 88 (8 * y + i)))]) (S1 := []) (p2 := 47) (L2 := [(0, .ref 83), (1, .int (nI y)), (2, .int p), (3, .int (pS (f 86) (f 87) (fun w => f 88 (8 * y + w)) (f 1 6) p i)), (4, .int (nI i)), (5, .int (f 88 (8 * y + i))), (6, .int (f 88 (8 * y + i)))]) (S2 := []) rfl (fun c_44 => ?_) (fun c_44 => ?_)
      · have h_44 := b2i_0.mp c_44
        refine wq_run2 (pc' := 95) (L' := [(0, .ref 83), (1, .int (nI y)), (2, .int p), (3, .int (pS (f 86) (f 87) (fun w => f 88 (8 * y + w)) (f 1 6) p i)), (4, .int (nI i)), (5, .int (f 88 (8 * y + i))), (6, .int (f 88 (8 * y + i)))]) (S' := [.int (nI i), .ref 83]) (f' := (up1 (up1 f 83 (upd (f 83) 9 (sS (f 86) (f 87) (fun w => f 88 (8 * y + w)) (f 1 6) p i))) 88 (tG (f 87) (f 88) (f 1 6) (f 1 4) p y i))) rfl ?_
        refine wq_callI (r := (b2i (smg (f 87) (f 1 6) i))) (sp_smuggled (up1 (up1 f 83 (upd (f 83) 9 (sS (f 86) (f 87) (fun w => f 88 (8 * y + w)) (f 1 6) p i))) 88 (tG (f 87) (f 88) (f 1 6) (f 1 4) p y i)) (w := i) hi8) (Nat.le_of_ble_eq_true rfl) (pc' := 98) (L' := [(0, .ref 83), (1, .int (nI y)), (2, .int p), (3, .int (pS (f 86) (f 87) (fun w => f 88 (8 * y + w)) (f 1 6) p i)), (4, .int (nI i)), (5, .int (f 88 (8 * y + i))), (6, .int (f 88 (8 * y + i)))]) (S' := []) rfl (Nat.le_of_ble_eq_true rfl) rfl rfl (Nat.le_of_ble_eq_true rfl) (Nat.le_of_ble_eq_true rfl) ?_
        refine wq_if (c := (b2i (smg (f 87) (f 1 6) i)) = 0) (p1 := 123) (L1 := [(0, .ref 83), (1, .int (nI y)), (2, .int p), (3, .int (pS (f 86) (f 87) (fun w => f 88 (8 * y + w)) (f 1 6) p i)), (4, .int (nI i)), (5, .int (f 88 (8 * y + i))), (6, .int (f 88 (8 * y + i)))]) (S1 := []) (p2 := 101) (L2 := [(0, .ref 83), (1, .int (nI y)), (2, .int p), (3, .int (pS (f 86) (f 87) (fun w => f 88 (8 * y + w)) (f 1 6) p i)), (4, .int (nI i)), (5, .int (f 88 (8 * y + i))), (6, .int (f 88 (8 * y + i)))]) (S2 := []) rfl (fun c_98 => ?_) (fun c_98 => ?_)
        · have h_98 := b2i_0.mp c_98
          refine wq_run4 (pc' := 128) (L' := [(0, .ref 83), (1, .int (nI y)), (2, .int p), (3, .int (pS (f 86) (f 87) (fun w => f 88 (8 * y + w)) (f 1 6) p i)), (4, .int (nI i)), (5, .int (f 88 (8 * y + i))), (6, .int (f 88 (8 * y + i)))]) (S' := [.int ((f 88 (8 * y + i)) - 1), .int 0]) (f' := (up1 (up1 f 83 (upd (f 83) 9 (sS (f 86) (f 87) (fun w => f 88 (8 * y + w)) (f 1 6) p i))) 88 (tG (f 87) (f 88) (f 1 6) (f 1 4) p y i))) rfl ?_
          refine wq_callI (r := (imax 0 ((f 88 (8 * y + i)) - 1))) (jp_max (up1 (up1 f 83 (upd (f 83) 9 (sS (f 86) (f 87) (fun w => f 88 (8 * y + w)) (f 1 6) p i))) 88 (tG (f 87) (f 88) (f 1 6) (f 1 4) p y i)) 0 ((f 88 (8 * y + i)) - 1)) (Nat.le_of_ble_eq_true rfl) (pc' := 131) (L' := [(0, .ref 83), (1, .int (nI y)), (2, .int p), (3, .int (pS (f 86) (f 87) (fun w => f 88 (8 * y + w)) (f 1 6) p i)), (4, .int (nI i)), (5, .int (f 88 (8 * y + i))), (6, .int (f 88 (8 * y + i)))]) (S' := []) rfl (Nat.le_of_ble_eq_true rfl) rfl rfl (Nat.le_of_ble_eq_true rfl) (Nat.le_of_ble_eq_true rfl) ?_
          refine wq_run11 (pc' := 148) (L' := [(0, .ref 83), (1, .int (nI y)), (2, .int p), (3, .int (pS (f 86) (f 87) (fun w => f 88 (8 * y + w)) (f 1 6) p i)), (4, .int (nI i)), (5, .int (f 88 (8 * y + i))), (6, .int (imax 0 ((f 88 (8 * y + i)) - 1)))]) (S' := [.int (imax 0 ((f 88 (8 * y + i)) - 1)), .int ((((nI y) + 1) * 8) + (nI i)), .ref 88]) (f' := (up1 (up1 f 83 (upd (f 83) 9 (sS (f 86) (f 87) (fun w => f 88 (8 * y + w)) (f 1 6) p i))) 88 (tG (f 87) (f 88) (f 1 6) (f 1 4) p y i))) rfl ?_
          refine wq_ist (j := (8 * (y + 1) + i)) (n := 48) rfl rfl rfl (yw1 y i) (by omega) (Nat.le_of_ble_eq_true rfl) ?_
          refine wq_h (f' := (up1 (up1 f 83 (upd (f 83) 9 (sS (f 86) (f 87) (fun w => f 88 (8 * y + w)) (f 1 6) p i))) 88 (upd (tG (f 87) (f 88) (f 1 6) (f 1 4) p y i) (8 * (y + 1) + i) (imax 0 ((f 88 (8 * y + i)) - 1))))) ((up2_up1_eq (up1 f 83 (upd (f 83) 9 (sS (f 86) (f 87) (fun w => f 88 (8 * y + w)) (f 1 6) p i))) 88 (tG (f 87) (f 88) (f 1 6) (f 1 4) p y i) (8 * (y + 1) + i) (imax 0 ((f 88 (8 * y + i)) - 1))).trans (congrArg (fun z => up1 (up1 f 83 (upd (f 83) 9 (sS (f 86) (f 87) (fun w => f 88 (8 * y + w)) (f 1 6) p i))) 88 z) (rfl))) ?_
          refine wq_run2 (pc' := 10) (L' := [(0, .ref 83), (1, .int (nI y)), (2, .int p), (3, .int (pS (f 86) (f 87) (fun w => f 88 (8 * y + w)) (f 1 6) p i)), (4, .int ((nI i) + 1))]) (S' := []) (f' := (up1 (up1 f 83 (upd (f 83) 9 (sS (f 86) (f 87) (fun w => f 88 (8 * y + w)) (f 1 6) p i))) 88 (upd (tG (f 87) (f 88) (f 1 6) (f 1 4) p y i) (8 * (y + 1) + i) (imax 0 ((f 88 (8 * y + i)) - 1))))) rfl ?_
          have e1 : (pS (f 86) (f 87) (fun w => f 88 (8 * y + w)) (f 1 6) p i) = pS (f 86) (f 87) (fun w => f 88 (8 * y + w)) (f 1 6) p (i + 1) := by
            conv => rhs; unfold pS
            rw [if_neg h_44]
          have e2 : (sS (f 86) (f 87) (fun w => f 88 (8 * y + w)) (f 1 6) p i) = sS (f 86) (f 87) (fun w => f 88 (8 * y + w)) (f 1 6) p (i + 1) := by
            conv => rhs; unfold sS
            rw [if_neg h_44, if_neg h_98]
          have e3 := tG_s (V := f 87) (t := f 88) (s := f 1 6) (g := f 1 4) (p := p) (y := y) (i := i) (v := (imax 0 ((f 88 (8 * y + i)) - 1))) (by unfold nT; rw [if_neg h_44, if_neg h_98])
          rw [e1, nI_1, e2, e3]
          exact ih (i + 1) (by omega) (by omega)
        · have h_98 := b2i_n0.mp c_98
          refine wq_run6 (pc' := 112) (L' := [(0, .ref 83), (1, .int (nI y)), (2, .int p), (3, .int (pS (f 86) (f 87) (fun w => f 88 (8 * y + w)) (f 1 6) p i)), (4, .int (nI i)), (5, .int (f 88 (8 * y + i))), (6, .int (f 88 (8 * y + i)))]) (S' := [.int (nI i), .ref 86, .int (sS (f 86) (f 87) (fun w => f 88 (8 * y + w)) (f 1 6) p i), .ref 83]) (f' := (up1 (up1 f 83 (upd (f 83) 9 (sS (f 86) (f 87) (fun w => f 88 (8 * y + w)) (f 1 6) p i))) 88 (tG (f 87) (f 88) (f 1 6) (f 1 4) p y i))) rfl ?_
          refine wq_ald (j := i) (n := 8) (v := (f 86 i)) rfl rfl rfl rfl hi8 (Nat.le_of_ble_eq_true rfl) rfl ?_
          refine wq_run3 (pc' := 117) (L' := [(0, .ref 83), (1, .int (nI y)), (2, .int p), (3, .int (pS (f 86) (f 87) (fun w => f 88 (8 * y + w)) (f 1 6) p i)), (4, .int (nI i)), (5, .int (f 88 (8 * y + i))), (6, .int (f 88 (8 * y + i)))]) (S' := [.int ((sS (f 86) (f 87) (fun w => f 88 (8 * y + w)) (f 1 6) p i) + ((f 86 i) * (f 88 (8 * y + i)))), .ref 83]) (f' := (up1 (up1 f 83 (upd (f 83) 9 (sS (f 86) (f 87) (fun w => f 88 (8 * y + w)) (f 1 6) p i))) 88 (tG (f 87) (f 88) (f 1 6) (f 1 4) p y i))) rfl ?_
          refine wq_putI rfl rfl ?_
          refine wq_h (f' := (up1 (up1 f 83 (upd (f 83) 9 ((sS (f 86) (f 87) (fun w => f 88 (8 * y + w)) (f 1 6) p i) + ((f 86 i) * (f 88 (8 * y + i)))))) 88 (tG (f 87) (f 88) (f 1 6) (f 1 4) p y i))) ((up2_up1_ne (f := (up1 f 83 (upd (f 83) 9 (sS (f 86) (f 87) (fun w => f 88 (8 * y + w)) (f 1 6) p i)))) (g := (tG (f 87) (f 88) (f 1 6) (f 1 4) p y i)) (k := 9) (v := ((sS (f 86) (f 87) (fun w => f 88 (8 * y + w)) (f 1 6) p i) + ((f 86 i) * (f 88 (8 * y + i))))) (show (83 : Nat) ≠ 88 by decide)).trans (congrArg (fun z => up1 z 88 (tG (f 87) (f 88) (f 1 6) (f 1 4) p y i)) ((up2_up1_eq f 83 (upd (f 83) 9 (sS (f 86) (f 87) (fun w => f 88 (8 * y + w)) (f 1 6) p i)) 9 ((sS (f 86) (f 87) (fun w => f 88 (8 * y + w)) (f 1 6) p i) + ((f 86 i) * (f 88 (8 * y + i))))).trans (congrArg (fun z => up1 f 83 z) (upd_upd (f 83) 9 (sS (f 86) (f 87) (fun w => f 88 (8 * y + w)) (f 1 6) p i) ((sS (f 86) (f 87) (fun w => f 88 (8 * y + w)) (f 1 6) p i) + ((f 86 i) * (f 88 (8 * y + i))))))))) ?_
          refine wq_run11 (pc' := 148) (L' := [(0, .ref 83), (1, .int (nI y)), (2, .int p), (3, .int (pS (f 86) (f 87) (fun w => f 88 (8 * y + w)) (f 1 6) p i)), (4, .int (nI i)), (5, .int (f 88 (8 * y + i))), (6, .int (f 88 (8 * y + i)))]) (S' := [.int (f 88 (8 * y + i)), .int ((((nI y) + 1) * 8) + (nI i)), .ref 88]) (f' := (up1 (up1 f 83 (upd (f 83) 9 ((sS (f 86) (f 87) (fun w => f 88 (8 * y + w)) (f 1 6) p i) + ((f 86 i) * (f 88 (8 * y + i)))))) 88 (tG (f 87) (f 88) (f 1 6) (f 1 4) p y i))) rfl ?_
          refine wq_ist (j := (8 * (y + 1) + i)) (n := 48) rfl rfl rfl (yw1 y i) (by omega) (Nat.le_of_ble_eq_true rfl) ?_
          refine wq_h (f' := (up1 (up1 f 83 (upd (f 83) 9 ((sS (f 86) (f 87) (fun w => f 88 (8 * y + w)) (f 1 6) p i) + ((f 86 i) * (f 88 (8 * y + i)))))) 88 (upd (tG (f 87) (f 88) (f 1 6) (f 1 4) p y i) (8 * (y + 1) + i) (f 88 (8 * y + i))))) ((up2_up1_eq (up1 f 83 (upd (f 83) 9 ((sS (f 86) (f 87) (fun w => f 88 (8 * y + w)) (f 1 6) p i) + ((f 86 i) * (f 88 (8 * y + i)))))) 88 (tG (f 87) (f 88) (f 1 6) (f 1 4) p y i) (8 * (y + 1) + i) (f 88 (8 * y + i))).trans (congrArg (fun z => up1 (up1 f 83 (upd (f 83) 9 ((sS (f 86) (f 87) (fun w => f 88 (8 * y + w)) (f 1 6) p i) + ((f 86 i) * (f 88 (8 * y + i)))))) 88 z) (rfl))) ?_
          refine wq_run2 (pc' := 10) (L' := [(0, .ref 83), (1, .int (nI y)), (2, .int p), (3, .int (pS (f 86) (f 87) (fun w => f 88 (8 * y + w)) (f 1 6) p i)), (4, .int ((nI i) + 1))]) (S' := []) (f' := (up1 (up1 f 83 (upd (f 83) 9 ((sS (f 86) (f 87) (fun w => f 88 (8 * y + w)) (f 1 6) p i) + ((f 86 i) * (f 88 (8 * y + i)))))) 88 (upd (tG (f 87) (f 88) (f 1 6) (f 1 4) p y i) (8 * (y + 1) + i) (f 88 (8 * y + i))))) rfl ?_
          have e1 : (pS (f 86) (f 87) (fun w => f 88 (8 * y + w)) (f 1 6) p i) = pS (f 86) (f 87) (fun w => f 88 (8 * y + w)) (f 1 6) p (i + 1) := by
            conv => rhs; unfold pS
            rw [if_neg h_44]
          have e2 : ((sS (f 86) (f 87) (fun w => f 88 (8 * y + w)) (f 1 6) p i) + ((f 86 i) * (f 88 (8 * y + i)))) = sS (f 86) (f 87) (fun w => f 88 (8 * y + w)) (f 1 6) p (i + 1) := by
            conv => rhs; unfold sS
            rw [if_neg h_44, if_pos h_98]
          have e3 := tG_s (V := f 87) (t := f 88) (s := f 1 6) (g := f 1 4) (p := p) (y := y) (i := i) (v := (f 88 (8 * y + i))) (by unfold nT; rw [if_neg h_44, if_pos h_98])
          rw [e1, nI_1, e2, e3]
          exact ih (i + 1) (by omega) (by omega)
      · have h_44 := b2i_n0.mp c_44
        refine wq_run4 (pc' := 54) (L' := [(0, .ref 83), (1, .int (nI y)), (2, .int p), (3, .int (pS (f 86) (f 87) (fun w => f 88 (8 * y + w)) (f 1 6) p i)), (4, .int (nI i)), (5, .int (f 88 (8 * y + i))), (6, .int (f 88 (8 * y + i)))]) (S' := [.int (nI i), .ref 86, .int (pS (f 86) (f 87) (fun w => f 88 (8 * y + w)) (f 1 6) p i)]) (f' := (up1 (up1 f 83 (upd (f 83) 9 (sS (f 86) (f 87) (fun w => f 88 (8 * y + w)) (f 1 6) p i))) 88 (tG (f 87) (f 88) (f 1 6) (f 1 4) p y i))) rfl ?_
        refine wq_ald (j := i) (n := 8) (v := (f 86 i)) rfl rfl rfl rfl hi8 (Nat.le_of_ble_eq_true rfl) rfl ?_
        refine wq_run8 (pc' := 67) (L' := [(0, .ref 83), (1, .int (nI y)), (2, .int p), (3, .int ((pS (f 86) (f 87) (fun w => f 88 (8 * y + w)) (f 1 6) p i) + ((f 86 i) * (f 88 (8 * y + i))))), (4, .int (nI i)), (5, .int (f 88 (8 * y + i))), (6, .int (f 88 (8 * y + i)))]) (S' := [.int (nI i), .ref 87, .int p]) (f' := (up1 (up1 f 83 (upd (f 83) 9 (sS (f 86) (f 87) (fun w => f 88 (8 * y + w)) (f 1 6) p i))) 88 (tG (f 87) (f 88) (f 1 6) (f 1 4) p y i))) rfl ?_
        refine wq_ald (j := i) (n := 8) (v := (f 87 i)) rfl rfl rfl rfl hi8 (Nat.le_of_ble_eq_true rfl) rfl ?_
        refine wq_run1 (pc' := 69) (L' := [(0, .ref 83), (1, .int (nI y)), (2, .int p), (3, .int ((pS (f 86) (f 87) (fun w => f 88 (8 * y + w)) (f 1 6) p i) + ((f 86 i) * (f 88 (8 * y + i))))), (4, .int (nI i)), (5, .int (f 88 (8 * y + i))), (6, .int (f 88 (8 * y + i)))]) (S' := [.int 2, .int (f 87 i), .int p]) (f' := (up1 (up1 f 83 (upd (f 83) 9 (sS (f 86) (f 87) (fun w => f 88 (8 * y + w)) (f 1 6) p i))) 88 (tG (f 87) (f 88) (f 1 6) (f 1 4) p y i))) rfl ?_
        refine wq_div rfl (by decide) ?_
        refine wq_if (c := ((f 87 i) / 2) < p) (p1 := 133) (L1 := [(0, .ref 83), (1, .int (nI y)), (2, .int p), (3, .int ((pS (f 86) (f 87) (fun w => f 88 (8 * y + w)) (f 1 6) p i) + ((f 86 i) * (f 88 (8 * y + i))))), (4, .int (nI i)), (5, .int (f 88 (8 * y + i))), (6, .int (f 88 (8 * y + i)))]) (S1 := []) (p2 := 73) (L2 := [(0, .ref 83), (1, .int (nI y)), (2, .int p), (3, .int ((pS (f 86) (f 87) (fun w => f 88 (8 * y + w)) (f 1 6) p i) + ((f 86 i) * (f 88 (8 * y + i))))), (4, .int (nI i)), (5, .int (f 88 (8 * y + i))), (6, .int (f 88 (8 * y + i)))]) (S2 := []) rfl (fun c_70 => ?_) (fun c_70 => ?_)
        · refine wq_run10 (pc' := 148) (L' := [(0, .ref 83), (1, .int (nI y)), (2, .int p), (3, .int ((pS (f 86) (f 87) (fun w => f 88 (8 * y + w)) (f 1 6) p i) + ((f 86 i) * (f 88 (8 * y + i))))), (4, .int (nI i)), (5, .int (f 88 (8 * y + i))), (6, .int (f 88 (8 * y + i)))]) (S' := [.int (f 88 (8 * y + i)), .int ((((nI y) + 1) * 8) + (nI i)), .ref 88]) (f' := (up1 (up1 f 83 (upd (f 83) 9 (sS (f 86) (f 87) (fun w => f 88 (8 * y + w)) (f 1 6) p i))) 88 (tG (f 87) (f 88) (f 1 6) (f 1 4) p y i))) rfl ?_
          refine wq_ist (j := (8 * (y + 1) + i)) (n := 48) rfl rfl rfl (yw1 y i) (by omega) (Nat.le_of_ble_eq_true rfl) ?_
          refine wq_h (f' := (up1 (up1 f 83 (upd (f 83) 9 (sS (f 86) (f 87) (fun w => f 88 (8 * y + w)) (f 1 6) p i))) 88 (upd (tG (f 87) (f 88) (f 1 6) (f 1 4) p y i) (8 * (y + 1) + i) (f 88 (8 * y + i))))) ((up2_up1_eq (up1 f 83 (upd (f 83) 9 (sS (f 86) (f 87) (fun w => f 88 (8 * y + w)) (f 1 6) p i))) 88 (tG (f 87) (f 88) (f 1 6) (f 1 4) p y i) (8 * (y + 1) + i) (f 88 (8 * y + i))).trans (congrArg (fun z => up1 (up1 f 83 (upd (f 83) 9 (sS (f 86) (f 87) (fun w => f 88 (8 * y + w)) (f 1 6) p i))) 88 z) (rfl))) ?_
          refine wq_run2 (pc' := 10) (L' := [(0, .ref 83), (1, .int (nI y)), (2, .int p), (3, .int ((pS (f 86) (f 87) (fun w => f 88 (8 * y + w)) (f 1 6) p i) + ((f 86 i) * (f 88 (8 * y + i))))), (4, .int ((nI i) + 1))]) (S' := []) (f' := (up1 (up1 f 83 (upd (f 83) 9 (sS (f 86) (f 87) (fun w => f 88 (8 * y + w)) (f 1 6) p i))) 88 (upd (tG (f 87) (f 88) (f 1 6) (f 1 4) p y i) (8 * (y + 1) + i) (f 88 (8 * y + i))))) rfl ?_
          have e1 : ((pS (f 86) (f 87) (fun w => f 88 (8 * y + w)) (f 1 6) p i) + ((f 86 i) * (f 88 (8 * y + i)))) = pS (f 86) (f 87) (fun w => f 88 (8 * y + w)) (f 1 6) p (i + 1) := by
            conv => rhs; unfold pS
            rw [if_pos h_44]
          have e2 : (sS (f 86) (f 87) (fun w => f 88 (8 * y + w)) (f 1 6) p i) = sS (f 86) (f 87) (fun w => f 88 (8 * y + w)) (f 1 6) p (i + 1) := by
            conv => rhs; unfold sS
            rw [if_pos h_44]
          have e3 := tG_s (V := f 87) (t := f 88) (s := f 1 6) (g := f 1 4) (p := p) (y := y) (i := i) (v := (f 88 (8 * y + i))) (by unfold nT; rw [if_pos h_44, if_neg (Int32.not_le.mpr c_70)])
          rw [e1, nI_1, e2, e3]
          exact ih (i + 1) (by omega) (by omega)
        · refine wq_run5 (pc' := 82) (L' := [(0, .ref 83), (1, .int (nI y)), (2, .int p), (3, .int ((pS (f 86) (f 87) (fun w => f 88 (8 * y + w)) (f 1 6) p i) + ((f 86 i) * (f 88 (8 * y + i))))), (4, .int (nI i)), (5, .int (f 88 (8 * y + i))), (6, .int (f 88 (8 * y + i)))]) (S' := [.int 4, .ref 1, .int (f 88 (8 * y + i)), .int 60]) (f' := (up1 (up1 f 83 (upd (f 83) 9 (sS (f 86) (f 87) (fun w => f 88 (8 * y + w)) (f 1 6) p i))) 88 (tG (f 87) (f 88) (f 1 6) (f 1 4) p y i))) rfl ?_
          refine wq_ald (j := 4) (n := 7) (v := (f 1 4)) rfl rfl rfl rfl (Nat.le_of_ble_eq_true rfl) (Nat.le_of_ble_eq_true rfl) rfl ?_
          refine wq_run1 (pc' := 84) (L' := [(0, .ref 83), (1, .int (nI y)), (2, .int p), (3, .int ((pS (f 86) (f 87) (fun w => f 88 (8 * y + w)) (f 1 6) p i) + ((f 86 i) * (f 88 (8 * y + i))))), (4, .int (nI i)), (5, .int (f 88 (8 * y + i))), (6, .int (f 88 (8 * y + i)))]) (S' := [.int ((f 88 (8 * y + i)) + (f 1 4)), .int 60]) (f' := (up1 (up1 f 83 (upd (f 83) 9 (sS (f 86) (f 87) (fun w => f 88 (8 * y + w)) (f 1 6) p i))) 88 (tG (f 87) (f 88) (f 1 6) (f 1 4) p y i))) rfl ?_
          refine wq_callI (r := (imin 60 ((f 88 (8 * y + i)) + (f 1 4)))) (jp_min (up1 (up1 f 83 (upd (f 83) 9 (sS (f 86) (f 87) (fun w => f 88 (8 * y + w)) (f 1 6) p i))) 88 (tG (f 87) (f 88) (f 1 6) (f 1 4) p y i)) 60 ((f 88 (8 * y + i)) + (f 1 4))) (Nat.le_of_ble_eq_true rfl) (pc' := 87) (L' := [(0, .ref 83), (1, .int (nI y)), (2, .int p), (3, .int ((pS (f 86) (f 87) (fun w => f 88 (8 * y + w)) (f 1 6) p i) + ((f 86 i) * (f 88 (8 * y + i))))), (4, .int (nI i)), (5, .int (f 88 (8 * y + i))), (6, .int (f 88 (8 * y + i)))]) (S' := []) rfl (Nat.le_of_ble_eq_true rfl) rfl rfl (Nat.le_of_ble_eq_true rfl) (Nat.le_of_ble_eq_true rfl) ?_
          refine wq_run12 (pc' := 148) (L' := [(0, .ref 83), (1, .int (nI y)), (2, .int p), (3, .int ((pS (f 86) (f 87) (fun w => f 88 (8 * y + w)) (f 1 6) p i) + ((f 86 i) * (f 88 (8 * y + i))))), (4, .int (nI i)), (5, .int (f 88 (8 * y + i))), (6, .int (imin 60 ((f 88 (8 * y + i)) + (f 1 4))))]) (S' := [.int (imin 60 ((f 88 (8 * y + i)) + (f 1 4))), .int ((((nI y) + 1) * 8) + (nI i)), .ref 88]) (f' := (up1 (up1 f 83 (upd (f 83) 9 (sS (f 86) (f 87) (fun w => f 88 (8 * y + w)) (f 1 6) p i))) 88 (tG (f 87) (f 88) (f 1 6) (f 1 4) p y i))) rfl ?_
          refine wq_ist (j := (8 * (y + 1) + i)) (n := 48) rfl rfl rfl (yw1 y i) (by omega) (Nat.le_of_ble_eq_true rfl) ?_
          refine wq_h (f' := (up1 (up1 f 83 (upd (f 83) 9 (sS (f 86) (f 87) (fun w => f 88 (8 * y + w)) (f 1 6) p i))) 88 (upd (tG (f 87) (f 88) (f 1 6) (f 1 4) p y i) (8 * (y + 1) + i) (imin 60 ((f 88 (8 * y + i)) + (f 1 4)))))) ((up2_up1_eq (up1 f 83 (upd (f 83) 9 (sS (f 86) (f 87) (fun w => f 88 (8 * y + w)) (f 1 6) p i))) 88 (tG (f 87) (f 88) (f 1 6) (f 1 4) p y i) (8 * (y + 1) + i) (imin 60 ((f 88 (8 * y + i)) + (f 1 4)))).trans (congrArg (fun z => up1 (up1 f 83 (upd (f 83) 9 (sS (f 86) (f 87) (fun w => f 88 (8 * y + w)) (f 1 6) p i))) 88 z) (rfl))) ?_
          refine wq_run2 (pc' := 10) (L' := [(0, .ref 83), (1, .int (nI y)), (2, .int p), (3, .int ((pS (f 86) (f 87) (fun w => f 88 (8 * y + w)) (f 1 6) p i) + ((f 86 i) * (f 88 (8 * y + i))))), (4, .int ((nI i) + 1))]) (S' := []) (f' := (up1 (up1 f 83 (upd (f 83) 9 (sS (f 86) (f 87) (fun w => f 88 (8 * y + w)) (f 1 6) p i))) 88 (upd (tG (f 87) (f 88) (f 1 6) (f 1 4) p y i) (8 * (y + 1) + i) (imin 60 ((f 88 (8 * y + i)) + (f 1 4)))))) rfl ?_
          have e1 : ((pS (f 86) (f 87) (fun w => f 88 (8 * y + w)) (f 1 6) p i) + ((f 86 i) * (f 88 (8 * y + i)))) = pS (f 86) (f 87) (fun w => f 88 (8 * y + w)) (f 1 6) p (i + 1) := by
            conv => rhs; unfold pS
            rw [if_pos h_44]
          have e2 : (sS (f 86) (f 87) (fun w => f 88 (8 * y + w)) (f 1 6) p i) = sS (f 86) (f 87) (fun w => f 88 (8 * y + w)) (f 1 6) p (i + 1) := by
            conv => rhs; unfold sS
            rw [if_pos h_44]
          have e3 := tG_s (V := f 87) (t := f 88) (s := f 1 6) (g := f 1 4) (p := p) (y := y) (i := i) (v := (imin 60 ((f 88 (8 * y + i)) + (f 1 4)))) (by unfold nT; rw [if_pos h_44, if_pos (Int32.not_lt.mp c_70)])
          rw [e1, nI_1, e2, e3]
          exact ih (i + 1) (by omega) (by omega)
theorem sp_passYear (f : HI) {y n : Nat} (hy : y < 5) (hn8 : n ≤ 8) (hn2 : f 83 6 = nI n) (p : Int32) : Sp 3 46 [.ref 83, .int (nI y), .int p] f (Ret (pS (f 86) (f 87) (fun w => f 88 (8 * y + w)) (f 1 6) p n) (up1 (up1 f 83 (upd (f 83) 9 (sS (f 86) (f 87) (fun w => f 88 (8 * y + w)) (f 1 6) p n))) 88 (tG (f 87) (f 88) (f 1 6) (f 1 4) p y n))) := by
  show wq 3 46 _ 0 [(0, .ref 83), (1, .int (nI y)), (2, .int p)] [] f
  refine wq_run4 (pc' := 4) (L' := [(0, .ref 83), (1, .int (nI y)), (2, .int p), (3, .int 0)]) (S' := [.int 0, .ref 83]) (f' := f) rfl ?_
  refine wq_putI rfl rfl ?_
  refine wq_h (up2_eq1 f 83 9 0) ?_
  refine wq_run2 (pc' := 10) (L' := [(0, .ref 83), (1, .int (nI y)), (2, .int p), (3, .int 0), (4, .int 0)]) (S' := []) (f' := (up1 f 83 (upd (f 83) 9 0))) rfl ?_
  have h := lp_year f hy hn8 hn2 p (n - 0 + 1) 0 (Nat.zero_le _) (Nat.lt_succ_self _)
  rw [tG_0] at h
  rw [show (up1 f 83 (upd (f 83) 9 0)) = up1 (up1 f 83 (upd (f 83) 9 0)) 88 (f 88) from by
    have e := up1_id (up1 f 83 (upd (f 83) 9 0)) 88
    rw [up1_f (show (88 : Nat) ≠ 83 by decide)] at e
    exact e.symm]
  exact h
def chc (V : Nat → Int32) (s : Int32) (w : Nat) (p : Int32) : Int32 := if ¬ p = -1 ∧ pst V s w p then 0 else if smg V s w then 1 else 2
theorem chc_0 {V : Nat → Int32} {s p : Int32} {w : Nat} (hp : ¬ p = -1) : chc V s w p = 0 ↔ pst V s w p := by
  unfold chc
  by_cases h : pst V s w p
  · rw [if_pos ⟨hp, h⟩]; exact ⟨fun _ => h, fun _ => rfl⟩
  · rw [if_neg (fun q => h q.2)]
    refine ⟨fun q => ?_, fun q => absurd q h⟩
    by_cases h2 : smg V s w
    · rw [if_pos h2] at q; exact absurd q (by decide)
    · rw [if_neg h2] at q; exact absurd q (by decide)
theorem chc_1 {V : Nat → Int32} {s p : Int32} {w : Nat} (hp : ¬ p = -1) : chc V s w p = 1 ↔ ¬ pst V s w p ∧ smg V s w := by
  unfold chc
  by_cases h : pst V s w p
  · rw [if_pos ⟨hp, h⟩]; exact ⟨fun q => absurd q (by decide), fun q => absurd h q.1⟩
  · rw [if_neg (fun q => h q.2)]
    by_cases h2 : smg V s w
    · rw [if_pos h2]; exact ⟨fun _ => ⟨h, h2⟩, fun _ => rfl⟩
    · rw [if_neg h2]; exact ⟨fun q => absurd q (by decide), fun q => absurd q.2 h2⟩
theorem chc_2 {V : Nat → Int32} {s p : Int32} {w : Nat} (hp : ¬ p = -1) : chc V s w p = 2 ↔ ¬ pst V s w p ∧ ¬ smg V s w := by
  unfold chc
  by_cases h : pst V s w p
  · rw [if_pos ⟨hp, h⟩]; exact ⟨fun q => absurd q (by decide), fun q => absurd h q.1⟩
  · rw [if_neg (fun q => h q.2)]
    by_cases h2 : smg V s w
    · rw [if_pos h2]; exact ⟨fun q => absurd q (by decide), fun q => absurd h2 q.2⟩
    · rw [if_neg h2]; exact ⟨fun _ => ⟨h, h2⟩, fun _ => rfl⟩
theorem mp_choice (f : HI) {w : Nat} (hw : w < 8) (p : Int32) : Sp 1 198 [.ref 92, .int (nI w), .int p] f (Ret (chc (f 133) (f 92 48) w p) f) := by
  show wq 1 198 _ 0 [(0, .ref 92), (1, .int (nI w)), (2, .int p)] [] f
  refine wq_run2 (pc' := 2) (L' := [(0, .ref 92), (1, .int (nI w)), (2, .int p)]) (S' := [.int (-1), .int p]) (f' := f) rfl ?_
  refine wq_if (c := p = (-1)) (p1 := 33) (L1 := [(0, .ref 92), (1, .int (nI w)), (2, .int p)]) (S1 := []) (p2 := 5) (L2 := [(0, .ref 92), (1, .int (nI w)), (2, .int p)]) (S2 := []) rfl (fun c_2 => ?_) (fun c_2 => ?_)
  · refine wq_run3 (pc' := 38) (L' := [(0, .ref 92), (1, .int (nI w)), (2, .int p)]) (S' := [.int (-1), .int (f 92 48)]) (f' := f) rfl ?_
    refine wq_if (c := (f 92 48) = (-1)) (p1 := 58) (L1 := [(0, .ref 92), (1, .int (nI w)), (2, .int p)]) (S1 := []) (p2 := 41) (L2 := [(0, .ref 92), (1, .int (nI w)), (2, .int p)]) (S2 := []) rfl (fun c_38 => ?_) (fun c_38 => ?_)
    · refine wq_run1 (pc' := 59) (L' := [(0, .ref 92), (1, .int (nI w)), (2, .int p)]) (S' := [.int 2]) (f' := f) rfl ?_
      exact wq_ret rfl (Ret.of (by unfold chc; rw [if_neg (fun q => q.1 c_2), if_neg (fun q => q.1 c_38)]) rfl)
    · refine wq_run5 (pc' := 50) (L' := [(0, .ref 92), (1, .int (nI w)), (2, .int p)]) (S' := [.int (nI w), .ref 133, .int (f 92 48)]) (f' := f) rfl ?_
      refine wq_ald (j := w) (n := 8) (v := (f 133 w)) rfl rfl rfl rfl hw (Nat.le_of_ble_eq_true rfl) rfl ?_
      refine wq_if (c := (f 133 w) < (f 92 48)) (p1 := 58) (L1 := [(0, .ref 92), (1, .int (nI w)), (2, .int p)]) (S1 := []) (p2 := 54) (L2 := [(0, .ref 92), (1, .int (nI w)), (2, .int p)]) (S2 := []) rfl (fun c_51 => ?_) (fun c_51 => ?_)
      · refine wq_run1 (pc' := 59) (L' := [(0, .ref 92), (1, .int (nI w)), (2, .int p)]) (S' := [.int 2]) (f' := f) rfl ?_
        exact wq_ret rfl (Ret.of (by unfold chc; rw [if_neg (fun q => q.1 c_2), if_neg (fun q => absurd q.2 (Int32.not_le.mpr c_51))]) rfl)
      · refine wq_run2 (pc' := 59) (L' := [(0, .ref 92), (1, .int (nI w)), (2, .int p)]) (S' := [.int 1]) (f' := f) rfl ?_
        exact wq_ret rfl (Ret.of (by unfold chc; rw [if_neg (fun q => q.1 c_2), if_pos ⟨c_38, Int32.not_lt.mp c_51⟩]) rfl)
  · refine wq_run4 (pc' := 11) (L' := [(0, .ref 92), (1, .int (nI w)), (2, .int p)]) (S' := [.int (nI w), .ref 133, .int p]) (f' := f) rfl ?_
    refine wq_ald (j := w) (n := 8) (v := (f 133 w)) rfl rfl rfl rfl hw (Nat.le_of_ble_eq_true rfl) rfl ?_
    refine wq_if (c := (f 133 w) < p) (p1 := 33) (L1 := [(0, .ref 92), (1, .int (nI w)), (2, .int p)]) (S1 := []) (p2 := 15) (L2 := [(0, .ref 92), (1, .int (nI w)), (2, .int p)]) (S2 := []) rfl (fun c_12 => ?_) (fun c_12 => ?_)
    · refine wq_run3 (pc' := 38) (L' := [(0, .ref 92), (1, .int (nI w)), (2, .int p)]) (S' := [.int (-1), .int (f 92 48)]) (f' := f) rfl ?_
      refine wq_if (c := (f 92 48) = (-1)) (p1 := 58) (L1 := [(0, .ref 92), (1, .int (nI w)), (2, .int p)]) (S1 := []) (p2 := 41) (L2 := [(0, .ref 92), (1, .int (nI w)), (2, .int p)]) (S2 := []) rfl (fun c_38 => ?_) (fun c_38 => ?_)
      · refine wq_run1 (pc' := 59) (L' := [(0, .ref 92), (1, .int (nI w)), (2, .int p)]) (S' := [.int 2]) (f' := f) rfl ?_
        exact wq_ret rfl (Ret.of (by unfold chc; rw [if_neg (fun q => absurd q.2.1 (Int32.not_le.mpr c_12)), if_neg (fun q => q.1 c_38)]) rfl)
      · refine wq_run5 (pc' := 50) (L' := [(0, .ref 92), (1, .int (nI w)), (2, .int p)]) (S' := [.int (nI w), .ref 133, .int (f 92 48)]) (f' := f) rfl ?_
        refine wq_ald (j := w) (n := 8) (v := (f 133 w)) rfl rfl rfl rfl hw (Nat.le_of_ble_eq_true rfl) rfl ?_
        refine wq_if (c := (f 133 w) < (f 92 48)) (p1 := 58) (L1 := [(0, .ref 92), (1, .int (nI w)), (2, .int p)]) (S1 := []) (p2 := 54) (L2 := [(0, .ref 92), (1, .int (nI w)), (2, .int p)]) (S2 := []) rfl (fun c_51 => ?_) (fun c_51 => ?_)
        · refine wq_run1 (pc' := 59) (L' := [(0, .ref 92), (1, .int (nI w)), (2, .int p)]) (S' := [.int 2]) (f' := f) rfl ?_
          exact wq_ret rfl (Ret.of (by unfold chc; rw [if_neg (fun q => absurd q.2.1 (Int32.not_le.mpr c_12)), if_neg (fun q => absurd q.2 (Int32.not_le.mpr c_51))]) rfl)
        · refine wq_run2 (pc' := 59) (L' := [(0, .ref 92), (1, .int (nI w)), (2, .int p)]) (S' := [.int 1]) (f' := f) rfl ?_
          exact wq_ret rfl (Ret.of (by unfold chc; rw [if_neg (fun q => absurd q.2.1 (Int32.not_le.mpr c_12)), if_pos ⟨c_38, Int32.not_lt.mp c_51⟩]) rfl)
    · refine wq_run3 (pc' := 20) (L' := [(0, .ref 92), (1, .int (nI w)), (2, .int p)]) (S' := [.int (-1), .int (f 92 48)]) (f' := f) rfl ?_
      refine wq_if (c := (f 92 48) = (-1)) (p1 := 31) (L1 := [(0, .ref 92), (1, .int (nI w)), (2, .int p)]) (S1 := []) (p2 := 23) (L2 := [(0, .ref 92), (1, .int (nI w)), (2, .int p)]) (S2 := []) rfl (fun c_20 => ?_) (fun c_20 => ?_)
      · refine wq_run1 (pc' := 32) (L' := [(0, .ref 92), (1, .int (nI w)), (2, .int p)]) (S' := [.int 0]) (f' := f) rfl ?_
        exact wq_ret rfl (Ret.of (by unfold chc; rw [if_pos ⟨c_2, Int32.not_lt.mp c_12, Or.inl c_20⟩]) rfl)
      · refine wq_run3 (pc' := 28) (L' := [(0, .ref 92), (1, .int (nI w)), (2, .int p)]) (S' := [.int (f 92 48), .int p]) (f' := f) rfl ?_
        refine wq_if (c := (f 92 48) < p) (p1 := 33) (L1 := [(0, .ref 92), (1, .int (nI w)), (2, .int p)]) (S1 := []) (p2 := 31) (L2 := [(0, .ref 92), (1, .int (nI w)), (2, .int p)]) (S2 := []) rfl (fun c_28 => ?_) (fun c_28 => ?_)
        · refine wq_run3 (pc' := 38) (L' := [(0, .ref 92), (1, .int (nI w)), (2, .int p)]) (S' := [.int (-1), .int (f 92 48)]) (f' := f) rfl ?_
          refine wq_if (c := (f 92 48) = (-1)) (p1 := 58) (L1 := [(0, .ref 92), (1, .int (nI w)), (2, .int p)]) (S1 := []) (p2 := 41) (L2 := [(0, .ref 92), (1, .int (nI w)), (2, .int p)]) (S2 := []) rfl (fun c_38 => ?_) (fun c_38 => ?_)
          · refine wq_run1 (pc' := 59) (L' := [(0, .ref 92), (1, .int (nI w)), (2, .int p)]) (S' := [.int 2]) (f' := f) rfl ?_
            exact wq_ret rfl (Ret.of (by unfold chc; rw [if_neg (fun q => q.2.2.elim c_20 (fun z => absurd z (Int32.not_le.mpr c_28))), if_neg (fun q => q.1 c_38)]) rfl)
          · refine wq_run5 (pc' := 50) (L' := [(0, .ref 92), (1, .int (nI w)), (2, .int p)]) (S' := [.int (nI w), .ref 133, .int (f 92 48)]) (f' := f) rfl ?_
            refine wq_ald (j := w) (n := 8) (v := (f 133 w)) rfl rfl rfl rfl hw (Nat.le_of_ble_eq_true rfl) rfl ?_
            refine wq_if (c := (f 133 w) < (f 92 48)) (p1 := 58) (L1 := [(0, .ref 92), (1, .int (nI w)), (2, .int p)]) (S1 := []) (p2 := 54) (L2 := [(0, .ref 92), (1, .int (nI w)), (2, .int p)]) (S2 := []) rfl (fun c_51 => ?_) (fun c_51 => ?_)
            · refine wq_run1 (pc' := 59) (L' := [(0, .ref 92), (1, .int (nI w)), (2, .int p)]) (S' := [.int 2]) (f' := f) rfl ?_
              exact wq_ret rfl (Ret.of (by unfold chc; rw [if_neg (fun q => q.2.2.elim c_20 (fun z => absurd z (Int32.not_le.mpr c_28))), if_neg (fun q => absurd q.2 (Int32.not_le.mpr c_51))]) rfl)
            · refine wq_run2 (pc' := 59) (L' := [(0, .ref 92), (1, .int (nI w)), (2, .int p)]) (S' := [.int 1]) (f' := f) rfl ?_
              exact wq_ret rfl (Ret.of (by unfold chc; rw [if_neg (fun q => q.2.2.elim c_20 (fun z => absurd z (Int32.not_le.mpr c_28))), if_pos ⟨c_38, Int32.not_lt.mp c_51⟩]) rfl)
        · refine wq_run1 (pc' := 32) (L' := [(0, .ref 92), (1, .int (nI w)), (2, .int p)]) (S' := [.int 0]) (f' := f) rfl ?_
          exact wq_ret rfl (Ret.of (by unfold chc; rw [if_pos ⟨c_2, Int32.not_lt.mp c_12, Or.inr (Int32.not_lt.mp c_28)⟩]) rfl)
theorem mp_loss (f : HI) {p : Int32} (hp : f 92 77 = f 92 75 * p) : Sp 1 200 [.ref 92] f (Ret (lossA (f 92 44) (f 92 45) (f 92 75) p) f) := by
  show wq 1 200 _ 0 [(0, .ref 92)] [] f
  refine wq_run10 (pc' := 17) (L' := [(0, .ref 92)]) (S' := [.int 6, .int (((f 92 45) * (f 92 75)) + 5), .int (f 92 44)]) (f' := f) rfl ?_
  refine wq_div rfl (by decide) ?_
  refine wq_run4 (pc' := 24) (L' := [(0, .ref 92)]) (S' := [.int (((f 92 44) + ((((f 92 45) * (f 92 75)) + 5) / 6)) - (f 92 77))]) (f' := f) rfl ?_
  exact wq_ret rfl (Ret.of (by unfold lossA; rw [hp]) rfl)
abbrev up3 (g : Nat → Int32) (a b c : Int32) : Nat → Int32 := upd (upd (upd g 75 a) 76 b) 77 c
theorem up3_up3 (g : Nat → Int32) (a b c a' b' c' : Int32) : upd (upd (upd (up3 g a b c) 75 a') 76 b') 77 c' = up3 g a' b' c' := by
  funext j
  unfold up3
  by_cases h1 : j = 77
  · subst h1; rw [upd_s, upd_s]
  · rw [upd_n h1, upd_n h1]
    by_cases h2 : j = 76
    · subst h2; rw [upd_s, upd_s]
    · rw [upd_n h2, upd_n h2]
      by_cases h3 : j = 75
      · subst h3; rw [upd_s, upd_s]
      · rw [upd_n h3, upd_n h3, upd_n h1, upd_n h2, upd_n h3]
theorem mlp_year (f : HI) {n : Nat} (hn8 : n ≤ 8) (hn2 : f 92 61 = nI n) {p : Int32} (hp : ¬ p = -1) : ∀ (m9 : Nat) (i : Nat), i ≤ n → n - i < m9 → wq 2 199 (RetV (up1 f 92 (upd (upd (upd (f 92) 75 (pS (f 132) (f 133) (f 142) (f 92 48) p n)) 76 (sS (f 132) (f 133) (f 142) (f 92 48) p n)) 77 (pS (f 132) (f 133) (f 142) (f 92 48) p n * p)))) 17 [(0, .ref 92), (1, .int p), (2, .int (nI i))] [] (up1 f 92 (upd (upd (upd (f 92) 75 (pS (f 132) (f 133) (f 142) (f 92 48) p i)) 76 (sS (f 132) (f 133) (f 142) (f 92 48) p i)) 77 ((pS (f 132) (f 133) (f 142) (f 92 48) p i) * p))) := by
  intro m9
  induction m9 with
  | zero => intro i hin0 hn; exact absurd hn (Nat.not_lt_zero _)
  | succ m9 ih =>
    intro i hin0 hn
    refine wq_run3 (pc' := 22) (L' := [(0, .ref 92), (1, .int p), (2, .int (nI i))]) (S' := [.int ((f 92) 61), .int (nI i)]) (f' := (up1 f 92 (upd (upd (upd (f 92) 75 (pS (f 132) (f 133) (f 142) (f 92 48) p i)) 76 (sS (f 132) (f 133) (f 142) (f 92 48) p i)) 77 ((pS (f 132) (f 133) (f 142) (f 92 48) p i) * p)))) rfl ?_
    refine wq_if (c := ((f 92) 61) ≤ (nI i)) (p1 := 113) (L1 := [(0, .ref 92), (1, .int p), (2, .int (nI i))]) (S1 := []) (p2 := 25) (L2 := [(0, .ref 92), (1, .int p), (2, .int (nI i))]) (S2 := []) rfl (fun c_22 => ?_) (fun c_22 => ?_)
    · have e : i = n := Nat.le_antisymm hin0 (Nat.not_lt.mp (fun q => absurd (show f 92 61 ≤ nI i from c_22) (by rw [hn2]; exact nI_ge q (by omega))))
      subst e
      exact wq_ret rfl ⟨rfl, rfl⟩
    · have hin : i < n := Nat.lt_of_not_le (fun q => c_22 (by show f 92 61 ≤ nI i; rw [hn2]; exact nI_le q (by omega)))
      have hi8 : i < 8 := by omega
      refine wq_run3 (pc' := 30) (L' := [(0, .ref 92), (1, .int p), (2, .int (nI i))]) (S' := [.int (nI i), .ref 132]) (f' := (up1 f 92 (upd (upd (upd (f 92) 75 (pS (f 132) (f 133) (f 142) (f 92 48) p i)) 76 (sS (f 132) (f 133) (f 142) (f 92 48) p i)) 77 ((pS (f 132) (f 133) (f 142) (f 92 48) p i) * p)))) rfl ?_
      refine wq_ald (j := i) (n := 8) (v := (f 132 i)) rfl rfl rfl rfl hi8 (Nat.le_of_ble_eq_true rfl) rfl ?_
      refine wq_run3 (pc' := 36) (L' := [(0, .ref 92), (1, .int p), (2, .int (nI i))]) (S' := [.int (nI i), .ref 142, .int (f 132 i)]) (f' := (up1 f 92 (upd (upd (upd (f 92) 75 (pS (f 132) (f 133) (f 142) (f 92 48) p i)) 76 (sS (f 132) (f 133) (f 142) (f 92 48) p i)) 77 ((pS (f 132) (f 133) (f 142) (f 92 48) p i) * p)))) rfl ?_
      refine wq_ald (j := i) (n := 8) (v := (f 142 i)) rfl rfl rfl rfl hi8 (Nat.le_of_ble_eq_true rfl) rfl ?_
      refine wq_run5 (pc' := 42) (L' := [(0, .ref 92), (1, .int p), (2, .int (nI i)), (3, .int ((f 132 i) * (f 142 i)))]) (S' := [.int p, .int (nI i), .ref 92]) (f' := (up1 f 92 (upd (upd (upd (f 92) 75 (pS (f 132) (f 133) (f 142) (f 92 48) p i)) 76 (sS (f 132) (f 133) (f 142) (f 92 48) p i)) 77 ((pS (f 132) (f 133) (f 142) (f 92 48) p i) * p)))) rfl ?_
      refine wq_callI (r := (chc (f 133) ((f 92) 48) i p)) (mp_choice (up1 f 92 (upd (upd (upd (f 92) 75 (pS (f 132) (f 133) (f 142) (f 92 48) p i)) 76 (sS (f 132) (f 133) (f 142) (f 92 48) p i)) 77 ((pS (f 132) (f 133) (f 142) (f 92 48) p i) * p))) (w := i) hi8 p) (Nat.le_of_ble_eq_true rfl) (pc' := 45) (L' := [(0, .ref 92), (1, .int p), (2, .int (nI i)), (3, .int ((f 132 i) * (f 142 i)))]) (S' := []) rfl (Nat.le_of_ble_eq_true rfl) rfl rfl (Nat.le_of_ble_eq_true rfl) (Nat.le_of_ble_eq_true rfl) ?_
      refine wq_run5 (pc' := 54) (L' := [(0, .ref 92), (1, .int p), (2, .int (nI i)), (3, .int ((f 132 i) * (f 142 i))), (4, .int (chc (f 133) ((f 92) 48) i p))]) (S' := [.int (chc (f 133) ((f 92) 48) i p), .int (pS (f 132) (f 133) (f 142) (f 92 48) p i), .ref 92]) (f' := (up1 f 92 (upd (upd (upd (f 92) 75 (pS (f 132) (f 133) (f 142) (f 92 48) p i)) 76 (sS (f 132) (f 133) (f 142) (f 92 48) p i)) 77 ((pS (f 132) (f 133) (f 142) (f 92 48) p i) * p)))) rfl ?_
      refine wq_if (c := (chc (f 133) ((f 92) 48) i p) = 0) (p1 := 57) (L1 := [(0, .ref 92), (1, .int p), (2, .int (nI i)), (3, .int ((f 132 i) * (f 142 i))), (4, .int (chc (f 133) ((f 92) 48) i p))]) (S1 := [.int (pS (f 132) (f 133) (f 142) (f 92 48) p i), .ref 92]) (p2 := 61) (L2 := [(0, .ref 92), (1, .int p), (2, .int (nI i)), (3, .int ((f 132 i) * (f 142 i))), (4, .int (chc (f 133) ((f 92) 48) i p))]) (S2 := [.int (pS (f 132) (f 133) (f 142) (f 92 48) p i), .ref 92]) rfl (fun c_54 => ?_) (fun c_54 => ?_)
      · refine wq_run3 (pc' := 63) (L' := [(0, .ref 92), (1, .int p), (2, .int (nI i)), (3, .int ((f 132 i) * (f 142 i))), (4, .int (chc (f 133) ((f 92) 48) i p))]) (S' := [.int ((pS (f 132) (f 133) (f 142) (f 92 48) p i) + ((f 132 i) * (f 142 i))), .ref 92]) (f' := (up1 f 92 (upd (upd (upd (f 92) 75 (pS (f 132) (f 133) (f 142) (f 92 48) p i)) 76 (sS (f 132) (f 133) (f 142) (f 92 48) p i)) 77 ((pS (f 132) (f 133) (f 142) (f 92 48) p i) * p)))) rfl ?_
        refine wq_putI rfl rfl ?_
        refine wq_h (f' := (up1 f 92 (upd (upd (upd (f 92) 75 ((pS (f 132) (f 133) (f 142) (f 92 48) p i) + ((f 132 i) * (f 142 i)))) 76 (sS (f 132) (f 133) (f 142) (f 92 48) p i)) 77 ((pS (f 132) (f 133) (f 142) (f 92 48) p i) * p)))) ((up2_up1_eq f 92 (upd (upd (upd (f 92) 75 (pS (f 132) (f 133) (f 142) (f 92 48) p i)) 76 (sS (f 132) (f 133) (f 142) (f 92 48) p i)) 77 ((pS (f 132) (f 133) (f 142) (f 92 48) p i) * p)) 75 ((pS (f 132) (f 133) (f 142) (f 92 48) p i) + ((f 132 i) * (f 142 i)))).trans (congrArg (fun z => up1 f 92 z) ((upd_sw (g := (upd (upd (f 92) 75 (pS (f 132) (f 133) (f 142) (f 92 48) p i)) 76 (sS (f 132) (f 133) (f 142) (f 92 48) p i))) (v := ((pS (f 132) (f 133) (f 142) (f 92 48) p i) * p)) (w := ((pS (f 132) (f 133) (f 142) (f 92 48) p i) + ((f 132 i) * (f 142 i)))) (show (75 : Nat) ≠ 77 by decide)).trans (congrArg (fun z => upd z 77 ((pS (f 132) (f 133) (f 142) (f 92 48) p i) * p)) ((upd_sw (g := (upd (f 92) 75 (pS (f 132) (f 133) (f 142) (f 92 48) p i))) (v := (sS (f 132) (f 133) (f 142) (f 92 48) p i)) (w := ((pS (f 132) (f 133) (f 142) (f 92 48) p i) + ((f 132 i) * (f 142 i)))) (show (75 : Nat) ≠ 76 by decide)).trans (congrArg (fun z => upd z 76 (sS (f 132) (f 133) (f 142) (f 92 48) p i)) (upd_upd (f 92) 75 (pS (f 132) (f 133) (f 142) (f 92 48) p i) ((pS (f 132) (f 133) (f 142) (f 92 48) p i) + ((f 132 i) * (f 142 i)))))))))) ?_
        refine wq_run5 (pc' := 74) (L' := [(0, .ref 92), (1, .int p), (2, .int (nI i)), (3, .int ((f 132 i) * (f 142 i))), (4, .int (chc (f 133) ((f 92) 48) i p))]) (S' := [.int 1, .int (chc (f 133) ((f 92) 48) i p), .int (sS (f 132) (f 133) (f 142) (f 92 48) p i), .ref 92]) (f' := (up1 f 92 (upd (upd (upd (f 92) 75 ((pS (f 132) (f 133) (f 142) (f 92 48) p i) + ((f 132 i) * (f 142 i)))) 76 (sS (f 132) (f 133) (f 142) (f 92 48) p i)) 77 ((pS (f 132) (f 133) (f 142) (f 92 48) p i) * p)))) rfl ?_
        refine wq_if (c := (chc (f 133) ((f 92) 48) i p) = 1) (p1 := 77) (L1 := [(0, .ref 92), (1, .int p), (2, .int (nI i)), (3, .int ((f 132 i) * (f 142 i))), (4, .int (chc (f 133) ((f 92) 48) i p))]) (S1 := [.int (sS (f 132) (f 133) (f 142) (f 92 48) p i), .ref 92]) (p2 := 81) (L2 := [(0, .ref 92), (1, .int p), (2, .int (nI i)), (3, .int ((f 132 i) * (f 142 i))), (4, .int (chc (f 133) ((f 92) 48) i p))]) (S2 := [.int (sS (f 132) (f 133) (f 142) (f 92 48) p i), .ref 92]) rfl (fun c_74 => ?_) (fun c_74 => ?_)
        · refine wq_run3 (pc' := 83) (L' := [(0, .ref 92), (1, .int p), (2, .int (nI i)), (3, .int ((f 132 i) * (f 142 i))), (4, .int (chc (f 133) ((f 92) 48) i p))]) (S' := [.int ((sS (f 132) (f 133) (f 142) (f 92 48) p i) + ((f 132 i) * (f 142 i))), .ref 92]) (f' := (up1 f 92 (upd (upd (upd (f 92) 75 ((pS (f 132) (f 133) (f 142) (f 92 48) p i) + ((f 132 i) * (f 142 i)))) 76 (sS (f 132) (f 133) (f 142) (f 92 48) p i)) 77 ((pS (f 132) (f 133) (f 142) (f 92 48) p i) * p)))) rfl ?_
          refine wq_putI rfl rfl ?_
          refine wq_h (f' := (up1 f 92 (upd (upd (upd (f 92) 75 ((pS (f 132) (f 133) (f 142) (f 92 48) p i) + ((f 132 i) * (f 142 i)))) 76 ((sS (f 132) (f 133) (f 142) (f 92 48) p i) + ((f 132 i) * (f 142 i)))) 77 ((pS (f 132) (f 133) (f 142) (f 92 48) p i) * p)))) ((up2_up1_eq f 92 (upd (upd (upd (f 92) 75 ((pS (f 132) (f 133) (f 142) (f 92 48) p i) + ((f 132 i) * (f 142 i)))) 76 (sS (f 132) (f 133) (f 142) (f 92 48) p i)) 77 ((pS (f 132) (f 133) (f 142) (f 92 48) p i) * p)) 76 ((sS (f 132) (f 133) (f 142) (f 92 48) p i) + ((f 132 i) * (f 142 i)))).trans (congrArg (fun z => up1 f 92 z) ((upd_sw (g := (upd (upd (f 92) 75 ((pS (f 132) (f 133) (f 142) (f 92 48) p i) + ((f 132 i) * (f 142 i)))) 76 (sS (f 132) (f 133) (f 142) (f 92 48) p i))) (v := ((pS (f 132) (f 133) (f 142) (f 92 48) p i) * p)) (w := ((sS (f 132) (f 133) (f 142) (f 92 48) p i) + ((f 132 i) * (f 142 i)))) (show (76 : Nat) ≠ 77 by decide)).trans (congrArg (fun z => upd z 77 ((pS (f 132) (f 133) (f 142) (f 92 48) p i) * p)) (upd_upd (upd (f 92) 75 ((pS (f 132) (f 133) (f 142) (f 92 48) p i) + ((f 132 i) * (f 142 i)))) 76 (sS (f 132) (f 133) (f 142) (f 92 48) p i) ((sS (f 132) (f 133) (f 142) (f 92 48) p i) + ((f 132 i) * (f 142 i)))))))) ?_
          refine wq_run4 (pc' := 93) (L' := [(0, .ref 92), (1, .int p), (2, .int (nI i)), (3, .int ((f 132 i) * (f 142 i))), (4, .int (chc (f 133) ((f 92) 48) i p))]) (S' := [.int (chc (f 133) ((f 92) 48) i p), .int ((pS (f 132) (f 133) (f 142) (f 92 48) p i) * p), .ref 92]) (f' := (up1 f 92 (upd (upd (upd (f 92) 75 ((pS (f 132) (f 133) (f 142) (f 92 48) p i) + ((f 132 i) * (f 142 i)))) 76 ((sS (f 132) (f 133) (f 142) (f 92 48) p i) + ((f 132 i) * (f 142 i)))) 77 ((pS (f 132) (f 133) (f 142) (f 92 48) p i) * p)))) rfl ?_
          refine wq_if (c := (chc (f 133) ((f 92) 48) i p) = 0) (p1 := 96) (L1 := [(0, .ref 92), (1, .int p), (2, .int (nI i)), (3, .int ((f 132 i) * (f 142 i))), (4, .int (chc (f 133) ((f 92) 48) i p))]) (S1 := [.int ((pS (f 132) (f 133) (f 142) (f 92 48) p i) * p), .ref 92]) (p2 := 102) (L2 := [(0, .ref 92), (1, .int p), (2, .int (nI i)), (3, .int ((f 132 i) * (f 142 i))), (4, .int (chc (f 133) ((f 92) 48) i p))]) (S2 := [.int ((pS (f 132) (f 133) (f 142) (f 92 48) p i) * p), .ref 92]) rfl (fun _ => ?_) (fun q => absurd c_54 q)
          refine wq_run5 (pc' := 104) (L' := [(0, .ref 92), (1, .int p), (2, .int (nI i)), (3, .int ((f 132 i) * (f 142 i))), (4, .int (chc (f 133) ((f 92) 48) i p))]) (S' := [.int (((pS (f 132) (f 133) (f 142) (f 92 48) p i) * p) + (((f 132 i) * (f 142 i)) * p)), .ref 92]) (f' := (up1 f 92 (upd (upd (upd (f 92) 75 ((pS (f 132) (f 133) (f 142) (f 92 48) p i) + ((f 132 i) * (f 142 i)))) 76 ((sS (f 132) (f 133) (f 142) (f 92 48) p i) + ((f 132 i) * (f 142 i)))) 77 ((pS (f 132) (f 133) (f 142) (f 92 48) p i) * p)))) rfl ?_
          refine wq_putI rfl rfl ?_
          refine wq_h (f' := (up1 f 92 (upd (upd (upd (f 92) 75 ((pS (f 132) (f 133) (f 142) (f 92 48) p i) + ((f 132 i) * (f 142 i)))) 76 ((sS (f 132) (f 133) (f 142) (f 92 48) p i) + ((f 132 i) * (f 142 i)))) 77 (((pS (f 132) (f 133) (f 142) (f 92 48) p i) * p) + (((f 132 i) * (f 142 i)) * p))))) ((up2_up1_eq f 92 (upd (upd (upd (f 92) 75 ((pS (f 132) (f 133) (f 142) (f 92 48) p i) + ((f 132 i) * (f 142 i)))) 76 ((sS (f 132) (f 133) (f 142) (f 92 48) p i) + ((f 132 i) * (f 142 i)))) 77 ((pS (f 132) (f 133) (f 142) (f 92 48) p i) * p)) 77 (((pS (f 132) (f 133) (f 142) (f 92 48) p i) * p) + (((f 132 i) * (f 142 i)) * p))).trans (congrArg (fun z => up1 f 92 z) (upd_upd (upd (upd (f 92) 75 ((pS (f 132) (f 133) (f 142) (f 92 48) p i) + ((f 132 i) * (f 142 i)))) 76 ((sS (f 132) (f 133) (f 142) (f 92 48) p i) + ((f 132 i) * (f 142 i)))) 77 ((pS (f 132) (f 133) (f 142) (f 92 48) p i) * p) (((pS (f 132) (f 133) (f 142) (f 92 48) p i) * p) + (((f 132 i) * (f 142 i)) * p))))) ?_
          refine wq_run2 (pc' := 17) (L' := [(0, .ref 92), (1, .int p), (2, .int ((nI i) + 1))]) (S' := []) (f' := (up1 f 92 (upd (upd (upd (f 92) 75 ((pS (f 132) (f 133) (f 142) (f 92 48) p i) + ((f 132 i) * (f 142 i)))) 76 ((sS (f 132) (f 133) (f 142) (f 92 48) p i) + ((f 132 i) * (f 142 i)))) 77 (((pS (f 132) (f 133) (f 142) (f 92 48) p i) * p) + (((f 132 i) * (f 142 i)) * p))))) rfl ?_
          exact absurd (c_54.symm.trans c_74) (by decide)
        · refine wq_run2 (pc' := 83) (L' := [(0, .ref 92), (1, .int p), (2, .int (nI i)), (3, .int ((f 132 i) * (f 142 i))), (4, .int (chc (f 133) ((f 92) 48) i p))]) (S' := [.int ((sS (f 132) (f 133) (f 142) (f 92 48) p i) + 0), .ref 92]) (f' := (up1 f 92 (upd (upd (upd (f 92) 75 ((pS (f 132) (f 133) (f 142) (f 92 48) p i) + ((f 132 i) * (f 142 i)))) 76 (sS (f 132) (f 133) (f 142) (f 92 48) p i)) 77 ((pS (f 132) (f 133) (f 142) (f 92 48) p i) * p)))) rfl ?_
          refine wq_putI rfl rfl ?_
          refine wq_h (f' := (up1 f 92 (upd (upd (upd (f 92) 75 ((pS (f 132) (f 133) (f 142) (f 92 48) p i) + ((f 132 i) * (f 142 i)))) 76 ((sS (f 132) (f 133) (f 142) (f 92 48) p i) + 0)) 77 ((pS (f 132) (f 133) (f 142) (f 92 48) p i) * p)))) ((up2_up1_eq f 92 (upd (upd (upd (f 92) 75 ((pS (f 132) (f 133) (f 142) (f 92 48) p i) + ((f 132 i) * (f 142 i)))) 76 (sS (f 132) (f 133) (f 142) (f 92 48) p i)) 77 ((pS (f 132) (f 133) (f 142) (f 92 48) p i) * p)) 76 ((sS (f 132) (f 133) (f 142) (f 92 48) p i) + 0)).trans (congrArg (fun z => up1 f 92 z) ((upd_sw (g := (upd (upd (f 92) 75 ((pS (f 132) (f 133) (f 142) (f 92 48) p i) + ((f 132 i) * (f 142 i)))) 76 (sS (f 132) (f 133) (f 142) (f 92 48) p i))) (v := ((pS (f 132) (f 133) (f 142) (f 92 48) p i) * p)) (w := ((sS (f 132) (f 133) (f 142) (f 92 48) p i) + 0)) (show (76 : Nat) ≠ 77 by decide)).trans (congrArg (fun z => upd z 77 ((pS (f 132) (f 133) (f 142) (f 92 48) p i) * p)) (upd_upd (upd (f 92) 75 ((pS (f 132) (f 133) (f 142) (f 92 48) p i) + ((f 132 i) * (f 142 i)))) 76 (sS (f 132) (f 133) (f 142) (f 92 48) p i) ((sS (f 132) (f 133) (f 142) (f 92 48) p i) + 0)))))) ?_
          refine wq_run4 (pc' := 93) (L' := [(0, .ref 92), (1, .int p), (2, .int (nI i)), (3, .int ((f 132 i) * (f 142 i))), (4, .int (chc (f 133) ((f 92) 48) i p))]) (S' := [.int (chc (f 133) ((f 92) 48) i p), .int ((pS (f 132) (f 133) (f 142) (f 92 48) p i) * p), .ref 92]) (f' := (up1 f 92 (upd (upd (upd (f 92) 75 ((pS (f 132) (f 133) (f 142) (f 92 48) p i) + ((f 132 i) * (f 142 i)))) 76 ((sS (f 132) (f 133) (f 142) (f 92 48) p i) + 0)) 77 ((pS (f 132) (f 133) (f 142) (f 92 48) p i) * p)))) rfl ?_
          refine wq_if (c := (chc (f 133) ((f 92) 48) i p) = 0) (p1 := 96) (L1 := [(0, .ref 92), (1, .int p), (2, .int (nI i)), (3, .int ((f 132 i) * (f 142 i))), (4, .int (chc (f 133) ((f 92) 48) i p))]) (S1 := [.int ((pS (f 132) (f 133) (f 142) (f 92 48) p i) * p), .ref 92]) (p2 := 102) (L2 := [(0, .ref 92), (1, .int p), (2, .int (nI i)), (3, .int ((f 132 i) * (f 142 i))), (4, .int (chc (f 133) ((f 92) 48) i p))]) (S2 := [.int ((pS (f 132) (f 133) (f 142) (f 92 48) p i) * p), .ref 92]) rfl (fun _ => ?_) (fun q => absurd c_54 q)
          refine wq_run5 (pc' := 104) (L' := [(0, .ref 92), (1, .int p), (2, .int (nI i)), (3, .int ((f 132 i) * (f 142 i))), (4, .int (chc (f 133) ((f 92) 48) i p))]) (S' := [.int (((pS (f 132) (f 133) (f 142) (f 92 48) p i) * p) + (((f 132 i) * (f 142 i)) * p)), .ref 92]) (f' := (up1 f 92 (upd (upd (upd (f 92) 75 ((pS (f 132) (f 133) (f 142) (f 92 48) p i) + ((f 132 i) * (f 142 i)))) 76 ((sS (f 132) (f 133) (f 142) (f 92 48) p i) + 0)) 77 ((pS (f 132) (f 133) (f 142) (f 92 48) p i) * p)))) rfl ?_
          refine wq_putI rfl rfl ?_
          refine wq_h (f' := (up1 f 92 (upd (upd (upd (f 92) 75 ((pS (f 132) (f 133) (f 142) (f 92 48) p i) + ((f 132 i) * (f 142 i)))) 76 ((sS (f 132) (f 133) (f 142) (f 92 48) p i) + 0)) 77 (((pS (f 132) (f 133) (f 142) (f 92 48) p i) * p) + (((f 132 i) * (f 142 i)) * p))))) ((up2_up1_eq f 92 (upd (upd (upd (f 92) 75 ((pS (f 132) (f 133) (f 142) (f 92 48) p i) + ((f 132 i) * (f 142 i)))) 76 ((sS (f 132) (f 133) (f 142) (f 92 48) p i) + 0)) 77 ((pS (f 132) (f 133) (f 142) (f 92 48) p i) * p)) 77 (((pS (f 132) (f 133) (f 142) (f 92 48) p i) * p) + (((f 132 i) * (f 142 i)) * p))).trans (congrArg (fun z => up1 f 92 z) (upd_upd (upd (upd (f 92) 75 ((pS (f 132) (f 133) (f 142) (f 92 48) p i) + ((f 132 i) * (f 142 i)))) 76 ((sS (f 132) (f 133) (f 142) (f 92 48) p i) + 0)) 77 ((pS (f 132) (f 133) (f 142) (f 92 48) p i) * p) (((pS (f 132) (f 133) (f 142) (f 92 48) p i) * p) + (((f 132 i) * (f 142 i)) * p))))) ?_
          refine wq_run2 (pc' := 17) (L' := [(0, .ref 92), (1, .int p), (2, .int ((nI i) + 1))]) (S' := []) (f' := (up1 f 92 (upd (upd (upd (f 92) 75 ((pS (f 132) (f 133) (f 142) (f 92 48) p i) + ((f 132 i) * (f 142 i)))) 76 ((sS (f 132) (f 133) (f 142) (f 92 48) p i) + 0)) 77 (((pS (f 132) (f 133) (f 142) (f 92 48) p i) * p) + (((f 132 i) * (f 142 i)) * p))))) rfl ?_
          have d0 := (chc_0 hp).mp c_54
          have e1 : ((pS (f 132) (f 133) (f 142) (f 92 48) p i) + ((f 132 i) * (f 142 i))) = pS (f 132) (f 133) (f 142) (f 92 48) p (i + 1) := by
            conv => rhs; unfold pS
            rw [if_pos d0]
          have e2 : ((sS (f 132) (f 133) (f 142) (f 92 48) p i) + 0) = sS (f 132) (f 133) (f 142) (f 92 48) p (i + 1) := by
            conv => rhs; unfold sS
            rw [if_pos d0, Int32.add_zero]
          have e3 : (((pS (f 132) (f 133) (f 142) (f 92 48) p i) * p) + (((f 132 i) * (f 142 i)) * p)) = pS (f 132) (f 133) (f 142) (f 92 48) p (i + 1) * p := by
            conv => rhs; unfold pS
            rw [if_pos d0, Int32.add_mul]
          rw [e1, e2, e3, nI_1]
          exact ih (i + 1) (by omega) (by omega)
      · refine wq_run2 (pc' := 63) (L' := [(0, .ref 92), (1, .int p), (2, .int (nI i)), (3, .int ((f 132 i) * (f 142 i))), (4, .int (chc (f 133) ((f 92) 48) i p))]) (S' := [.int ((pS (f 132) (f 133) (f 142) (f 92 48) p i) + 0), .ref 92]) (f' := (up1 f 92 (upd (upd (upd (f 92) 75 (pS (f 132) (f 133) (f 142) (f 92 48) p i)) 76 (sS (f 132) (f 133) (f 142) (f 92 48) p i)) 77 ((pS (f 132) (f 133) (f 142) (f 92 48) p i) * p)))) rfl ?_
        refine wq_putI rfl rfl ?_
        refine wq_h (f' := (up1 f 92 (upd (upd (upd (f 92) 75 ((pS (f 132) (f 133) (f 142) (f 92 48) p i) + 0)) 76 (sS (f 132) (f 133) (f 142) (f 92 48) p i)) 77 ((pS (f 132) (f 133) (f 142) (f 92 48) p i) * p)))) ((up2_up1_eq f 92 (upd (upd (upd (f 92) 75 (pS (f 132) (f 133) (f 142) (f 92 48) p i)) 76 (sS (f 132) (f 133) (f 142) (f 92 48) p i)) 77 ((pS (f 132) (f 133) (f 142) (f 92 48) p i) * p)) 75 ((pS (f 132) (f 133) (f 142) (f 92 48) p i) + 0)).trans (congrArg (fun z => up1 f 92 z) ((upd_sw (g := (upd (upd (f 92) 75 (pS (f 132) (f 133) (f 142) (f 92 48) p i)) 76 (sS (f 132) (f 133) (f 142) (f 92 48) p i))) (v := ((pS (f 132) (f 133) (f 142) (f 92 48) p i) * p)) (w := ((pS (f 132) (f 133) (f 142) (f 92 48) p i) + 0)) (show (75 : Nat) ≠ 77 by decide)).trans (congrArg (fun z => upd z 77 ((pS (f 132) (f 133) (f 142) (f 92 48) p i) * p)) ((upd_sw (g := (upd (f 92) 75 (pS (f 132) (f 133) (f 142) (f 92 48) p i))) (v := (sS (f 132) (f 133) (f 142) (f 92 48) p i)) (w := ((pS (f 132) (f 133) (f 142) (f 92 48) p i) + 0)) (show (75 : Nat) ≠ 76 by decide)).trans (congrArg (fun z => upd z 76 (sS (f 132) (f 133) (f 142) (f 92 48) p i)) (upd_upd (f 92) 75 (pS (f 132) (f 133) (f 142) (f 92 48) p i) ((pS (f 132) (f 133) (f 142) (f 92 48) p i) + 0)))))))) ?_
        refine wq_run5 (pc' := 74) (L' := [(0, .ref 92), (1, .int p), (2, .int (nI i)), (3, .int ((f 132 i) * (f 142 i))), (4, .int (chc (f 133) ((f 92) 48) i p))]) (S' := [.int 1, .int (chc (f 133) ((f 92) 48) i p), .int (sS (f 132) (f 133) (f 142) (f 92 48) p i), .ref 92]) (f' := (up1 f 92 (upd (upd (upd (f 92) 75 ((pS (f 132) (f 133) (f 142) (f 92 48) p i) + 0)) 76 (sS (f 132) (f 133) (f 142) (f 92 48) p i)) 77 ((pS (f 132) (f 133) (f 142) (f 92 48) p i) * p)))) rfl ?_
        refine wq_if (c := (chc (f 133) ((f 92) 48) i p) = 1) (p1 := 77) (L1 := [(0, .ref 92), (1, .int p), (2, .int (nI i)), (3, .int ((f 132 i) * (f 142 i))), (4, .int (chc (f 133) ((f 92) 48) i p))]) (S1 := [.int (sS (f 132) (f 133) (f 142) (f 92 48) p i), .ref 92]) (p2 := 81) (L2 := [(0, .ref 92), (1, .int p), (2, .int (nI i)), (3, .int ((f 132 i) * (f 142 i))), (4, .int (chc (f 133) ((f 92) 48) i p))]) (S2 := [.int (sS (f 132) (f 133) (f 142) (f 92 48) p i), .ref 92]) rfl (fun c_74 => ?_) (fun c_74 => ?_)
        · refine wq_run3 (pc' := 83) (L' := [(0, .ref 92), (1, .int p), (2, .int (nI i)), (3, .int ((f 132 i) * (f 142 i))), (4, .int (chc (f 133) ((f 92) 48) i p))]) (S' := [.int ((sS (f 132) (f 133) (f 142) (f 92 48) p i) + ((f 132 i) * (f 142 i))), .ref 92]) (f' := (up1 f 92 (upd (upd (upd (f 92) 75 ((pS (f 132) (f 133) (f 142) (f 92 48) p i) + 0)) 76 (sS (f 132) (f 133) (f 142) (f 92 48) p i)) 77 ((pS (f 132) (f 133) (f 142) (f 92 48) p i) * p)))) rfl ?_
          refine wq_putI rfl rfl ?_
          refine wq_h (f' := (up1 f 92 (upd (upd (upd (f 92) 75 ((pS (f 132) (f 133) (f 142) (f 92 48) p i) + 0)) 76 ((sS (f 132) (f 133) (f 142) (f 92 48) p i) + ((f 132 i) * (f 142 i)))) 77 ((pS (f 132) (f 133) (f 142) (f 92 48) p i) * p)))) ((up2_up1_eq f 92 (upd (upd (upd (f 92) 75 ((pS (f 132) (f 133) (f 142) (f 92 48) p i) + 0)) 76 (sS (f 132) (f 133) (f 142) (f 92 48) p i)) 77 ((pS (f 132) (f 133) (f 142) (f 92 48) p i) * p)) 76 ((sS (f 132) (f 133) (f 142) (f 92 48) p i) + ((f 132 i) * (f 142 i)))).trans (congrArg (fun z => up1 f 92 z) ((upd_sw (g := (upd (upd (f 92) 75 ((pS (f 132) (f 133) (f 142) (f 92 48) p i) + 0)) 76 (sS (f 132) (f 133) (f 142) (f 92 48) p i))) (v := ((pS (f 132) (f 133) (f 142) (f 92 48) p i) * p)) (w := ((sS (f 132) (f 133) (f 142) (f 92 48) p i) + ((f 132 i) * (f 142 i)))) (show (76 : Nat) ≠ 77 by decide)).trans (congrArg (fun z => upd z 77 ((pS (f 132) (f 133) (f 142) (f 92 48) p i) * p)) (upd_upd (upd (f 92) 75 ((pS (f 132) (f 133) (f 142) (f 92 48) p i) + 0)) 76 (sS (f 132) (f 133) (f 142) (f 92 48) p i) ((sS (f 132) (f 133) (f 142) (f 92 48) p i) + ((f 132 i) * (f 142 i)))))))) ?_
          refine wq_run4 (pc' := 93) (L' := [(0, .ref 92), (1, .int p), (2, .int (nI i)), (3, .int ((f 132 i) * (f 142 i))), (4, .int (chc (f 133) ((f 92) 48) i p))]) (S' := [.int (chc (f 133) ((f 92) 48) i p), .int ((pS (f 132) (f 133) (f 142) (f 92 48) p i) * p), .ref 92]) (f' := (up1 f 92 (upd (upd (upd (f 92) 75 ((pS (f 132) (f 133) (f 142) (f 92 48) p i) + 0)) 76 ((sS (f 132) (f 133) (f 142) (f 92 48) p i) + ((f 132 i) * (f 142 i)))) 77 ((pS (f 132) (f 133) (f 142) (f 92 48) p i) * p)))) rfl ?_
          refine wq_if (c := (chc (f 133) ((f 92) 48) i p) = 0) (p1 := 96) (L1 := [(0, .ref 92), (1, .int p), (2, .int (nI i)), (3, .int ((f 132 i) * (f 142 i))), (4, .int (chc (f 133) ((f 92) 48) i p))]) (S1 := [.int ((pS (f 132) (f 133) (f 142) (f 92 48) p i) * p), .ref 92]) (p2 := 102) (L2 := [(0, .ref 92), (1, .int p), (2, .int (nI i)), (3, .int ((f 132 i) * (f 142 i))), (4, .int (chc (f 133) ((f 92) 48) i p))]) (S2 := [.int ((pS (f 132) (f 133) (f 142) (f 92 48) p i) * p), .ref 92]) rfl (fun q => absurd q c_54) (fun _ => ?_)
          refine wq_run2 (pc' := 104) (L' := [(0, .ref 92), (1, .int p), (2, .int (nI i)), (3, .int ((f 132 i) * (f 142 i))), (4, .int (chc (f 133) ((f 92) 48) i p))]) (S' := [.int (((pS (f 132) (f 133) (f 142) (f 92 48) p i) * p) + 0), .ref 92]) (f' := (up1 f 92 (upd (upd (upd (f 92) 75 ((pS (f 132) (f 133) (f 142) (f 92 48) p i) + 0)) 76 ((sS (f 132) (f 133) (f 142) (f 92 48) p i) + ((f 132 i) * (f 142 i)))) 77 ((pS (f 132) (f 133) (f 142) (f 92 48) p i) * p)))) rfl ?_
          refine wq_putI rfl rfl ?_
          refine wq_h (f' := (up1 f 92 (upd (upd (upd (f 92) 75 ((pS (f 132) (f 133) (f 142) (f 92 48) p i) + 0)) 76 ((sS (f 132) (f 133) (f 142) (f 92 48) p i) + ((f 132 i) * (f 142 i)))) 77 (((pS (f 132) (f 133) (f 142) (f 92 48) p i) * p) + 0)))) ((up2_up1_eq f 92 (upd (upd (upd (f 92) 75 ((pS (f 132) (f 133) (f 142) (f 92 48) p i) + 0)) 76 ((sS (f 132) (f 133) (f 142) (f 92 48) p i) + ((f 132 i) * (f 142 i)))) 77 ((pS (f 132) (f 133) (f 142) (f 92 48) p i) * p)) 77 (((pS (f 132) (f 133) (f 142) (f 92 48) p i) * p) + 0)).trans (congrArg (fun z => up1 f 92 z) (upd_upd (upd (upd (f 92) 75 ((pS (f 132) (f 133) (f 142) (f 92 48) p i) + 0)) 76 ((sS (f 132) (f 133) (f 142) (f 92 48) p i) + ((f 132 i) * (f 142 i)))) 77 ((pS (f 132) (f 133) (f 142) (f 92 48) p i) * p) (((pS (f 132) (f 133) (f 142) (f 92 48) p i) * p) + 0)))) ?_
          refine wq_run2 (pc' := 17) (L' := [(0, .ref 92), (1, .int p), (2, .int ((nI i) + 1))]) (S' := []) (f' := (up1 f 92 (upd (upd (upd (f 92) 75 ((pS (f 132) (f 133) (f 142) (f 92 48) p i) + 0)) 76 ((sS (f 132) (f 133) (f 142) (f 92 48) p i) + ((f 132 i) * (f 142 i)))) 77 (((pS (f 132) (f 133) (f 142) (f 92 48) p i) * p) + 0)))) rfl ?_
          have d0 := fun q => c_54 ((chc_0 hp).mpr q)
          have e1 : ((pS (f 132) (f 133) (f 142) (f 92 48) p i) + 0) = pS (f 132) (f 133) (f 142) (f 92 48) p (i + 1) := by
            conv => rhs; unfold pS
            rw [if_neg d0, Int32.add_zero]
          have e2 : ((sS (f 132) (f 133) (f 142) (f 92 48) p i) + ((f 132 i) * (f 142 i))) = sS (f 132) (f 133) (f 142) (f 92 48) p (i + 1) := by
            conv => rhs; unfold sS
            rw [if_neg d0, if_pos ((chc_1 hp).mp c_74).2]
          have e3 : (((pS (f 132) (f 133) (f 142) (f 92 48) p i) * p) + 0) = pS (f 132) (f 133) (f 142) (f 92 48) p (i + 1) * p := by
            conv => rhs; unfold pS
            rw [if_neg d0, Int32.add_zero]
          rw [e1, e2, e3, nI_1]
          exact ih (i + 1) (by omega) (by omega)
        · refine wq_run2 (pc' := 83) (L' := [(0, .ref 92), (1, .int p), (2, .int (nI i)), (3, .int ((f 132 i) * (f 142 i))), (4, .int (chc (f 133) ((f 92) 48) i p))]) (S' := [.int ((sS (f 132) (f 133) (f 142) (f 92 48) p i) + 0), .ref 92]) (f' := (up1 f 92 (upd (upd (upd (f 92) 75 ((pS (f 132) (f 133) (f 142) (f 92 48) p i) + 0)) 76 (sS (f 132) (f 133) (f 142) (f 92 48) p i)) 77 ((pS (f 132) (f 133) (f 142) (f 92 48) p i) * p)))) rfl ?_
          refine wq_putI rfl rfl ?_
          refine wq_h (f' := (up1 f 92 (upd (upd (upd (f 92) 75 ((pS (f 132) (f 133) (f 142) (f 92 48) p i) + 0)) 76 ((sS (f 132) (f 133) (f 142) (f 92 48) p i) + 0)) 77 ((pS (f 132) (f 133) (f 142) (f 92 48) p i) * p)))) ((up2_up1_eq f 92 (upd (upd (upd (f 92) 75 ((pS (f 132) (f 133) (f 142) (f 92 48) p i) + 0)) 76 (sS (f 132) (f 133) (f 142) (f 92 48) p i)) 77 ((pS (f 132) (f 133) (f 142) (f 92 48) p i) * p)) 76 ((sS (f 132) (f 133) (f 142) (f 92 48) p i) + 0)).trans (congrArg (fun z => up1 f 92 z) ((upd_sw (g := (upd (upd (f 92) 75 ((pS (f 132) (f 133) (f 142) (f 92 48) p i) + 0)) 76 (sS (f 132) (f 133) (f 142) (f 92 48) p i))) (v := ((pS (f 132) (f 133) (f 142) (f 92 48) p i) * p)) (w := ((sS (f 132) (f 133) (f 142) (f 92 48) p i) + 0)) (show (76 : Nat) ≠ 77 by decide)).trans (congrArg (fun z => upd z 77 ((pS (f 132) (f 133) (f 142) (f 92 48) p i) * p)) (upd_upd (upd (f 92) 75 ((pS (f 132) (f 133) (f 142) (f 92 48) p i) + 0)) 76 (sS (f 132) (f 133) (f 142) (f 92 48) p i) ((sS (f 132) (f 133) (f 142) (f 92 48) p i) + 0)))))) ?_
          refine wq_run4 (pc' := 93) (L' := [(0, .ref 92), (1, .int p), (2, .int (nI i)), (3, .int ((f 132 i) * (f 142 i))), (4, .int (chc (f 133) ((f 92) 48) i p))]) (S' := [.int (chc (f 133) ((f 92) 48) i p), .int ((pS (f 132) (f 133) (f 142) (f 92 48) p i) * p), .ref 92]) (f' := (up1 f 92 (upd (upd (upd (f 92) 75 ((pS (f 132) (f 133) (f 142) (f 92 48) p i) + 0)) 76 ((sS (f 132) (f 133) (f 142) (f 92 48) p i) + 0)) 77 ((pS (f 132) (f 133) (f 142) (f 92 48) p i) * p)))) rfl ?_
          refine wq_if (c := (chc (f 133) ((f 92) 48) i p) = 0) (p1 := 96) (L1 := [(0, .ref 92), (1, .int p), (2, .int (nI i)), (3, .int ((f 132 i) * (f 142 i))), (4, .int (chc (f 133) ((f 92) 48) i p))]) (S1 := [.int ((pS (f 132) (f 133) (f 142) (f 92 48) p i) * p), .ref 92]) (p2 := 102) (L2 := [(0, .ref 92), (1, .int p), (2, .int (nI i)), (3, .int ((f 132 i) * (f 142 i))), (4, .int (chc (f 133) ((f 92) 48) i p))]) (S2 := [.int ((pS (f 132) (f 133) (f 142) (f 92 48) p i) * p), .ref 92]) rfl (fun q => absurd q c_54) (fun _ => ?_)
          refine wq_run2 (pc' := 104) (L' := [(0, .ref 92), (1, .int p), (2, .int (nI i)), (3, .int ((f 132 i) * (f 142 i))), (4, .int (chc (f 133) ((f 92) 48) i p))]) (S' := [.int (((pS (f 132) (f 133) (f 142) (f 92 48) p i) * p) + 0), .ref 92]) (f' := (up1 f 92 (upd (upd (upd (f 92) 75 ((pS (f 132) (f 133) (f 142) (f 92 48) p i) + 0)) 76 ((sS (f 132) (f 133) (f 142) (f 92 48) p i) + 0)) 77 ((pS (f 132) (f 133) (f 142) (f 92 48) p i) * p)))) rfl ?_
          refine wq_putI rfl rfl ?_
          refine wq_h (f' := (up1 f 92 (upd (upd (upd (f 92) 75 ((pS (f 132) (f 133) (f 142) (f 92 48) p i) + 0)) 76 ((sS (f 132) (f 133) (f 142) (f 92 48) p i) + 0)) 77 (((pS (f 132) (f 133) (f 142) (f 92 48) p i) * p) + 0)))) ((up2_up1_eq f 92 (upd (upd (upd (f 92) 75 ((pS (f 132) (f 133) (f 142) (f 92 48) p i) + 0)) 76 ((sS (f 132) (f 133) (f 142) (f 92 48) p i) + 0)) 77 ((pS (f 132) (f 133) (f 142) (f 92 48) p i) * p)) 77 (((pS (f 132) (f 133) (f 142) (f 92 48) p i) * p) + 0)).trans (congrArg (fun z => up1 f 92 z) (upd_upd (upd (upd (f 92) 75 ((pS (f 132) (f 133) (f 142) (f 92 48) p i) + 0)) 76 ((sS (f 132) (f 133) (f 142) (f 92 48) p i) + 0)) 77 ((pS (f 132) (f 133) (f 142) (f 92 48) p i) * p) (((pS (f 132) (f 133) (f 142) (f 92 48) p i) * p) + 0)))) ?_
          refine wq_run2 (pc' := 17) (L' := [(0, .ref 92), (1, .int p), (2, .int ((nI i) + 1))]) (S' := []) (f' := (up1 f 92 (upd (upd (upd (f 92) 75 ((pS (f 132) (f 133) (f 142) (f 92 48) p i) + 0)) 76 ((sS (f 132) (f 133) (f 142) (f 92 48) p i) + 0)) 77 (((pS (f 132) (f 133) (f 142) (f 92 48) p i) * p) + 0)))) rfl ?_
          have d0 := fun q => c_54 ((chc_0 hp).mpr q)
          have e1 : ((pS (f 132) (f 133) (f 142) (f 92 48) p i) + 0) = pS (f 132) (f 133) (f 142) (f 92 48) p (i + 1) := by
            conv => rhs; unfold pS
            rw [if_neg d0, Int32.add_zero]
          have e2 : ((sS (f 132) (f 133) (f 142) (f 92 48) p i) + 0) = sS (f 132) (f 133) (f 142) (f 92 48) p (i + 1) := by
            conv => rhs; unfold sS
            rw [if_neg d0, if_neg (fun q => c_74 ((chc_1 hp).mpr ⟨d0, q⟩)), Int32.add_zero]
          have e3 : (((pS (f 132) (f 133) (f 142) (f 92 48) p i) * p) + 0) = pS (f 132) (f 133) (f 142) (f 92 48) p (i + 1) * p := by
            conv => rhs; unfold pS
            rw [if_neg d0, Int32.add_zero]
          rw [e1, e2, e3, nI_1]
          exact ih (i + 1) (by omega) (by omega)
theorem mp_layYear (f : HI) {n : Nat} (hn8 : n ≤ 8) (hn2 : f 92 61 = nI n) {p : Int32} (hp : ¬ p = -1) : Sp 2 199 [.ref 92, .int p] f (RetV (up1 f 92 (upd (upd (upd (f 92) 75 (pS (f 132) (f 133) (f 142) (f 92 48) p n)) 76 (sS (f 132) (f 133) (f 142) (f 92 48) p n)) 77 (pS (f 132) (f 133) (f 142) (f 92 48) p n * p)))) := by
  show wq 2 199 _ 0 [(0, .ref 92), (1, .int p)] [] f
  refine wq_run2 (pc' := 2) (L' := [(0, .ref 92), (1, .int p)]) (S' := [.int 0, .ref 92]) (f' := f) rfl ?_
  refine wq_putI rfl rfl ?_
  refine wq_h (up2_eq1 f 92 75 0) ?_
  refine wq_run2 (pc' := 7) (L' := [(0, .ref 92), (1, .int p)]) (S' := [.int 0, .ref 92]) (f' := up1 f 92 (upd (f 92) 75 0)) rfl ?_
  refine wq_putI rfl rfl ?_
  refine wq_h (up2_up1_eq f 92 (upd (f 92) 75 0) 76 0) ?_
  refine wq_run2 (pc' := 12) (L' := [(0, .ref 92), (1, .int p)]) (S' := [.int 0, .ref 92]) (f' := up1 f 92 (upd (upd (f 92) 75 0) 76 0)) rfl ?_
  refine wq_putI rfl rfl ?_
  refine wq_h (up2_up1_eq f 92 (upd (upd (f 92) 75 0) 76 0) 77 0) ?_
  refine wq_run2 (pc' := 17) (L' := [(0, .ref 92), (1, .int p), (2, .int 0)]) (S' := []) (f' := up1 f 92 (upd (upd (upd (f 92) 75 0) 76 0) 77 0)) rfl ?_
  have h := mlp_year f hn8 hn2 hp (n - 0 + 1) 0 (Nat.zero_le _) (Nat.lt_succ_self _)
  rw [show pS (f 132) (f 133) (f 142) (f 92 48) p 0 = 0 from rfl, show sS (f 132) (f 133) (f 142) (f 92 48) p 0 = 0 from rfl, Int32.zero_mul] at h
  exact h
def mixR (g h : Nat → Int32) (i : Nat) : Nat → Int32 := fun j => if j < i then g j else h j
theorem mixR_0 (g h : Nat → Int32) : mixR g h 0 = h := by funext j; exact if_neg (Nat.not_lt_zero _)
theorem mixR_s {g h : Nat → Int32} {i : Nat} {v : Int32} (hv : v = g i) : upd (mixR g h i) i v = mixR g h (i + 1) := by
  funext j
  by_cases hj : j = i
  · subst hj; rw [upd_s, hv]; exact (if_pos (Nat.lt_succ_self _)).symm
  · rw [upd_n hj]
    unfold mixR
    by_cases h2 : j < i
    · rw [if_pos h2, if_pos (by omega)]
    · rw [if_neg h2, if_neg (by omega)]
theorem mixR_lt {g h : Nat → Int32} {i j : Nat} (hj : j < i) : mixR g h i j = g j := if_pos hj
theorem mixR_ge {g h : Nat → Int32} {i j : Nat} (hj : ¬ j < i) : mixR g h i j = h j := if_neg hj
theorem mlp_begin (f : HI) {n : Nat} (hn8 : n ≤ 8) (hn2 : f 92 61 = nI n) : ∀ (m9 : Nat) (i : Nat), i ≤ n → n - i < m9 → wq 1 201 (RetV (up1 f 142 (mixR (f 134) (f 142) n))) 2 [(0, .ref 92), (1, .int (nI i))] [] (up1 f 142 (mixR (f 134) (f 142) i)) := by
  intro m9
  induction m9 with
  | zero => intro i hin0 hn; exact absurd hn (Nat.not_lt_zero _)
  | succ m9 ih =>
    intro i hin0 hn
    refine wq_run3 (pc' := 7) (L' := [(0, .ref 92), (1, .int (nI i))]) (S' := [.int (f 92 61), .int (nI i)]) (f' := (up1 f 142 (mixR (f 134) (f 142) i))) rfl ?_
    refine wq_if (c := (f 92 61) ≤ (nI i)) (p1 := 28) (L1 := [(0, .ref 92), (1, .int (nI i))]) (S1 := []) (p2 := 10) (L2 := [(0, .ref 92), (1, .int (nI i))]) (S2 := []) rfl (fun c_7 => ?_) (fun c_7 => ?_)
    · have e : i = n := Nat.le_antisymm hin0 (Nat.not_lt.mp (fun q => absurd (show f 92 61 ≤ nI i from c_7) (by rw [hn2]; exact nI_ge q (by omega))))
      subst e
      exact wq_ret rfl ⟨rfl, rfl⟩
    · have hin : i < n := Nat.lt_of_not_le (fun q => c_7 (by show f 92 61 ≤ nI i; rw [hn2]; exact nI_le q (by omega)))
      have hi8 : i < 8 := by omega
      refine wq_run6 (pc' := 20) (L' := [(0, .ref 92), (1, .int (nI i))]) (S' := [.int (nI i), .ref 134, .int (nI i), .ref 142]) (f' := (up1 f 142 (mixR (f 134) (f 142) i))) rfl ?_
      refine wq_ald (j := i) (n := 8) (v := (f 134 i)) rfl rfl rfl rfl hi8 (Nat.le_of_ble_eq_true rfl) rfl ?_
      refine wq_ist (j := i) (n := 8) rfl rfl rfl rfl hi8 (Nat.le_of_ble_eq_true rfl) ?_
      refine wq_h (f' := (up1 f 142 (upd (mixR (f 134) (f 142) i) i (f 134 i)))) ((up2_up1_eq f 142 (mixR (f 134) (f 142) i) i (f 134 i)).trans (congrArg (fun z => up1 f 142 z) (rfl))) ?_
      refine wq_run2 (pc' := 2) (L' := [(0, .ref 92), (1, .int ((nI i) + 1))]) (S' := []) (f' := (up1 f 142 (upd (mixR (f 134) (f 142) i) i (f 134 i)))) rfl ?_
      rw [mixR_s (g := f 134) rfl, nI_1]
      exact ih (i + 1) (by omega) (by omega)
theorem mp_beginYears (f : HI) {n : Nat} (hn8 : n ≤ 8) (hn2 : f 92 61 = nI n) : Sp 1 201 [.ref 92] f (RetV (up1 f 142 (mixR (f 134) (f 142) n))) := by
  show wq 1 201 _ 0 [(0, .ref 92)] [] f
  refine wq_run2 (pc' := 2) (L' := [(0, .ref 92), (1, .int 0)]) (S' := []) (f' := f) rfl ?_
  have h := mlp_begin f hn8 hn2 (n - 0 + 1) 0 (Nat.zero_le _) (Nat.lt_succ_self _)
  rw [mixR_0, up1_id] at h
  exact h
theorem mlp_grow (f : HI) {n : Nat} (hn8 : n ≤ 8) (hn2 : f 92 61 = nI n) {p : Int32} (hp : ¬ p = -1) : ∀ (m9 : Nat) (i : Nat), i ≤ n → n - i < m9 → wq 2 202 (RetV (up1 f 142 (mixR (nT (f 133) (f 142) (f 92 48) (f 92 46) p) (f 142) n))) 2 [(0, .ref 92), (1, .int p), (2, .int (nI i))] [] (up1 f 142 (mixR (nT (f 133) (f 142) (f 92 48) (f 92 46) p) (f 142) i)) := by
  intro m9
  induction m9 with
  | zero => intro i hin0 hn; exact absurd hn (Nat.not_lt_zero _)
  | succ m9 ih =>
    intro i hin0 hn
    refine wq_run3 (pc' := 7) (L' := [(0, .ref 92), (1, .int p), (2, .int (nI i))]) (S' := [.int (f 92 61), .int (nI i)]) (f' := (up1 f 142 (mixR (nT (f 133) (f 142) (f 92 48) (f 92 46) p) (f 142) i))) rfl ?_
    refine wq_if (c := (f 92 61) ≤ (nI i)) (p1 := 90) (L1 := [(0, .ref 92), (1, .int p), (2, .int (nI i))]) (S1 := []) (p2 := 10) (L2 := [(0, .ref 92), (1, .int p), (2, .int (nI i))]) (S2 := []) rfl (fun c_7 => ?_) (fun c_7 => ?_)
    · have e : i = n := Nat.le_antisymm hin0 (Nat.not_lt.mp (fun q => absurd (show f 92 61 ≤ nI i from c_7) (by rw [hn2]; exact nI_ge q (by omega))))
      subst e
      exact wq_ret rfl ⟨rfl, rfl⟩
    · have hin : i < n := Nat.lt_of_not_le (fun q => c_7 (by show f 92 61 ≤ nI i; rw [hn2]; exact nI_le q (by omega)))
      have hi8 : i < 8 := by omega
      refine wq_run3 (pc' := 13) (L' := [(0, .ref 92), (1, .int p), (2, .int (nI i))]) (S' := [.int p, .int (nI i), .ref 92]) (f' := (up1 f 142 (mixR (nT (f 133) (f 142) (f 92 48) (f 92 46) p) (f 142) i))) rfl ?_
      refine wq_callI (r := (chc (f 133) (f 92 48) i p)) (mp_choice (up1 f 142 (mixR (nT (f 133) (f 142) (f 92 48) (f 92 46) p) (f 142) i)) (w := i) hi8 p) (Nat.le_of_ble_eq_true rfl) (pc' := 16) (L' := [(0, .ref 92), (1, .int p), (2, .int (nI i))]) (S' := []) rfl (Nat.le_of_ble_eq_true rfl) rfl rfl (Nat.le_of_ble_eq_true rfl) (Nat.le_of_ble_eq_true rfl) ?_
      refine wq_run5 (pc' := 23) (L' := [(0, .ref 92), (1, .int p), (2, .int (nI i)), (3, .int (chc (f 133) (f 92 48) i p))]) (S' := [.int (chc (f 133) (f 92 48) i p), .int (nI i), .ref 142]) (f' := (up1 f 142 (mixR (nT (f 133) (f 142) (f 92 48) (f 92 46) p) (f 142) i))) rfl ?_
      refine wq_if (c := (chc (f 133) (f 92 48) i p) = 0) (p1 := 26) (L1 := [(0, .ref 92), (1, .int p), (2, .int (nI i)), (3, .int (chc (f 133) (f 92 48) i p))]) (S1 := [.int (nI i), .ref 142]) (p2 := 57) (L2 := [(0, .ref 92), (1, .int p), (2, .int (nI i)), (3, .int (chc (f 133) (f 92 48) i p))]) (S2 := [.int (nI i), .ref 142]) rfl (fun c_23 => ?_) (fun c_23 => ?_)
      · refine wq_run4 (pc' := 32) (L' := [(0, .ref 92), (1, .int p), (2, .int (nI i)), (3, .int (chc (f 133) (f 92 48) i p))]) (S' := [.int (nI i), .ref 133, .int p, .int (nI i), .ref 142]) (f' := (up1 f 142 (mixR (nT (f 133) (f 142) (f 92 48) (f 92 46) p) (f 142) i))) rfl ?_
        refine wq_ald (j := i) (n := 8) (v := (f 133 i)) rfl rfl rfl rfl hi8 (Nat.le_of_ble_eq_true rfl) rfl ?_
        refine wq_run1 (pc' := 34) (L' := [(0, .ref 92), (1, .int p), (2, .int (nI i)), (3, .int (chc (f 133) (f 92 48) i p))]) (S' := [.int 2, .int (f 133 i), .int p, .int (nI i), .ref 142]) (f' := (up1 f 142 (mixR (nT (f 133) (f 142) (f 92 48) (f 92 46) p) (f 142) i))) rfl ?_
        refine wq_div rfl (by decide) ?_
        refine wq_if (c := ((f 133 i) / 2) < p) (p1 := 57) (L1 := [(0, .ref 92), (1, .int p), (2, .int (nI i)), (3, .int (chc (f 133) (f 92 48) i p))]) (S1 := [.int (nI i), .ref 142]) (p2 := 38) (L2 := [(0, .ref 92), (1, .int p), (2, .int (nI i)), (3, .int (chc (f 133) (f 92 48) i p))]) (S2 := [.int (nI i), .ref 142]) rfl (fun c_35 => ?_) (fun c_35 => ?_)
        · refine wq_run2 (pc' := 59) (L' := [(0, .ref 92), (1, .int p), (2, .int (nI i)), (3, .int (chc (f 133) (f 92 48) i p))]) (S' := [.int 2, .int (chc (f 133) (f 92 48) i p), .int (nI i), .ref 142]) (f' := (up1 f 142 (mixR (nT (f 133) (f 142) (f 92 48) (f 92 46) p) (f 142) i))) rfl ?_
          refine wq_if (c := (chc (f 133) (f 92 48) i p) = 2) (p1 := 62) (L1 := [(0, .ref 92), (1, .int p), (2, .int (nI i)), (3, .int (chc (f 133) (f 92 48) i p))]) (S1 := [.int (nI i), .ref 142]) (p2 := 77) (L2 := [(0, .ref 92), (1, .int p), (2, .int (nI i)), (3, .int (chc (f 133) (f 92 48) i p))]) (S2 := [.int (nI i), .ref 142]) rfl (fun q => absurd q (show ¬ chc (f 133) (f 92 48) i p = 2 from fun q => absurd (c_23.symm.trans q) (by decide))) (fun _ => ?_)
          refine wq_run3 (pc' := 82) (L' := [(0, .ref 92), (1, .int p), (2, .int (nI i)), (3, .int (chc (f 133) (f 92 48) i p))]) (S' := [.int (nI i), .ref 142, .int (nI i), .ref 142]) (f' := (up1 f 142 (mixR (nT (f 133) (f 142) (f 92 48) (f 92 46) p) (f 142) i))) rfl ?_
          refine wq_ald (j := i) (n := 8) (v := (f 142 i)) rfl rfl rfl rfl hi8 (Nat.le_of_ble_eq_true rfl) (mixR_ge (Nat.lt_irrefl _)) ?_
          refine wq_ist (j := i) (n := 8) rfl rfl rfl rfl hi8 (Nat.le_of_ble_eq_true rfl) ?_
          refine wq_h (f' := (up1 f 142 (upd (mixR (nT (f 133) (f 142) (f 92 48) (f 92 46) p) (f 142) i) i (f 142 i)))) ((up2_up1_eq f 142 (mixR (nT (f 133) (f 142) (f 92 48) (f 92 46) p) (f 142) i) i (f 142 i)).trans (congrArg (fun z => up1 f 142 z) (rfl))) ?_
          refine wq_run2 (pc' := 2) (L' := [(0, .ref 92), (1, .int p), (2, .int ((nI i) + 1))]) (S' := []) (f' := (up1 f 142 (upd (mixR (nT (f 133) (f 142) (f 92 48) (f 92 46) p) (f 142) i) i (f 142 i)))) rfl ?_
          have e1 : (f 142 i) = nT (f 133) (f 142) (f 92 48) (f 92 46) p i := by
            unfold nT
            rw [if_pos ((chc_0 hp).mp c_23), if_neg (Int32.not_le.mpr c_35)]
          rw [mixR_s e1, nI_1]
          exact ih (i + 1) (by omega) (by omega)
        · refine wq_run4 (pc' := 45) (L' := [(0, .ref 92), (1, .int p), (2, .int (nI i)), (3, .int (chc (f 133) (f 92 48) i p))]) (S' := [.int (nI i), .ref 142, .int 60, .int (nI i), .ref 142]) (f' := (up1 f 142 (mixR (nT (f 133) (f 142) (f 92 48) (f 92 46) p) (f 142) i))) rfl ?_
          refine wq_ald (j := i) (n := 8) (v := (f 142 i)) rfl rfl rfl rfl hi8 (Nat.le_of_ble_eq_true rfl) (mixR_ge (Nat.lt_irrefl _)) ?_
          refine wq_run3 (pc' := 51) (L' := [(0, .ref 92), (1, .int p), (2, .int (nI i)), (3, .int (chc (f 133) (f 92 48) i p))]) (S' := [.int ((f 142 i) + (f 92 46)), .int 60, .int (nI i), .ref 142]) (f' := (up1 f 142 (mixR (nT (f 133) (f 142) (f 92 48) (f 92 46) p) (f 142) i))) rfl ?_
          refine wq_callI (r := (imin 60 ((f 142 i) + (f 92 46)))) (mp_least (up1 f 142 (mixR (nT (f 133) (f 142) (f 92 48) (f 92 46) p) (f 142) i)) 60 ((f 142 i) + (f 92 46))) (Nat.le_of_ble_eq_true rfl) (pc' := 54) (L' := [(0, .ref 92), (1, .int p), (2, .int (nI i)), (3, .int (chc (f 133) (f 92 48) i p))]) (S' := [.int (nI i), .ref 142]) rfl (Nat.le_of_ble_eq_true rfl) rfl rfl (Nat.le_of_ble_eq_true rfl) (Nat.le_of_ble_eq_true rfl) ?_
          refine wq_run1 (pc' := 83) (L' := [(0, .ref 92), (1, .int p), (2, .int (nI i)), (3, .int (chc (f 133) (f 92 48) i p))]) (S' := [.int (imin 60 ((f 142 i) + (f 92 46))), .int (nI i), .ref 142]) (f' := (up1 f 142 (mixR (nT (f 133) (f 142) (f 92 48) (f 92 46) p) (f 142) i))) rfl ?_
          refine wq_ist (j := i) (n := 8) rfl rfl rfl rfl hi8 (Nat.le_of_ble_eq_true rfl) ?_
          refine wq_h (f' := (up1 f 142 (upd (mixR (nT (f 133) (f 142) (f 92 48) (f 92 46) p) (f 142) i) i (imin 60 ((f 142 i) + (f 92 46)))))) ((up2_up1_eq f 142 (mixR (nT (f 133) (f 142) (f 92 48) (f 92 46) p) (f 142) i) i (imin 60 ((f 142 i) + (f 92 46)))).trans (congrArg (fun z => up1 f 142 z) (rfl))) ?_
          refine wq_run2 (pc' := 2) (L' := [(0, .ref 92), (1, .int p), (2, .int ((nI i) + 1))]) (S' := []) (f' := (up1 f 142 (upd (mixR (nT (f 133) (f 142) (f 92 48) (f 92 46) p) (f 142) i) i (imin 60 ((f 142 i) + (f 92 46)))))) rfl ?_
          have e1 : (imin 60 ((f 142 i) + (f 92 46))) = nT (f 133) (f 142) (f 92 48) (f 92 46) p i := by
            unfold nT
            rw [if_pos ((chc_0 hp).mp c_23), if_pos (Int32.not_lt.mp c_35)]
          rw [mixR_s e1, nI_1]
          exact ih (i + 1) (by omega) (by omega)
      · refine wq_run2 (pc' := 59) (L' := [(0, .ref 92), (1, .int p), (2, .int (nI i)), (3, .int (chc (f 133) (f 92 48) i p))]) (S' := [.int 2, .int (chc (f 133) (f 92 48) i p), .int (nI i), .ref 142]) (f' := (up1 f 142 (mixR (nT (f 133) (f 142) (f 92 48) (f 92 46) p) (f 142) i))) rfl ?_
        refine wq_if (c := (chc (f 133) (f 92 48) i p) = 2) (p1 := 62) (L1 := [(0, .ref 92), (1, .int p), (2, .int (nI i)), (3, .int (chc (f 133) (f 92 48) i p))]) (S1 := [.int (nI i), .ref 142]) (p2 := 77) (L2 := [(0, .ref 92), (1, .int p), (2, .int (nI i)), (3, .int (chc (f 133) (f 92 48) i p))]) (S2 := [.int (nI i), .ref 142]) rfl (fun c_59 => ?_) (fun c_59 => ?_)
        · refine wq_run4 (pc' := 68) (L' := [(0, .ref 92), (1, .int p), (2, .int (nI i)), (3, .int (chc (f 133) (f 92 48) i p))]) (S' := [.int (nI i), .ref 142, .int 0, .int (nI i), .ref 142]) (f' := (up1 f 142 (mixR (nT (f 133) (f 142) (f 92 48) (f 92 46) p) (f 142) i))) rfl ?_
          refine wq_ald (j := i) (n := 8) (v := (f 142 i)) rfl rfl rfl rfl hi8 (Nat.le_of_ble_eq_true rfl) (mixR_ge (Nat.lt_irrefl _)) ?_
          refine wq_run2 (pc' := 71) (L' := [(0, .ref 92), (1, .int p), (2, .int (nI i)), (3, .int (chc (f 133) (f 92 48) i p))]) (S' := [.int ((f 142 i) - 1), .int 0, .int (nI i), .ref 142]) (f' := (up1 f 142 (mixR (nT (f 133) (f 142) (f 92 48) (f 92 46) p) (f 142) i))) rfl ?_
          refine wq_callI (r := (imax 0 ((f 142 i) - 1))) (mp_most (up1 f 142 (mixR (nT (f 133) (f 142) (f 92 48) (f 92 46) p) (f 142) i)) 0 ((f 142 i) - 1)) (Nat.le_of_ble_eq_true rfl) (pc' := 74) (L' := [(0, .ref 92), (1, .int p), (2, .int (nI i)), (3, .int (chc (f 133) (f 92 48) i p))]) (S' := [.int (nI i), .ref 142]) rfl (Nat.le_of_ble_eq_true rfl) rfl rfl (Nat.le_of_ble_eq_true rfl) (Nat.le_of_ble_eq_true rfl) ?_
          refine wq_run1 (pc' := 83) (L' := [(0, .ref 92), (1, .int p), (2, .int (nI i)), (3, .int (chc (f 133) (f 92 48) i p))]) (S' := [.int (imax 0 ((f 142 i) - 1)), .int (nI i), .ref 142]) (f' := (up1 f 142 (mixR (nT (f 133) (f 142) (f 92 48) (f 92 46) p) (f 142) i))) rfl ?_
          refine wq_ist (j := i) (n := 8) rfl rfl rfl rfl hi8 (Nat.le_of_ble_eq_true rfl) ?_
          refine wq_h (f' := (up1 f 142 (upd (mixR (nT (f 133) (f 142) (f 92 48) (f 92 46) p) (f 142) i) i (imax 0 ((f 142 i) - 1))))) ((up2_up1_eq f 142 (mixR (nT (f 133) (f 142) (f 92 48) (f 92 46) p) (f 142) i) i (imax 0 ((f 142 i) - 1))).trans (congrArg (fun z => up1 f 142 z) (rfl))) ?_
          refine wq_run2 (pc' := 2) (L' := [(0, .ref 92), (1, .int p), (2, .int ((nI i) + 1))]) (S' := []) (f' := (up1 f 142 (upd (mixR (nT (f 133) (f 142) (f 92 48) (f 92 46) p) (f 142) i) i (imax 0 ((f 142 i) - 1))))) rfl ?_
          have e1 : (imax 0 ((f 142 i) - 1)) = nT (f 133) (f 142) (f 92 48) (f 92 46) p i := by
            unfold nT
            rw [if_neg ((chc_2 hp).mp c_59).1, if_neg ((chc_2 hp).mp c_59).2]
          rw [mixR_s e1, nI_1]
          exact ih (i + 1) (by omega) (by omega)
        · refine wq_run3 (pc' := 82) (L' := [(0, .ref 92), (1, .int p), (2, .int (nI i)), (3, .int (chc (f 133) (f 92 48) i p))]) (S' := [.int (nI i), .ref 142, .int (nI i), .ref 142]) (f' := (up1 f 142 (mixR (nT (f 133) (f 142) (f 92 48) (f 92 46) p) (f 142) i))) rfl ?_
          refine wq_ald (j := i) (n := 8) (v := (f 142 i)) rfl rfl rfl rfl hi8 (Nat.le_of_ble_eq_true rfl) (mixR_ge (Nat.lt_irrefl _)) ?_
          refine wq_ist (j := i) (n := 8) rfl rfl rfl rfl hi8 (Nat.le_of_ble_eq_true rfl) ?_
          refine wq_h (f' := (up1 f 142 (upd (mixR (nT (f 133) (f 142) (f 92 48) (f 92 46) p) (f 142) i) i (f 142 i)))) ((up2_up1_eq f 142 (mixR (nT (f 133) (f 142) (f 92 48) (f 92 46) p) (f 142) i) i (f 142 i)).trans (congrArg (fun z => up1 f 142 z) (rfl))) ?_
          refine wq_run2 (pc' := 2) (L' := [(0, .ref 92), (1, .int p), (2, .int ((nI i) + 1))]) (S' := []) (f' := (up1 f 142 (upd (mixR (nT (f 133) (f 142) (f 92 48) (f 92 46) p) (f 142) i) i (f 142 i)))) rfl ?_
          have e1 : (f 142 i) = nT (f 133) (f 142) (f 92 48) (f 92 46) p i := by
            unfold nT
            have d0 : ¬ pst (f 133) (f 92 48) i p := fun q => c_23 ((chc_0 hp).mpr q)
            have d1 : smg (f 133) (f 92 48) i := Decidable.of_not_not (fun q => c_59 ((chc_2 hp).mpr ⟨d0, q⟩))
            rw [if_neg d0, if_pos d1]
          rw [mixR_s e1, nI_1]
          exact ih (i + 1) (by omega) (by omega)
theorem mp_growBy (f : HI) {n : Nat} (hn8 : n ≤ 8) (hn2 : f 92 61 = nI n) {p : Int32} (hp : ¬ p = -1) : Sp 2 202 [.ref 92, .int p] f (RetV (up1 f 142 (mixR (nT (f 133) (f 142) (f 92 48) (f 92 46) p) (f 142) n))) := by
  show wq 2 202 _ 0 [(0, .ref 92), (1, .int p)] [] f
  refine wq_run2 (pc' := 2) (L' := [(0, .ref 92), (1, .int p), (2, .int 0)]) (S' := []) (f' := f) rfl ?_
  have h := mlp_grow f hn8 hn2 hp (n - 0 + 1) 0 (Nat.zero_le _) (Nat.lt_succ_self _)
  rw [mixR_0, up1_id] at h
  exact h
