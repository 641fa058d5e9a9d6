/-! acts -/
theorem act_O {f : HI} {i : Nat} (h : i < 5) : isO (K0, f) (18 + 5 * i) 0 = true := by
  match i, h with
  | 0, _ => rfl
  | 1, _ => rfl
  | 2, _ => rfl
  | 3, _ => rfl
  | 4, _ => rfl
  | i + 5, h => exact absurd h (by omega)
theorem act_0 {i : Nat} (h : i < 5) : rvT (18 + 5 * i) 0 = some (19 + 5 * i) := by
  match i, h with
  | 0, _ => rfl
  | 1, _ => rfl
  | 2, _ => rfl
  | 3, _ => rfl
  | 4, _ => rfl
  | i + 5, h => exact absurd h (by omega)
theorem actA_0 {f : HI} {i : Nat} (h : i < 5) : isA (K0, f) (19 + 5 * i) 1 = true := by
  match i, h with
  | 0, _ => rfl
  | 1, _ => rfl
  | 2, _ => rfl
  | 3, _ => rfl
  | 4, _ => rfl
  | i + 5, h => exact absurd h (by omega)
theorem actN_0 {f : HI} {i : Nat} (h : i < 5) : (kH (K0, f) (19 + 5 * i)).2 = 8 := by
  match i, h with
  | 0, _ => rfl
  | 1, _ => rfl
  | 2, _ => rfl
  | 3, _ => rfl
  | 4, _ => rfl
  | i + 5, h => exact absurd h (by omega)
theorem act_1 {i : Nat} (h : i < 5) : rvT (18 + 5 * i) 1 = some (20 + 5 * i) := by
  match i, h with
  | 0, _ => rfl
  | 1, _ => rfl
  | 2, _ => rfl
  | 3, _ => rfl
  | 4, _ => rfl
  | i + 5, h => exact absurd h (by omega)
theorem actA_1 {f : HI} {i : Nat} (h : i < 5) : isA (K0, f) (20 + 5 * i) 1 = true := by
  match i, h with
  | 0, _ => rfl
  | 1, _ => rfl
  | 2, _ => rfl
  | 3, _ => rfl
  | 4, _ => rfl
  | i + 5, h => exact absurd h (by omega)
theorem actN_1 {f : HI} {i : Nat} (h : i < 5) : (kH (K0, f) (20 + 5 * i)).2 = 8 := by
  match i, h with
  | 0, _ => rfl
  | 1, _ => rfl
  | 2, _ => rfl
  | 3, _ => rfl
  | 4, _ => rfl
  | i + 5, h => exact absurd h (by omega)
theorem act_2 {i : Nat} (h : i < 5) : rvT (18 + 5 * i) 2 = some (21 + 5 * i) := by
  match i, h with
  | 0, _ => rfl
  | 1, _ => rfl
  | 2, _ => rfl
  | 3, _ => rfl
  | 4, _ => rfl
  | i + 5, h => exact absurd h (by omega)
theorem actA_2 {f : HI} {i : Nat} (h : i < 5) : isA (K0, f) (21 + 5 * i) 1 = true := by
  match i, h with
  | 0, _ => rfl
  | 1, _ => rfl
  | 2, _ => rfl
  | 3, _ => rfl
  | 4, _ => rfl
  | i + 5, h => exact absurd h (by omega)
theorem actN_2 {f : HI} {i : Nat} (h : i < 5) : (kH (K0, f) (21 + 5 * i)).2 = 8 := by
  match i, h with
  | 0, _ => rfl
  | 1, _ => rfl
  | 2, _ => rfl
  | 3, _ => rfl
  | 4, _ => rfl
  | i + 5, h => exact absurd h (by omega)
theorem act_5 {i : Nat} (h : i < 5) : rvT (18 + 5 * i) 5 = some (22 + 5 * i) := by
  match i, h with
  | 0, _ => rfl
  | 1, _ => rfl
  | 2, _ => rfl
  | 3, _ => rfl
  | 4, _ => rfl
  | i + 5, h => exact absurd h (by omega)
theorem actA_5 {f : HI} {i : Nat} (h : i < 5) : isA (K0, f) (22 + 5 * i) 1 = true := by
  match i, h with
  | 0, _ => rfl
  | 1, _ => rfl
  | 2, _ => rfl
  | 3, _ => rfl
  | 4, _ => rfl
  | i + 5, h => exact absurd h (by omega)
theorem actN_5 {f : HI} {i : Nat} (h : i < 5) : (kH (K0, f) (22 + 5 * i)).2 = 10 := by
  match i, h with
  | 0, _ => rfl
  | 1, _ => rfl
  | 2, _ => rfl
  | 3, _ => rfl
  | 4, _ => rfl
  | i + 5, h => exact absurd h (by omega)
theorem acts_at {i : Nat} (h : i < 5) : rvT 17 i = some (18 + 5 * i) := by
  match i, h with
  | 0, _ => rfl
  | 1, _ => rfl
  | 2, _ => rfl
  | 3, _ => rfl
  | 4, _ => rfl
  | i + 5, h => exact absurd h (by omega)
theorem let_O {f : HI} {i : Nat} (h : i < 24) : isO (K0, f) (47 + i) 3 = true := by
  match i, h with
  | 0, _ => rfl
  | 1, _ => rfl
  | 2, _ => rfl
  | 3, _ => rfl
  | 4, _ => rfl
  | 5, _ => rfl
  | 6, _ => rfl
  | 7, _ => rfl
  | 8, _ => rfl
  | 9, _ => rfl
  | 10, _ => rfl
  | 11, _ => rfl
  | 12, _ => rfl
  | 13, _ => rfl
  | 14, _ => rfl
  | 15, _ => rfl
  | 16, _ => rfl
  | 17, _ => rfl
  | 18, _ => rfl
  | 19, _ => rfl
  | 20, _ => rfl
  | 21, _ => rfl
  | 22, _ => rfl
  | 23, _ => rfl
  | i + 24, h => exact absurd h (by omega)
theorem lets_at {i : Nat} (h : i < 24) : rvT 44 i = some (47 + i) := by
  match i, h with
  | 0, _ => rfl
  | 1, _ => rfl
  | 2, _ => rfl
  | 3, _ => rfl
  | 4, _ => rfl
  | 5, _ => rfl
  | 6, _ => rfl
  | 7, _ => rfl
  | 8, _ => rfl
  | 9, _ => rfl
  | 10, _ => rfl
  | 11, _ => rfl
  | 12, _ => rfl
  | 13, _ => rfl
  | 14, _ => rfl
  | 15, _ => rfl
  | 16, _ => rfl
  | 17, _ => rfl
  | 18, _ => rfl
  | 19, _ => rfl
  | 20, _ => rfl
  | 21, _ => rfl
  | 22, _ => rfl
  | 23, _ => rfl
  | i + 24, h => exact absurd h (by omega)
theorem oCallV_e {mid ci k n pc b : Nat} {X : CX} {L : IL} {S as s : List Value} {h : Hp} (hp : pops k [] S = some (as, .ref b :: s)) (hO : isO h b ci = true) : oCallV mid ci k n X (pc, L, S) h = some (.inr (.inr (mid, .ref b :: as, (n, L, s)))) := by
  unfold oCallV
  dsimp only
  rw [hp]
  dsimp only
  rw [hO]
def oA (p : Nat → Bool) : Option Nat → Bool
  | none => true
  | some b => p b
/-- clauses: the to clause for x miles, the first over, the widest to, the first weigh -/
def bTo (K M : Nat → Int32) (x : Int32) : Nat → Option Nat
  | 0 => none
  | c + 1 => if K c = 0 ∧ x ≤ M c ∧ oA (fun b => decide (M c < M b)) (bTo K M x c) = true then some c else bTo K M x c
def fOv (q : Int32) (K : Nat → Int32) : Nat → Option Nat
  | 0 => none
  | c + 1 => if K c = q ∧ fOv q K c = none then some c else fOv q K c
def wTo (K M : Nat → Int32) : Nat → Option Nat
  | 0 => none
  | c + 1 => if K c = 0 ∧ oA (fun b => decide (M b < M c)) (wTo K M c) = true then some c else wTo K M c
theorem bTo_y {K M : Nat → Int32} {x : Int32} {c : Nat} (h : K c = 0 ∧ x ≤ M c ∧ oA (fun b => decide (M c < M b)) (bTo K M x c) = true) : bTo K M x (c + 1) = some c := by rw [bTo]; exact if_pos h
theorem bTo_z {K M : Nat → Int32} {x : Int32} {c : Nat} (h : ¬ (K c = 0 ∧ x ≤ M c ∧ oA (fun b => decide (M c < M b)) (bTo K M x c) = true)) : bTo K M x (c + 1) = bTo K M x c := by rw [bTo]; exact if_neg h
theorem fOv_y {q : Int32} {K : Nat → Int32} {c : Nat} (h : K c = q ∧ fOv q K c = none) : fOv q K (c + 1) = some c := by rw [fOv]; exact if_pos h
theorem fOv_z {q : Int32} {K : Nat → Int32} {c : Nat} (h : ¬ (K c = q ∧ fOv q K c = none)) : fOv q K (c + 1) = fOv q K c := by rw [fOv]; exact if_neg h
theorem wTo_y {K M : Nat → Int32} {c : Nat} (h : K c = 0 ∧ oA (fun b => decide (M b < M c)) (wTo K M c) = true) : wTo K M (c + 1) = some c := by rw [wTo]; exact if_pos h
theorem wTo_z {K M : Nat → Int32} {c : Nat} (h : ¬ (K c = 0 ∧ oA (fun b => decide (M b < M c)) (wTo K M c) = true)) : wTo K M (c + 1) = wTo K M c := by rw [wTo]; exact if_neg h
theorem bTo_lt {K M : Nat → Int32} {x : Int32} : ∀ {c b : Nat}, bTo K M x c = some b → b < c := by
  intro c
  induction c with
  | zero => intro b h; cases h
  | succ c ih =>
    intro b h
    rw [bTo] at h
    split at h
    · cases h; omega
    · have := ih h; omega
theorem fOv_lt {q : Int32} {K : Nat → Int32} : ∀ {c b : Nat}, fOv q K c = some b → b < c := by
  intro c
  induction c with
  | zero => intro b h; cases h
  | succ c ih =>
    intro b h
    rw [fOv] at h
    split at h
    · cases h; omega
    · have := ih h; omega
theorem wTo_lt {K M : Nat → Int32} : ∀ {c b : Nat}, wTo K M c = some b → b < c := by
  intro c
  induction c with
  | zero => intro b h; cases h
  | succ c ih =>
    intro b h
    rw [wTo] at h
    split at h
    · cases h; omega
    · have := ih h; omega
theorem obI_0 {o : Option Nat} {n : Nat} (hn : n ≤ 2 ^ 31) (h : ∀ b, o = some b → b < n) : obI o = -1 ↔ o = none := by
  cases o with
  | none => exact ⟨fun _ => rfl, fun _ => rfl⟩
  | some b =>
    refine ⟨fun e => ?_, fun e => by cases e⟩
    have h2 := nI_pos' (n := b) (by have := h b rfl; omega)
    rw [show nI b = -1 from e] at h2
    exact absurd h2 (by decide)
theorem bTo_0 {K M : Nat → Int32} {x : Int32} {c : Nat} (hc : c ≤ 8) : obI (bTo K M x c) = -1 ↔ bTo K M x c = none := obI_0 (n := c) (by omega) (fun _ h => bTo_lt h)
theorem fOv_0 {q : Int32} {K : Nat → Int32} {c : Nat} (hc : c ≤ 8) : obI (fOv q K c) = -1 ↔ fOv q K c = none := obI_0 (n := c) (by omega) (fun _ h => fOv_lt h)
theorem wTo_0 {K M : Nat → Int32} {c : Nat} (hc : c ≤ 8) : obI (wTo K M c) = -1 ↔ wTo K M c = none := obI_0 (n := c) (by omega) (fun _ h => wTo_lt h)
/-- the clause for x miles -/
def clA (K M : Nat → Int32) (x : Int32) (n : Nat) : Option Nat := if bTo K M x n = none then fOv 1 K n else bTo K M x n
theorem lp_clauseFor (f : HI) (x : Int32) {a n : Nat} (ha : a < 5) (hn2 : f (18 + 5 * a) 3 = nI n) (hn8 : n ≤ 8) : ∀ (m9 : Nat) (c : Nat), (c ≤ n) → n - c < m9 → wq 1 2 (Ret (obI (clA (f (19 + 5 * a)) (f (20 + 5 * a)) x n)) f) 7 [(0, .ref (18 + 5 * a)), (1, .int x), (2, .int (obI (bTo (f (19 + 5 * a)) (f (20 + 5 * a)) x c))), (3, .int (obI (fOv 1 (f (19 + 5 * a)) c))), (4, .int (nI c))] [] f := by
  intro m9
  induction m9 with
  | zero => intro c hc0 hn; exact absurd hn (Nat.not_lt_zero _)
  | succ m9 ih =>
    intro c hc0 hn
    refine wq_run2 (pc' := 10) (L' := [(0, .ref (18 + 5 * a)), (1, .int x), (2, .int (obI (bTo (f (19 + 5 * a)) (f (20 + 5 * a)) x c))), (3, .int (obI (fOv 1 (f (19 + 5 * a)) c))), (4, .int (nI c))]) (S' := [.ref (18 + 5 * a), .int (nI c)]) (f' := f) rfl ?_
    refine wq_getI (v := (f (18 + 5 * a) 3)) rfl (act_O ha) rfl ?_
    refine wq_if (c := (f (18 + 5 * a) 3) ≤ (nI c)) (p1 := 86) (L1 := [(0, .ref (18 + 5 * a)), (1, .int x), (2, .int (obI (bTo (f (19 + 5 * a)) (f (20 + 5 * a)) x c))), (3, .int (obI (fOv 1 (f (19 + 5 * a)) c))), (4, .int (nI c))]) (S1 := []) (p2 := 16) (L2 := [(0, .ref (18 + 5 * a)), (1, .int x), (2, .int (obI (bTo (f (19 + 5 * a)) (f (20 + 5 * a)) x c))), (3, .int (obI (fOv 1 (f (19 + 5 * a)) c))), (4, .int (nI c))]) (S2 := []) rfl (fun c_13 => ?_) (fun c_13 => ?_)
    · have e : c = n := Nat.le_antisymm hc0 (Nat.not_lt.mp (fun q => absurd (show f (18 + 5 * a) 3 ≤ nI c from c_13) (by rw [hn2]; exact nI_ge q (by omega))))
      refine wq_run2 (pc' := 88) (L' := [(0, .ref (18 + 5 * a)), (1, .int x), (2, .int (obI (bTo (f (19 + 5 * a)) (f (20 + 5 * a)) x c))), (3, .int (obI (fOv 1 (f (19 + 5 * a)) c))), (4, .int (nI c))]) (S' := [.int (-1), .int (obI (bTo (f (19 + 5 * a)) (f (20 + 5 * a)) x c))]) (f' := f) rfl ?_
      refine wq_if (c := (obI (bTo (f (19 + 5 * a)) (f (20 + 5 * a)) x c)) = (-1)) (p1 := 91) (L1 := [(0, .ref (18 + 5 * a)), (1, .int x), (2, .int (obI (bTo (f (19 + 5 * a)) (f (20 + 5 * a)) x c))), (3, .int (obI (fOv 1 (f (19 + 5 * a)) c))), (4, .int (nI c))]) (S1 := []) (p2 := 95) (L2 := [(0, .ref (18 + 5 * a)), (1, .int x), (2, .int (obI (bTo (f (19 + 5 * a)) (f (20 + 5 * a)) x c))), (3, .int (obI (fOv 1 (f (19 + 5 * a)) c))), (4, .int (nI c))]) (S2 := []) rfl (fun c_88 => ?_) (fun c_88 => ?_)
      · refine wq_run2 (pc' := 96) (L' := [(0, .ref (18 + 5 * a)), (1, .int x), (2, .int (obI (bTo (f (19 + 5 * a)) (f (20 + 5 * a)) x c))), (3, .int (obI (fOv 1 (f (19 + 5 * a)) c))), (4, .int (nI c))]) (S' := [.int (obI (fOv 1 (f (19 + 5 * a)) c))]) (f' := f) rfl ?_
        rw [e] at *
        exact wq_ret rfl ⟨by rw [clA, if_pos ((bTo_0 hn8).mp c_88)], rfl⟩
      · refine wq_run1 (pc' := 96) (L' := [(0, .ref (18 + 5 * a)), (1, .int x), (2, .int (obI (bTo (f (19 + 5 * a)) (f (20 + 5 * a)) x c))), (3, .int (obI (fOv 1 (f (19 + 5 * a)) c))), (4, .int (nI c))]) (S' := [.int (obI (bTo (f (19 + 5 * a)) (f (20 + 5 * a)) x c))]) (f' := f) rfl ?_
        rw [e] at *
        exact wq_ret rfl ⟨by rw [clA, if_neg (fun q => c_88 ((bTo_0 hn8).mpr q))], rfl⟩
    · have hcn : c < n := Nat.lt_of_not_le (fun q => c_13 (by show f (18 + 5 * a) 3 ≤ nI c; rw [hn2]; exact nI_le q (by omega)))
      refine wq_run1 (pc' := 17) (L' := [(0, .ref (18 + 5 * a)), (1, .int x), (2, .int (obI (bTo (f (19 + 5 * a)) (f (20 + 5 * a)) x c))), (3, .int (obI (fOv 1 (f (19 + 5 * a)) c))), (4, .int (nI c))]) (S' := [.ref (18 + 5 * a)]) (f' := f) rfl ?_
      refine wq_getR (b := (19 + 5 * a)) rfl (act_O ha) (act_0 ha) ?_
      refine wq_run1 (pc' := 22) (L' := [(0, .ref (18 + 5 * a)), (1, .int x), (2, .int (obI (bTo (f (19 + 5 * a)) (f (20 + 5 * a)) x c))), (3, .int (obI (fOv 1 (f (19 + 5 * a)) c))), (4, .int (nI c))]) (S' := [.int (nI c), .ref (19 + 5 * a)]) (f' := f) rfl ?_
      refine wq_ald (j := c) (n := 8) (v := (f (19 + 5 * a) c)) rfl (actA_0 ha) (actN_0 ha) rfl (by omega) (Nat.le_of_ble_eq_true rfl) rfl ?_
      refine wq_if (c := (f (19 + 5 * a) c) = 0) (p1 := 26) (L1 := [(0, .ref (18 + 5 * a)), (1, .int x), (2, .int (obI (bTo (f (19 + 5 * a)) (f (20 + 5 * a)) x c))), (3, .int (obI (fOv 1 (f (19 + 5 * a)) c))), (4, .int (nI c))]) (S1 := []) (p2 := 61) (L2 := [(0, .ref (18 + 5 * a)), (1, .int x), (2, .int (obI (bTo (f (19 + 5 * a)) (f (20 + 5 * a)) x c))), (3, .int (obI (fOv 1 (f (19 + 5 * a)) c))), (4, .int (nI c))]) (S2 := []) rfl (fun c_23 => ?_) (fun c_23 => ?_)
      · refine wq_run1 (pc' := 27) (L' := [(0, .ref (18 + 5 * a)), (1, .int x), (2, .int (obI (bTo (f (19 + 5 * a)) (f (20 + 5 * a)) x c))), (3, .int (obI (fOv 1 (f (19 + 5 * a)) c))), (4, .int (nI c))]) (S' := [.ref (18 + 5 * a)]) (f' := f) rfl ?_
        refine wq_getR (b := (20 + 5 * a)) rfl (act_O ha) (act_1 ha) ?_
        refine wq_run1 (pc' := 32) (L' := [(0, .ref (18 + 5 * a)), (1, .int x), (2, .int (obI (bTo (f (19 + 5 * a)) (f (20 + 5 * a)) x c))), (3, .int (obI (fOv 1 (f (19 + 5 * a)) c))), (4, .int (nI c))]) (S' := [.int (nI c), .ref (20 + 5 * a)]) (f' := f) rfl ?_
        refine wq_ald (j := c) (n := 8) (v := (f (20 + 5 * a) c)) rfl (actA_1 ha) (actN_1 ha) rfl (by omega) (Nat.le_of_ble_eq_true rfl) rfl ?_
        refine wq_run1 (pc' := 34) (L' := [(0, .ref (18 + 5 * a)), (1, .int x), (2, .int (obI (bTo (f (19 + 5 * a)) (f (20 + 5 * a)) x c))), (3, .int (obI (fOv 1 (f (19 + 5 * a)) c))), (4, .int (nI c))]) (S' := [.int x, .int (f (20 + 5 * a) c)]) (f' := f) rfl ?_
        refine wq_if (c := (f (20 + 5 * a) c) < x) (p1 := 61) (L1 := [(0, .ref (18 + 5 * a)), (1, .int x), (2, .int (obI (bTo (f (19 + 5 * a)) (f (20 + 5 * a)) x c))), (3, .int (obI (fOv 1 (f (19 + 5 * a)) c))), (4, .int (nI c))]) (S1 := []) (p2 := 37) (L2 := [(0, .ref (18 + 5 * a)), (1, .int x), (2, .int (obI (bTo (f (19 + 5 * a)) (f (20 + 5 * a)) x c))), (3, .int (obI (fOv 1 (f (19 + 5 * a)) c))), (4, .int (nI c))]) (S2 := []) rfl (fun c_34 => ?_) (fun c_34 => ?_)
        · refine wq_run1 (pc' := 62) (L' := [(0, .ref (18 + 5 * a)), (1, .int x), (2, .int (obI (bTo (f (19 + 5 * a)) (f (20 + 5 * a)) x c))), (3, .int (obI (fOv 1 (f (19 + 5 * a)) c))), (4, .int (nI c))]) (S' := [.ref (18 + 5 * a)]) (f' := f) rfl ?_
          refine wq_getR (b := (19 + 5 * a)) rfl (act_O ha) (act_0 ha) ?_
          refine wq_run1 (pc' := 67) (L' := [(0, .ref (18 + 5 * a)), (1, .int x), (2, .int (obI (bTo (f (19 + 5 * a)) (f (20 + 5 * a)) x c))), (3, .int (obI (fOv 1 (f (19 + 5 * a)) c))), (4, .int (nI c))]) (S' := [.int (nI c), .ref (19 + 5 * a)]) (f' := f) rfl ?_
          refine wq_ald (j := c) (n := 8) (v := (f (19 + 5 * a) c)) rfl (actA_0 ha) (actN_0 ha) rfl (by omega) (Nat.le_of_ble_eq_true rfl) rfl ?_
          refine wq_run1 (pc' := 69) (L' := [(0, .ref (18 + 5 * a)), (1, .int x), (2, .int (obI (bTo (f (19 + 5 * a)) (f (20 + 5 * a)) x c))), (3, .int (obI (fOv 1 (f (19 + 5 * a)) c))), (4, .int (nI c))]) (S' := [.int 1, .int (f (19 + 5 * a) c)]) (f' := f) rfl ?_
          refine wq_if (c := (f (19 + 5 * a) c) = 1) (p1 := 72) (L1 := [(0, .ref (18 + 5 * a)), (1, .int x), (2, .int (obI (bTo (f (19 + 5 * a)) (f (20 + 5 * a)) x c))), (3, .int (obI (fOv 1 (f (19 + 5 * a)) c))), (4, .int (nI c))]) (S1 := []) (p2 := 80) (L2 := [(0, .ref (18 + 5 * a)), (1, .int x), (2, .int (obI (bTo (f (19 + 5 * a)) (f (20 + 5 * a)) x c))), (3, .int (obI (fOv 1 (f (19 + 5 * a)) c))), (4, .int (nI c))]) (S2 := []) rfl (fun c_69 => ?_) (fun c_69 => ?_)
          · refine wq_run2 (pc' := 74) (L' := [(0, .ref (18 + 5 * a)), (1, .int x), (2, .int (obI (bTo (f (19 + 5 * a)) (f (20 + 5 * a)) x c))), (3, .int (obI (fOv 1 (f (19 + 5 * a)) c))), (4, .int (nI c))]) (S' := [.int (-1), .int (obI (fOv 1 (f (19 + 5 * a)) c))]) (f' := f) rfl ?_
            refine wq_if (c := (obI (fOv 1 (f (19 + 5 * a)) c)) = (-1)) (p1 := 77) (L1 := [(0, .ref (18 + 5 * a)), (1, .int x), (2, .int (obI (bTo (f (19 + 5 * a)) (f (20 + 5 * a)) x c))), (3, .int (obI (fOv 1 (f (19 + 5 * a)) c))), (4, .int (nI c))]) (S1 := []) (p2 := 80) (L2 := [(0, .ref (18 + 5 * a)), (1, .int x), (2, .int (obI (bTo (f (19 + 5 * a)) (f (20 + 5 * a)) x c))), (3, .int (obI (fOv 1 (f (19 + 5 * a)) c))), (4, .int (nI c))]) (S2 := []) rfl (fun c_74 => ?_) (fun c_74 => ?_)
            · refine wq_run4 (pc' := 7) (L' := [(0, .ref (18 + 5 * a)), (1, .int x), (2, .int (obI (bTo (f (19 + 5 * a)) (f (20 + 5 * a)) x c))), (3, .int (nI c)), (4, .int ((nI c) + 1))]) (S' := []) (f' := f) rfl ?_
              have e1 : bTo (f (19 + 5 * a)) (f (20 + 5 * a)) x (c + 1) = (bTo (f (19 + 5 * a)) (f (20 + 5 * a)) x c) := bTo_z (fun q => absurd q.2.1 (Int32.not_le.mpr c_34))
              have e2 : fOv 1 (f (19 + 5 * a)) (c + 1) = some c := fOv_y ⟨c_69, (fOv_0 (by omega)).mp c_74⟩
              have h := ih (c + 1) (by omega) (by omega)
              rw [e1, e2] at h
              rw [nI_1]
              exact h
            · refine wq_run2 (pc' := 7) (L' := [(0, .ref (18 + 5 * a)), (1, .int x), (2, .int (obI (bTo (f (19 + 5 * a)) (f (20 + 5 * a)) x c))), (3, .int (obI (fOv 1 (f (19 + 5 * a)) c))), (4, .int ((nI c) + 1))]) (S' := []) (f' := f) rfl ?_
              have e1 : bTo (f (19 + 5 * a)) (f (20 + 5 * a)) x (c + 1) = (bTo (f (19 + 5 * a)) (f (20 + 5 * a)) x c) := bTo_z (fun q => absurd q.2.1 (Int32.not_le.mpr c_34))
              have e2 : fOv 1 (f (19 + 5 * a)) (c + 1) = (fOv 1 (f (19 + 5 * a)) c) := fOv_z (fun q => c_74 ((fOv_0 (by omega)).mpr q.2))
              have h := ih (c + 1) (by omega) (by omega)
              rw [e1, e2] at h
              rw [nI_1]
              exact h
          · refine wq_run2 (pc' := 7) (L' := [(0, .ref (18 + 5 * a)), (1, .int x), (2, .int (obI (bTo (f (19 + 5 * a)) (f (20 + 5 * a)) x c))), (3, .int (obI (fOv 1 (f (19 + 5 * a)) c))), (4, .int ((nI c) + 1))]) (S' := []) (f' := f) rfl ?_
            have e1 : bTo (f (19 + 5 * a)) (f (20 + 5 * a)) x (c + 1) = (bTo (f (19 + 5 * a)) (f (20 + 5 * a)) x c) := bTo_z (fun q => absurd q.2.1 (Int32.not_le.mpr c_34))
            have e2 : fOv 1 (f (19 + 5 * a)) (c + 1) = (fOv 1 (f (19 + 5 * a)) c) := fOv_z (fun q => c_69 q.1)
            have h := ih (c + 1) (by omega) (by omega)
            rw [e1, e2] at h
            rw [nI_1]
            exact h
        · refine wq_run2 (pc' := 39) (L' := [(0, .ref (18 + 5 * a)), (1, .int x), (2, .int (obI (bTo (f (19 + 5 * a)) (f (20 + 5 * a)) x c))), (3, .int (obI (fOv 1 (f (19 + 5 * a)) c))), (4, .int (nI c))]) (S' := [.int (-1), .int (obI (bTo (f (19 + 5 * a)) (f (20 + 5 * a)) x c))]) (f' := f) rfl ?_
          refine wq_if (c := (obI (bTo (f (19 + 5 * a)) (f (20 + 5 * a)) x c)) = (-1)) (p1 := 58) (L1 := [(0, .ref (18 + 5 * a)), (1, .int x), (2, .int (obI (bTo (f (19 + 5 * a)) (f (20 + 5 * a)) x c))), (3, .int (obI (fOv 1 (f (19 + 5 * a)) c))), (4, .int (nI c))]) (S1 := []) (p2 := 42) (L2 := [(0, .ref (18 + 5 * a)), (1, .int x), (2, .int (obI (bTo (f (19 + 5 * a)) (f (20 + 5 * a)) x c))), (3, .int (obI (fOv 1 (f (19 + 5 * a)) c))), (4, .int (nI c))]) (S2 := []) rfl (fun c_39 => ?_) (fun c_39 => ?_)
          · refine wq_run3 (pc' := 62) (L' := [(0, .ref (18 + 5 * a)), (1, .int x), (2, .int (nI c)), (3, .int (obI (fOv 1 (f (19 + 5 * a)) c))), (4, .int (nI c))]) (S' := [.ref (18 + 5 * a)]) (f' := f) rfl ?_
            refine wq_getR (b := (19 + 5 * a)) rfl (act_O ha) (act_0 ha) ?_
            refine wq_run1 (pc' := 67) (L' := [(0, .ref (18 + 5 * a)), (1, .int x), (2, .int (nI c)), (3, .int (obI (fOv 1 (f (19 + 5 * a)) c))), (4, .int (nI c))]) (S' := [.int (nI c), .ref (19 + 5 * a)]) (f' := f) rfl ?_
            refine wq_ald (j := c) (n := 8) (v := (f (19 + 5 * a) c)) rfl (actA_0 ha) (actN_0 ha) rfl (by omega) (Nat.le_of_ble_eq_true rfl) rfl ?_
            refine wq_run1 (pc' := 69) (L' := [(0, .ref (18 + 5 * a)), (1, .int x), (2, .int (nI c)), (3, .int (obI (fOv 1 (f (19 + 5 * a)) c))), (4, .int (nI c))]) (S' := [.int 1, .int (f (19 + 5 * a) c)]) (f' := f) rfl ?_
            refine wq_if (c := (f (19 + 5 * a) c) = 1) (p1 := 72) (L1 := [(0, .ref (18 + 5 * a)), (1, .int x), (2, .int (nI c)), (3, .int (obI (fOv 1 (f (19 + 5 * a)) c))), (4, .int (nI c))]) (S1 := []) (p2 := 80) (L2 := [(0, .ref (18 + 5 * a)), (1, .int x), (2, .int (nI c)), (3, .int (obI (fOv 1 (f (19 + 5 * a)) c))), (4, .int (nI c))]) (S2 := []) rfl (fun c_69 => ?_) (fun c_69 => ?_)
            · refine wq_run2 (pc' := 74) (L' := [(0, .ref (18 + 5 * a)), (1, .int x), (2, .int (nI c)), (3, .int (obI (fOv 1 (f (19 + 5 * a)) c))), (4, .int (nI c))]) (S' := [.int (-1), .int (obI (fOv 1 (f (19 + 5 * a)) c))]) (f' := f) rfl ?_
              refine wq_if (c := (obI (fOv 1 (f (19 + 5 * a)) c)) = (-1)) (p1 := 77) (L1 := [(0, .ref (18 + 5 * a)), (1, .int x), (2, .int (nI c)), (3, .int (obI (fOv 1 (f (19 + 5 * a)) c))), (4, .int (nI c))]) (S1 := []) (p2 := 80) (L2 := [(0, .ref (18 + 5 * a)), (1, .int x), (2, .int (nI c)), (3, .int (obI (fOv 1 (f (19 + 5 * a)) c))), (4, .int (nI c))]) (S2 := []) rfl (fun c_74 => ?_) (fun c_74 => ?_)
              · refine wq_run4 (pc' := 7) (L' := [(0, .ref (18 + 5 * a)), (1, .int x), (2, .int (nI c)), (3, .int (nI c)), (4, .int ((nI c) + 1))]) (S' := []) (f' := f) rfl ?_
                have e1 : bTo (f (19 + 5 * a)) (f (20 + 5 * a)) x (c + 1) = some c := bTo_y ⟨c_23, Int32.not_lt.mp c_34, by rw [(bTo_0 (by omega)).mp c_39]; rfl⟩
                have e2 : fOv 1 (f (19 + 5 * a)) (c + 1) = some c := fOv_y ⟨c_69, (fOv_0 (by omega)).mp c_74⟩
                have h := ih (c + 1) (by omega) (by omega)
                rw [e1, e2] at h
                rw [nI_1]
                exact h
              · refine wq_run2 (pc' := 7) (L' := [(0, .ref (18 + 5 * a)), (1, .int x), (2, .int (nI c)), (3, .int (obI (fOv 1 (f (19 + 5 * a)) c))), (4, .int ((nI c) + 1))]) (S' := []) (f' := f) rfl ?_
                have e1 : bTo (f (19 + 5 * a)) (f (20 + 5 * a)) x (c + 1) = some c := bTo_y ⟨c_23, Int32.not_lt.mp c_34, by rw [(bTo_0 (by omega)).mp c_39]; rfl⟩
                have e2 : fOv 1 (f (19 + 5 * a)) (c + 1) = (fOv 1 (f (19 + 5 * a)) c) := fOv_z (fun q => c_74 ((fOv_0 (by omega)).mpr q.2))
                have h := ih (c + 1) (by omega) (by omega)
                rw [e1, e2] at h
                rw [nI_1]
                exact h
            · refine wq_run2 (pc' := 7) (L' := [(0, .ref (18 + 5 * a)), (1, .int x), (2, .int (nI c)), (3, .int (obI (fOv 1 (f (19 + 5 * a)) c))), (4, .int ((nI c) + 1))]) (S' := []) (f' := f) rfl ?_
              have e1 : bTo (f (19 + 5 * a)) (f (20 + 5 * a)) x (c + 1) = some c := bTo_y ⟨c_23, Int32.not_lt.mp c_34, by rw [(bTo_0 (by omega)).mp c_39]; rfl⟩
              have e2 : fOv 1 (f (19 + 5 * a)) (c + 1) = (fOv 1 (f (19 + 5 * a)) c) := fOv_z (fun q => c_69 q.1)
              have h := ih (c + 1) (by omega) (by omega)
              rw [e1, e2] at h
              rw [nI_1]
              exact h
          · obtain ⟨b, hb⟩ := obI_y c_39
            refine wq_run1 (pc' := 43) (L' := [(0, .ref (18 + 5 * a)), (1, .int x), (2, .int (obI (bTo (f (19 + 5 * a)) (f (20 + 5 * a)) x c))), (3, .int (obI (fOv 1 (f (19 + 5 * a)) c))), (4, .int (nI c))]) (S' := [.ref (18 + 5 * a)]) (f' := f) rfl ?_
            refine wq_getR (b := (20 + 5 * a)) rfl (act_O ha) (act_1 ha) ?_
            refine wq_run1 (pc' := 48) (L' := [(0, .ref (18 + 5 * a)), (1, .int x), (2, .int (obI (bTo (f (19 + 5 * a)) (f (20 + 5 * a)) x c))), (3, .int (obI (fOv 1 (f (19 + 5 * a)) c))), (4, .int (nI c))]) (S' := [.int (nI c), .ref (20 + 5 * a)]) (f' := f) rfl ?_
            refine wq_ald (j := c) (n := 8) (v := (f (20 + 5 * a) c)) rfl (actA_1 ha) (actN_1 ha) rfl (by omega) (Nat.le_of_ble_eq_true rfl) rfl ?_
            refine wq_run1 (pc' := 50) (L' := [(0, .ref (18 + 5 * a)), (1, .int x), (2, .int (obI (bTo (f (19 + 5 * a)) (f (20 + 5 * a)) x c))), (3, .int (obI (fOv 1 (f (19 + 5 * a)) c))), (4, .int (nI c))]) (S' := [.ref (18 + 5 * a), .int (f (20 + 5 * a) c)]) (f' := f) rfl ?_
            refine wq_getR (b := (20 + 5 * a)) rfl (act_O ha) (act_1 ha) ?_
            refine wq_run1 (pc' := 54) (L' := [(0, .ref (18 + 5 * a)), (1, .int x), (2, .int (obI (bTo (f (19 + 5 * a)) (f (20 + 5 * a)) x c))), (3, .int (obI (fOv 1 (f (19 + 5 * a)) c))), (4, .int (nI c))]) (S' := [.int (obI (bTo (f (19 + 5 * a)) (f (20 + 5 * a)) x c)), .ref (20 + 5 * a), .int (f (20 + 5 * a) c)]) (f' := f) rfl ?_
            refine wq_ald (j := b) (n := 8) (v := (f (20 + 5 * a) b)) rfl (actA_1 ha) (actN_1 ha) (by rw [hb]; rfl) (by have := bTo_lt hb; omega) (Nat.le_of_ble_eq_true rfl) rfl ?_
            refine wq_if (c := (f (20 + 5 * a) b) ≤ (f (20 + 5 * a) c)) (p1 := 61) (L1 := [(0, .ref (18 + 5 * a)), (1, .int x), (2, .int (obI (bTo (f (19 + 5 * a)) (f (20 + 5 * a)) x c))), (3, .int (obI (fOv 1 (f (19 + 5 * a)) c))), (4, .int (nI c))]) (S1 := []) (p2 := 58) (L2 := [(0, .ref (18 + 5 * a)), (1, .int x), (2, .int (obI (bTo (f (19 + 5 * a)) (f (20 + 5 * a)) x c))), (3, .int (obI (fOv 1 (f (19 + 5 * a)) c))), (4, .int (nI c))]) (S2 := []) rfl (fun c_55 => ?_) (fun c_55 => ?_)
            · refine wq_run1 (pc' := 62) (L' := [(0, .ref (18 + 5 * a)), (1, .int x), (2, .int (obI (bTo (f (19 + 5 * a)) (f (20 + 5 * a)) x c))), (3, .int (obI (fOv 1 (f (19 + 5 * a)) c))), (4, .int (nI c))]) (S' := [.ref (18 + 5 * a)]) (f' := f) rfl ?_
              refine wq_getR (b := (19 + 5 * a)) rfl (act_O ha) (act_0 ha) ?_
              refine wq_run1 (pc' := 67) (L' := [(0, .ref (18 + 5 * a)), (1, .int x), (2, .int (obI (bTo (f (19 + 5 * a)) (f (20 + 5 * a)) x c))), (3, .int (obI (fOv 1 (f (19 + 5 * a)) c))), (4, .int (nI c))]) (S' := [.int (nI c), .ref (19 + 5 * a)]) (f' := f) rfl ?_
              refine wq_ald (j := c) (n := 8) (v := (f (19 + 5 * a) c)) rfl (actA_0 ha) (actN_0 ha) rfl (by omega) (Nat.le_of_ble_eq_true rfl) rfl ?_
              refine wq_run1 (pc' := 69) (L' := [(0, .ref (18 + 5 * a)), (1, .int x), (2, .int (obI (bTo (f (19 + 5 * a)) (f (20 + 5 * a)) x c))), (3, .int (obI (fOv 1 (f (19 + 5 * a)) c))), (4, .int (nI c))]) (S' := [.int 1, .int (f (19 + 5 * a) c)]) (f' := f) rfl ?_
              refine wq_if (c := (f (19 + 5 * a) c) = 1) (p1 := 72) (L1 := [(0, .ref (18 + 5 * a)), (1, .int x), (2, .int (obI (bTo (f (19 + 5 * a)) (f (20 + 5 * a)) x c))), (3, .int (obI (fOv 1 (f (19 + 5 * a)) c))), (4, .int (nI c))]) (S1 := []) (p2 := 80) (L2 := [(0, .ref (18 + 5 * a)), (1, .int x), (2, .int (obI (bTo (f (19 + 5 * a)) (f (20 + 5 * a)) x c))), (3, .int (obI (fOv 1 (f (19 + 5 * a)) c))), (4, .int (nI c))]) (S2 := []) rfl (fun c_69 => ?_) (fun c_69 => ?_)
              · refine wq_run2 (pc' := 74) (L' := [(0, .ref (18 + 5 * a)), (1, .int x), (2, .int (obI (bTo (f (19 + 5 * a)) (f (20 + 5 * a)) x c))), (3, .int (obI (fOv 1 (f (19 + 5 * a)) c))), (4, .int (nI c))]) (S' := [.int (-1), .int (obI (fOv 1 (f (19 + 5 * a)) c))]) (f' := f) rfl ?_
                refine wq_if (c := (obI (fOv 1 (f (19 + 5 * a)) c)) = (-1)) (p1 := 77) (L1 := [(0, .ref (18 + 5 * a)), (1, .int x), (2, .int (obI (bTo (f (19 + 5 * a)) (f (20 + 5 * a)) x c))), (3, .int (obI (fOv 1 (f (19 + 5 * a)) c))), (4, .int (nI c))]) (S1 := []) (p2 := 80) (L2 := [(0, .ref (18 + 5 * a)), (1, .int x), (2, .int (obI (bTo (f (19 + 5 * a)) (f (20 + 5 * a)) x c))), (3, .int (obI (fOv 1 (f (19 + 5 * a)) c))), (4, .int (nI c))]) (S2 := []) rfl (fun c_74 => ?_) (fun c_74 => ?_)
                · refine wq_run4 (pc' := 7) (L' := [(0, .ref (18 + 5 * a)), (1, .int x), (2, .int (obI (bTo (f (19 + 5 * a)) (f (20 + 5 * a)) x c))), (3, .int (nI c)), (4, .int ((nI c) + 1))]) (S' := []) (f' := f) rfl ?_
                  have e1 : bTo (f (19 + 5 * a)) (f (20 + 5 * a)) x (c + 1) = (bTo (f (19 + 5 * a)) (f (20 + 5 * a)) x c) := bTo_z (fun q => absurd (show (f (20 + 5 * a)) c < (f (20 + 5 * a)) b by have q := q.2.2; rw [hb] at q; exact of_decide_eq_true q) (Int32.not_lt.mpr c_55))
                  have e2 : fOv 1 (f (19 + 5 * a)) (c + 1) = some c := fOv_y ⟨c_69, (fOv_0 (by omega)).mp c_74⟩
                  have h := ih (c + 1) (by omega) (by omega)
                  rw [e1, e2] at h
                  rw [nI_1]
                  exact h
                · refine wq_run2 (pc' := 7) (L' := [(0, .ref (18 + 5 * a)), (1, .int x), (2, .int (obI (bTo (f (19 + 5 * a)) (f (20 + 5 * a)) x c))), (3, .int (obI (fOv 1 (f (19 + 5 * a)) c))), (4, .int ((nI c) + 1))]) (S' := []) (f' := f) rfl ?_
                  have e1 : bTo (f (19 + 5 * a)) (f (20 + 5 * a)) x (c + 1) = (bTo (f (19 + 5 * a)) (f (20 + 5 * a)) x c) := bTo_z (fun q => absurd (show (f (20 + 5 * a)) c < (f (20 + 5 * a)) b by have q := q.2.2; rw [hb] at q; exact of_decide_eq_true q) (Int32.not_lt.mpr c_55))
                  have e2 : fOv 1 (f (19 + 5 * a)) (c + 1) = (fOv 1 (f (19 + 5 * a)) c) := fOv_z (fun q => c_74 ((fOv_0 (by omega)).mpr q.2))
                  have h := ih (c + 1) (by omega) (by omega)
                  rw [e1, e2] at h
                  rw [nI_1]
                  exact h
              · refine wq_run2 (pc' := 7) (L' := [(0, .ref (18 + 5 * a)), (1, .int x), (2, .int (obI (bTo (f (19 + 5 * a)) (f (20 + 5 * a)) x c))), (3, .int (obI (fOv 1 (f (19 + 5 * a)) c))), (4, .int ((nI c) + 1))]) (S' := []) (f' := f) rfl ?_
                have e1 : bTo (f (19 + 5 * a)) (f (20 + 5 * a)) x (c + 1) = (bTo (f (19 + 5 * a)) (f (20 + 5 * a)) x c) := bTo_z (fun q => absurd (show (f (20 + 5 * a)) c < (f (20 + 5 * a)) b by have q := q.2.2; rw [hb] at q; exact of_decide_eq_true q) (Int32.not_lt.mpr c_55))
                have e2 : fOv 1 (f (19 + 5 * a)) (c + 1) = (fOv 1 (f (19 + 5 * a)) c) := fOv_z (fun q => c_69 q.1)
                have h := ih (c + 1) (by omega) (by omega)
                rw [e1, e2] at h
                rw [nI_1]
                exact h
            · refine wq_run3 (pc' := 62) (L' := [(0, .ref (18 + 5 * a)), (1, .int x), (2, .int (nI c)), (3, .int (obI (fOv 1 (f (19 + 5 * a)) c))), (4, .int (nI c))]) (S' := [.ref (18 + 5 * a)]) (f' := f) rfl ?_
              refine wq_getR (b := (19 + 5 * a)) rfl (act_O ha) (act_0 ha) ?_
              refine wq_run1 (pc' := 67) (L' := [(0, .ref (18 + 5 * a)), (1, .int x), (2, .int (nI c)), (3, .int (obI (fOv 1 (f (19 + 5 * a)) c))), (4, .int (nI c))]) (S' := [.int (nI c), .ref (19 + 5 * a)]) (f' := f) rfl ?_
              refine wq_ald (j := c) (n := 8) (v := (f (19 + 5 * a) c)) rfl (actA_0 ha) (actN_0 ha) rfl (by omega) (Nat.le_of_ble_eq_true rfl) rfl ?_
              refine wq_run1 (pc' := 69) (L' := [(0, .ref (18 + 5 * a)), (1, .int x), (2, .int (nI c)), (3, .int (obI (fOv 1 (f (19 + 5 * a)) c))), (4, .int (nI c))]) (S' := [.int 1, .int (f (19 + 5 * a) c)]) (f' := f) rfl ?_
              refine wq_if (c := (f (19 + 5 * a) c) = 1) (p1 := 72) (L1 := [(0, .ref (18 + 5 * a)), (1, .int x), (2, .int (nI c)), (3, .int (obI (fOv 1 (f (19 + 5 * a)) c))), (4, .int (nI c))]) (S1 := []) (p2 := 80) (L2 := [(0, .ref (18 + 5 * a)), (1, .int x), (2, .int (nI c)), (3, .int (obI (fOv 1 (f (19 + 5 * a)) c))), (4, .int (nI c))]) (S2 := []) rfl (fun c_69 => ?_) (fun c_69 => ?_)
              · refine wq_run2 (pc' := 74) (L' := [(0, .ref (18 + 5 * a)), (1, .int x), (2, .int (nI c)), (3, .int (obI (fOv 1 (f (19 + 5 * a)) c))), (4, .int (nI c))]) (S' := [.int (-1), .int (obI (fOv 1 (f (19 + 5 * a)) c))]) (f' := f) rfl ?_
                refine wq_if (c := (obI (fOv 1 (f (19 + 5 * a)) c)) = (-1)) (p1 := 77) (L1 := [(0, .ref (18 + 5 * a)), (1, .int x), (2, .int (nI c)), (3, .int (obI (fOv 1 (f (19 + 5 * a)) c))), (4, .int (nI c))]) (S1 := []) (p2 := 80) (L2 := [(0, .ref (18 + 5 * a)), (1, .int x), (2, .int (nI c)), (3, .int (obI (fOv 1 (f (19 + 5 * a)) c))), (4, .int (nI c))]) (S2 := []) rfl (fun c_74 => ?_) (fun c_74 => ?_)
                · refine wq_run4 (pc' := 7) (L' := [(0, .ref (18 + 5 * a)), (1, .int x), (2, .int (nI c)), (3, .int (nI c)), (4, .int ((nI c) + 1))]) (S' := []) (f' := f) rfl ?_
                  have e1 : bTo (f (19 + 5 * a)) (f (20 + 5 * a)) x (c + 1) = some c := bTo_y ⟨c_23, Int32.not_lt.mp c_34, by rw [hb]; exact decide_eq_true (Int32.not_le.mp c_55)⟩
                  have e2 : fOv 1 (f (19 + 5 * a)) (c + 1) = some c := fOv_y ⟨c_69, (fOv_0 (by omega)).mp c_74⟩
                  have h := ih (c + 1) (by omega) (by omega)
                  rw [e1, e2] at h
                  rw [nI_1]
                  exact h
                · refine wq_run2 (pc' := 7) (L' := [(0, .ref (18 + 5 * a)), (1, .int x), (2, .int (nI c)), (3, .int (obI (fOv 1 (f (19 + 5 * a)) c))), (4, .int ((nI c) + 1))]) (S' := []) (f' := f) rfl ?_
                  have e1 : bTo (f (19 + 5 * a)) (f (20 + 5 * a)) x (c + 1) = some c := bTo_y ⟨c_23, Int32.not_lt.mp c_34, by rw [hb]; exact decide_eq_true (Int32.not_le.mp c_55)⟩
                  have e2 : fOv 1 (f (19 + 5 * a)) (c + 1) = (fOv 1 (f (19 + 5 * a)) c) := fOv_z (fun q => c_74 ((fOv_0 (by omega)).mpr q.2))
                  have h := ih (c + 1) (by omega) (by omega)
                  rw [e1, e2] at h
                  rw [nI_1]
                  exact h
              · refine wq_run2 (pc' := 7) (L' := [(0, .ref (18 + 5 * a)), (1, .int x), (2, .int (nI c)), (3, .int (obI (fOv 1 (f (19 + 5 * a)) c))), (4, .int ((nI c) + 1))]) (S' := []) (f' := f) rfl ?_
                have e1 : bTo (f (19 + 5 * a)) (f (20 + 5 * a)) x (c + 1) = some c := bTo_y ⟨c_23, Int32.not_lt.mp c_34, by rw [hb]; exact decide_eq_true (Int32.not_le.mp c_55)⟩
                have e2 : fOv 1 (f (19 + 5 * a)) (c + 1) = (fOv 1 (f (19 + 5 * a)) c) := fOv_z (fun q => c_69 q.1)
                have h := ih (c + 1) (by omega) (by omega)
                rw [e1, e2] at h
                rw [nI_1]
                exact h
      · refine wq_run1 (pc' := 62) (L' := [(0, .ref (18 + 5 * a)), (1, .int x), (2, .int (obI (bTo (f (19 + 5 * a)) (f (20 + 5 * a)) x c))), (3, .int (obI (fOv 1 (f (19 + 5 * a)) c))), (4, .int (nI c))]) (S' := [.ref (18 + 5 * a)]) (f' := f) rfl ?_
        refine wq_getR (b := (19 + 5 * a)) rfl (act_O ha) (act_0 ha) ?_
        refine wq_run1 (pc' := 67) (L' := [(0, .ref (18 + 5 * a)), (1, .int x), (2, .int (obI (bTo (f (19 + 5 * a)) (f (20 + 5 * a)) x c))), (3, .int (obI (fOv 1 (f (19 + 5 * a)) c))), (4, .int (nI c))]) (S' := [.int (nI c), .ref (19 + 5 * a)]) (f' := f) rfl ?_
        refine wq_ald (j := c) (n := 8) (v := (f (19 + 5 * a) c)) rfl (actA_0 ha) (actN_0 ha) rfl (by omega) (Nat.le_of_ble_eq_true rfl) rfl ?_
        refine wq_run1 (pc' := 69) (L' := [(0, .ref (18 + 5 * a)), (1, .int x), (2, .int (obI (bTo (f (19 + 5 * a)) (f (20 + 5 * a)) x c))), (3, .int (obI (fOv 1 (f (19 + 5 * a)) c))), (4, .int (nI c))]) (S' := [.int 1, .int (f (19 + 5 * a) c)]) (f' := f) rfl ?_
        refine wq_if (c := (f (19 + 5 * a) c) = 1) (p1 := 72) (L1 := [(0, .ref (18 + 5 * a)), (1, .int x), (2, .int (obI (bTo (f (19 + 5 * a)) (f (20 + 5 * a)) x c))), (3, .int (obI (fOv 1 (f (19 + 5 * a)) c))), (4, .int (nI c))]) (S1 := []) (p2 := 80) (L2 := [(0, .ref (18 + 5 * a)), (1, .int x), (2, .int (obI (bTo (f (19 + 5 * a)) (f (20 + 5 * a)) x c))), (3, .int (obI (fOv 1 (f (19 + 5 * a)) c))), (4, .int (nI c))]) (S2 := []) rfl (fun c_69 => ?_) (fun c_69 => ?_)
        · refine wq_run2 (pc' := 74) (L' := [(0, .ref (18 + 5 * a)), (1, .int x), (2, .int (obI (bTo (f (19 + 5 * a)) (f (20 + 5 * a)) x c))), (3, .int (obI (fOv 1 (f (19 + 5 * a)) c))), (4, .int (nI c))]) (S' := [.int (-1), .int (obI (fOv 1 (f (19 + 5 * a)) c))]) (f' := f) rfl ?_
          refine wq_if (c := (obI (fOv 1 (f (19 + 5 * a)) c)) = (-1)) (p1 := 77) (L1 := [(0, .ref (18 + 5 * a)), (1, .int x), (2, .int (obI (bTo (f (19 + 5 * a)) (f (20 + 5 * a)) x c))), (3, .int (obI (fOv 1 (f (19 + 5 * a)) c))), (4, .int (nI c))]) (S1 := []) (p2 := 80) (L2 := [(0, .ref (18 + 5 * a)), (1, .int x), (2, .int (obI (bTo (f (19 + 5 * a)) (f (20 + 5 * a)) x c))), (3, .int (obI (fOv 1 (f (19 + 5 * a)) c))), (4, .int (nI c))]) (S2 := []) rfl (fun c_74 => ?_) (fun c_74 => ?_)
          · refine wq_run4 (pc' := 7) (L' := [(0, .ref (18 + 5 * a)), (1, .int x), (2, .int (obI (bTo (f (19 + 5 * a)) (f (20 + 5 * a)) x c))), (3, .int (nI c)), (4, .int ((nI c) + 1))]) (S' := []) (f' := f) rfl ?_
            have e1 : bTo (f (19 + 5 * a)) (f (20 + 5 * a)) x (c + 1) = (bTo (f (19 + 5 * a)) (f (20 + 5 * a)) x c) := bTo_z (fun q => c_23 q.1)
            have e2 : fOv 1 (f (19 + 5 * a)) (c + 1) = some c := fOv_y ⟨c_69, (fOv_0 (by omega)).mp c_74⟩
            have h := ih (c + 1) (by omega) (by omega)
            rw [e1, e2] at h
            rw [nI_1]
            exact h
          · refine wq_run2 (pc' := 7) (L' := [(0, .ref (18 + 5 * a)), (1, .int x), (2, .int (obI (bTo (f (19 + 5 * a)) (f (20 + 5 * a)) x c))), (3, .int (obI (fOv 1 (f (19 + 5 * a)) c))), (4, .int ((nI c) + 1))]) (S' := []) (f' := f) rfl ?_
            have e1 : bTo (f (19 + 5 * a)) (f (20 + 5 * a)) x (c + 1) = (bTo (f (19 + 5 * a)) (f (20 + 5 * a)) x c) := bTo_z (fun q => c_23 q.1)
            have e2 : fOv 1 (f (19 + 5 * a)) (c + 1) = (fOv 1 (f (19 + 5 * a)) c) := fOv_z (fun q => c_74 ((fOv_0 (by omega)).mpr q.2))
            have h := ih (c + 1) (by omega) (by omega)
            rw [e1, e2] at h
            rw [nI_1]
            exact h
        · refine wq_run2 (pc' := 7) (L' := [(0, .ref (18 + 5 * a)), (1, .int x), (2, .int (obI (bTo (f (19 + 5 * a)) (f (20 + 5 * a)) x c))), (3, .int (obI (fOv 1 (f (19 + 5 * a)) c))), (4, .int ((nI c) + 1))]) (S' := []) (f' := f) rfl ?_
          have e1 : bTo (f (19 + 5 * a)) (f (20 + 5 * a)) x (c + 1) = (bTo (f (19 + 5 * a)) (f (20 + 5 * a)) x c) := bTo_z (fun q => c_23 q.1)
          have e2 : fOv 1 (f (19 + 5 * a)) (c + 1) = (fOv 1 (f (19 + 5 * a)) c) := fOv_z (fun q => c_69 q.1)
          have h := ih (c + 1) (by omega) (by omega)
          rw [e1, e2] at h
          rw [nI_1]
          exact h
theorem sp_clauseFor (f : HI) (x : Int32) {a n : Nat} (ha : a < 5) (hn2 : f (18 + 5 * a) 3 = nI n) (hn8 : n ≤ 8) : Sp 1 2 [.ref (18 + 5 * a), .int x] f (Ret (obI (clA (f (19 + 5 * a)) (f (20 + 5 * a)) x n)) f) := by
  show wq 1 2 (Ret (obI (clA (f (19 + 5 * a)) (f (20 + 5 * a)) x n)) f) 0 [(0, .ref (18 + 5 * a)), (1, .int x)] [] f
  refine wq_run6 (pc' := 7) (L' := [(0, .ref (18 + 5 * a)), (1, .int x), (2, .int (-1)), (3, .int (-1)), (4, .int 0)]) (S' := []) (f' := f) rfl ?_
  exact lp_clauseFor f x ha hn2 hn8 (n - 0 + 1) 0 (Nat.zero_le _) (Nat.lt_succ_self _)
theorem lp_widestTo (f : HI) {a n : Nat} (ha : a < 5) (hn2 : f (18 + 5 * a) 3 = nI n) (hn8 : n ≤ 8) : ∀ (m9 : Nat) (c : Nat), (c ≤ n) → n - c < m9 → wq 1 6 (Ret (obI (wTo (f (19 + 5 * a)) (f (20 + 5 * a)) n)) f) 4 [(0, .ref (18 + 5 * a)), (1, .int (obI (wTo (f (19 + 5 * a)) (f (20 + 5 * a)) c))), (2, .int (nI c))] [] f := by
  intro m9
  induction m9 with
  | zero => intro c hc0 hn; exact absurd hn (Nat.not_lt_zero _)
  | succ m9 ih =>
    intro c hc0 hn
    refine wq_run2 (pc' := 6) (L' := [(0, .ref (18 + 5 * a)), (1, .int (obI (wTo (f (19 + 5 * a)) (f (20 + 5 * a)) c))), (2, .int (nI c))]) (S' := [.ref (18 + 5 * a), .int (nI c)]) (f' := f) rfl ?_
    refine wq_getI (v := (f (18 + 5 * a) 3)) rfl (act_O ha) rfl ?_
    refine wq_if (c := (f (18 + 5 * a) 3) ≤ (nI c)) (p1 := 49) (L1 := [(0, .ref (18 + 5 * a)), (1, .int (obI (wTo (f (19 + 5 * a)) (f (20 + 5 * a)) c))), (2, .int (nI c))]) (S1 := []) (p2 := 12) (L2 := [(0, .ref (18 + 5 * a)), (1, .int (obI (wTo (f (19 + 5 * a)) (f (20 + 5 * a)) c))), (2, .int (nI c))]) (S2 := []) rfl (fun c_9 => ?_) (fun c_9 => ?_)
    · have e : c = n := Nat.le_antisymm hc0 (Nat.not_lt.mp (fun q => absurd (show f (18 + 5 * a) 3 ≤ nI c from c_9) (by rw [hn2]; exact nI_ge q (by omega))))
      refine wq_run1 (pc' := 50) (L' := [(0, .ref (18 + 5 * a)), (1, .int (obI (wTo (f (19 + 5 * a)) (f (20 + 5 * a)) c))), (2, .int (nI c))]) (S' := [.int (obI (wTo (f (19 + 5 * a)) (f (20 + 5 * a)) c))]) (f' := f) rfl ?_
      rw [e] at *
      exact wq_ret rfl ⟨rfl, rfl⟩
    · have hcn : c < n := Nat.lt_of_not_le (fun q => c_9 (by show f (18 + 5 * a) 3 ≤ nI c; rw [hn2]; exact nI_le q (by omega)))
      refine wq_run1 (pc' := 13) (L' := [(0, .ref (18 + 5 * a)), (1, .int (obI (wTo (f (19 + 5 * a)) (f (20 + 5 * a)) c))), (2, .int (nI c))]) (S' := [.ref (18 + 5 * a)]) (f' := f) rfl ?_
      refine wq_getR (b := (19 + 5 * a)) rfl (act_O ha) (act_0 ha) ?_
      refine wq_run1 (pc' := 17) (L' := [(0, .ref (18 + 5 * a)), (1, .int (obI (wTo (f (19 + 5 * a)) (f (20 + 5 * a)) c))), (2, .int (nI c))]) (S' := [.int (nI c), .ref (19 + 5 * a)]) (f' := f) rfl ?_
      refine wq_ald (j := c) (n := 8) (v := (f (19 + 5 * a) c)) rfl (actA_0 ha) (actN_0 ha) rfl (by omega) (Nat.le_of_ble_eq_true rfl) rfl ?_
      refine wq_if (c := (f (19 + 5 * a) c) = 0) (p1 := 21) (L1 := [(0, .ref (18 + 5 * a)), (1, .int (obI (wTo (f (19 + 5 * a)) (f (20 + 5 * a)) c))), (2, .int (nI c))]) (S1 := []) (p2 := 43) (L2 := [(0, .ref (18 + 5 * a)), (1, .int (obI (wTo (f (19 + 5 * a)) (f (20 + 5 * a)) c))), (2, .int (nI c))]) (S2 := []) rfl (fun c_18 => ?_) (fun c_18 => ?_)
      · refine wq_run2 (pc' := 23) (L' := [(0, .ref (18 + 5 * a)), (1, .int (obI (wTo (f (19 + 5 * a)) (f (20 + 5 * a)) c))), (2, .int (nI c))]) (S' := [.int (-1), .int (obI (wTo (f (19 + 5 * a)) (f (20 + 5 * a)) c))]) (f' := f) rfl ?_
        refine wq_if (c := (obI (wTo (f (19 + 5 * a)) (f (20 + 5 * a)) c)) = (-1)) (p1 := 41) (L1 := [(0, .ref (18 + 5 * a)), (1, .int (obI (wTo (f (19 + 5 * a)) (f (20 + 5 * a)) c))), (2, .int (nI c))]) (S1 := []) (p2 := 26) (L2 := [(0, .ref (18 + 5 * a)), (1, .int (obI (wTo (f (19 + 5 * a)) (f (20 + 5 * a)) c))), (2, .int (nI c))]) (S2 := []) rfl (fun c_23 => ?_) (fun c_23 => ?_)
        · refine wq_run4 (pc' := 4) (L' := [(0, .ref (18 + 5 * a)), (1, .int (nI c)), (2, .int ((nI c) + 1))]) (S' := []) (f' := f) rfl ?_
          have e1 : wTo (f (19 + 5 * a)) (f (20 + 5 * a)) (c + 1) = some c := wTo_y ⟨c_18, by rw [(wTo_0 (by omega)).mp c_23]; rfl⟩
          have h := ih (c + 1) (by omega) (by omega)
          rw [e1] at h
          rw [nI_1]
          exact h
        · obtain ⟨b, hb⟩ := obI_y c_23
          refine wq_run1 (pc' := 27) (L' := [(0, .ref (18 + 5 * a)), (1, .int (obI (wTo (f (19 + 5 * a)) (f (20 + 5 * a)) c))), (2, .int (nI c))]) (S' := [.ref (18 + 5 * a)]) (f' := f) rfl ?_
          refine wq_getR (b := (20 + 5 * a)) rfl (act_O ha) (act_1 ha) ?_
          refine wq_run1 (pc' := 31) (L' := [(0, .ref (18 + 5 * a)), (1, .int (obI (wTo (f (19 + 5 * a)) (f (20 + 5 * a)) c))), (2, .int (nI c))]) (S' := [.int (nI c), .ref (20 + 5 * a)]) (f' := f) rfl ?_
          refine wq_ald (j := c) (n := 8) (v := (f (20 + 5 * a) c)) rfl (actA_1 ha) (actN_1 ha) rfl (by omega) (Nat.le_of_ble_eq_true rfl) rfl ?_
          refine wq_run1 (pc' := 33) (L' := [(0, .ref (18 + 5 * a)), (1, .int (obI (wTo (f (19 + 5 * a)) (f (20 + 5 * a)) c))), (2, .int (nI c))]) (S' := [.ref (18 + 5 * a), .int (f (20 + 5 * a) c)]) (f' := f) rfl ?_
          refine wq_getR (b := (20 + 5 * a)) rfl (act_O ha) (act_1 ha) ?_
          refine wq_run1 (pc' := 37) (L' := [(0, .ref (18 + 5 * a)), (1, .int (obI (wTo (f (19 + 5 * a)) (f (20 + 5 * a)) c))), (2, .int (nI c))]) (S' := [.int (obI (wTo (f (19 + 5 * a)) (f (20 + 5 * a)) c)), .ref (20 + 5 * a), .int (f (20 + 5 * a) c)]) (f' := f) rfl ?_
          refine wq_ald (j := b) (n := 8) (v := (f (20 + 5 * a) b)) rfl (actA_1 ha) (actN_1 ha) (by rw [hb]; rfl) (by have := wTo_lt hb; omega) (Nat.le_of_ble_eq_true rfl) rfl ?_
          refine wq_if (c := (f (20 + 5 * a) c) ≤ (f (20 + 5 * a) b)) (p1 := 43) (L1 := [(0, .ref (18 + 5 * a)), (1, .int (obI (wTo (f (19 + 5 * a)) (f (20 + 5 * a)) c))), (2, .int (nI c))]) (S1 := []) (p2 := 41) (L2 := [(0, .ref (18 + 5 * a)), (1, .int (obI (wTo (f (19 + 5 * a)) (f (20 + 5 * a)) c))), (2, .int (nI c))]) (S2 := []) rfl (fun c_38 => ?_) (fun c_38 => ?_)
          · refine wq_run2 (pc' := 4) (L' := [(0, .ref (18 + 5 * a)), (1, .int (obI (wTo (f (19 + 5 * a)) (f (20 + 5 * a)) c))), (2, .int ((nI c) + 1))]) (S' := []) (f' := f) rfl ?_
            have e1 : wTo (f (19 + 5 * a)) (f (20 + 5 * a)) (c + 1) = (wTo (f (19 + 5 * a)) (f (20 + 5 * a)) c) := wTo_z (fun q => absurd (show (f (20 + 5 * a)) b < (f (20 + 5 * a)) c by have q := q.2; rw [hb] at q; exact of_decide_eq_true q) (Int32.not_lt.mpr c_38))
            have h := ih (c + 1) (by omega) (by omega)
            rw [e1] at h
            rw [nI_1]
            exact h
          · refine wq_run4 (pc' := 4) (L' := [(0, .ref (18 + 5 * a)), (1, .int (nI c)), (2, .int ((nI c) + 1))]) (S' := []) (f' := f) rfl ?_
            have e1 : wTo (f (19 + 5 * a)) (f (20 + 5 * a)) (c + 1) = some c := wTo_y ⟨c_18, by rw [hb]; exact decide_eq_true (Int32.not_le.mp c_38)⟩
            have h := ih (c + 1) (by omega) (by omega)
            rw [e1] at h
            rw [nI_1]
            exact h
      · refine wq_run2 (pc' := 4) (L' := [(0, .ref (18 + 5 * a)), (1, .int (obI (wTo (f (19 + 5 * a)) (f (20 + 5 * a)) c))), (2, .int ((nI c) + 1))]) (S' := []) (f' := f) rfl ?_
        have e1 : wTo (f (19 + 5 * a)) (f (20 + 5 * a)) (c + 1) = (wTo (f (19 + 5 * a)) (f (20 + 5 * a)) c) := wTo_z (fun q => c_18 q.1)
        have h := ih (c + 1) (by omega) (by omega)
        rw [e1] at h
        rw [nI_1]
        exact h
theorem sp_widestTo (f : HI) {a n : Nat} (ha : a < 5) (hn2 : f (18 + 5 * a) 3 = nI n) (hn8 : n ≤ 8) : Sp 1 6 [.ref (18 + 5 * a)] f (Ret (obI (wTo (f (19 + 5 * a)) (f (20 + 5 * a)) n)) f) := by
  show wq 1 6 (Ret (obI (wTo (f (19 + 5 * a)) (f (20 + 5 * a)) n)) f) 0 [(0, .ref (18 + 5 * a))] [] f
  refine wq_run4 (pc' := 4) (L' := [(0, .ref (18 + 5 * a)), (1, .int (-1)), (2, .int 0)]) (S' := []) (f' := f) rfl ?_
  exact lp_widestTo f ha hn2 hn8 (n - 0 + 1) 0 (Nat.zero_le _) (Nat.lt_succ_self _)
theorem fOv_keep {q : Int32} {K : Nat → Int32} {b c : Nat} (h : fOv q K c = some b) : ∀ r, fOv q K (c + r) = some b := by
  intro r
  induction r with
  | zero => exact h
  | succ r ih => rw [← Nat.add_assoc, fOv_z (fun z => by rw [ih] at z; cases z.2), ih]
def frA (K N : Nat → Int32) : Nat → Int32
  | 0 => 0
  | c + 1 => if K c = 3 then N c else frA K N c
def upA (v b : Int32) : Int32 := if b < 1 then v else (v + b - 1) / b
theorem lp_firstWeigh (f : HI) {a n : Nat} (ha : a < 5) (hn2 : f (18 + 5 * a) 3 = nI n) (hn8 : n ≤ 8) : ∀ (m9 : Nat) (c : Nat), (c ≤ n) → ((fOv 2 (f (19 + 5 * a)) c) = none) → n - c < m9 → wq 1 7 (Ret (obI (fOv 2 (f (19 + 5 * a)) n)) f) 2 [(0, .ref (18 + 5 * a)), (1, .int (nI c))] [] f := by
  intro m9
  induction m9 with
  | zero => intro c hc0 h9 hn; exact absurd hn (Nat.not_lt_zero _)
  | succ m9 ih =>
    intro c hc0 h9 hn
    refine wq_run2 (pc' := 4) (L' := [(0, .ref (18 + 5 * a)), (1, .int (nI c))]) (S' := [.ref (18 + 5 * a), .int (nI c)]) (f' := f) rfl ?_
    refine wq_getI (v := (f (18 + 5 * a) 3)) rfl (act_O ha) rfl ?_
    refine wq_if (c := (f (18 + 5 * a) 3) ≤ (nI c)) (p1 := 28) (L1 := [(0, .ref (18 + 5 * a)), (1, .int (nI c))]) (S1 := []) (p2 := 10) (L2 := [(0, .ref (18 + 5 * a)), (1, .int (nI c))]) (S2 := []) rfl (fun c_7 => ?_) (fun c_7 => ?_)
    · have e : c = n := Nat.le_antisymm hc0 (Nat.not_lt.mp (fun q => absurd (show f (18 + 5 * a) 3 ≤ nI c from c_7) (by rw [hn2]; exact nI_ge q (by omega))))
      refine wq_run1 (pc' := 29) (L' := [(0, .ref (18 + 5 * a)), (1, .int (nI c))]) (S' := [.int (-1)]) (f' := f) rfl ?_
      rw [e] at h9
      exact wq_ret rfl ⟨by rw [h9]; rfl, rfl⟩
    · have hcn : c < n := Nat.lt_of_not_le (fun q => c_7 (by show f (18 + 5 * a) 3 ≤ nI c; rw [hn2]; exact nI_le q (by omega)))
      refine wq_run1 (pc' := 11) (L' := [(0, .ref (18 + 5 * a)), (1, .int (nI c))]) (S' := [.ref (18 + 5 * a)]) (f' := f) rfl ?_
      refine wq_getR (b := (19 + 5 * a)) rfl (act_O ha) (act_0 ha) ?_
      refine wq_run1 (pc' := 15) (L' := [(0, .ref (18 + 5 * a)), (1, .int (nI c))]) (S' := [.int (nI c), .ref (19 + 5 * a)]) (f' := f) rfl ?_
      refine wq_ald (j := c) (n := 8) (v := (f (19 + 5 * a) c)) rfl (actA_0 ha) (actN_0 ha) rfl (by omega) (Nat.le_of_ble_eq_true rfl) rfl ?_
      refine wq_run1 (pc' := 17) (L' := [(0, .ref (18 + 5 * a)), (1, .int (nI c))]) (S' := [.int 2, .int (f (19 + 5 * a) c)]) (f' := f) rfl ?_
      refine wq_if (c := (f (19 + 5 * a) c) = 2) (p1 := 20) (L1 := [(0, .ref (18 + 5 * a)), (1, .int (nI c))]) (S1 := []) (p2 := 22) (L2 := [(0, .ref (18 + 5 * a)), (1, .int (nI c))]) (S2 := []) rfl (fun c_17 => ?_) (fun c_17 => ?_)
      · refine wq_run1 (pc' := 21) (L' := [(0, .ref (18 + 5 * a)), (1, .int (nI c))]) (S' := [.int (nI c)]) (f' := f) rfl ?_
        have e1 := fOv_keep (fOv_y ⟨c_17, h9⟩) (n - (c + 1))
        rw [show c + 1 + (n - (c + 1)) = n by omega] at e1
        exact wq_ret rfl ⟨by rw [e1]; rfl, rfl⟩
      · refine wq_run2 (pc' := 2) (L' := [(0, .ref (18 + 5 * a)), (1, .int ((nI c) + 1))]) (S' := []) (f' := f) rfl ?_
        rw [nI_1]
        exact ih (c + 1) (by omega) (by rw [fOv_z (fun q => c_17 q.1)]; exact h9) (by omega)
theorem sp_firstWeigh (f : HI) {a n : Nat} (ha : a < 5) (hn2 : f (18 + 5 * a) 3 = nI n) (hn8 : n ≤ 8) : Sp 1 7 [.ref (18 + 5 * a)] f (Ret (obI (fOv 2 (f (19 + 5 * a)) n)) f) := by
  show wq 1 7 (Ret (obI (fOv 2 (f (19 + 5 * a)) n)) f) 0 [(0, .ref (18 + 5 * a))] [] f
  refine wq_run2 (pc' := 2) (L' := [(0, .ref (18 + 5 * a)), (1, .int 0)]) (S' := []) (f' := f) rfl ?_
  exact lp_firstWeigh f ha hn2 hn8 (n - 0 + 1) 0 (Nat.zero_le _) rfl (Nat.lt_succ_self _)
theorem lp_freeLetters (f : HI) {a n : Nat} (ha : a < 5) (hn2 : f (18 + 5 * a) 3 = nI n) (hn8 : n ≤ 8) : ∀ (m9 : Nat) (c : Nat), (c ≤ n) → n - c < m9 → wq 1 4 (Ret (frA (f (19 + 5 * a)) (f (20 + 5 * a)) n) f) 4 [(0, .ref (18 + 5 * a)), (1, .int (frA (f (19 + 5 * a)) (f (20 + 5 * a)) c)), (2, .int (nI c))] [] f := by
  intro m9
  induction m9 with
  | zero => intro c hc0 hn; exact absurd hn (Nat.not_lt_zero _)
  | succ m9 ih =>
    intro c hc0 hn
    refine wq_run2 (pc' := 6) (L' := [(0, .ref (18 + 5 * a)), (1, .int (frA (f (19 + 5 * a)) (f (20 + 5 * a)) c)), (2, .int (nI c))]) (S' := [.ref (18 + 5 * a), .int (nI c)]) (f' := f) rfl ?_
    refine wq_getI (v := (f (18 + 5 * a) 3)) rfl (act_O ha) rfl ?_
    refine wq_if (c := (f (18 + 5 * a) 3) ≤ (nI c)) (p1 := 35) (L1 := [(0, .ref (18 + 5 * a)), (1, .int (frA (f (19 + 5 * a)) (f (20 + 5 * a)) c)), (2, .int (nI c))]) (S1 := []) (p2 := 12) (L2 := [(0, .ref (18 + 5 * a)), (1, .int (frA (f (19 + 5 * a)) (f (20 + 5 * a)) c)), (2, .int (nI c))]) (S2 := []) rfl (fun c_9 => ?_) (fun c_9 => ?_)
    · have e : c = n := Nat.le_antisymm hc0 (Nat.not_lt.mp (fun q => absurd (show f (18 + 5 * a) 3 ≤ nI c from c_9) (by rw [hn2]; exact nI_ge q (by omega))))
      refine wq_run1 (pc' := 36) (L' := [(0, .ref (18 + 5 * a)), (1, .int (frA (f (19 + 5 * a)) (f (20 + 5 * a)) c)), (2, .int (nI c))]) (S' := [.int (frA (f (19 + 5 * a)) (f (20 + 5 * a)) c)]) (f' := f) rfl ?_
      rw [e]
      exact wq_ret rfl ⟨rfl, rfl⟩
    · have hcn : c < n := Nat.lt_of_not_le (fun q => c_9 (by show f (18 + 5 * a) 3 ≤ nI c; rw [hn2]; exact nI_le q (by omega)))
      refine wq_run1 (pc' := 13) (L' := [(0, .ref (18 + 5 * a)), (1, .int (frA (f (19 + 5 * a)) (f (20 + 5 * a)) c)), (2, .int (nI c))]) (S' := [.ref (18 + 5 * a)]) (f' := f) rfl ?_
      refine wq_getR (b := (19 + 5 * a)) rfl (act_O ha) (act_0 ha) ?_
      refine wq_run1 (pc' := 17) (L' := [(0, .ref (18 + 5 * a)), (1, .int (frA (f (19 + 5 * a)) (f (20 + 5 * a)) c)), (2, .int (nI c))]) (S' := [.int (nI c), .ref (19 + 5 * a)]) (f' := f) rfl ?_
      refine wq_ald (j := c) (n := 8) (v := (f (19 + 5 * a) c)) rfl (actA_0 ha) (actN_0 ha) rfl (by omega) (Nat.le_of_ble_eq_true rfl) rfl ?_
      refine wq_run1 (pc' := 19) (L' := [(0, .ref (18 + 5 * a)), (1, .int (frA (f (19 + 5 * a)) (f (20 + 5 * a)) c)), (2, .int (nI c))]) (S' := [.int 3, .int (f (19 + 5 * a) c)]) (f' := f) rfl ?_
      refine wq_if (c := (f (19 + 5 * a) c) = 3) (p1 := 22) (L1 := [(0, .ref (18 + 5 * a)), (1, .int (frA (f (19 + 5 * a)) (f (20 + 5 * a)) c)), (2, .int (nI c))]) (S1 := []) (p2 := 29) (L2 := [(0, .ref (18 + 5 * a)), (1, .int (frA (f (19 + 5 * a)) (f (20 + 5 * a)) c)), (2, .int (nI c))]) (S2 := []) rfl (fun c_19 => ?_) (fun c_19 => ?_)
      · refine wq_run1 (pc' := 23) (L' := [(0, .ref (18 + 5 * a)), (1, .int (frA (f (19 + 5 * a)) (f (20 + 5 * a)) c)), (2, .int (nI c))]) (S' := [.ref (18 + 5 * a)]) (f' := f) rfl ?_
        refine wq_getR (b := (20 + 5 * a)) rfl (act_O ha) (act_1 ha) ?_
        refine wq_run1 (pc' := 27) (L' := [(0, .ref (18 + 5 * a)), (1, .int (frA (f (19 + 5 * a)) (f (20 + 5 * a)) c)), (2, .int (nI c))]) (S' := [.int (nI c), .ref (20 + 5 * a)]) (f' := f) rfl ?_
        refine wq_ald (j := c) (n := 8) (v := (f (20 + 5 * a) c)) rfl (actA_1 ha) (actN_1 ha) rfl (by omega) (Nat.le_of_ble_eq_true rfl) rfl ?_
        refine wq_run3 (pc' := 4) (L' := [(0, .ref (18 + 5 * a)), (1, .int (f (20 + 5 * a) c)), (2, .int ((nI c) + 1))]) (S' := []) (f' := f) rfl ?_
        have e1 : frA (f (19 + 5 * a)) (f (20 + 5 * a)) (c + 1) = (f (20 + 5 * a)) c := if_pos c_19
        have h := ih (c + 1) (by omega) (by omega)
        rw [e1] at h
        rw [nI_1]
        exact h
      · refine wq_run2 (pc' := 4) (L' := [(0, .ref (18 + 5 * a)), (1, .int (frA (f (19 + 5 * a)) (f (20 + 5 * a)) c)), (2, .int ((nI c) + 1))]) (S' := []) (f' := f) rfl ?_
        have e1 : frA (f (19 + 5 * a)) (f (20 + 5 * a)) (c + 1) = frA (f (19 + 5 * a)) (f (20 + 5 * a)) c := if_neg c_19
        have h := ih (c + 1) (by omega) (by omega)
        rw [e1] at h
        rw [nI_1]
        exact h
theorem sp_freeLetters (f : HI) {a n : Nat} (ha : a < 5) (hn2 : f (18 + 5 * a) 3 = nI n) (hn8 : n ≤ 8) : Sp 1 4 [.ref (18 + 5 * a)] f (Ret (frA (f (19 + 5 * a)) (f (20 + 5 * a)) n) f) := by
  show wq 1 4 (Ret (frA (f (19 + 5 * a)) (f (20 + 5 * a)) n) f) 0 [(0, .ref (18 + 5 * a))] [] f
  refine wq_run4 (pc' := 4) (L' := [(0, .ref (18 + 5 * a)), (1, .int 0), (2, .int 0)]) (S' := []) (f' := f) rfl ?_
  exact lp_freeLetters f ha hn2 hn8 (n - 0 + 1) 0 (Nat.zero_le _) (Nat.lt_succ_self _)
theorem sp_upBy (f : HI) (v b : Int32) : Sp 1 8 [.int v, .int b] f (Ret (upA v b) f) := by
  show wq 1 8 (Ret (upA v b) f) 0 [(0, .int v), (1, .int b)] [] f
  refine wq_run2 (pc' := 2) (L' := [(0, .int v), (1, .int b)]) (S' := [.int 1, .int b]) (f' := f) rfl ?_
  refine wq_if (c := 1 ≤ b) (p1 := 9) (L1 := [(0, .int v), (1, .int b)]) (S1 := []) (p2 := 5) (L2 := [(0, .int v), (1, .int b)]) (S2 := []) rfl (fun c_2 => ?_) (fun c_2 => ?_)
  · refine wq_run6 (pc' := 15) (L' := [(0, .int v), (1, .int b)]) (S' := [.int b, .int ((v + b) - 1)]) (f' := f) rfl ?_
    refine wq_div rfl (fun q => by rw [q] at c_2; exact absurd c_2 (by decide)) ?_
    exact wq_ret rfl ⟨by rw [upA, if_neg (Int32.not_lt.mpr c_2)], rfl⟩
  · refine wq_run2 (pc' := 16) (L' := [(0, .int v), (1, .int b)]) (S' := [.int v]) (f' := f) rfl ?_
    exact wq_ret rfl ⟨by rw [upA, if_pos (Int32.not_le.mp c_2)], rfl⟩
theorem clA_lt {K M : Nat → Int32} {x : Int32} {n b : Nat} (h : clA K M x n = some b) : b < n := by
  unfold clA at h
  split at h
  · exact fOv_lt h
  · exact bTo_lt h
/-- the pence for x miles -/
def pcA (K M P : Nat → Int32) (x : Int32) (n : Nat) : Int32 := match clA K M x n with
  | none => -1
  | some b => if K b = 0 then P b else (match wTo K M n with
    | none => 0
    | some t => P t) + P b * upA (match wTo K M n with
    | none => x
    | some t => x - M t) (M b)
theorem sp_penceFor (f : HI) (x : Int32) {a n : Nat} (ha : a < 5) (hn2 : f (18 + 5 * a) 3 = nI n) (hn8 : n ≤ 8) : Sp 2 5 [.ref (18 + 5 * a), .int x] f (Ret (pcA (f (19 + 5 * a)) (f (20 + 5 * a)) (f (21 + 5 * a)) x n) f) := by
  show wq 2 5 (Ret (pcA (f (19 + 5 * a)) (f (20 + 5 * a)) (f (21 + 5 * a)) x n) f) 0 [(0, .ref (18 + 5 * a)), (1, .int x)] [] f
  refine wq_run2 (pc' := 2) (L' := [(0, .ref (18 + 5 * a)), (1, .int x)]) (S' := [.int x, .ref (18 + 5 * a)]) (f' := f) rfl ?_
  refine wq_callI (r := (obI (clA (f (19 + 5 * a)) (f (20 + 5 * a)) x n))) (sp_clauseFor f x ha hn2 hn8) (Nat.le_of_ble_eq_true rfl) (pc' := 5) (L' := [(0, .ref (18 + 5 * a)), (1, .int x)]) (S' := []) (show oCallV 2 0 1 5 X2 (2, [(0, .ref (18 + 5 * a)), (1, .int x)], [.int x, .ref (18 + 5 * a)]) (K0, f) = _ from oCallV_e rfl (act_O ha)) (Nat.le_of_ble_eq_true rfl) rfl rfl (Nat.le_of_ble_eq_true rfl) (Nat.le_of_ble_eq_true rfl) ?_
  refine wq_run3 (pc' := 8) (L' := [(0, .ref (18 + 5 * a)), (1, .int x), (2, .int (obI (clA (f (19 + 5 * a)) (f (20 + 5 * a)) x n)))]) (S' := [.int (-1), .int (obI (clA (f (19 + 5 * a)) (f (20 + 5 * a)) x n))]) (f' := f) rfl ?_
  refine wq_if (c := (obI (clA (f (19 + 5 * a)) (f (20 + 5 * a)) x n)) = (-1)) (p1 := 11) (L1 := [(0, .ref (18 + 5 * a)), (1, .int x), (2, .int (obI (clA (f (19 + 5 * a)) (f (20 + 5 * a)) x n)))]) (S1 := []) (p2 := 13) (L2 := [(0, .ref (18 + 5 * a)), (1, .int x), (2, .int (obI (clA (f (19 + 5 * a)) (f (20 + 5 * a)) x n)))]) (S2 := []) rfl (fun c_8 => ?_) (fun c_8 => ?_)
  · refine wq_run1 (pc' := 12) (L' := [(0, .ref (18 + 5 * a)), (1, .int x), (2, .int (obI (clA (f (19 + 5 * a)) (f (20 + 5 * a)) x n)))]) (S' := [.int (-1)]) (f' := f) rfl ?_
    have e1 := (obI_0 (n := n) (by omega) (fun _ h => clA_lt h)).mp c_8
    exact wq_ret rfl ⟨by unfold pcA; rw [e1], rfl⟩
  · obtain ⟨b, hb⟩ := obI_y c_8
    refine wq_run1 (pc' := 14) (L' := [(0, .ref (18 + 5 * a)), (1, .int x), (2, .int (obI (clA (f (19 + 5 * a)) (f (20 + 5 * a)) x n)))]) (S' := [.ref (18 + 5 * a)]) (f' := f) rfl ?_
    refine wq_getR (b := (19 + 5 * a)) rfl (act_O ha) (act_0 ha) ?_
    refine wq_run1 (pc' := 18) (L' := [(0, .ref (18 + 5 * a)), (1, .int x), (2, .int (obI (clA (f (19 + 5 * a)) (f (20 + 5 * a)) x n)))]) (S' := [.int (obI (clA (f (19 + 5 * a)) (f (20 + 5 * a)) x n)), .ref (19 + 5 * a)]) (f' := f) rfl ?_
    refine wq_ald (j := b) (n := 8) (v := (f (19 + 5 * a) b)) rfl (actA_0 ha) (actN_0 ha) (by rw [hb]; rfl) (by have := clA_lt hb; omega) (Nat.le_of_ble_eq_true rfl) rfl ?_
    refine wq_if (c := (f (19 + 5 * a) b) = 0) (p1 := 22) (L1 := [(0, .ref (18 + 5 * a)), (1, .int x), (2, .int (obI (clA (f (19 + 5 * a)) (f (20 + 5 * a)) x n)))]) (S1 := []) (p2 := 29) (L2 := [(0, .ref (18 + 5 * a)), (1, .int x), (2, .int (obI (clA (f (19 + 5 * a)) (f (20 + 5 * a)) x n)))]) (S2 := []) rfl (fun c_19 => ?_) (fun c_19 => ?_)
    · refine wq_run1 (pc' := 23) (L' := [(0, .ref (18 + 5 * a)), (1, .int x), (2, .int (obI (clA (f (19 + 5 * a)) (f (20 + 5 * a)) x n)))]) (S' := [.ref (18 + 5 * a)]) (f' := f) rfl ?_
      refine wq_getR (b := (21 + 5 * a)) rfl (act_O ha) (act_2 ha) ?_
      refine wq_run1 (pc' := 27) (L' := [(0, .ref (18 + 5 * a)), (1, .int x), (2, .int (obI (clA (f (19 + 5 * a)) (f (20 + 5 * a)) x n)))]) (S' := [.int (obI (clA (f (19 + 5 * a)) (f (20 + 5 * a)) x n)), .ref (21 + 5 * a)]) (f' := f) rfl ?_
      refine wq_ald (j := b) (n := 8) (v := (f (21 + 5 * a) b)) rfl (actA_2 ha) (actN_2 ha) (by rw [hb]; rfl) (by have := clA_lt hb; omega) (Nat.le_of_ble_eq_true rfl) rfl ?_
      exact wq_ret rfl ⟨by unfold pcA; rw [hb]; dsimp only; rw [if_pos c_19], rfl⟩
    · refine wq_run1 (pc' := 30) (L' := [(0, .ref (18 + 5 * a)), (1, .int x), (2, .int (obI (clA (f (19 + 5 * a)) (f (20 + 5 * a)) x n)))]) (S' := [.ref (18 + 5 * a)]) (f' := f) rfl ?_
      refine wq_callI (r := (obI (wTo (f (19 + 5 * a)) (f (20 + 5 * a)) n))) (sp_widestTo f ha hn2 hn8) (Nat.le_of_ble_eq_true rfl) (pc' := 33) (L' := [(0, .ref (18 + 5 * a)), (1, .int x), (2, .int (obI (clA (f (19 + 5 * a)) (f (20 + 5 * a)) x n)))]) (S' := []) (show oCallV 6 0 0 33 X2 (30, [(0, .ref (18 + 5 * a)), (1, .int x), (2, .int (obI (clA (f (19 + 5 * a)) (f (20 + 5 * a)) x n)))], [.ref (18 + 5 * a)]) (K0, f) = _ from oCallV_e rfl (act_O ha)) (Nat.le_of_ble_eq_true rfl) rfl rfl (Nat.le_of_ble_eq_true rfl) (Nat.le_of_ble_eq_true rfl) ?_
      refine wq_run3 (pc' := 36) (L' := [(0, .ref (18 + 5 * a)), (1, .int x), (2, .int (obI (clA (f (19 + 5 * a)) (f (20 + 5 * a)) x n))), (3, .int (obI (wTo (f (19 + 5 * a)) (f (20 + 5 * a)) n)))]) (S' := [.int (-1), .int (obI (wTo (f (19 + 5 * a)) (f (20 + 5 * a)) n))]) (f' := f) rfl ?_
      refine wq_if (c := (obI (wTo (f (19 + 5 * a)) (f (20 + 5 * a)) n)) = (-1)) (p1 := 39) (L1 := [(0, .ref (18 + 5 * a)), (1, .int x), (2, .int (obI (clA (f (19 + 5 * a)) (f (20 + 5 * a)) x n))), (3, .int (obI (wTo (f (19 + 5 * a)) (f (20 + 5 * a)) n)))]) (S1 := []) (p2 := 43) (L2 := [(0, .ref (18 + 5 * a)), (1, .int x), (2, .int (obI (clA (f (19 + 5 * a)) (f (20 + 5 * a)) x n))), (3, .int (obI (wTo (f (19 + 5 * a)) (f (20 + 5 * a)) n)))]) (S2 := []) rfl (fun c_36 => ?_) (fun c_36 => ?_)
      · refine wq_run5 (pc' := 53) (L' := [(0, .ref (18 + 5 * a)), (1, .int x), (2, .int (obI (clA (f (19 + 5 * a)) (f (20 + 5 * a)) x n))), (3, .int (obI (wTo (f (19 + 5 * a)) (f (20 + 5 * a)) n))), (4, .int 0)]) (S' := [.int (-1), .int (obI (wTo (f (19 + 5 * a)) (f (20 + 5 * a)) n))]) (f' := f) rfl ?_
        refine wq_if (c := (obI (wTo (f (19 + 5 * a)) (f (20 + 5 * a)) n)) = (-1)) (p1 := 56) (L1 := [(0, .ref (18 + 5 * a)), (1, .int x), (2, .int (obI (clA (f (19 + 5 * a)) (f (20 + 5 * a)) x n))), (3, .int (obI (wTo (f (19 + 5 * a)) (f (20 + 5 * a)) n))), (4, .int 0)]) (S1 := []) (p2 := 60) (L2 := [(0, .ref (18 + 5 * a)), (1, .int x), (2, .int (obI (clA (f (19 + 5 * a)) (f (20 + 5 * a)) x n))), (3, .int (obI (wTo (f (19 + 5 * a)) (f (20 + 5 * a)) n))), (4, .int 0)]) (S2 := []) rfl (fun _ => ?_) (fun q => absurd c_36 q)
        refine wq_run5 (pc' := 73) (L' := [(0, .ref (18 + 5 * a)), (1, .int x), (2, .int (obI (clA (f (19 + 5 * a)) (f (20 + 5 * a)) x n))), (3, .int (obI (wTo (f (19 + 5 * a)) (f (20 + 5 * a)) n))), (4, .int 0), (5, .int x)]) (S' := [.ref (18 + 5 * a), .int 0]) (f' := f) rfl ?_
        refine wq_getR (b := (21 + 5 * a)) rfl (act_O ha) (act_2 ha) ?_
        refine wq_run1 (pc' := 77) (L' := [(0, .ref (18 + 5 * a)), (1, .int x), (2, .int (obI (clA (f (19 + 5 * a)) (f (20 + 5 * a)) x n))), (3, .int (obI (wTo (f (19 + 5 * a)) (f (20 + 5 * a)) n))), (4, .int 0), (5, .int x)]) (S' := [.int (obI (clA (f (19 + 5 * a)) (f (20 + 5 * a)) x n)), .ref (21 + 5 * a), .int 0]) (f' := f) rfl ?_
        refine wq_ald (j := b) (n := 8) (v := (f (21 + 5 * a) b)) rfl (actA_2 ha) (actN_2 ha) (by rw [hb]; rfl) (by have := clA_lt hb; omega) (Nat.le_of_ble_eq_true rfl) rfl ?_
        refine wq_run2 (pc' := 81) (L' := [(0, .ref (18 + 5 * a)), (1, .int x), (2, .int (obI (clA (f (19 + 5 * a)) (f (20 + 5 * a)) x n))), (3, .int (obI (wTo (f (19 + 5 * a)) (f (20 + 5 * a)) n))), (4, .int 0), (5, .int x)]) (S' := [.ref (18 + 5 * a), .int x, .int (f (21 + 5 * a) b), .int 0]) (f' := f) rfl ?_
        refine wq_getR (b := (20 + 5 * a)) rfl (act_O ha) (act_1 ha) ?_
        refine wq_run1 (pc' := 85) (L' := [(0, .ref (18 + 5 * a)), (1, .int x), (2, .int (obI (clA (f (19 + 5 * a)) (f (20 + 5 * a)) x n))), (3, .int (obI (wTo (f (19 + 5 * a)) (f (20 + 5 * a)) n))), (4, .int 0), (5, .int x)]) (S' := [.int (obI (clA (f (19 + 5 * a)) (f (20 + 5 * a)) x n)), .ref (20 + 5 * a), .int x, .int (f (21 + 5 * a) b), .int 0]) (f' := f) rfl ?_
        refine wq_ald (j := b) (n := 8) (v := (f (20 + 5 * a) b)) rfl (actA_1 ha) (actN_1 ha) (by rw [hb]; rfl) (by have := clA_lt hb; omega) (Nat.le_of_ble_eq_true rfl) rfl ?_
        refine wq_callI (r := (upA x (f (20 + 5 * a) b))) (sp_upBy f x (f (20 + 5 * a) b)) (Nat.le_of_ble_eq_true rfl) (pc' := 89) (L' := [(0, .ref (18 + 5 * a)), (1, .int x), (2, .int (obI (clA (f (19 + 5 * a)) (f (20 + 5 * a)) x n))), (3, .int (obI (wTo (f (19 + 5 * a)) (f (20 + 5 * a)) n))), (4, .int 0), (5, .int x)]) (S' := [.int (f (21 + 5 * a) b), .int 0]) rfl (Nat.le_of_ble_eq_true rfl) rfl rfl (Nat.le_of_ble_eq_true rfl) (Nat.le_of_ble_eq_true rfl) ?_
        refine wq_run2 (pc' := 91) (L' := [(0, .ref (18 + 5 * a)), (1, .int x), (2, .int (obI (clA (f (19 + 5 * a)) (f (20 + 5 * a)) x n))), (3, .int (obI (wTo (f (19 + 5 * a)) (f (20 + 5 * a)) n))), (4, .int 0), (5, .int x)]) (S' := [.int (0 + ((f (21 + 5 * a) b) * (upA x (f (20 + 5 * a) b))))]) (f' := f) rfl ?_
        have e1 := (wTo_0 hn8).mp c_36
        exact wq_ret rfl ⟨by unfold pcA; rw [hb, e1]; dsimp only; rw [if_neg c_19], rfl⟩
      · obtain ⟨t, ht⟩ := obI_y c_36
        refine wq_run1 (pc' := 44) (L' := [(0, .ref (18 + 5 * a)), (1, .int x), (2, .int (obI (clA (f (19 + 5 * a)) (f (20 + 5 * a)) x n))), (3, .int (obI (wTo (f (19 + 5 * a)) (f (20 + 5 * a)) n)))]) (S' := [.ref (18 + 5 * a)]) (f' := f) rfl ?_
        refine wq_getR (b := (21 + 5 * a)) rfl (act_O ha) (act_2 ha) ?_
        refine wq_run1 (pc' := 48) (L' := [(0, .ref (18 + 5 * a)), (1, .int x), (2, .int (obI (clA (f (19 + 5 * a)) (f (20 + 5 * a)) x n))), (3, .int (obI (wTo (f (19 + 5 * a)) (f (20 + 5 * a)) n)))]) (S' := [.int (obI (wTo (f (19 + 5 * a)) (f (20 + 5 * a)) n)), .ref (21 + 5 * a)]) (f' := f) rfl ?_
        refine wq_ald (j := t) (n := 8) (v := (f (21 + 5 * a) t)) rfl (actA_2 ha) (actN_2 ha) (by rw [ht]; rfl) (by have := wTo_lt ht; omega) (Nat.le_of_ble_eq_true rfl) rfl ?_
        refine wq_run3 (pc' := 53) (L' := [(0, .ref (18 + 5 * a)), (1, .int x), (2, .int (obI (clA (f (19 + 5 * a)) (f (20 + 5 * a)) x n))), (3, .int (obI (wTo (f (19 + 5 * a)) (f (20 + 5 * a)) n))), (4, .int (f (21 + 5 * a) t))]) (S' := [.int (-1), .int (obI (wTo (f (19 + 5 * a)) (f (20 + 5 * a)) n))]) (f' := f) rfl ?_
        refine wq_if (c := (obI (wTo (f (19 + 5 * a)) (f (20 + 5 * a)) n)) = (-1)) (p1 := 56) (L1 := [(0, .ref (18 + 5 * a)), (1, .int x), (2, .int (obI (clA (f (19 + 5 * a)) (f (20 + 5 * a)) x n))), (3, .int (obI (wTo (f (19 + 5 * a)) (f (20 + 5 * a)) n))), (4, .int (f (21 + 5 * a) t))]) (S1 := []) (p2 := 60) (L2 := [(0, .ref (18 + 5 * a)), (1, .int x), (2, .int (obI (clA (f (19 + 5 * a)) (f (20 + 5 * a)) x n))), (3, .int (obI (wTo (f (19 + 5 * a)) (f (20 + 5 * a)) n))), (4, .int (f (21 + 5 * a) t))]) (S2 := []) rfl (fun q => absurd q c_36) (fun _ => ?_)
        refine wq_run2 (pc' := 62) (L' := [(0, .ref (18 + 5 * a)), (1, .int x), (2, .int (obI (clA (f (19 + 5 * a)) (f (20 + 5 * a)) x n))), (3, .int (obI (wTo (f (19 + 5 * a)) (f (20 + 5 * a)) n))), (4, .int (f (21 + 5 * a) t))]) (S' := [.ref (18 + 5 * a), .int x]) (f' := f) rfl ?_
        refine wq_getR (b := (20 + 5 * a)) rfl (act_O ha) (act_1 ha) ?_
        refine wq_run1 (pc' := 66) (L' := [(0, .ref (18 + 5 * a)), (1, .int x), (2, .int (obI (clA (f (19 + 5 * a)) (f (20 + 5 * a)) x n))), (3, .int (obI (wTo (f (19 + 5 * a)) (f (20 + 5 * a)) n))), (4, .int (f (21 + 5 * a) t))]) (S' := [.int (obI (wTo (f (19 + 5 * a)) (f (20 + 5 * a)) n)), .ref (20 + 5 * a), .int x]) (f' := f) rfl ?_
        refine wq_ald (j := t) (n := 8) (v := (f (20 + 5 * a) t)) rfl (actA_1 ha) (actN_1 ha) (by rw [ht]; rfl) (by have := wTo_lt ht; omega) (Nat.le_of_ble_eq_true rfl) rfl ?_
        refine wq_run4 (pc' := 73) (L' := [(0, .ref (18 + 5 * a)), (1, .int x), (2, .int (obI (clA (f (19 + 5 * a)) (f (20 + 5 * a)) x n))), (3, .int (obI (wTo (f (19 + 5 * a)) (f (20 + 5 * a)) n))), (4, .int (f (21 + 5 * a) t)), (5, .int (x - (f (20 + 5 * a) t)))]) (S' := [.ref (18 + 5 * a), .int (f (21 + 5 * a) t)]) (f' := f) rfl ?_
        refine wq_getR (b := (21 + 5 * a)) rfl (act_O ha) (act_2 ha) ?_
        refine wq_run1 (pc' := 77) (L' := [(0, .ref (18 + 5 * a)), (1, .int x), (2, .int (obI (clA (f (19 + 5 * a)) (f (20 + 5 * a)) x n))), (3, .int (obI (wTo (f (19 + 5 * a)) (f (20 + 5 * a)) n))), (4, .int (f (21 + 5 * a) t)), (5, .int (x - (f (20 + 5 * a) t)))]) (S' := [.int (obI (clA (f (19 + 5 * a)) (f (20 + 5 * a)) x n)), .ref (21 + 5 * a), .int (f (21 + 5 * a) t)]) (f' := f) rfl ?_
        refine wq_ald (j := b) (n := 8) (v := (f (21 + 5 * a) b)) rfl (actA_2 ha) (actN_2 ha) (by rw [hb]; rfl) (by have := clA_lt hb; omega) (Nat.le_of_ble_eq_true rfl) rfl ?_
        refine wq_run2 (pc' := 81) (L' := [(0, .ref (18 + 5 * a)), (1, .int x), (2, .int (obI (clA (f (19 + 5 * a)) (f (20 + 5 * a)) x n))), (3, .int (obI (wTo (f (19 + 5 * a)) (f (20 + 5 * a)) n))), (4, .int (f (21 + 5 * a) t)), (5, .int (x - (f (20 + 5 * a) t)))]) (S' := [.ref (18 + 5 * a), .int (x - (f (20 + 5 * a) t)), .int (f (21 + 5 * a) b), .int (f (21 + 5 * a) t)]) (f' := f) rfl ?_
        refine wq_getR (b := (20 + 5 * a)) rfl (act_O ha) (act_1 ha) ?_
        refine wq_run1 (pc' := 85) (L' := [(0, .ref (18 + 5 * a)), (1, .int x), (2, .int (obI (clA (f (19 + 5 * a)) (f (20 + 5 * a)) x n))), (3, .int (obI (wTo (f (19 + 5 * a)) (f (20 + 5 * a)) n))), (4, .int (f (21 + 5 * a) t)), (5, .int (x - (f (20 + 5 * a) t)))]) (S' := [.int (obI (clA (f (19 + 5 * a)) (f (20 + 5 * a)) x n)), .ref (20 + 5 * a), .int (x - (f (20 + 5 * a) t)), .int (f (21 + 5 * a) b), .int (f (21 + 5 * a) t)]) (f' := f) rfl ?_
        refine wq_ald (j := b) (n := 8) (v := (f (20 + 5 * a) b)) rfl (actA_1 ha) (actN_1 ha) (by rw [hb]; rfl) (by have := clA_lt hb; omega) (Nat.le_of_ble_eq_true rfl) rfl ?_
        refine wq_callI (r := (upA (x - (f (20 + 5 * a) t)) (f (20 + 5 * a) b))) (sp_upBy f (x - (f (20 + 5 * a) t)) (f (20 + 5 * a) b)) (Nat.le_of_ble_eq_true rfl) (pc' := 89) (L' := [(0, .ref (18 + 5 * a)), (1, .int x), (2, .int (obI (clA (f (19 + 5 * a)) (f (20 + 5 * a)) x n))), (3, .int (obI (wTo (f (19 + 5 * a)) (f (20 + 5 * a)) n))), (4, .int (f (21 + 5 * a) t)), (5, .int (x - (f (20 + 5 * a) t)))]) (S' := [.int (f (21 + 5 * a) b), .int (f (21 + 5 * a) t)]) rfl (Nat.le_of_ble_eq_true rfl) rfl rfl (Nat.le_of_ble_eq_true rfl) (Nat.le_of_ble_eq_true rfl) ?_
        refine wq_run2 (pc' := 91) (L' := [(0, .ref (18 + 5 * a)), (1, .int x), (2, .int (obI (clA (f (19 + 5 * a)) (f (20 + 5 * a)) x n))), (3, .int (obI (wTo (f (19 + 5 * a)) (f (20 + 5 * a)) n))), (4, .int (f (21 + 5 * a) t)), (5, .int (x - (f (20 + 5 * a) t)))]) (S' := [.int ((f (21 + 5 * a) t) + ((f (21 + 5 * a) b) * (upA (x - (f (20 + 5 * a) t)) (f (20 + 5 * a) b))))]) (f' := f) rfl ?_
        exact wq_ret rfl ⟨by unfold pcA; rw [hb, ht]; dsimp only; rw [if_neg c_19], rfl⟩
def aS (K N : Nat → Int32) (h s : Int32) : Nat → Int32
  | 0 => s
  | c + 1 => if K c = 4 ∧ ¬ h = 0 then aS K N h s c - N c else aS K N h s c
def lS (K N : Nat → Int32) : Nat → Int32
  | 0 => 0
  | c + 1 => if K c = 5 then imax (lS K N c) (N c) else lS K N c
/-- sheets or drams -/
def tmA (K N : Nat → Int32) (sh dr : Int32) (n : Nat) : Int32 := match fOv 2 K n with
  | none => sh
  | some b => upA dr (N b)
def chA (K N P : Nat → Int32) (x sh dr h : Int32) (n : Nat) : Int32 :=
  if x < 0 ∨ pcA K N P x n = -1 then -1 else imax (aS K N h (pcA K N P x n * tmA K N sh dr n) n) (lS K N n)
theorem lp_charge (f : HI) (h s : Int32) {a n : Nat} (ha : a < 5) (hn2 : f (18 + 5 * a) 3 = nI n) (hn8 : n ≤ 8) : ∀ (m9 : Nat) (c : Nat), (c ≤ n) → n - c < m9 → wq 3 3 (Ret (imax (aS (f (19 + 5 * a)) (f (20 + 5 * a)) h s n) (lS (f (19 + 5 * a)) (f (20 + 5 * a)) n)) f) 61 [(0, .ref (18 + 5 * a)), (4, .int h), (7, .int (aS (f (19 + 5 * a)) (f (20 + 5 * a)) h s c)), (8, .int (lS (f (19 + 5 * a)) (f (20 + 5 * a)) c)), (9, .int (nI c))] [] f := by
  intro m9
  induction m9 with
  | zero => intro c hc0 hn; exact absurd hn (Nat.not_lt_zero _)
  | succ m9 ih =>
    intro c hc0 hn
    refine wq_run2 (pc' := 64) (L' := [(0, .ref (18 + 5 * a)), (4, .int h), (7, .int (aS (f (19 + 5 * a)) (f (20 + 5 * a)) h s c)), (8, .int (lS (f (19 + 5 * a)) (f (20 + 5 * a)) c)), (9, .int (nI c))]) (S' := [.ref (18 + 5 * a), .int (nI c)]) (f' := f) rfl ?_
    refine wq_getI (v := (f (18 + 5 * a) 3)) rfl (act_O ha) rfl ?_
    refine wq_if (c := (f (18 + 5 * a) 3) ≤ (nI c)) (p1 := 129) (L1 := [(0, .ref (18 + 5 * a)), (4, .int h), (7, .int (aS (f (19 + 5 * a)) (f (20 + 5 * a)) h s c)), (8, .int (lS (f (19 + 5 * a)) (f (20 + 5 * a)) c)), (9, .int (nI c))]) (S1 := []) (p2 := 70) (L2 := [(0, .ref (18 + 5 * a)), (4, .int h), (7, .int (aS (f (19 + 5 * a)) (f (20 + 5 * a)) h s c)), (8, .int (lS (f (19 + 5 * a)) (f (20 + 5 * a)) c)), (9, .int (nI c))]) (S2 := []) rfl (fun c_67 => ?_) (fun c_67 => ?_)
    · have e : c = n := Nat.le_antisymm hc0 (Nat.not_lt.mp (fun q => absurd (show f (18 + 5 * a) 3 ≤ nI c from c_67) (by rw [hn2]; exact nI_ge q (by omega))))
      clear ih hn
      refine wq_run2 (pc' := 133) (L' := [(0, .ref (18 + 5 * a)), (4, .int h), (7, .int (aS (f (19 + 5 * a)) (f (20 + 5 * a)) h s c)), (8, .int (lS (f (19 + 5 * a)) (f (20 + 5 * a)) c)), (9, .int (nI c))]) (S' := [.int (lS (f (19 + 5 * a)) (f (20 + 5 * a)) c), .int (aS (f (19 + 5 * a)) (f (20 + 5 * a)) h s c)]) (f' := f) rfl ?_
      refine wq_callI (r := (imax (aS (f (19 + 5 * a)) (f (20 + 5 * a)) h s c) (lS (f (19 + 5 * a)) (f (20 + 5 * a)) c))) (jp_max f (aS (f (19 + 5 * a)) (f (20 + 5 * a)) h s c) (lS (f (19 + 5 * a)) (f (20 + 5 * a)) c)) (Nat.le_of_ble_eq_true rfl) (pc' := 136) (L' := [(0, .ref (18 + 5 * a)), (4, .int h), (7, .int (aS (f (19 + 5 * a)) (f (20 + 5 * a)) h s c)), (8, .int (lS (f (19 + 5 * a)) (f (20 + 5 * a)) c)), (9, .int (nI c))]) (S' := []) rfl (Nat.le_of_ble_eq_true rfl) rfl rfl (Nat.le_of_ble_eq_true rfl) (Nat.le_of_ble_eq_true rfl) ?_
      rw [e]
      exact wq_ret rfl ⟨rfl, rfl⟩
    · have hcn : c < n := Nat.lt_of_not_le (fun q => c_67 (by show f (18 + 5 * a) 3 ≤ nI c; rw [hn2]; exact nI_le q (by omega)))
      refine wq_run1 (pc' := 71) (L' := [(0, .ref (18 + 5 * a)), (4, .int h), (7, .int (aS (f (19 + 5 * a)) (f (20 + 5 * a)) h s c)), (8, .int (lS (f (19 + 5 * a)) (f (20 + 5 * a)) c)), (9, .int (nI c))]) (S' := [.ref (18 + 5 * a)]) (f' := f) rfl ?_
      refine wq_getR (b := (19 + 5 * a)) rfl (act_O ha) (act_0 ha) ?_
      refine wq_run1 (pc' := 76) (L' := [(0, .ref (18 + 5 * a)), (4, .int h), (7, .int (aS (f (19 + 5 * a)) (f (20 + 5 * a)) h s c)), (8, .int (lS (f (19 + 5 * a)) (f (20 + 5 * a)) c)), (9, .int (nI c))]) (S' := [.int (nI c), .ref (19 + 5 * a)]) (f' := f) rfl ?_
      refine wq_ald (j := c) (n := 8) (v := (f (19 + 5 * a) c)) rfl (actA_0 ha) (actN_0 ha) rfl (by omega) (Nat.le_of_ble_eq_true rfl) rfl ?_
      refine wq_run1 (pc' := 78) (L' := [(0, .ref (18 + 5 * a)), (4, .int h), (7, .int (aS (f (19 + 5 * a)) (f (20 + 5 * a)) h s c)), (8, .int (lS (f (19 + 5 * a)) (f (20 + 5 * a)) c)), (9, .int (nI c))]) (S' := [.int 4, .int (f (19 + 5 * a) c)]) (f' := f) rfl ?_
      refine wq_if (c := (f (19 + 5 * a) c) = 4) (p1 := 81) (L1 := [(0, .ref (18 + 5 * a)), (4, .int h), (7, .int (aS (f (19 + 5 * a)) (f (20 + 5 * a)) h s c)), (8, .int (lS (f (19 + 5 * a)) (f (20 + 5 * a)) c)), (9, .int (nI c))]) (S1 := []) (p2 := 98) (L2 := [(0, .ref (18 + 5 * a)), (4, .int h), (7, .int (aS (f (19 + 5 * a)) (f (20 + 5 * a)) h s c)), (8, .int (lS (f (19 + 5 * a)) (f (20 + 5 * a)) c)), (9, .int (nI c))]) (S2 := []) rfl (fun c_78 => ?_) (fun c_78 => ?_)
      · refine wq_run1 (pc' := 83) (L' := [(0, .ref (18 + 5 * a)), (4, .int h), (7, .int (aS (f (19 + 5 * a)) (f (20 + 5 * a)) h s c)), (8, .int (lS (f (19 + 5 * a)) (f (20 + 5 * a)) c)), (9, .int (nI c))]) (S' := [.int h]) (f' := f) rfl ?_
        refine wq_if (c := h = 0) (p1 := 98) (L1 := [(0, .ref (18 + 5 * a)), (4, .int h), (7, .int (aS (f (19 + 5 * a)) (f (20 + 5 * a)) h s c)), (8, .int (lS (f (19 + 5 * a)) (f (20 + 5 * a)) c)), (9, .int (nI c))]) (S1 := []) (p2 := 86) (L2 := [(0, .ref (18 + 5 * a)), (4, .int h), (7, .int (aS (f (19 + 5 * a)) (f (20 + 5 * a)) h s c)), (8, .int (lS (f (19 + 5 * a)) (f (20 + 5 * a)) c)), (9, .int (nI c))]) (S2 := []) rfl (fun c_83 => ?_) (fun c_83 => ?_)
        · refine wq_run1 (pc' := 99) (L' := [(0, .ref (18 + 5 * a)), (4, .int h), (7, .int (aS (f (19 + 5 * a)) (f (20 + 5 * a)) h s c)), (8, .int (lS (f (19 + 5 * a)) (f (20 + 5 * a)) c)), (9, .int (nI c))]) (S' := [.ref (18 + 5 * a)]) (f' := f) rfl ?_
          refine wq_getR (b := (19 + 5 * a)) rfl (act_O ha) (act_0 ha) ?_
          refine wq_run1 (pc' := 104) (L' := [(0, .ref (18 + 5 * a)), (4, .int h), (7, .int (aS (f (19 + 5 * a)) (f (20 + 5 * a)) h s c)), (8, .int (lS (f (19 + 5 * a)) (f (20 + 5 * a)) c)), (9, .int (nI c))]) (S' := [.int (nI c), .ref (19 + 5 * a)]) (f' := f) rfl ?_
          refine wq_ald (j := c) (n := 8) (v := (f (19 + 5 * a) c)) rfl (actA_0 ha) (actN_0 ha) rfl (by omega) (Nat.le_of_ble_eq_true rfl) rfl ?_
          refine wq_run1 (pc' := 106) (L' := [(0, .ref (18 + 5 * a)), (4, .int h), (7, .int (aS (f (19 + 5 * a)) (f (20 + 5 * a)) h s c)), (8, .int (lS (f (19 + 5 * a)) (f (20 + 5 * a)) c)), (9, .int (nI c))]) (S' := [.int 5, .int (f (19 + 5 * a) c)]) (f' := f) rfl ?_
          refine wq_if (c := (f (19 + 5 * a) c) = 5) (p1 := 109) (L1 := [(0, .ref (18 + 5 * a)), (4, .int h), (7, .int (aS (f (19 + 5 * a)) (f (20 + 5 * a)) h s c)), (8, .int (lS (f (19 + 5 * a)) (f (20 + 5 * a)) c)), (9, .int (nI c))]) (S1 := []) (p2 := 123) (L2 := [(0, .ref (18 + 5 * a)), (4, .int h), (7, .int (aS (f (19 + 5 * a)) (f (20 + 5 * a)) h s c)), (8, .int (lS (f (19 + 5 * a)) (f (20 + 5 * a)) c)), (9, .int (nI c))]) (S2 := []) rfl (fun c_106 => ?_) (fun c_106 => ?_)
          · refine wq_run2 (pc' := 112) (L' := [(0, .ref (18 + 5 * a)), (4, .int h), (7, .int (aS (f (19 + 5 * a)) (f (20 + 5 * a)) h s c)), (8, .int (lS (f (19 + 5 * a)) (f (20 + 5 * a)) c)), (9, .int (nI c))]) (S' := [.ref (18 + 5 * a), .int (lS (f (19 + 5 * a)) (f (20 + 5 * a)) c)]) (f' := f) rfl ?_
            refine wq_getR (b := (20 + 5 * a)) rfl (act_O ha) (act_1 ha) ?_
            refine wq_run1 (pc' := 117) (L' := [(0, .ref (18 + 5 * a)), (4, .int h), (7, .int (aS (f (19 + 5 * a)) (f (20 + 5 * a)) h s c)), (8, .int (lS (f (19 + 5 * a)) (f (20 + 5 * a)) c)), (9, .int (nI c))]) (S' := [.int (nI c), .ref (20 + 5 * a), .int (lS (f (19 + 5 * a)) (f (20 + 5 * a)) c)]) (f' := f) rfl ?_
            refine wq_ald (j := c) (n := 8) (v := (f (20 + 5 * a) c)) rfl (actA_1 ha) (actN_1 ha) rfl (by omega) (Nat.le_of_ble_eq_true rfl) rfl ?_
            refine wq_callI (r := (imax (lS (f (19 + 5 * a)) (f (20 + 5 * a)) c) (f (20 + 5 * a) c))) (jp_max f (lS (f (19 + 5 * a)) (f (20 + 5 * a)) c) (f (20 + 5 * a) c)) (Nat.le_of_ble_eq_true rfl) (pc' := 121) (L' := [(0, .ref (18 + 5 * a)), (4, .int h), (7, .int (aS (f (19 + 5 * a)) (f (20 + 5 * a)) h s c)), (8, .int (lS (f (19 + 5 * a)) (f (20 + 5 * a)) c)), (9, .int (nI c))]) (S' := []) rfl (Nat.le_of_ble_eq_true rfl) rfl rfl (Nat.le_of_ble_eq_true rfl) (Nat.le_of_ble_eq_true rfl) ?_
            refine wq_run3 (pc' := 61) (L' := [(0, .ref (18 + 5 * a)), (4, .int h), (7, .int (aS (f (19 + 5 * a)) (f (20 + 5 * a)) h s c)), (8, .int (imax (lS (f (19 + 5 * a)) (f (20 + 5 * a)) c) (f (20 + 5 * a) c))), (9, .int ((nI c) + 1))]) (S' := []) (f' := f) rfl ?_
            have e1 : aS (f (19 + 5 * a)) (f (20 + 5 * a)) h s (c + 1) = aS (f (19 + 5 * a)) (f (20 + 5 * a)) h s c := if_neg (fun q => q.2 c_83)
            have e2 : lS (f (19 + 5 * a)) (f (20 + 5 * a)) (c + 1) = imax (lS (f (19 + 5 * a)) (f (20 + 5 * a)) c) ((f (20 + 5 * a)) c) := if_pos c_106
            have h9 := ih (c + 1) (by omega) (by omega)
            rw [e1, e2] at h9
            rw [nI_1]
            exact h9
          · refine wq_run2 (pc' := 61) (L' := [(0, .ref (18 + 5 * a)), (4, .int h), (7, .int (aS (f (19 + 5 * a)) (f (20 + 5 * a)) h s c)), (8, .int (lS (f (19 + 5 * a)) (f (20 + 5 * a)) c)), (9, .int ((nI c) + 1))]) (S' := []) (f' := f) rfl ?_
            have e1 : aS (f (19 + 5 * a)) (f (20 + 5 * a)) h s (c + 1) = aS (f (19 + 5 * a)) (f (20 + 5 * a)) h s c := if_neg (fun q => q.2 c_83)
            have e2 : lS (f (19 + 5 * a)) (f (20 + 5 * a)) (c + 1) = lS (f (19 + 5 * a)) (f (20 + 5 * a)) c := if_neg c_106
            have h9 := ih (c + 1) (by omega) (by omega)
            rw [e1, e2] at h9
            rw [nI_1]
            exact h9
        · refine wq_run2 (pc' := 89) (L' := [(0, .ref (18 + 5 * a)), (4, .int h), (7, .int (aS (f (19 + 5 * a)) (f (20 + 5 * a)) h s c)), (8, .int (lS (f (19 + 5 * a)) (f (20 + 5 * a)) c)), (9, .int (nI c))]) (S' := [.ref (18 + 5 * a), .int (aS (f (19 + 5 * a)) (f (20 + 5 * a)) h s c)]) (f' := f) rfl ?_
          refine wq_getR (b := (20 + 5 * a)) rfl (act_O ha) (act_1 ha) ?_
          refine wq_run1 (pc' := 94) (L' := [(0, .ref (18 + 5 * a)), (4, .int h), (7, .int (aS (f (19 + 5 * a)) (f (20 + 5 * a)) h s c)), (8, .int (lS (f (19 + 5 * a)) (f (20 + 5 * a)) c)), (9, .int (nI c))]) (S' := [.int (nI c), .ref (20 + 5 * a), .int (aS (f (19 + 5 * a)) (f (20 + 5 * a)) h s c)]) (f' := f) rfl ?_
          refine wq_ald (j := c) (n := 8) (v := (f (20 + 5 * a) c)) rfl (actA_1 ha) (actN_1 ha) rfl (by omega) (Nat.le_of_ble_eq_true rfl) rfl ?_
          refine wq_run3 (pc' := 99) (L' := [(0, .ref (18 + 5 * a)), (4, .int h), (7, .int ((aS (f (19 + 5 * a)) (f (20 + 5 * a)) h s c) - (f (20 + 5 * a) c))), (8, .int (lS (f (19 + 5 * a)) (f (20 + 5 * a)) c)), (9, .int (nI c))]) (S' := [.ref (18 + 5 * a)]) (f' := f) rfl ?_
          refine wq_getR (b := (19 + 5 * a)) rfl (act_O ha) (act_0 ha) ?_
          refine wq_run1 (pc' := 104) (L' := [(0, .ref (18 + 5 * a)), (4, .int h), (7, .int ((aS (f (19 + 5 * a)) (f (20 + 5 * a)) h s c) - (f (20 + 5 * a) c))), (8, .int (lS (f (19 + 5 * a)) (f (20 + 5 * a)) c)), (9, .int (nI c))]) (S' := [.int (nI c), .ref (19 + 5 * a)]) (f' := f) rfl ?_
          refine wq_ald (j := c) (n := 8) (v := (f (19 + 5 * a) c)) rfl (actA_0 ha) (actN_0 ha) rfl (by omega) (Nat.le_of_ble_eq_true rfl) rfl ?_
          refine wq_run1 (pc' := 106) (L' := [(0, .ref (18 + 5 * a)), (4, .int h), (7, .int ((aS (f (19 + 5 * a)) (f (20 + 5 * a)) h s c) - (f (20 + 5 * a) c))), (8, .int (lS (f (19 + 5 * a)) (f (20 + 5 * a)) c)), (9, .int (nI c))]) (S' := [.int 5, .int (f (19 + 5 * a) c)]) (f' := f) rfl ?_
          refine wq_if (c := (f (19 + 5 * a) c) = 5) (p1 := 109) (L1 := [(0, .ref (18 + 5 * a)), (4, .int h), (7, .int ((aS (f (19 + 5 * a)) (f (20 + 5 * a)) h s c) - (f (20 + 5 * a) c))), (8, .int (lS (f (19 + 5 * a)) (f (20 + 5 * a)) c)), (9, .int (nI c))]) (S1 := []) (p2 := 123) (L2 := [(0, .ref (18 + 5 * a)), (4, .int h), (7, .int ((aS (f (19 + 5 * a)) (f (20 + 5 * a)) h s c) - (f (20 + 5 * a) c))), (8, .int (lS (f (19 + 5 * a)) (f (20 + 5 * a)) c)), (9, .int (nI c))]) (S2 := []) rfl (fun c_106 => ?_) (fun c_106 => ?_)
          · refine wq_run2 (pc' := 112) (L' := [(0, .ref (18 + 5 * a)), (4, .int h), (7, .int ((aS (f (19 + 5 * a)) (f (20 + 5 * a)) h s c) - (f (20 + 5 * a) c))), (8, .int (lS (f (19 + 5 * a)) (f (20 + 5 * a)) c)), (9, .int (nI c))]) (S' := [.ref (18 + 5 * a), .int (lS (f (19 + 5 * a)) (f (20 + 5 * a)) c)]) (f' := f) rfl ?_
            refine wq_getR (b := (20 + 5 * a)) rfl (act_O ha) (act_1 ha) ?_
            refine wq_run1 (pc' := 117) (L' := [(0, .ref (18 + 5 * a)), (4, .int h), (7, .int ((aS (f (19 + 5 * a)) (f (20 + 5 * a)) h s c) - (f (20 + 5 * a) c))), (8, .int (lS (f (19 + 5 * a)) (f (20 + 5 * a)) c)), (9, .int (nI c))]) (S' := [.int (nI c), .ref (20 + 5 * a), .int (lS (f (19 + 5 * a)) (f (20 + 5 * a)) c)]) (f' := f) rfl ?_
            refine wq_ald (j := c) (n := 8) (v := (f (20 + 5 * a) c)) rfl (actA_1 ha) (actN_1 ha) rfl (by omega) (Nat.le_of_ble_eq_true rfl) rfl ?_
            refine wq_callI (r := (imax (lS (f (19 + 5 * a)) (f (20 + 5 * a)) c) (f (20 + 5 * a) c))) (jp_max f (lS (f (19 + 5 * a)) (f (20 + 5 * a)) c) (f (20 + 5 * a) c)) (Nat.le_of_ble_eq_true rfl) (pc' := 121) (L' := [(0, .ref (18 + 5 * a)), (4, .int h), (7, .int ((aS (f (19 + 5 * a)) (f (20 + 5 * a)) h s c) - (f (20 + 5 * a) c))), (8, .int (lS (f (19 + 5 * a)) (f (20 + 5 * a)) c)), (9, .int (nI c))]) (S' := []) rfl (Nat.le_of_ble_eq_true rfl) rfl rfl (Nat.le_of_ble_eq_true rfl) (Nat.le_of_ble_eq_true rfl) ?_
            refine wq_run3 (pc' := 61) (L' := [(0, .ref (18 + 5 * a)), (4, .int h), (7, .int ((aS (f (19 + 5 * a)) (f (20 + 5 * a)) h s c) - (f (20 + 5 * a) c))), (8, .int (imax (lS (f (19 + 5 * a)) (f (20 + 5 * a)) c) (f (20 + 5 * a) c))), (9, .int ((nI c) + 1))]) (S' := []) (f' := f) rfl ?_
            have e1 : aS (f (19 + 5 * a)) (f (20 + 5 * a)) h s (c + 1) = aS (f (19 + 5 * a)) (f (20 + 5 * a)) h s c - (f (20 + 5 * a)) c := if_pos ⟨c_78, c_83⟩
            have e2 : lS (f (19 + 5 * a)) (f (20 + 5 * a)) (c + 1) = imax (lS (f (19 + 5 * a)) (f (20 + 5 * a)) c) ((f (20 + 5 * a)) c) := if_pos c_106
            have h9 := ih (c + 1) (by omega) (by omega)
            rw [e1, e2] at h9
            rw [nI_1]
            exact h9
          · refine wq_run2 (pc' := 61) (L' := [(0, .ref (18 + 5 * a)), (4, .int h), (7, .int ((aS (f (19 + 5 * a)) (f (20 + 5 * a)) h s c) - (f (20 + 5 * a) c))), (8, .int (lS (f (19 + 5 * a)) (f (20 + 5 * a)) c)), (9, .int ((nI c) + 1))]) (S' := []) (f' := f) rfl ?_
            have e1 : aS (f (19 + 5 * a)) (f (20 + 5 * a)) h s (c + 1) = aS (f (19 + 5 * a)) (f (20 + 5 * a)) h s c - (f (20 + 5 * a)) c := if_pos ⟨c_78, c_83⟩
            have e2 : lS (f (19 + 5 * a)) (f (20 + 5 * a)) (c + 1) = lS (f (19 + 5 * a)) (f (20 + 5 * a)) c := if_neg c_106
            have h9 := ih (c + 1) (by omega) (by omega)
            rw [e1, e2] at h9
            rw [nI_1]
            exact h9
      · refine wq_run1 (pc' := 99) (L' := [(0, .ref (18 + 5 * a)), (4, .int h), (7, .int (aS (f (19 + 5 * a)) (f (20 + 5 * a)) h s c)), (8, .int (lS (f (19 + 5 * a)) (f (20 + 5 * a)) c)), (9, .int (nI c))]) (S' := [.ref (18 + 5 * a)]) (f' := f) rfl ?_
        refine wq_getR (b := (19 + 5 * a)) rfl (act_O ha) (act_0 ha) ?_
        refine wq_run1 (pc' := 104) (L' := [(0, .ref (18 + 5 * a)), (4, .int h), (7, .int (aS (f (19 + 5 * a)) (f (20 + 5 * a)) h s c)), (8, .int (lS (f (19 + 5 * a)) (f (20 + 5 * a)) c)), (9, .int (nI c))]) (S' := [.int (nI c), .ref (19 + 5 * a)]) (f' := f) rfl ?_
        refine wq_ald (j := c) (n := 8) (v := (f (19 + 5 * a) c)) rfl (actA_0 ha) (actN_0 ha) rfl (by omega) (Nat.le_of_ble_eq_true rfl) rfl ?_
        refine wq_run1 (pc' := 106) (L' := [(0, .ref (18 + 5 * a)), (4, .int h), (7, .int (aS (f (19 + 5 * a)) (f (20 + 5 * a)) h s c)), (8, .int (lS (f (19 + 5 * a)) (f (20 + 5 * a)) c)), (9, .int (nI c))]) (S' := [.int 5, .int (f (19 + 5 * a) c)]) (f' := f) rfl ?_
        refine wq_if (c := (f (19 + 5 * a) c) = 5) (p1 := 109) (L1 := [(0, .ref (18 + 5 * a)), (4, .int h), (7, .int (aS (f (19 + 5 * a)) (f (20 + 5 * a)) h s c)), (8, .int (lS (f (19 + 5 * a)) (f (20 + 5 * a)) c)), (9, .int (nI c))]) (S1 := []) (p2 := 123) (L2 := [(0, .ref (18 + 5 * a)), (4, .int h), (7, .int (aS (f (19 + 5 * a)) (f (20 + 5 * a)) h s c)), (8, .int (lS (f (19 + 5 * a)) (f (20 + 5 * a)) c)), (9, .int (nI c))]) (S2 := []) rfl (fun c_106 => ?_) (fun c_106 => ?_)
        · refine wq_run2 (pc' := 112) (L' := [(0, .ref (18 + 5 * a)), (4, .int h), (7, .int (aS (f (19 + 5 * a)) (f (20 + 5 * a)) h s c)), (8, .int (lS (f (19 + 5 * a)) (f (20 + 5 * a)) c)), (9, .int (nI c))]) (S' := [.ref (18 + 5 * a), .int (lS (f (19 + 5 * a)) (f (20 + 5 * a)) c)]) (f' := f) rfl ?_
          refine wq_getR (b := (20 + 5 * a)) rfl (act_O ha) (act_1 ha) ?_
          refine wq_run1 (pc' := 117) (L' := [(0, .ref (18 + 5 * a)), (4, .int h), (7, .int (aS (f (19 + 5 * a)) (f (20 + 5 * a)) h s c)), (8, .int (lS (f (19 + 5 * a)) (f (20 + 5 * a)) c)), (9, .int (nI c))]) (S' := [.int (nI c), .ref (20 + 5 * a), .int (lS (f (19 + 5 * a)) (f (20 + 5 * a)) c)]) (f' := f) rfl ?_
          refine wq_ald (j := c) (n := 8) (v := (f (20 + 5 * a) c)) rfl (actA_1 ha) (actN_1 ha) rfl (by omega) (Nat.le_of_ble_eq_true rfl) rfl ?_
          refine wq_callI (r := (imax (lS (f (19 + 5 * a)) (f (20 + 5 * a)) c) (f (20 + 5 * a) c))) (jp_max f (lS (f (19 + 5 * a)) (f (20 + 5 * a)) c) (f (20 + 5 * a) c)) (Nat.le_of_ble_eq_true rfl) (pc' := 121) (L' := [(0, .ref (18 + 5 * a)), (4, .int h), (7, .int (aS (f (19 + 5 * a)) (f (20 + 5 * a)) h s c)), (8, .int (lS (f (19 + 5 * a)) (f (20 + 5 * a)) c)), (9, .int (nI c))]) (S' := []) rfl (Nat.le_of_ble_eq_true rfl) rfl rfl (Nat.le_of_ble_eq_true rfl) (Nat.le_of_ble_eq_true rfl) ?_
          refine wq_run3 (pc' := 61) (L' := [(0, .ref (18 + 5 * a)), (4, .int h), (7, .int (aS (f (19 + 5 * a)) (f (20 + 5 * a)) h s c)), (8, .int (imax (lS (f (19 + 5 * a)) (f (20 + 5 * a)) c) (f (20 + 5 * a) c))), (9, .int ((nI c) + 1))]) (S' := []) (f' := f) rfl ?_
          have e1 : aS (f (19 + 5 * a)) (f (20 + 5 * a)) h s (c + 1) = aS (f (19 + 5 * a)) (f (20 + 5 * a)) h s c := if_neg (fun q => c_78 q.1)
          have e2 : lS (f (19 + 5 * a)) (f (20 + 5 * a)) (c + 1) = imax (lS (f (19 + 5 * a)) (f (20 + 5 * a)) c) ((f (20 + 5 * a)) c) := if_pos c_106
          have h9 := ih (c + 1) (by omega) (by omega)
          rw [e1, e2] at h9
          rw [nI_1]
          exact h9
        · refine wq_run2 (pc' := 61) (L' := [(0, .ref (18 + 5 * a)), (4, .int h), (7, .int (aS (f (19 + 5 * a)) (f (20 + 5 * a)) h s c)), (8, .int (lS (f (19 + 5 * a)) (f (20 + 5 * a)) c)), (9, .int ((nI c) + 1))]) (S' := []) (f' := f) rfl ?_
          have e1 : aS (f (19 + 5 * a)) (f (20 + 5 * a)) h s (c + 1) = aS (f (19 + 5 * a)) (f (20 + 5 * a)) h s c := if_neg (fun q => c_78 q.1)
          have e2 : lS (f (19 + 5 * a)) (f (20 + 5 * a)) (c + 1) = lS (f (19 + 5 * a)) (f (20 + 5 * a)) c := if_neg c_106
          have h9 := ih (c + 1) (by omega) (by omega)
          rw [e1, e2] at h9
          rw [nI_1]
          exact h9
theorem sp_charge (f : HI) (x sh dr h : Int32) {a n : Nat} (ha : a < 5) (hn2 : f (18 + 5 * a) 3 = nI n) (hn8 : n ≤ 8) : Sp 3 3 [.ref (18 + 5 * a), .int x, .int sh, .int dr, .int h] f (Ret (chA (f (19 + 5 * a)) (f (20 + 5 * a)) (f (21 + 5 * a)) x sh dr h n) f) := by
  show wq 3 3 (Ret (chA (f (19 + 5 * a)) (f (20 + 5 * a)) (f (21 + 5 * a)) x sh dr h n) f) 0 [(0, .ref (18 + 5 * a)), (1, .int x), (2, .int sh), (3, .int dr), (4, .int h)] [] f
  refine wq_run1 (pc' := 1) (L' := [(0, .ref (18 + 5 * a)), (1, .int x), (2, .int sh), (3, .int dr), (4, .int h)]) (S' := [.int x]) (f' := f) rfl ?_
  refine wq_if (c := 0 ≤ x) (p1 := 8) (L1 := [(0, .ref (18 + 5 * a)), (1, .int x), (2, .int sh), (3, .int dr), (4, .int h)]) (S1 := []) (p2 := 4) (L2 := [(0, .ref (18 + 5 * a)), (1, .int x), (2, .int sh), (3, .int dr), (4, .int h)]) (S2 := []) rfl (fun c_1 => ?_) (fun c_1 => ?_)
  · refine wq_run2 (pc' := 10) (L' := [(0, .ref (18 + 5 * a)), (1, .int x), (2, .int sh), (3, .int dr), (4, .int h)]) (S' := [.int x, .ref (18 + 5 * a)]) (f' := f) rfl ?_
    refine wq_callI (r := (pcA (f (19 + 5 * a)) (f (20 + 5 * a)) (f (21 + 5 * a)) x n)) (sp_penceFor f x ha hn2 hn8) (Nat.le_of_ble_eq_true rfl) (pc' := 13) (L' := [(0, .ref (18 + 5 * a)), (1, .int x), (2, .int sh), (3, .int dr), (4, .int h)]) (S' := []) (show oCallV 5 0 1 13 X2 (10, [(0, .ref (18 + 5 * a)), (1, .int x), (2, .int sh), (3, .int dr), (4, .int h)], [.int x, .ref (18 + 5 * a)]) (K0, f) = _ from oCallV_e rfl (act_O ha)) (Nat.le_of_ble_eq_true rfl) rfl rfl (Nat.le_of_ble_eq_true rfl) (Nat.le_of_ble_eq_true rfl) ?_
    refine wq_run3 (pc' := 18) (L' := [(0, .ref (18 + 5 * a)), (1, .int x), (2, .int sh), (3, .int dr), (4, .int h), (5, .int (pcA (f (19 + 5 * a)) (f (20 + 5 * a)) (f (21 + 5 * a)) x n))]) (S' := [.int (-1), .int (pcA (f (19 + 5 * a)) (f (20 + 5 * a)) (f (21 + 5 * a)) x n)]) (f' := f) rfl ?_
    refine wq_if (c := (pcA (f (19 + 5 * a)) (f (20 + 5 * a)) (f (21 + 5 * a)) x n) = (-1)) (p1 := 21) (L1 := [(0, .ref (18 + 5 * a)), (1, .int x), (2, .int sh), (3, .int dr), (4, .int h), (5, .int (pcA (f (19 + 5 * a)) (f (20 + 5 * a)) (f (21 + 5 * a)) x n))]) (S1 := []) (p2 := 23) (L2 := [(0, .ref (18 + 5 * a)), (1, .int x), (2, .int sh), (3, .int dr), (4, .int h), (5, .int (pcA (f (19 + 5 * a)) (f (20 + 5 * a)) (f (21 + 5 * a)) x n))]) (S2 := []) rfl (fun c_18 => ?_) (fun c_18 => ?_)
    · refine wq_run1 (pc' := 22) (L' := [(0, .ref (18 + 5 * a)), (1, .int x), (2, .int sh), (3, .int dr), (4, .int h), (5, .int (pcA (f (19 + 5 * a)) (f (20 + 5 * a)) (f (21 + 5 * a)) x n))]) (S' := [.int (-1)]) (f' := f) rfl ?_
      exact wq_ret rfl ⟨by unfold chA; rw [if_pos (Or.inr c_18)], rfl⟩
    · refine wq_run1 (pc' := 24) (L' := [(0, .ref (18 + 5 * a)), (1, .int x), (2, .int sh), (3, .int dr), (4, .int h), (5, .int (pcA (f (19 + 5 * a)) (f (20 + 5 * a)) (f (21 + 5 * a)) x n))]) (S' := [.ref (18 + 5 * a)]) (f' := f) rfl ?_
      refine wq_callI (r := (obI (fOv 2 (f (19 + 5 * a)) n))) (sp_firstWeigh f ha hn2 hn8) (Nat.le_of_ble_eq_true rfl) (pc' := 27) (L' := [(0, .ref (18 + 5 * a)), (1, .int x), (2, .int sh), (3, .int dr), (4, .int h), (5, .int (pcA (f (19 + 5 * a)) (f (20 + 5 * a)) (f (21 + 5 * a)) x n))]) (S' := []) (show oCallV 7 0 0 27 X2 (24, [(0, .ref (18 + 5 * a)), (1, .int x), (2, .int sh), (3, .int dr), (4, .int h), (5, .int (pcA (f (19 + 5 * a)) (f (20 + 5 * a)) (f (21 + 5 * a)) x n))], [.ref (18 + 5 * a)]) (K0, f) = _ from oCallV_e rfl (act_O ha)) (Nat.le_of_ble_eq_true rfl) rfl rfl (Nat.le_of_ble_eq_true rfl) (Nat.le_of_ble_eq_true rfl) ?_
      refine wq_run4 (pc' := 34) (L' := [(0, .ref (18 + 5 * a)), (1, .int x), (2, .int sh), (3, .int dr), (4, .int h), (5, .int (pcA (f (19 + 5 * a)) (f (20 + 5 * a)) (f (21 + 5 * a)) x n)), (6, .int (obI (fOv 2 (f (19 + 5 * a)) n)))]) (S' := [.int (-1), .int (obI (fOv 2 (f (19 + 5 * a)) n)), .int (pcA (f (19 + 5 * a)) (f (20 + 5 * a)) (f (21 + 5 * a)) x n)]) (f' := f) rfl ?_
      refine wq_if (c := (obI (fOv 2 (f (19 + 5 * a)) n)) = (-1)) (p1 := 37) (L1 := [(0, .ref (18 + 5 * a)), (1, .int x), (2, .int sh), (3, .int dr), (4, .int h), (5, .int (pcA (f (19 + 5 * a)) (f (20 + 5 * a)) (f (21 + 5 * a)) x n)), (6, .int (obI (fOv 2 (f (19 + 5 * a)) n)))]) (S1 := [.int (pcA (f (19 + 5 * a)) (f (20 + 5 * a)) (f (21 + 5 * a)) x n)]) (p2 := 41) (L2 := [(0, .ref (18 + 5 * a)), (1, .int x), (2, .int sh), (3, .int dr), (4, .int h), (5, .int (pcA (f (19 + 5 * a)) (f (20 + 5 * a)) (f (21 + 5 * a)) x n)), (6, .int (obI (fOv 2 (f (19 + 5 * a)) n)))]) (S2 := [.int (pcA (f (19 + 5 * a)) (f (20 + 5 * a)) (f (21 + 5 * a)) x n)]) rfl (fun c_34 => ?_) (fun c_34 => ?_)
      · refine wq_run8 (pc' := 61) (L' := [(0, .ref (18 + 5 * a)), (4, .int h), (7, .int ((pcA (f (19 + 5 * a)) (f (20 + 5 * a)) (f (21 + 5 * a)) x n) * sh)), (8, .int 0), (9, .int 0)]) (S' := []) (f' := f) rfl ?_
        have e1 : ((pcA (f (19 + 5 * a)) (f (20 + 5 * a)) (f (21 + 5 * a)) x n) * sh) = pcA (f (19 + 5 * a)) (f (20 + 5 * a)) (f (21 + 5 * a)) x n * tmA (f (19 + 5 * a)) (f (20 + 5 * a)) sh dr n := by
          unfold tmA
          rw [(fOv_0 hn8).mp c_34]
        have h9 := lp_charge f h (((pcA (f (19 + 5 * a)) (f (20 + 5 * a)) (f (21 + 5 * a)) x n) * sh)) ha hn2 hn8 (n - 0 + 1) 0 (Nat.zero_le _) (Nat.lt_succ_self _)
        have e2 : chA (f (19 + 5 * a)) (f (20 + 5 * a)) (f (21 + 5 * a)) x sh dr h n = imax (aS (f (19 + 5 * a)) (f (20 + 5 * a)) h (((pcA (f (19 + 5 * a)) (f (20 + 5 * a)) (f (21 + 5 * a)) x n) * sh)) n) (lS (f (19 + 5 * a)) (f (20 + 5 * a)) n) := by
          unfold chA
          rw [if_neg (fun q => q.elim (fun q => absurd q (Int32.not_lt.mpr c_1)) c_18), e1]
        rw [← e2] at h9
        exact h9
      · obtain ⟨w, hw⟩ := obI_y c_34
        refine wq_run2 (pc' := 43) (L' := [(0, .ref (18 + 5 * a)), (1, .int x), (2, .int sh), (3, .int dr), (4, .int h), (5, .int (pcA (f (19 + 5 * a)) (f (20 + 5 * a)) (f (21 + 5 * a)) x n)), (6, .int (obI (fOv 2 (f (19 + 5 * a)) n)))]) (S' := [.ref (18 + 5 * a), .int dr, .int (pcA (f (19 + 5 * a)) (f (20 + 5 * a)) (f (21 + 5 * a)) x n)]) (f' := f) rfl ?_
        refine wq_getR (b := (20 + 5 * a)) rfl (act_O ha) (act_1 ha) ?_
        refine wq_run1 (pc' := 48) (L' := [(0, .ref (18 + 5 * a)), (1, .int x), (2, .int sh), (3, .int dr), (4, .int h), (5, .int (pcA (f (19 + 5 * a)) (f (20 + 5 * a)) (f (21 + 5 * a)) x n)), (6, .int (obI (fOv 2 (f (19 + 5 * a)) n)))]) (S' := [.int (obI (fOv 2 (f (19 + 5 * a)) n)), .ref (20 + 5 * a), .int dr, .int (pcA (f (19 + 5 * a)) (f (20 + 5 * a)) (f (21 + 5 * a)) x n)]) (f' := f) rfl ?_
        refine wq_ald (j := w) (n := 8) (v := (f (20 + 5 * a) w)) rfl (actA_1 ha) (actN_1 ha) (by rw [hw]; rfl) (by have := fOv_lt hw; omega) (Nat.le_of_ble_eq_true rfl) rfl ?_
        refine wq_callI (r := (upA dr (f (20 + 5 * a) w))) (sp_upBy f dr (f (20 + 5 * a) w)) (Nat.le_of_ble_eq_true rfl) (pc' := 52) (L' := [(0, .ref (18 + 5 * a)), (1, .int x), (2, .int sh), (3, .int dr), (4, .int h), (5, .int (pcA (f (19 + 5 * a)) (f (20 + 5 * a)) (f (21 + 5 * a)) x n)), (6, .int (obI (fOv 2 (f (19 + 5 * a)) n)))]) (S' := [.int (pcA (f (19 + 5 * a)) (f (20 + 5 * a)) (f (21 + 5 * a)) x n)]) rfl (Nat.le_of_ble_eq_true rfl) rfl rfl (Nat.le_of_ble_eq_true rfl) (Nat.le_of_ble_eq_true rfl) ?_
        refine wq_run6 (pc' := 61) (L' := [(0, .ref (18 + 5 * a)), (4, .int h), (7, .int ((pcA (f (19 + 5 * a)) (f (20 + 5 * a)) (f (21 + 5 * a)) x n) * (upA dr (f (20 + 5 * a) w)))), (8, .int 0), (9, .int 0)]) (S' := []) (f' := f) rfl ?_
        have e1 : ((pcA (f (19 + 5 * a)) (f (20 + 5 * a)) (f (21 + 5 * a)) x n) * (upA dr (f (20 + 5 * a) w))) = pcA (f (19 + 5 * a)) (f (20 + 5 * a)) (f (21 + 5 * a)) x n * tmA (f (19 + 5 * a)) (f (20 + 5 * a)) sh dr n := by
          unfold tmA
          rw [hw]
        have h9 := lp_charge f h (((pcA (f (19 + 5 * a)) (f (20 + 5 * a)) (f (21 + 5 * a)) x n) * (upA dr (f (20 + 5 * a) w)))) ha hn2 hn8 (n - 0 + 1) 0 (Nat.zero_le _) (Nat.lt_succ_self _)
        have e2 : chA (f (19 + 5 * a)) (f (20 + 5 * a)) (f (21 + 5 * a)) x sh dr h n = imax (aS (f (19 + 5 * a)) (f (20 + 5 * a)) h (((pcA (f (19 + 5 * a)) (f (20 + 5 * a)) (f (21 + 5 * a)) x n) * (upA dr (f (20 + 5 * a) w)))) n) (lS (f (19 + 5 * a)) (f (20 + 5 * a)) n) := by
          unfold chA
          rw [if_neg (fun q => q.elim (fun q => absurd q (Int32.not_lt.mpr c_1)) c_18), e1]
        rw [← e2] at h9
        exact h9
  · refine wq_run5 (pc' := 18) (L' := [(0, .ref (18 + 5 * a)), (1, .int x), (2, .int sh), (3, .int dr), (4, .int h), (5, .int (-1))]) (S' := [.int (-1), .int (-1)]) (f' := f) rfl ?_
    refine wq_if (c := (-1) = (-1)) (p1 := 21) (L1 := [(0, .ref (18 + 5 * a)), (1, .int x), (2, .int sh), (3, .int dr), (4, .int h), (5, .int (-1))]) (S1 := []) (p2 := 23) (L2 := [(0, .ref (18 + 5 * a)), (1, .int x), (2, .int sh), (3, .int dr), (4, .int h), (5, .int (-1))]) (S2 := []) rfl (fun _ => ?_) (fun q => absurd rfl q)
    refine wq_run1 (pc' := 22) (L' := [(0, .ref (18 + 5 * a)), (1, .int x), (2, .int sh), (3, .int dr), (4, .int h), (5, .int (-1))]) (S' := [.int (-1)]) (f' := f) rfl ?_
    exact wq_ret rfl ⟨by unfold chA; rw [if_pos (Or.inl (Int32.not_le.mp c_1))], rfl⟩
theorem sp_why1 (f : HI) (x : Int32) {a n : Nat} (ha : a < 5) (hn2 : f (18 + 5 * a) 3 = nI n) (hn8 : n ≤ 8) (hA : inR (nI a) 0 (f 16 1 - 1)) (hx : inR x 0 5000) : Sp 3 93 [.ref 0, .int (nI a), .int x] f (Ret (obI (clA (f (19 + 5 * a)) (f (20 + 5 * a)) x n)) f) := by
  show wq 3 93 (Ret (obI (clA (f (19 + 5 * a)) (f (20 + 5 * a)) x n)) f) 0 [(0, .ref 0), (1, .int (nI a)), (2, .int x)] [] f
  refine wq_run2 (pc' := 2) (L' := [(0, .ref 0), (1, .int (nI a)), (2, .int x)]) (S' := [.int (nI a), .ref 0]) (f' := f) rfl ?_
  refine wq_callI (r := (b2i (inR (nI a) 0 ((f 16 1) - 1)))) (sp_isAct f (nI a)) (Nat.le_of_ble_eq_true rfl) (pc' := 5) (L' := [(0, .ref 0), (1, .int (nI a)), (2, .int x)]) (S' := []) rfl (Nat.le_of_ble_eq_true rfl) rfl rfl (Nat.le_of_ble_eq_true rfl) (Nat.le_of_ble_eq_true rfl) ?_
  refine wq_if (c := (b2i (inR (nI a) 0 ((f 16 1) - 1))) = 0) (p1 := 8) (L1 := [(0, .ref 0), (1, .int (nI a)), (2, .int x)]) (S1 := []) (p2 := 11) (L2 := [(0, .ref 0), (1, .int (nI a)), (2, .int x)]) (S2 := []) rfl (fun q => absurd q (b2i_n0.mpr hA)) (fun _ => ?_)
  refine wq_run3 (pc' := 16) (L' := [(0, .ref 0), (1, .int (nI a)), (2, .int x)]) (S' := [.int 5000, .int 0, .int x]) (f' := f) rfl ?_
  refine wq_callI (r := (b2i (inR x 0 5000))) (sp_within f x 0 5000) (Nat.le_of_ble_eq_true rfl) (pc' := 19) (L' := [(0, .ref 0), (1, .int (nI a)), (2, .int x)]) (S' := []) rfl (Nat.le_of_ble_eq_true rfl) rfl rfl (Nat.le_of_ble_eq_true rfl) (Nat.le_of_ble_eq_true rfl) ?_
  refine wq_if (c := (b2i (inR x 0 5000)) = 0) (p1 := 22) (L1 := [(0, .ref 0), (1, .int (nI a)), (2, .int x)]) (S1 := []) (p2 := 25) (L2 := [(0, .ref 0), (1, .int (nI a)), (2, .int x)]) (S2 := []) rfl (fun q => absurd q (b2i_n0.mpr hx)) (fun _ => ?_)
  refine wq_run4 (pc' := 33) (L' := [(0, .ref 0), (1, .int (nI a)), (2, .int x)]) (S' := [.int (nI a), .ref 17]) (f' := f) rfl ?_
  refine wq_qld (j := a) (n := 5) (b := (18 + 5 * a)) rfl rfl rfl rfl ha (Nat.le_of_ble_eq_true rfl) (acts_at ha) ?_
  refine wq_run1 (pc' := 35) (L' := [(0, .ref 0), (1, .int (nI a)), (2, .int x)]) (S' := [.int x, .ref (18 + 5 * a)]) (f' := f) rfl ?_
  refine wq_callI (r := (obI (clA (f (19 + 5 * a)) (f (20 + 5 * a)) x n))) (sp_clauseFor f x ha hn2 hn8) (Nat.le_of_ble_eq_true rfl) (pc' := 38) (L' := [(0, .ref 0), (1, .int (nI a)), (2, .int x)]) (S' := []) (show oCallV 2 0 1 38 X2 (35, [(0, .ref 0), (1, .int (nI a)), (2, .int x)], [.int x, .ref (18 + 5 * a)]) (K0, f) = _ from oCallV_e rfl (act_O ha)) (Nat.le_of_ble_eq_true rfl) rfl rfl (Nat.le_of_ble_eq_true rfl) (Nat.le_of_ble_eq_true rfl) ?_
  exact wq_ret rfl ⟨rfl, rfl⟩
theorem sp_postage1 (f : HI) (x sh dr h : Int32) {a n : Nat} (ha : a < 5) (hn2 : f (18 + 5 * a) 3 = nI n) (hn8 : n ≤ 8) (hA : inR (nI a) 0 (f 16 1 - 1)) (hx : inR x 0 5000) (hs : inR sh 1 9 ∧ inR dr 1 64) : Sp 4 92 [.ref 0, .int (nI a), .int x, .int sh, .int dr, .int h] f (Ret (chA (f (19 + 5 * a)) (f (20 + 5 * a)) (f (21 + 5 * a)) x sh dr h n) f) := by
  show wq 4 92 (Ret (chA (f (19 + 5 * a)) (f (20 + 5 * a)) (f (21 + 5 * a)) x sh dr h n) f) 0 [(0, .ref 0), (1, .int (nI a)), (2, .int x), (3, .int sh), (4, .int dr), (5, .int h)] [] f
  refine wq_run2 (pc' := 2) (L' := [(0, .ref 0), (1, .int (nI a)), (2, .int x), (3, .int sh), (4, .int dr), (5, .int h)]) (S' := [.int (nI a), .ref 0]) (f' := f) rfl ?_
  refine wq_callI (r := (b2i (inR (nI a) 0 ((f 16 1) - 1)))) (sp_isAct f (nI a)) (Nat.le_of_ble_eq_true rfl) (pc' := 5) (L' := [(0, .ref 0), (1, .int (nI a)), (2, .int x), (3, .int sh), (4, .int dr), (5, .int h)]) (S' := []) rfl (Nat.le_of_ble_eq_true rfl) rfl rfl (Nat.le_of_ble_eq_true rfl) (Nat.le_of_ble_eq_true rfl) ?_
  refine wq_if (c := (b2i (inR (nI a) 0 ((f 16 1) - 1))) = 0) (p1 := 8) (L1 := [(0, .ref 0), (1, .int (nI a)), (2, .int x), (3, .int sh), (4, .int dr), (5, .int h)]) (S1 := []) (p2 := 11) (L2 := [(0, .ref 0), (1, .int (nI a)), (2, .int x), (3, .int sh), (4, .int dr), (5, .int h)]) (S2 := []) rfl (fun q => absurd q (b2i_n0.mpr hA)) (fun _ => ?_)
  refine wq_run3 (pc' := 16) (L' := [(0, .ref 0), (1, .int (nI a)), (2, .int x), (3, .int sh), (4, .int dr), (5, .int h)]) (S' := [.int 5000, .int 0, .int x]) (f' := f) rfl ?_
  refine wq_callI (r := (b2i (inR x 0 5000))) (sp_within f x 0 5000) (Nat.le_of_ble_eq_true rfl) (pc' := 19) (L' := [(0, .ref 0), (1, .int (nI a)), (2, .int x), (3, .int sh), (4, .int dr), (5, .int h)]) (S' := []) rfl (Nat.le_of_ble_eq_true rfl) rfl rfl (Nat.le_of_ble_eq_true rfl) (Nat.le_of_ble_eq_true rfl) ?_
  refine wq_if (c := (b2i (inR x 0 5000)) = 0) (p1 := 31) (L1 := [(0, .ref 0), (1, .int (nI a)), (2, .int x), (3, .int sh), (4, .int dr), (5, .int h)]) (S1 := []) (p2 := 22) (L2 := [(0, .ref 0), (1, .int (nI a)), (2, .int x), (3, .int sh), (4, .int dr), (5, .int h)]) (S2 := []) rfl (fun q => absurd q (b2i_n0.mpr hx)) (fun _ => ?_)
  refine wq_run2 (pc' := 25) (L' := [(0, .ref 0), (1, .int (nI a)), (2, .int x), (3, .int sh), (4, .int dr), (5, .int h)]) (S' := [.int dr, .int sh]) (f' := f) rfl ?_
  refine wq_callI (r := (b2i (inR sh 1 9 ∧ inR dr 1 64))) (sp_size f sh dr) (Nat.le_of_ble_eq_true rfl) (pc' := 28) (L' := [(0, .ref 0), (1, .int (nI a)), (2, .int x), (3, .int sh), (4, .int dr), (5, .int h)]) (S' := []) rfl (Nat.le_of_ble_eq_true rfl) rfl rfl (Nat.le_of_ble_eq_true rfl) (Nat.le_of_ble_eq_true rfl) ?_
  refine wq_if (c := (b2i (inR sh 1 9 ∧ inR dr 1 64)) = 0) (p1 := 31) (L1 := [(0, .ref 0), (1, .int (nI a)), (2, .int x), (3, .int sh), (4, .int dr), (5, .int h)]) (S1 := []) (p2 := 34) (L2 := [(0, .ref 0), (1, .int (nI a)), (2, .int x), (3, .int sh), (4, .int dr), (5, .int h)]) (S2 := []) rfl (fun q => absurd q (b2i_n0.mpr hs)) (fun _ => ?_)
  refine wq_run4 (pc' := 42) (L' := [(0, .ref 0), (1, .int (nI a)), (2, .int x), (3, .int sh), (4, .int dr), (5, .int h)]) (S' := [.int (nI a), .ref 17]) (f' := f) rfl ?_
  refine wq_qld (j := a) (n := 5) (b := (18 + 5 * a)) rfl rfl rfl rfl ha (Nat.le_of_ble_eq_true rfl) (acts_at ha) ?_
  refine wq_run4 (pc' := 49) (L' := [(0, .ref 0), (1, .int (nI a)), (2, .int x), (3, .int sh), (4, .int dr), (5, .int h)]) (S' := [.int h, .int dr, .int sh, .int x, .ref (18 + 5 * a)]) (f' := f) rfl ?_
  refine wq_callI (r := (chA (f (19 + 5 * a)) (f (20 + 5 * a)) (f (21 + 5 * a)) x sh dr h n)) (sp_charge f x sh dr h ha hn2 hn8) (Nat.le_of_ble_eq_true rfl) (pc' := 52) (L' := [(0, .ref 0), (1, .int (nI a)), (2, .int x), (3, .int sh), (4, .int dr), (5, .int h)]) (S' := []) (show oCallV 3 0 4 52 X2 (49, [(0, .ref 0), (1, .int (nI a)), (2, .int x), (3, .int sh), (4, .int dr), (5, .int h)], [.int h, .int dr, .int sh, .int x, .ref (18 + 5 * a)]) (K0, f) = _ from oCallV_e rfl (act_O ha)) (Nat.le_of_ble_eq_true rfl) rfl rfl (Nat.le_of_ble_eq_true rfl) (Nat.le_of_ble_eq_true rfl) ?_
  exact wq_ret rfl ⟨rfl, rfl⟩
theorem sp_knows1 (f : HI) {a t : Nat} (ha : a < 5) (ht : t < 10) (hA : inR (nI a) 0 (f 16 1 - 1)) (hT : inR (nI t) 0 9) : Sp 3 90 [.ref 0, .int (nI t), .int (nI a)] f (Ret (f (22 + 5 * a) t) f) := by
  show wq 3 90 (Ret (f (22 + 5 * a) t) f) 0 [(0, .ref 0), (1, .int (nI t)), (2, .int (nI a))] [] f
  refine wq_run1 (pc' := 1) (L' := [(0, .ref 0), (1, .int (nI t)), (2, .int (nI a))]) (S' := [.int (nI t)]) (f' := f) rfl ?_
  refine wq_callI (r := (b2i (inR (nI t) 0 9))) (sp_isTown f (nI t)) (Nat.le_of_ble_eq_true rfl) (pc' := 4) (L' := [(0, .ref 0), (1, .int (nI t)), (2, .int (nI a))]) (S' := []) rfl (Nat.le_of_ble_eq_true rfl) rfl rfl (Nat.le_of_ble_eq_true rfl) (Nat.le_of_ble_eq_true rfl) ?_
  refine wq_if (c := (b2i (inR (nI t) 0 9)) = 0) (p1 := 15) (L1 := [(0, .ref 0), (1, .int (nI t)), (2, .int (nI a))]) (S1 := []) (p2 := 7) (L2 := [(0, .ref 0), (1, .int (nI t)), (2, .int (nI a))]) (S2 := []) rfl (fun q => absurd q (b2i_n0.mpr hT)) (fun _ => ?_)
  refine wq_run2 (pc' := 9) (L' := [(0, .ref 0), (1, .int (nI t)), (2, .int (nI a))]) (S' := [.int (nI a), .ref 0]) (f' := f) rfl ?_
  refine wq_callI (r := (b2i (inR (nI a) 0 ((f 16 1) - 1)))) (sp_isAct f (nI a)) (Nat.le_of_ble_eq_true rfl) (pc' := 12) (L' := [(0, .ref 0), (1, .int (nI t)), (2, .int (nI a))]) (S' := []) rfl (Nat.le_of_ble_eq_true rfl) rfl rfl (Nat.le_of_ble_eq_true rfl) (Nat.le_of_ble_eq_true rfl) ?_
  refine wq_if (c := (b2i (inR (nI a) 0 ((f 16 1) - 1))) = 0) (p1 := 15) (L1 := [(0, .ref 0), (1, .int (nI t)), (2, .int (nI a))]) (S1 := []) (p2 := 18) (L2 := [(0, .ref 0), (1, .int (nI t)), (2, .int (nI a))]) (S2 := []) rfl (fun q => absurd q (b2i_n0.mpr hA)) (fun _ => ?_)
  refine wq_run4 (pc' := 26) (L' := [(0, .ref 0), (1, .int (nI t)), (2, .int (nI a))]) (S' := [.int (nI a), .ref 17]) (f' := f) rfl ?_
  refine wq_qld (j := a) (n := 5) (b := (18 + 5 * a)) rfl rfl rfl rfl ha (Nat.le_of_ble_eq_true rfl) (acts_at ha) ?_
  refine wq_getR (b := (22 + 5 * a)) rfl (act_O ha) (act_5 ha) ?_
  refine wq_run1 (pc' := 31) (L' := [(0, .ref 0), (1, .int (nI t)), (2, .int (nI a))]) (S' := [.int (nI t), .ref (22 + 5 * a)]) (f' := f) rfl ?_
  refine wq_ald (j := t) (n := 10) (v := (f (22 + 5 * a) t)) rfl (actA_5 ha) (actN_5 ha) rfl ht (Nat.le_of_ble_eq_true rfl) rfl ?_
  exact wq_ret rfl ⟨rfl, rfl⟩
/-- the act that is told -/
def toA (Kn Dy : Nat → Int32) (h day : Int32) : Nat → Option Nat
  | 0 => none
  | c + 1 => if ¬ Kn c = -1 ∧ Kn c ≤ h ∧ Dy c ≤ day ∧ oA (fun b => decide (Dy b ≤ Dy c)) (toA Kn Dy h day c) = true then some c else toA Kn Dy h day c
theorem toA_y {Kn Dy : Nat → Int32} {h day : Int32} {c : Nat} (q : ¬ Kn c = -1 ∧ Kn c ≤ h ∧ Dy c ≤ day ∧ oA (fun b => decide (Dy b ≤ Dy c)) (toA Kn Dy h day c) = true) : toA Kn Dy h day (c + 1) = some c := by rw [toA]; exact if_pos q
theorem toA_z {Kn Dy : Nat → Int32} {h day : Int32} {c : Nat} (q : ¬ (¬ Kn c = -1 ∧ Kn c ≤ h ∧ Dy c ≤ day ∧ oA (fun b => decide (Dy b ≤ Dy c)) (toA Kn Dy h day c) = true)) : toA Kn Dy h day (c + 1) = toA Kn Dy h day c := by rw [toA]; exact if_neg q
theorem toA_lt {Kn Dy : Nat → Int32} {h day : Int32} : ∀ {c b : Nat}, toA Kn Dy h day c = some b → b < c := by
  intro c
  induction c with
  | zero => intro b h; cases h
  | succ c ih =>
    intro b h
    rw [toA] at h
    split at h
    · cases h; omega
    · have := ih h; omega
theorem toA_0 {Kn Dy : Nat → Int32} {h day : Int32} {c : Nat} (hc : c ≤ 8) : obI (toA Kn Dy h day c) = -1 ↔ toA Kn Dy h day c = none := obI_0 (n := c) (by omega) (fun _ h => toA_lt h)
theorem lp_told (f : HI) (h day : Int32) {t m : Nat} (ht : t < 10) (hm2 : f 16 1 = nI m) (hm5 : m ≤ 5) : ∀ (m9 : Nat) (c : Nat), (c ≤ m) → m - c < m9 → wq 1 54 (Ret (obI (toA (fun c => f (22 + 5 * c) t) (fun c => f (18 + 5 * c) 4) h day m)) f) 6 [(0, .ref 16), (1, .int (nI t)), (2, .int h), (3, .int day), (4, .int (obI (toA (fun c => f (22 + 5 * c) t) (fun c => f (18 + 5 * c) 4) h day c))), (5, .int (nI c))] [] f := by
  intro m9
  induction m9 with
  | zero => intro c hc0 hn; exact absurd hn (Nat.not_lt_zero _)
  | succ m9 ih =>
    intro c hc0 hn
    refine wq_run3 (pc' := 12) (L' := [(0, .ref 16), (1, .int (nI t)), (2, .int h), (3, .int day), (4, .int (obI (toA (fun c => f (22 + 5 * c) t) (fun c => f (18 + 5 * c) 4) h day c))), (5, .int (nI c))]) (S' := [.int (f 16 1), .int (nI c)]) (f' := f) rfl ?_
    refine wq_if (c := (f 16 1) ≤ (nI c)) (p1 := 97) (L1 := [(0, .ref 16), (1, .int (nI t)), (2, .int h), (3, .int day), (4, .int (obI (toA (fun c => f (22 + 5 * c) t) (fun c => f (18 + 5 * c) 4) h day c))), (5, .int (nI c))]) (S1 := []) (p2 := 15) (L2 := [(0, .ref 16), (1, .int (nI t)), (2, .int h), (3, .int day), (4, .int (obI (toA (fun c => f (22 + 5 * c) t) (fun c => f (18 + 5 * c) 4) h day c))), (5, .int (nI c))]) (S2 := []) rfl (fun c_12 => ?_) (fun c_12 => ?_)
    · have e : c = m := Nat.le_antisymm hc0 (Nat.not_lt.mp (fun q => absurd (show f 16 1 ≤ nI c from c_12) (by rw [hm2]; exact nI_ge q (by omega))))
      refine wq_run1 (pc' := 99) (L' := [(0, .ref 16), (1, .int (nI t)), (2, .int h), (3, .int day), (4, .int (obI (toA (fun c => f (22 + 5 * c) t) (fun c => f (18 + 5 * c) 4) h day c))), (5, .int (nI c))]) (S' := [.int (obI (toA (fun c => f (22 + 5 * c) t) (fun c => f (18 + 5 * c) 4) h day c))]) (f' := f) rfl ?_
      rw [e]
      exact wq_ret rfl ⟨rfl, rfl⟩
    · have hcn : c < m := Nat.lt_of_not_le (fun q => c_12 (by show f 16 1 ≤ nI c; rw [hm2]; exact nI_le q (by omega)))
      have hc5 : c < 5 := by omega
      refine wq_run3 (pc' := 21) (L' := [(0, .ref 16), (1, .int (nI t)), (2, .int h), (3, .int day), (4, .int (obI (toA (fun c => f (22 + 5 * c) t) (fun c => f (18 + 5 * c) 4) h day c))), (5, .int (nI c))]) (S' := [.int (nI c), .ref 17]) (f' := f) rfl ?_
      refine wq_qld (j := c) (n := 5) (b := (18 + 5 * c)) rfl rfl rfl rfl hc5 (Nat.le_of_ble_eq_true rfl) (acts_at hc5) ?_
      refine wq_getR (b := (22 + 5 * c)) rfl (act_O hc5) (act_5 hc5) ?_
      refine wq_run1 (pc' := 26) (L' := [(0, .ref 16), (1, .int (nI t)), (2, .int h), (3, .int day), (4, .int (obI (toA (fun c => f (22 + 5 * c) t) (fun c => f (18 + 5 * c) 4) h day c))), (5, .int (nI c))]) (S' := [.int (nI t), .ref (22 + 5 * c)]) (f' := f) rfl ?_
      refine wq_ald (j := t) (n := 10) (v := (f (22 + 5 * c) t)) rfl (actA_5 hc5) (actN_5 hc5) rfl ht (Nat.le_of_ble_eq_true rfl) rfl ?_
      refine wq_run3 (pc' := 32) (L' := [(0, .ref 16), (1, .int (nI t)), (2, .int h), (3, .int day), (4, .int (obI (toA (fun c => f (22 + 5 * c) t) (fun c => f (18 + 5 * c) 4) h day c))), (5, .int (nI c)), (6, .int (f (22 + 5 * c) t))]) (S' := [.int (-1), .int (f (22 + 5 * c) t)]) (f' := f) rfl ?_
      refine wq_if (c := (f (22 + 5 * c) t) = (-1)) (p1 := 91) (L1 := [(0, .ref 16), (1, .int (nI t)), (2, .int h), (3, .int day), (4, .int (obI (toA (fun c => f (22 + 5 * c) t) (fun c => f (18 + 5 * c) 4) h day c))), (5, .int (nI c)), (6, .int (f (22 + 5 * c) t))]) (S1 := []) (p2 := 35) (L2 := [(0, .ref 16), (1, .int (nI t)), (2, .int h), (3, .int day), (4, .int (obI (toA (fun c => f (22 + 5 * c) t) (fun c => f (18 + 5 * c) 4) h day c))), (5, .int (nI c)), (6, .int (f (22 + 5 * c) t))]) (S2 := []) rfl (fun c_32 => ?_) (fun c_32 => ?_)
      · refine wq_run2 (pc' := 6) (L' := [(0, .ref 16), (1, .int (nI t)), (2, .int h), (3, .int day), (4, .int (obI (toA (fun c => f (22 + 5 * c) t) (fun c => f (18 + 5 * c) 4) h day c))), (5, .int ((nI c) + 1))]) (S' := []) (f' := f) rfl ?_
        have e1 : (toA (fun c => f (22 + 5 * c) t) (fun c => f (18 + 5 * c) 4) h day (c + 1)) = (toA (fun c => f (22 + 5 * c) t) (fun c => f (18 + 5 * c) 4) h day c) := toA_z (fun q => q.1 c_32)
        have h9 := ih (c + 1) (by omega) (by omega)
        rw [e1] at h9
        rw [nI_1]
        exact h9
      · refine wq_run2 (pc' := 38) (L' := [(0, .ref 16), (1, .int (nI t)), (2, .int h), (3, .int day), (4, .int (obI (toA (fun c => f (22 + 5 * c) t) (fun c => f (18 + 5 * c) 4) h day c))), (5, .int (nI c)), (6, .int (f (22 + 5 * c) t))]) (S' := [.int h, .int (f (22 + 5 * c) t)]) (f' := f) rfl ?_
        refine wq_if (c := h < (f (22 + 5 * c) t)) (p1 := 91) (L1 := [(0, .ref 16), (1, .int (nI t)), (2, .int h), (3, .int day), (4, .int (obI (toA (fun c => f (22 + 5 * c) t) (fun c => f (18 + 5 * c) 4) h day c))), (5, .int (nI c)), (6, .int (f (22 + 5 * c) t))]) (S1 := []) (p2 := 41) (L2 := [(0, .ref 16), (1, .int (nI t)), (2, .int h), (3, .int day), (4, .int (obI (toA (fun c => f (22 + 5 * c) t) (fun c => f (18 + 5 * c) 4) h day c))), (5, .int (nI c)), (6, .int (f (22 + 5 * c) t))]) (S2 := []) rfl (fun c_38 => ?_) (fun c_38 => ?_)
        · refine wq_run2 (pc' := 6) (L' := [(0, .ref 16), (1, .int (nI t)), (2, .int h), (3, .int day), (4, .int (obI (toA (fun c => f (22 + 5 * c) t) (fun c => f (18 + 5 * c) 4) h day c))), (5, .int ((nI c) + 1))]) (S' := []) (f' := f) rfl ?_
          have e1 : (toA (fun c => f (22 + 5 * c) t) (fun c => f (18 + 5 * c) 4) h day (c + 1)) = (toA (fun c => f (22 + 5 * c) t) (fun c => f (18 + 5 * c) 4) h day c) := toA_z (fun q => absurd q.2.1 (Int32.not_le.mpr c_38))
          have h9 := ih (c + 1) (by omega) (by omega)
          rw [e1] at h9
          rw [nI_1]
          exact h9
        · refine wq_run3 (pc' := 47) (L' := [(0, .ref 16), (1, .int (nI t)), (2, .int h), (3, .int day), (4, .int (obI (toA (fun c => f (22 + 5 * c) t) (fun c => f (18 + 5 * c) 4) h day c))), (5, .int (nI c)), (6, .int (f (22 + 5 * c) t))]) (S' := [.int (nI c), .ref 17]) (f' := f) rfl ?_
          refine wq_qld (j := c) (n := 5) (b := (18 + 5 * c)) rfl rfl rfl rfl hc5 (Nat.le_of_ble_eq_true rfl) (acts_at hc5) ?_
          refine wq_getI (v := (f (18 + 5 * c) 4)) rfl (act_O hc5) rfl ?_
          refine wq_run1 (pc' := 52) (L' := [(0, .ref 16), (1, .int (nI t)), (2, .int h), (3, .int day), (4, .int (obI (toA (fun c => f (22 + 5 * c) t) (fun c => f (18 + 5 * c) 4) h day c))), (5, .int (nI c)), (6, .int (f (22 + 5 * c) t))]) (S' := [.int day, .int (f (18 + 5 * c) 4)]) (f' := f) rfl ?_
          refine wq_if (c := (f (18 + 5 * c) 4) ≤ day) (p1 := 58) (L1 := [(0, .ref 16), (1, .int (nI t)), (2, .int h), (3, .int day), (4, .int (obI (toA (fun c => f (22 + 5 * c) t) (fun c => f (18 + 5 * c) 4) h day c))), (5, .int (nI c)), (6, .int (f (22 + 5 * c) t))]) (S1 := []) (p2 := 55) (L2 := [(0, .ref 16), (1, .int (nI t)), (2, .int h), (3, .int day), (4, .int (obI (toA (fun c => f (22 + 5 * c) t) (fun c => f (18 + 5 * c) 4) h day c))), (5, .int (nI c)), (6, .int (f (22 + 5 * c) t))]) (S2 := []) rfl (fun c_52 => ?_) (fun c_52 => ?_)
          · refine wq_run2 (pc' := 61) (L' := [(0, .ref 16), (1, .int (nI t)), (2, .int h), (3, .int day), (4, .int (obI (toA (fun c => f (22 + 5 * c) t) (fun c => f (18 + 5 * c) 4) h day c))), (5, .int (nI c)), (6, .int (f (22 + 5 * c) t))]) (S' := [.int (-1), .int (obI (toA (fun c => f (22 + 5 * c) t) (fun c => f (18 + 5 * c) 4) h day c))]) (f' := f) rfl ?_
            refine wq_if (c := (obI (toA (fun c => f (22 + 5 * c) t) (fun c => f (18 + 5 * c) 4) h day c)) = (-1)) (p1 := 87) (L1 := [(0, .ref 16), (1, .int (nI t)), (2, .int h), (3, .int day), (4, .int (obI (toA (fun c => f (22 + 5 * c) t) (fun c => f (18 + 5 * c) 4) h day c))), (5, .int (nI c)), (6, .int (f (22 + 5 * c) t))]) (S1 := []) (p2 := 64) (L2 := [(0, .ref 16), (1, .int (nI t)), (2, .int h), (3, .int day), (4, .int (obI (toA (fun c => f (22 + 5 * c) t) (fun c => f (18 + 5 * c) 4) h day c))), (5, .int (nI c)), (6, .int (f (22 + 5 * c) t))]) (S2 := []) rfl (fun c_61 => ?_) (fun c_61 => ?_)
            · refine wq_run4 (pc' := 6) (L' := [(0, .ref 16), (1, .int (nI t)), (2, .int h), (3, .int day), (4, .int (nI c)), (5, .int ((nI c) + 1))]) (S' := []) (f' := f) rfl ?_
              have e1 : (toA (fun c => f (22 + 5 * c) t) (fun c => f (18 + 5 * c) 4) h day (c + 1)) = some c := toA_y ⟨c_32, Int32.not_lt.mp c_38, c_52, by rw [(toA_0 (by omega)).mp c_61]; rfl⟩
              have h9 := ih (c + 1) (by omega) (by omega)
              rw [e1] at h9
              rw [nI_1]
              exact h9
            · obtain ⟨b, hb⟩ := obI_y c_61
              have hb5 : b < 5 := by have := toA_lt hb; omega
              refine wq_run3 (pc' := 70) (L' := [(0, .ref 16), (1, .int (nI t)), (2, .int h), (3, .int day), (4, .int (obI (toA (fun c => f (22 + 5 * c) t) (fun c => f (18 + 5 * c) 4) h day c))), (5, .int (nI c)), (6, .int (f (22 + 5 * c) t))]) (S' := [.int (nI c), .ref 17]) (f' := f) rfl ?_
              refine wq_qld (j := c) (n := 5) (b := (18 + 5 * c)) rfl rfl rfl rfl hc5 (Nat.le_of_ble_eq_true rfl) (acts_at hc5) ?_
              refine wq_getI (v := (f (18 + 5 * c) 4)) rfl (act_O hc5) rfl ?_
              refine wq_run3 (pc' := 80) (L' := [(0, .ref 16), (1, .int (nI t)), (2, .int h), (3, .int day), (4, .int (obI (toA (fun c => f (22 + 5 * c) t) (fun c => f (18 + 5 * c) 4) h day c))), (5, .int (nI c)), (6, .int (f (22 + 5 * c) t))]) (S' := [.int (obI (toA (fun c => f (22 + 5 * c) t) (fun c => f (18 + 5 * c) 4) h day c)), .ref 17, .int (f (18 + 5 * c) 4)]) (f' := f) rfl ?_
              refine wq_qld (j := b) (n := 5) (b := (18 + 5 * b)) rfl rfl rfl (by rw [hb]; rfl) hb5 (Nat.le_of_ble_eq_true rfl) (acts_at hb5) ?_
              refine wq_getI (v := (f (18 + 5 * b) 4)) rfl (act_O hb5) rfl ?_
              refine wq_if (c := (f (18 + 5 * c) 4) < (f (18 + 5 * b) 4)) (p1 := 91) (L1 := [(0, .ref 16), (1, .int (nI t)), (2, .int h), (3, .int day), (4, .int (obI (toA (fun c => f (22 + 5 * c) t) (fun c => f (18 + 5 * c) 4) h day c))), (5, .int (nI c)), (6, .int (f (22 + 5 * c) t))]) (S1 := []) (p2 := 87) (L2 := [(0, .ref 16), (1, .int (nI t)), (2, .int h), (3, .int day), (4, .int (obI (toA (fun c => f (22 + 5 * c) t) (fun c => f (18 + 5 * c) 4) h day c))), (5, .int (nI c)), (6, .int (f (22 + 5 * c) t))]) (S2 := []) rfl (fun c_84 => ?_) (fun c_84 => ?_)
              · refine wq_run2 (pc' := 6) (L' := [(0, .ref 16), (1, .int (nI t)), (2, .int h), (3, .int day), (4, .int (obI (toA (fun c => f (22 + 5 * c) t) (fun c => f (18 + 5 * c) 4) h day c))), (5, .int ((nI c) + 1))]) (S' := []) (f' := f) rfl ?_
                have e1 : (toA (fun c => f (22 + 5 * c) t) (fun c => f (18 + 5 * c) 4) h day (c + 1)) = (toA (fun c => f (22 + 5 * c) t) (fun c => f (18 + 5 * c) 4) h day c) := toA_z (fun q => absurd (show f (18 + 5 * b) 4 ≤ f (18 + 5 * c) 4 by have q := q.2.2.2; rw [hb] at q; exact of_decide_eq_true q) (Int32.not_le.mpr c_84))
                have h9 := ih (c + 1) (by omega) (by omega)
                rw [e1] at h9
                rw [nI_1]
                exact h9
              · refine wq_run4 (pc' := 6) (L' := [(0, .ref 16), (1, .int (nI t)), (2, .int h), (3, .int day), (4, .int (nI c)), (5, .int ((nI c) + 1))]) (S' := []) (f' := f) rfl ?_
                have e1 : (toA (fun c => f (22 + 5 * c) t) (fun c => f (18 + 5 * c) 4) h day (c + 1)) = some c := toA_y ⟨c_32, Int32.not_lt.mp c_38, c_52, by rw [hb]; exact decide_eq_true (Int32.not_lt.mp c_84)⟩
                have h9 := ih (c + 1) (by omega) (by omega)
                rw [e1] at h9
                rw [nI_1]
                exact h9
          · refine wq_run3 (pc' := 6) (L' := [(0, .ref 16), (1, .int (nI t)), (2, .int h), (3, .int day), (4, .int (obI (toA (fun c => f (22 + 5 * c) t) (fun c => f (18 + 5 * c) 4) h day c))), (5, .int ((nI c) + 1))]) (S' := []) (f' := f) rfl ?_
            have e1 : (toA (fun c => f (22 + 5 * c) t) (fun c => f (18 + 5 * c) 4) h day (c + 1)) = (toA (fun c => f (22 + 5 * c) t) (fun c => f (18 + 5 * c) 4) h day c) := toA_z (fun q => c_52 q.2.2.1)
            have h9 := ih (c + 1) (by omega) (by omega)
            rw [e1] at h9
            rw [nI_1]
            exact h9
theorem sp_told (f : HI) (h day : Int32) {t m : Nat} (ht : t < 10) (hm2 : f 16 1 = nI m) (hm5 : m ≤ 5) : Sp 1 54 [.ref 16, .int (nI t), .int h, .int day] f (Ret (obI (toA (fun c => f (22 + 5 * c) t) (fun c => f (18 + 5 * c) 4) h day m)) f) := by
  show wq 1 54 (Ret (obI (toA (fun c => f (22 + 5 * c) t) (fun c => f (18 + 5 * c) 4) h day m)) f) 0 [(0, .ref 16), (1, .int (nI t)), (2, .int h), (3, .int day)] [] f
  refine wq_run4 (pc' := 6) (L' := [(0, .ref 16), (1, .int (nI t)), (2, .int h), (3, .int day), (4, .int (-1)), (5, .int 0)]) (S' := []) (f' := f) rfl ?_
  exact lp_told f h day ht hm2 hm5 (m - 0 + 1) 0 (Nat.zero_le _) (Nat.lt_succ_self _)
theorem sp_act1 (f : HI) (h day : Int32) {t m : Nat} (ht : t < 10) (hm2 : f 16 1 = nI m) (hm5 : m ≤ 5) (hT : inR (nI t) 0 9) (hh : inR h 0 20000) (hd : inR day 0 1000) : Sp 3 91 [.ref 0, .int (nI t), .int h, .int day] f (Ret (obI (toA (fun c => f (22 + 5 * c) t) (fun c => f (18 + 5 * c) 4) h day m)) f) := by
  show wq 3 91 (Ret (obI (toA (fun c => f (22 + 5 * c) t) (fun c => f (18 + 5 * c) 4) h day m)) f) 0 [(0, .ref 0), (1, .int (nI t)), (2, .int h), (3, .int day)] [] f
  refine wq_run1 (pc' := 1) (L' := [(0, .ref 0), (1, .int (nI t)), (2, .int h), (3, .int day)]) (S' := [.int (nI t)]) (f' := f) rfl ?_
  refine wq_callI (r := (b2i (inR (nI t) 0 9))) (sp_isTown f (nI t)) (Nat.le_of_ble_eq_true rfl) (pc' := 4) (L' := [(0, .ref 0), (1, .int (nI t)), (2, .int h), (3, .int day)]) (S' := []) rfl (Nat.le_of_ble_eq_true rfl) rfl rfl (Nat.le_of_ble_eq_true rfl) (Nat.le_of_ble_eq_true rfl) ?_
  refine wq_if (c := (b2i (inR (nI t) 0 9)) = 0) (p1 := 7) (L1 := [(0, .ref 0), (1, .int (nI t)), (2, .int h), (3, .int day)]) (S1 := []) (p2 := 10) (L2 := [(0, .ref 0), (1, .int (nI t)), (2, .int h), (3, .int day)]) (S2 := []) rfl (fun q => absurd q (b2i_n0.mpr hT)) (fun _ => ?_)
  refine wq_run3 (pc' := 15) (L' := [(0, .ref 0), (1, .int (nI t)), (2, .int h), (3, .int day)]) (S' := [.int 20000, .int 0, .int h]) (f' := f) rfl ?_
  refine wq_callI (r := (b2i (inR h 0 20000))) (sp_within f h 0 20000) (Nat.le_of_ble_eq_true rfl) (pc' := 18) (L' := [(0, .ref 0), (1, .int (nI t)), (2, .int h), (3, .int day)]) (S' := []) rfl (Nat.le_of_ble_eq_true rfl) rfl rfl (Nat.le_of_ble_eq_true rfl) (Nat.le_of_ble_eq_true rfl) ?_
  refine wq_if (c := (b2i (inR h 0 20000)) = 0) (p1 := 32) (L1 := [(0, .ref 0), (1, .int (nI t)), (2, .int h), (3, .int day)]) (S1 := []) (p2 := 21) (L2 := [(0, .ref 0), (1, .int (nI t)), (2, .int h), (3, .int day)]) (S2 := []) rfl (fun q => absurd q (b2i_n0.mpr hh)) (fun _ => ?_)
  refine wq_run3 (pc' := 26) (L' := [(0, .ref 0), (1, .int (nI t)), (2, .int h), (3, .int day)]) (S' := [.int 1000, .int 0, .int day]) (f' := f) rfl ?_
  refine wq_callI (r := (b2i (inR day 0 1000))) (sp_within f day 0 1000) (Nat.le_of_ble_eq_true rfl) (pc' := 29) (L' := [(0, .ref 0), (1, .int (nI t)), (2, .int h), (3, .int day)]) (S' := []) rfl (Nat.le_of_ble_eq_true rfl) rfl rfl (Nat.le_of_ble_eq_true rfl) (Nat.le_of_ble_eq_true rfl) ?_
  refine wq_if (c := (b2i (inR day 0 1000)) = 0) (p1 := 32) (L1 := [(0, .ref 0), (1, .int (nI t)), (2, .int h), (3, .int day)]) (S1 := []) (p2 := 35) (L2 := [(0, .ref 0), (1, .int (nI t)), (2, .int h), (3, .int day)]) (S2 := []) rfl (fun q => absurd q (b2i_n0.mpr hd)) (fun _ => ?_)
  refine wq_run5 (pc' := 42) (L' := [(0, .ref 0), (1, .int (nI t)), (2, .int h), (3, .int day)]) (S' := [.int day, .int h, .int (nI t), .ref 16]) (f' := f) rfl ?_
  refine wq_callI (r := (obI (toA (fun c => f (22 + 5 * c) t) (fun c => f (18 + 5 * c) 4) h day m))) (sp_told f h day ht hm2 hm5) (Nat.le_of_ble_eq_true rfl) (pc' := 45) (L' := [(0, .ref 0), (1, .int (nI t)), (2, .int h), (3, .int day)]) (S' := []) rfl (Nat.le_of_ble_eq_true rfl) rfl rfl (Nat.le_of_ble_eq_true rfl) (Nat.le_of_ble_eq_true rfl) ?_
  exact wq_ret rfl ⟨rfl, rfl⟩
