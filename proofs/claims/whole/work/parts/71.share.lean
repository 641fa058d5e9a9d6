/-! the hour: how the cost of a run is parted, over numbers -/
theorem hu_ite {α : Type} {p q : Prop} [Decidable p] [Decidable q] {a b : α} (h : p ↔ q) : (if p then a else b) = (if q then a else b) := by
  by_cases c : p
  · rw [if_pos c, if_pos (h.mp c)]
  · rw [if_neg c, if_neg (fun z => c (h.mpr z))]
def huA (B : Nat → Bool) (p : Nat → Nat) : Nat → Nat
  | 0 => 0
  | i + 1 => if B i = true then huA B p i + p i else huA B p i
def huK (B : Nat → Bool) (p : Nat → Nat) (C al : Nat) : Nat → Nat
  | 0 => 0
  | i + 1 => if B i = true then huK B p C al i + C * p i / al else huK B p C al i
def huC (B : Nat → Bool) : Nat → Nat
  | 0 => 0
  | i + 1 => if B i = true then huC B i + 1 else huC B i
def huP (B : Nat → Bool) (R : Nat → Nat) (m : Nat) : Nat → Option Nat
  | 0 => none
  | i + 1 => match huP B R m i with
    | none => if B i = true ∧ bN m i = 0 then some i else none
    | some j => if (B i = true ∧ bN m i = 0) ∧ R j < R i then some i else some j
theorem hp_0 {B : Nat → Bool} {R : Nat → Nat} {m i : Nat} (h : ¬ (B i = true ∧ bN m i = 0)) : huP B R m (i + 1) = huP B R m i := by
  rw [huP]
  cases huP B R m i with
  | none => exact if_neg h
  | some j => exact if_neg (fun q => h q.1)
theorem hp_1 {B : Nat → Bool} {R : Nat → Nat} {m i : Nat} (h : B i = true ∧ bN m i = 0) (h2 : huP B R m i = none) : huP B R m (i + 1) = some i := by
  rw [huP, h2]
  exact if_pos h
theorem hp_2 {B : Nat → Bool} {R : Nat → Nat} {m i j : Nat} (h : B i = true ∧ bN m i = 0) (h2 : huP B R m i = some j) (h3 : R j < R i) : huP B R m (i + 1) = some i := by
  rw [huP, h2]
  exact if_pos ⟨h, h3⟩
theorem hp_3 {B : Nat → Bool} {R : Nat → Nat} {m i j : Nat} (h2 : huP B R m i = some j) (h3 : ¬ R j < R i) : huP B R m (i + 1) = some j := by
  rw [huP, h2]
  exact if_neg (fun q => h3 q.2)
theorem hp_lt {B : Nat → Bool} {R : Nat → Nat} {m : Nat} : ∀ {i j : Nat}, huP B R m i = some j → j < i ∧ B j = true ∧ bN m j = 0
  | 0, j, h => by cases h
  | i + 1, j, h => by
    by_cases c : B i = true ∧ bN m i = 0
    · cases c2 : huP B R m i with
      | none =>
        rw [hp_1 c c2] at h
        cases h
        exact ⟨Nat.lt_succ_self _, c⟩
      | some k =>
        by_cases c3 : R k < R i
        · rw [hp_2 c c2 c3] at h
          cases h
          exact ⟨Nat.lt_succ_self _, c⟩
        · rw [hp_3 c2 c3] at h
          cases h
          exact ⟨Nat.lt_succ_of_lt (hp_lt c2).1, (hp_lt c2).2⟩
    · rw [hp_0 c] at h
      exact ⟨Nat.lt_succ_of_lt (hp_lt h).1, (hp_lt h).2⟩
theorem hp_no {B : Nat → Bool} {R : Nat → Nat} {m : Nat} : ∀ {i : Nat}, huP B R m i = none → ∀ j, j < i → B j = true → bN m j = 1
  | 0, _, j, hj, _ => absurd hj (Nat.not_lt_zero _)
  | i + 1, h, j, hj, hb => by
    by_cases c : B i = true ∧ bN m i = 0
    · cases c2 : huP B R m i with
      | none => rw [hp_1 c c2] at h; cases h
      | some k =>
        by_cases c3 : R k < R i
        · rw [hp_2 c c2 c3] at h; cases h
        · rw [hp_3 c2 c3] at h; cases h
    · rw [hp_0 c] at h
      by_cases e : j = i
      · have h9 := bN_lt m j
        rw [e] at h9 hb ⊢
        have h8 : ¬ bN m i = 0 := fun q => c ⟨hb, q⟩
        omega
      · exact hp_no h j (by omega) hb
def huM (B : Nat → Bool) (R : Nat → Nat) (n : Nat) : Nat → Nat
  | 0 => 0
  | k + 1 => match huP B R (huM B R n k) n with
    | none => huM B R n k
    | some b => huM B R n k ||| 2 ^ b
theorem hm_s {B : Nat → Bool} {R : Nat → Nat} {n k b : Nat} (h : huP B R (huM B R n k) n = some b) : huM B R n (k + 1) = huM B R n k ||| 2 ^ b := by
  rw [huM, h]
theorem hm_n {B : Nat → Bool} {R : Nat → Nat} {n k : Nat} (h : huP B R (huM B R n k) n = none) : huM B R n (k + 1) = huM B R n k := by
  rw [huM, h]
theorem hm_lt {B : Nat → Bool} {R : Nat → Nat} {n : Nat} : ∀ k, huM B R n k < 2 ^ n
  | 0 => Nat.two_pow_pos n
  | k + 1 => by
    cases c : huP B R (huM B R n k) n with
    | none => rw [hm_n c]; exact hm_lt k
    | some b => rw [hm_s c]; exact Nat.or_lt_two_pow (hm_lt k) (Nat.pow_lt_pow_right (by decide) (hp_lt c).1)
def huS (B : Nat → Bool) (m : Nat) : Nat → Nat
  | 0 => 0
  | i + 1 => if B i = true then huS B m i + bN m i else huS B m i
theorem hs_0 {B : Nat → Bool} : ∀ i, huS B 0 i = 0
  | 0 => rfl
  | i + 1 => by
    have h9 : bN 0 i = 0 := bN_0.mpr (bN_zero i)
    rw [huS, hs_0 i, h9, ite_self]
theorem hs_or {B : Nat → Bool} {m b : Nat} : ∀ i, huS B (m ||| 2 ^ b) i ≤ huS B m i + (if b < i then 1 else 0)
  | 0 => Nat.zero_le _
  | i + 1 => by
    have h1 := hs_or (B := B) (m := m) (b := b) i
    have h2 : bN (m ||| 2 ^ b) i ≤ bN m i + (if b = i then 1 else 0) := by
      have l1 := bN_lt m i
      have l2 := bN_lt (m ||| 2 ^ b) i
      by_cases e : b = i
      · rw [if_pos e]; omega
      · rw [if_neg e]
        by_cases c : bN (m ||| 2 ^ b) i = 1
        · have := (bN_or.mp c).resolve_right (fun q => e q.symm)
          omega
        · omega
    rw [huS, huS]
    by_cases c : B i = true
    · rw [if_pos c, if_pos c]
      split at h1 <;> split at h2 <;> split <;> omega
    · rw [if_neg c, if_neg c]
      split at h1 <;> split <;> omega
theorem hs_le {B : Nat → Bool} {R : Nat → Nat} {n : Nat} : ∀ k, huS B (huM B R n k) n ≤ k
  | 0 => by rw [huM, hs_0]; exact Nat.le_refl _
  | k + 1 => by
    have h1 := hs_le (B := B) (R := R) (n := n) k
    cases c : huP B R (huM B R n k) n with
    | none => rw [hm_n c]; omega
    | some b =>
      rw [hm_s c]
      have h2 := hs_or (B := B) (m := huM B R n k) (b := b) n
      split at h2 <;> omega
theorem hs_all {B : Nat → Bool} {m : Nat} : ∀ i, (∀ j, j < i → B j = true → bN m j = 1) → huS B m i = huC B i
  | 0, _ => rfl
  | i + 1, h => by
    rw [huS, huC, hs_all i (fun j q => h j (by omega))]
    by_cases c : B i = true
    · rw [if_pos c, if_pos c, h i (Nat.lt_succ_self _) c]
    · rw [if_neg c, if_neg c]
theorem hp_ex {B : Nat → Bool} {R : Nat → Nat} {n k : Nat} (h : k < huC B n) : ∃ b, huP B R (huM B R n k) n = some b := by
  cases c : huP B R (huM B R n k) n with
  | some b => exact ⟨b, rfl⟩
  | none =>
    have h1 := hs_all n (hp_no c)
    have h2 := hs_le (B := B) (R := R) (n := n) k
    omega
theorem hk_sum {B : Nat → Bool} {p : Nat → Nat} {C al : Nat} (h0 : 0 < al) : ∀ i, al * huK B p C al i ≤ C * huA B p i ∧ C * huA B p i + huC B i ≤ al * huK B p C al i + al * huC B i
  | 0 => ⟨Nat.le_refl _, Nat.le_refl _⟩
  | i + 1 => by
    obtain ⟨h1, h2⟩ := hk_sum (B := B) (p := p) (C := C) h0 i
    rw [huK, huA, huC]
    by_cases c : B i = true
    · rw [if_pos c, if_pos c, if_pos c, Nat.mul_add, Nat.mul_add, Nat.mul_add, Nat.mul_one]
      have h3 := Nat.div_add_mod (C * p i) al
      have h4 := Nat.mod_lt (C * p i) h0
      generalize al * (C * p i / al) = x at *
      generalize C * p i % al = y at *
      generalize C * p i = z at *
      omega
    · rw [if_neg c, if_neg c, if_neg c]
      exact ⟨h1, h2⟩
theorem hk_le {B : Nat → Bool} {p : Nat → Nat} {C n : Nat} (h0 : 0 < huA B p n) : ∀ i, i ≤ n → huK B p C (huA B p n) i ≤ C := by
  intro i hi
  have mono : ∀ j, huA B p i ≤ huA B p (i + j) := by
    intro j
    induction j with
    | zero => exact Nat.le_refl _
    | succ j ih =>
      refine Nat.le_trans ih ?_
      show _ ≤ (if B (i + j) = true then huA B p (i + j) + p (i + j) else huA B p (i + j))
      split <;> omega
  have h1 := (hk_sum (B := B) (p := p) (C := C) h0 i).1
  have h2 := mono (n - i)
  rw [show i + (n - i) = n by omega] at h2
  have h3 : C * huA B p i ≤ C * huA B p n := Nat.mul_le_mul_left _ h2
  rw [Nat.mul_comm C (huA B p n)] at h3
  exact Nat.le_of_mul_le_mul_left (Nat.le_trans h1 h3) h0
theorem hk_rest {B : Nat → Bool} {p : Nat → Nat} {C n : Nat} (h0 : 0 < huA B p n) : C - huK B p C (huA B p n) n < huC B n := by
  have h1 := (hk_sum (B := B) (p := p) (C := C) h0 n).2
  have h3 := hk_le (B := B) (p := p) (C := C) h0 n (Nat.le_refl _)
  have h4 : 0 < huC B n := by
    have z : ∀ i, huC B i = 0 → huA B p i = 0 := by
      intro i
      induction i with
      | zero => intro _; rfl
      | succ i ih =>
        rw [huC, huA]
        by_cases c : B i = true
        · rw [if_pos c]; omega
        · rw [if_neg c, if_neg c]; exact ih
    cases e : huC B n with
    | zero => rw [z n e] at h0; exact absurd h0 (Nat.lt_irrefl _)
    | succ m => exact Nat.succ_pos _
  generalize huA B p n = al at *
  generalize huK B p C al n = tk at *
  generalize huC B n = cn at *
  apply Nat.lt_of_not_le
  intro hc
  obtain ⟨d, hd⟩ : ∃ d, C = tk + cn + d := ⟨C - tk - cn, by omega⟩
  subst hd
  rw [Nat.add_mul, Nat.add_mul, Nat.mul_comm tk al, Nat.mul_comm cn al] at h1
  omega
theorem ha_le {B : Nat → Bool} {p : Nat → Nat} {M : Nat} (h : ∀ i, p i ≤ M) : ∀ i, huA B p i ≤ M * i
  | 0 => Nat.zero_le _
  | i + 1 => by
    have h1 := ha_le (B := B) h i
    have h2 := h i
    rw [huA, Nat.mul_succ]
    split <;> omega
theorem ha_ge {B : Nat → Bool} {p : Nat → Nat} {i : Nat} (hb : B i = true) : ∀ j, p i ≤ huA B p (i + 1 + j)
  | 0 => by
    show _ ≤ (if B i = true then huA B p i + p i else huA B p i)
    rw [if_pos hb]; omega
  | j + 1 => by
    have h1 := ha_ge (p := p) hb j
    show _ ≤ (if B (i + 1 + j) = true then huA B p (i + 1 + j) + p (i + 1 + j) else huA B p (i + 1 + j))
    split <;> omega
def huG (B : Nat → Bool) (p : Nat → Nat) (C al : Nat) (g : Nat → Int32) : Nat → Nat → Int32
  | 0 => g
  | i + 1 => if B i = true then upd (huG B p C al g i) i (huG B p C al g i i + nI (C * p i / al)) else huG B p C al g i
def huW (B : Nat → Bool) (R : Nat → Nat) (n : Nat) (g : Nat → Int32) : Nat → Nat → Int32
  | 0 => g
  | k + 1 => match huP B R (huM B R n k) n with
    | none => huW B R n g k
    | some b => upd (huW B R n g k) b (huW B R n g k b + 1)
theorem hw_s {B : Nat → Bool} {R : Nat → Nat} {n k b : Nat} {g : Nat → Int32} (h : huP B R (huM B R n k) n = some b) : huW B R n g (k + 1) = upd (huW B R n g k) b (huW B R n g k b + 1) := by
  rw [huW, h]
theorem hw_n {B : Nat → Bool} {R : Nat → Nat} {n k : Nat} {g : Nat → Int32} (h : huP B R (huM B R n k) n = none) : huW B R n g (k + 1) = huW B R n g k := by
  rw [huW, h]
theorem hg_v {B : Nat → Bool} {p : Nat → Nat} {C al : Nat} {g : Nat → Int32} : ∀ i l, huG B p C al g i l = if l < i ∧ B l = true then g l + nI (C * p l / al) else g l
  | 0, l => (if_neg (fun q => absurd q.1 (Nat.not_lt_zero _))).symm
  | i + 1, l => by
    rw [huG]
    by_cases c : B i = true
    · rw [if_pos c]
      by_cases e : l = i
      · rw [e, upd_s, hg_v i i, if_neg (fun q => absurd q.1 (Nat.lt_irrefl _)), if_pos ⟨Nat.lt_succ_self _, c⟩]
      · rw [upd_n e, hg_v i l]
        exact hu_ite ⟨fun q => ⟨by omega, q.2⟩, fun q => ⟨by omega, q.2⟩⟩
    · rw [if_neg c, hg_v i l]
      exact hu_ite ⟨fun q => ⟨by omega, q.2⟩, fun q => ⟨by
        by_cases e : l = i
        · exact absurd (e ▸ q.2) c
        · omega, q.2⟩⟩
theorem hw_v {B : Nat → Bool} {R : Nat → Nat} {n : Nat} {g : Nat → Int32} : ∀ k l, huW B R n g k l = g l + nI (bN (huM B R n k) l)
  | 0, l => by
    show g l = g l + nI (bN 0 l)
    rw [bN_0.mpr (bN_zero l), nI_0, Int32.add_zero]
  | k + 1, l => by
    cases c : huP B R (huM B R n k) n with
    | none => rw [hw_n c, hm_n c]; exact hw_v k l
    | some b =>
      rw [hw_s c, hm_s c]
      have hb := (hp_lt c).2.2
      by_cases e : l = b
      · rw [e, upd_s, hw_v k b, hb, bN_or.mpr (Or.inr rfl), nI_0, Int32.add_zero]
        rfl
      · rw [upd_n e, hw_v k l]
        have l1 := bN_lt (huM B R n k) l
        have l2 := bN_lt (huM B R n k ||| 2 ^ b) l
        have e1 : bN (huM B R n k ||| 2 ^ b) l = bN (huM B R n k) l := by
          by_cases c3 : bN (huM B R n k) l = 1
          · rw [c3, bN_or.mpr (Or.inl c3)]
          · have : ¬ bN (huM B R n k ||| 2 ^ b) l = 1 := fun q => (bN_or.mp q).elim c3 e
            omega
        rw [e1]
theorem hm_b {B : Nat → Bool} {R : Nat → Nat} {n : Nat} : ∀ k l, bN (huM B R n k) l = 1 → l < n ∧ B l = true
  | 0, l, h => absurd h (bN_zero l)
  | k + 1, l, h => by
    cases c : huP B R (huM B R n k) n with
    | none => rw [hm_n c] at h; exact hm_b k l h
    | some b =>
      rw [hm_s c] at h
      cases bN_or.mp h with
      | inl q => exact hm_b k l q
      | inr q => rw [q]; exact ⟨(hp_lt c).1, (hp_lt c).2.1⟩
