/-! the street: boxes -/
theorem nx_or (a b : Nat) : nI a ||| nI b = nI (a ||| b) := by
  apply Int32.toBitVec_inj.1
  show BitVec.ofNat 32 a ||| BitVec.ofNat 32 b = BitVec.ofNat 32 (a ||| b)
  apply BitVec.eq_of_getLsbD_eq
  intro i hi
  simp [hi]
theorem sl31 : ∀ n, n < 32 → ((nI n &&& 31).toBitVec.smod 32).toNat = n := by decide +kernel
theorem shl1 {n : Nat} (h : n < 31) : (1 : Int32) <<< (nI n &&& 31) = nI (2 ^ n) := by
  have h2 : 2 ^ n < 2 ^ 31 := Nat.pow_lt_pow_right (by decide) h
  have h3 := pk_shlN (n := 1) (nI n &&& 31) n (sl31 n (by omega)) (by omega)
  rw [Nat.one_mul] at h3
  exact h3
def bN (s i : Nat) : Nat := s / 2 ^ i % 2
theorem bN_lt (s i : Nat) : bN s i < 2 := Nat.mod_lt _ (by decide)
theorem sarN {s i : Nat} (hs : s < 2 ^ 31) (hi : i < 31) : nI s >>> (nI i &&& 31) = nI (s / 2 ^ i) := pk_shrN hs _ i (sl31 i (by omega))
theorem and1N {a : Nat} (h : a < 2 ^ 31) : nI a &&& 1 = nI (a % 2) := pk_andN (by omega) 1 (by decide)
theorem bitN {s i : Nat} (hs : s < 2 ^ 31) (hi : i < 31) : (nI s >>> (nI i &&& 31)) &&& 1 = nI (bN s i) := by
  rw [sarN hs hi, and1N (Nat.lt_of_le_of_lt (Nat.div_le_self _ _) hs)]
  rfl
def pcN : Nat → Nat → Nat
  | 0, _ => 0
  | n + 1, s => pcN n s + bN s n
def bcI (x : Int32) : Int32 :=
  let a := x - ((x.toUInt32 >>> ((1 : Int32).toUInt32 &&& Int32.toUInt32 31)).toInt32 &&& 1431655765)
  let b := (a &&& 858993459) + ((a.toUInt32 >>> ((2 : Int32).toUInt32 &&& Int32.toUInt32 31)).toInt32 &&& 858993459)
  let c := (b + (b.toUInt32 >>> ((4 : Int32).toUInt32 &&& Int32.toUInt32 31)).toInt32) &&& 252645135
  let d := c + (c.toUInt32 >>> ((8 : Int32).toUInt32 &&& Int32.toUInt32 31)).toInt32
  (d + (d.toUInt32 >>> ((16 : Int32).toUInt32 &&& Int32.toUInt32 31)).toInt32) &&& 63
theorem bc_pc2 : ∀ a, a < 64 → ∀ b, b < 64 → bcI (nI (64 * a + b)) = nI (pcN 12 (64 * a + b)) := by decide +kernel
theorem bc_pc (s : Nat) (h : s < 4096) : bcI (nI s) = nI (pcN 12 s) := by
  have h2 := bc_pc2 (s / 64) (by omega) (s % 64) (by omega)
  rw [Nat.div_add_mod] at h2
  exact h2
theorem pc_up {n s : Nat} (h : s < 2 ^ n) : ∀ k, pcN (n + k) s = pcN n s := by
  intro k
  induction k with
  | zero => rfl
  | succ k ih =>
    show pcN (n + k) s + bN s (n + k) = pcN n s
    have h2 : s < 2 ^ (n + k) := Nat.lt_of_lt_of_le h (Nat.pow_le_pow_right (by decide) (Nat.le_add_right n k))
    have h3 : bN s (n + k) = 0 := by
      unfold bN
      rw [Nat.div_eq_of_lt h2]
    rw [h3, ih, Nat.add_zero]
theorem pc_12 (n : Nat) (hn : n < 13) (s : Nat) (h : s < 2 ^ n) : pcN n s = pcN 12 s := by
  have h2 := pc_up h (12 - n)
  rw [show n + (12 - n) = 12 by omega] at h2
  exact h2.symm
theorem pc_le : ∀ n s, pcN n s ≤ n := by
  intro n
  induction n with
  | zero => intro s; exact Nat.le_refl _
  | succ n ih =>
    intro s
    have h1 := ih s
    have h2 := bN_lt s n
    show pcN n s + bN s n ≤ n + 1
    omega
theorem pc_full0 : ∀ n s, pcN n s = n → s % 2 ^ n = 2 ^ n - 1 := by
  intro n
  induction n with
  | zero => intro s _; exact Nat.mod_one s
  | succ n ih =>
    intro s h
    have h1 := pc_le n s
    have h2 := bN_lt s n
    have h0 : pcN n s + bN s n = n + 1 := h
    have h3 := ih s (by omega)
    have h4 : s / 2 ^ n % 2 = 1 := by
      have : bN s n = 1 := by omega
      exact this
    have h5 := Nat.two_pow_pos n
    rw [Nat.mod_pow_succ, h3, h4, Nat.pow_succ]
    omega
theorem pc_full (n s : Nat) (h : s < 2 ^ n) (hp : pcN n s = n) : s = 2 ^ n - 1 := by
  have h2 := pc_full0 n s hp
  rw [Nat.mod_eq_of_lt h] at h2
  exact h2
/-- the doors within reach of i, of those below j -/
def nbN (D : Nat → Nat → Nat) (r i : Nat) : Nat → Nat
  | 0 => 0
  | j + 1 => if D i j ≤ r then nbN D r i j ||| 2 ^ j else nbN D r i j
/-- the doors within reach of a set, by its doors below i -/
def cvN (D : Nat → Nat → Nat) (r n s : Nat) : Nat → Nat
  | 0 => 0
  | i + 1 => if bN s i = 1 then cvN D r n s i ||| nbN D r i n else cvN D r n s i
theorem pw_le {i j : Nat} (h : i ≤ j) : 2 ^ i ≤ 2 ^ j := Nat.pow_le_pow_right (by decide) h
theorem nb_lt (D : Nat → Nat → Nat) (r i : Nat) : ∀ j, nbN D r i j < 2 ^ j := by
  intro j
  induction j with
  | zero => exact Nat.one_pos
  | succ j ih =>
    have h1 : nbN D r i j < 2 ^ (j + 1) := Nat.lt_of_lt_of_le ih (pw_le (Nat.le_succ j))
    unfold nbN
    split
    · exact Nat.or_lt_two_pow h1 (Nat.pow_lt_pow_right (by decide) (Nat.lt_succ_self j))
    · exact h1
theorem cv_lt (D : Nat → Nat → Nat) (r n s : Nat) : ∀ i, cvN D r n s i < 2 ^ n := by
  intro i
  induction i with
  | zero => exact Nat.two_pow_pos n
  | succ i ih =>
    unfold cvN
    split
    · exact Nat.or_lt_two_pow ih (nb_lt D r i n)
    · exact ih
theorem p12 {n : Nat} (h : n ≤ 12) : 2 ^ n ≤ 4096 := pw_le h
theorem p0 (n : Nat) : 1 ≤ 2 ^ n := Nat.two_pow_pos n
/-- the best set of those up to s -/
def bxN (D : Nat → Nat → Nat) (r n : Nat) : Nat → Nat
  | 0 => 2 ^ n - 1
  | s + 1 => if pcN 12 (s + 1) < pcN 12 (bxN D r n s) ∧ cvN D r n (s + 1) n = 2 ^ n - 1 then s + 1 else bxN D r n s
theorem bx_lt (D : Nat → Nat → Nat) (r n : Nat) : ∀ s, s < 2 ^ n → bxN D r n s < 2 ^ n ∧ (bxN D r n s ≤ s ∨ bxN D r n s = 2 ^ n - 1) := by
  intro s
  induction s with
  | zero => intro _; have := p0 n; exact ⟨by show 2 ^ n - 1 < 2 ^ n; omega, Or.inr rfl⟩
  | succ s ih =>
    intro h
    have h2 := ih (by omega)
    unfold bxN
    split
    · exact ⟨h, Or.inl (Nat.le_refl _)⟩
    · exact ⟨h2.1, h2.2.imp (fun q => Nat.le_succ_of_le q) id⟩
theorem jp_bitCount (f : HI) {s : Nat} (hs : s < 4096) : Sp 1 214 [.int (nI s)] f (Ret (nI (pcN 12 s)) f) := by
  show wq 1 214 (Ret (nI (pcN 12 s)) f) 0 [(0, .int (nI s))] [] f
  refine wq_run39 (pc' := 49) (L' := [(0, .int ((((((((nI s) - ((((nI s).toUInt32 >>> ((1 : Int32).toUInt32 &&& Int32.toUInt32 31)).toInt32) &&& 1431655765)) &&& 858993459) + (((((nI s) - ((((nI s).toUInt32 >>> ((1 : Int32).toUInt32 &&& Int32.toUInt32 31)).toInt32) &&& 1431655765)).toUInt32 >>> ((2 : Int32).toUInt32 &&& Int32.toUInt32 31)).toInt32) &&& 858993459)) + ((((((nI s) - ((((nI s).toUInt32 >>> ((1 : Int32).toUInt32 &&& Int32.toUInt32 31)).toInt32) &&& 1431655765)) &&& 858993459) + (((((nI s) - ((((nI s).toUInt32 >>> ((1 : Int32).toUInt32 &&& Int32.toUInt32 31)).toInt32) &&& 1431655765)).toUInt32 >>> ((2 : Int32).toUInt32 &&& Int32.toUInt32 31)).toInt32) &&& 858993459)).toUInt32 >>> ((4 : Int32).toUInt32 &&& Int32.toUInt32 31)).toInt32)) &&& 252645135) + ((((((((nI s) - ((((nI s).toUInt32 >>> ((1 : Int32).toUInt32 &&& Int32.toUInt32 31)).toInt32) &&& 1431655765)) &&& 858993459) + (((((nI s) - ((((nI s).toUInt32 >>> ((1 : Int32).toUInt32 &&& Int32.toUInt32 31)).toInt32) &&& 1431655765)).toUInt32 >>> ((2 : Int32).toUInt32 &&& Int32.toUInt32 31)).toInt32) &&& 858993459)) + ((((((nI s) - ((((nI s).toUInt32 >>> ((1 : Int32).toUInt32 &&& Int32.toUInt32 31)).toInt32) &&& 1431655765)) &&& 858993459) + (((((nI s) - ((((nI s).toUInt32 >>> ((1 : Int32).toUInt32 &&& Int32.toUInt32 31)).toInt32) &&& 1431655765)).toUInt32 >>> ((2 : Int32).toUInt32 &&& Int32.toUInt32 31)).toInt32) &&& 858993459)).toUInt32 >>> ((4 : Int32).toUInt32 &&& Int32.toUInt32 31)).toInt32)) &&& 252645135).toUInt32 >>> ((8 : Int32).toUInt32 &&& Int32.toUInt32 31)).toInt32)) + (((((((((nI s) - ((((nI s).toUInt32 >>> ((1 : Int32).toUInt32 &&& Int32.toUInt32 31)).toInt32) &&& 1431655765)) &&& 858993459) + (((((nI s) - ((((nI s).toUInt32 >>> ((1 : Int32).toUInt32 &&& Int32.toUInt32 31)).toInt32) &&& 1431655765)).toUInt32 >>> ((2 : Int32).toUInt32 &&& Int32.toUInt32 31)).toInt32) &&& 858993459)) + ((((((nI s) - ((((nI s).toUInt32 >>> ((1 : Int32).toUInt32 &&& Int32.toUInt32 31)).toInt32) &&& 1431655765)) &&& 858993459) + (((((nI s) - ((((nI s).toUInt32 >>> ((1 : Int32).toUInt32 &&& Int32.toUInt32 31)).toInt32) &&& 1431655765)).toUInt32 >>> ((2 : Int32).toUInt32 &&& Int32.toUInt32 31)).toInt32) &&& 858993459)).toUInt32 >>> ((4 : Int32).toUInt32 &&& Int32.toUInt32 31)).toInt32)) &&& 252645135) + ((((((((nI s) - ((((nI s).toUInt32 >>> ((1 : Int32).toUInt32 &&& Int32.toUInt32 31)).toInt32) &&& 1431655765)) &&& 858993459) + (((((nI s) - ((((nI s).toUInt32 >>> ((1 : Int32).toUInt32 &&& Int32.toUInt32 31)).toInt32) &&& 1431655765)).toUInt32 >>> ((2 : Int32).toUInt32 &&& Int32.toUInt32 31)).toInt32) &&& 858993459)) + ((((((nI s) - ((((nI s).toUInt32 >>> ((1 : Int32).toUInt32 &&& Int32.toUInt32 31)).toInt32) &&& 1431655765)) &&& 858993459) + (((((nI s) - ((((nI s).toUInt32 >>> ((1 : Int32).toUInt32 &&& Int32.toUInt32 31)).toInt32) &&& 1431655765)).toUInt32 >>> ((2 : Int32).toUInt32 &&& Int32.toUInt32 31)).toInt32) &&& 858993459)).toUInt32 >>> ((4 : Int32).toUInt32 &&& Int32.toUInt32 31)).toInt32)) &&& 252645135).toUInt32 >>> ((8 : Int32).toUInt32 &&& Int32.toUInt32 31)).toInt32)).toUInt32 >>> ((16 : Int32).toUInt32 &&& Int32.toUInt32 31)).toInt32)))]) (S' := [.int ((((((((nI s) - ((((nI s).toUInt32 >>> ((1 : Int32).toUInt32 &&& Int32.toUInt32 31)).toInt32) &&& 1431655765)) &&& 858993459) + (((((nI s) - ((((nI s).toUInt32 >>> ((1 : Int32).toUInt32 &&& Int32.toUInt32 31)).toInt32) &&& 1431655765)).toUInt32 >>> ((2 : Int32).toUInt32 &&& Int32.toUInt32 31)).toInt32) &&& 858993459)) + ((((((nI s) - ((((nI s).toUInt32 >>> ((1 : Int32).toUInt32 &&& Int32.toUInt32 31)).toInt32) &&& 1431655765)) &&& 858993459) + (((((nI s) - ((((nI s).toUInt32 >>> ((1 : Int32).toUInt32 &&& Int32.toUInt32 31)).toInt32) &&& 1431655765)).toUInt32 >>> ((2 : Int32).toUInt32 &&& Int32.toUInt32 31)).toInt32) &&& 858993459)).toUInt32 >>> ((4 : Int32).toUInt32 &&& Int32.toUInt32 31)).toInt32)) &&& 252645135) + ((((((((nI s) - ((((nI s).toUInt32 >>> ((1 : Int32).toUInt32 &&& Int32.toUInt32 31)).toInt32) &&& 1431655765)) &&& 858993459) + (((((nI s) - ((((nI s).toUInt32 >>> ((1 : Int32).toUInt32 &&& Int32.toUInt32 31)).toInt32) &&& 1431655765)).toUInt32 >>> ((2 : Int32).toUInt32 &&& Int32.toUInt32 31)).toInt32) &&& 858993459)) + ((((((nI s) - ((((nI s).toUInt32 >>> ((1 : Int32).toUInt32 &&& Int32.toUInt32 31)).toInt32) &&& 1431655765)) &&& 858993459) + (((((nI s) - ((((nI s).toUInt32 >>> ((1 : Int32).toUInt32 &&& Int32.toUInt32 31)).toInt32) &&& 1431655765)).toUInt32 >>> ((2 : Int32).toUInt32 &&& Int32.toUInt32 31)).toInt32) &&& 858993459)).toUInt32 >>> ((4 : Int32).toUInt32 &&& Int32.toUInt32 31)).toInt32)) &&& 252645135).toUInt32 >>> ((8 : Int32).toUInt32 &&& Int32.toUInt32 31)).toInt32)) + (((((((((nI s) - ((((nI s).toUInt32 >>> ((1 : Int32).toUInt32 &&& Int32.toUInt32 31)).toInt32) &&& 1431655765)) &&& 858993459) + (((((nI s) - ((((nI s).toUInt32 >>> ((1 : Int32).toUInt32 &&& Int32.toUInt32 31)).toInt32) &&& 1431655765)).toUInt32 >>> ((2 : Int32).toUInt32 &&& Int32.toUInt32 31)).toInt32) &&& 858993459)) + ((((((nI s) - ((((nI s).toUInt32 >>> ((1 : Int32).toUInt32 &&& Int32.toUInt32 31)).toInt32) &&& 1431655765)) &&& 858993459) + (((((nI s) - ((((nI s).toUInt32 >>> ((1 : Int32).toUInt32 &&& Int32.toUInt32 31)).toInt32) &&& 1431655765)).toUInt32 >>> ((2 : Int32).toUInt32 &&& Int32.toUInt32 31)).toInt32) &&& 858993459)).toUInt32 >>> ((4 : Int32).toUInt32 &&& Int32.toUInt32 31)).toInt32)) &&& 252645135) + ((((((((nI s) - ((((nI s).toUInt32 >>> ((1 : Int32).toUInt32 &&& Int32.toUInt32 31)).toInt32) &&& 1431655765)) &&& 858993459) + (((((nI s) - ((((nI s).toUInt32 >>> ((1 : Int32).toUInt32 &&& Int32.toUInt32 31)).toInt32) &&& 1431655765)).toUInt32 >>> ((2 : Int32).toUInt32 &&& Int32.toUInt32 31)).toInt32) &&& 858993459)) + ((((((nI s) - ((((nI s).toUInt32 >>> ((1 : Int32).toUInt32 &&& Int32.toUInt32 31)).toInt32) &&& 1431655765)) &&& 858993459) + (((((nI s) - ((((nI s).toUInt32 >>> ((1 : Int32).toUInt32 &&& Int32.toUInt32 31)).toInt32) &&& 1431655765)).toUInt32 >>> ((2 : Int32).toUInt32 &&& Int32.toUInt32 31)).toInt32) &&& 858993459)).toUInt32 >>> ((4 : Int32).toUInt32 &&& Int32.toUInt32 31)).toInt32)) &&& 252645135).toUInt32 >>> ((8 : Int32).toUInt32 &&& Int32.toUInt32 31)).toInt32)).toUInt32 >>> ((16 : Int32).toUInt32 &&& Int32.toUInt32 31)).toInt32))]) (f' := f) rfl ?_
  refine wq_run2 (pc' := 52) (L' := [(0, .int ((((((((nI s) - ((((nI s).toUInt32 >>> ((1 : Int32).toUInt32 &&& Int32.toUInt32 31)).toInt32) &&& 1431655765)) &&& 858993459) + (((((nI s) - ((((nI s).toUInt32 >>> ((1 : Int32).toUInt32 &&& Int32.toUInt32 31)).toInt32) &&& 1431655765)).toUInt32 >>> ((2 : Int32).toUInt32 &&& Int32.toUInt32 31)).toInt32) &&& 858993459)) + ((((((nI s) - ((((nI s).toUInt32 >>> ((1 : Int32).toUInt32 &&& Int32.toUInt32 31)).toInt32) &&& 1431655765)) &&& 858993459) + (((((nI s) - ((((nI s).toUInt32 >>> ((1 : Int32).toUInt32 &&& Int32.toUInt32 31)).toInt32) &&& 1431655765)).toUInt32 >>> ((2 : Int32).toUInt32 &&& Int32.toUInt32 31)).toInt32) &&& 858993459)).toUInt32 >>> ((4 : Int32).toUInt32 &&& Int32.toUInt32 31)).toInt32)) &&& 252645135) + ((((((((nI s) - ((((nI s).toUInt32 >>> ((1 : Int32).toUInt32 &&& Int32.toUInt32 31)).toInt32) &&& 1431655765)) &&& 858993459) + (((((nI s) - ((((nI s).toUInt32 >>> ((1 : Int32).toUInt32 &&& Int32.toUInt32 31)).toInt32) &&& 1431655765)).toUInt32 >>> ((2 : Int32).toUInt32 &&& Int32.toUInt32 31)).toInt32) &&& 858993459)) + ((((((nI s) - ((((nI s).toUInt32 >>> ((1 : Int32).toUInt32 &&& Int32.toUInt32 31)).toInt32) &&& 1431655765)) &&& 858993459) + (((((nI s) - ((((nI s).toUInt32 >>> ((1 : Int32).toUInt32 &&& Int32.toUInt32 31)).toInt32) &&& 1431655765)).toUInt32 >>> ((2 : Int32).toUInt32 &&& Int32.toUInt32 31)).toInt32) &&& 858993459)).toUInt32 >>> ((4 : Int32).toUInt32 &&& Int32.toUInt32 31)).toInt32)) &&& 252645135).toUInt32 >>> ((8 : Int32).toUInt32 &&& Int32.toUInt32 31)).toInt32)) + (((((((((nI s) - ((((nI s).toUInt32 >>> ((1 : Int32).toUInt32 &&& Int32.toUInt32 31)).toInt32) &&& 1431655765)) &&& 858993459) + (((((nI s) - ((((nI s).toUInt32 >>> ((1 : Int32).toUInt32 &&& Int32.toUInt32 31)).toInt32) &&& 1431655765)).toUInt32 >>> ((2 : Int32).toUInt32 &&& Int32.toUInt32 31)).toInt32) &&& 858993459)) + ((((((nI s) - ((((nI s).toUInt32 >>> ((1 : Int32).toUInt32 &&& Int32.toUInt32 31)).toInt32) &&& 1431655765)) &&& 858993459) + (((((nI s) - ((((nI s).toUInt32 >>> ((1 : Int32).toUInt32 &&& Int32.toUInt32 31)).toInt32) &&& 1431655765)).toUInt32 >>> ((2 : Int32).toUInt32 &&& Int32.toUInt32 31)).toInt32) &&& 858993459)).toUInt32 >>> ((4 : Int32).toUInt32 &&& Int32.toUInt32 31)).toInt32)) &&& 252645135) + ((((((((nI s) - ((((nI s).toUInt32 >>> ((1 : Int32).toUInt32 &&& Int32.toUInt32 31)).toInt32) &&& 1431655765)) &&& 858993459) + (((((nI s) - ((((nI s).toUInt32 >>> ((1 : Int32).toUInt32 &&& Int32.toUInt32 31)).toInt32) &&& 1431655765)).toUInt32 >>> ((2 : Int32).toUInt32 &&& Int32.toUInt32 31)).toInt32) &&& 858993459)) + ((((((nI s) - ((((nI s).toUInt32 >>> ((1 : Int32).toUInt32 &&& Int32.toUInt32 31)).toInt32) &&& 1431655765)) &&& 858993459) + (((((nI s) - ((((nI s).toUInt32 >>> ((1 : Int32).toUInt32 &&& Int32.toUInt32 31)).toInt32) &&& 1431655765)).toUInt32 >>> ((2 : Int32).toUInt32 &&& Int32.toUInt32 31)).toInt32) &&& 858993459)).toUInt32 >>> ((4 : Int32).toUInt32 &&& Int32.toUInt32 31)).toInt32)) &&& 252645135).toUInt32 >>> ((8 : Int32).toUInt32 &&& Int32.toUInt32 31)).toInt32)).toUInt32 >>> ((16 : Int32).toUInt32 &&& Int32.toUInt32 31)).toInt32)))]) (S' := [.int (((((((((nI s) - ((((nI s).toUInt32 >>> ((1 : Int32).toUInt32 &&& Int32.toUInt32 31)).toInt32) &&& 1431655765)) &&& 858993459) + (((((nI s) - ((((nI s).toUInt32 >>> ((1 : Int32).toUInt32 &&& Int32.toUInt32 31)).toInt32) &&& 1431655765)).toUInt32 >>> ((2 : Int32).toUInt32 &&& Int32.toUInt32 31)).toInt32) &&& 858993459)) + ((((((nI s) - ((((nI s).toUInt32 >>> ((1 : Int32).toUInt32 &&& Int32.toUInt32 31)).toInt32) &&& 1431655765)) &&& 858993459) + (((((nI s) - ((((nI s).toUInt32 >>> ((1 : Int32).toUInt32 &&& Int32.toUInt32 31)).toInt32) &&& 1431655765)).toUInt32 >>> ((2 : Int32).toUInt32 &&& Int32.toUInt32 31)).toInt32) &&& 858993459)).toUInt32 >>> ((4 : Int32).toUInt32 &&& Int32.toUInt32 31)).toInt32)) &&& 252645135) + ((((((((nI s) - ((((nI s).toUInt32 >>> ((1 : Int32).toUInt32 &&& Int32.toUInt32 31)).toInt32) &&& 1431655765)) &&& 858993459) + (((((nI s) - ((((nI s).toUInt32 >>> ((1 : Int32).toUInt32 &&& Int32.toUInt32 31)).toInt32) &&& 1431655765)).toUInt32 >>> ((2 : Int32).toUInt32 &&& Int32.toUInt32 31)).toInt32) &&& 858993459)) + ((((((nI s) - ((((nI s).toUInt32 >>> ((1 : Int32).toUInt32 &&& Int32.toUInt32 31)).toInt32) &&& 1431655765)) &&& 858993459) + (((((nI s) - ((((nI s).toUInt32 >>> ((1 : Int32).toUInt32 &&& Int32.toUInt32 31)).toInt32) &&& 1431655765)).toUInt32 >>> ((2 : Int32).toUInt32 &&& Int32.toUInt32 31)).toInt32) &&& 858993459)).toUInt32 >>> ((4 : Int32).toUInt32 &&& Int32.toUInt32 31)).toInt32)) &&& 252645135).toUInt32 >>> ((8 : Int32).toUInt32 &&& Int32.toUInt32 31)).toInt32)) + (((((((((nI s) - ((((nI s).toUInt32 >>> ((1 : Int32).toUInt32 &&& Int32.toUInt32 31)).toInt32) &&& 1431655765)) &&& 858993459) + (((((nI s) - ((((nI s).toUInt32 >>> ((1 : Int32).toUInt32 &&& Int32.toUInt32 31)).toInt32) &&& 1431655765)).toUInt32 >>> ((2 : Int32).toUInt32 &&& Int32.toUInt32 31)).toInt32) &&& 858993459)) + ((((((nI s) - ((((nI s).toUInt32 >>> ((1 : Int32).toUInt32 &&& Int32.toUInt32 31)).toInt32) &&& 1431655765)) &&& 858993459) + (((((nI s) - ((((nI s).toUInt32 >>> ((1 : Int32).toUInt32 &&& Int32.toUInt32 31)).toInt32) &&& 1431655765)).toUInt32 >>> ((2 : Int32).toUInt32 &&& Int32.toUInt32 31)).toInt32) &&& 858993459)).toUInt32 >>> ((4 : Int32).toUInt32 &&& Int32.toUInt32 31)).toInt32)) &&& 252645135) + ((((((((nI s) - ((((nI s).toUInt32 >>> ((1 : Int32).toUInt32 &&& Int32.toUInt32 31)).toInt32) &&& 1431655765)) &&& 858993459) + (((((nI s) - ((((nI s).toUInt32 >>> ((1 : Int32).toUInt32 &&& Int32.toUInt32 31)).toInt32) &&& 1431655765)).toUInt32 >>> ((2 : Int32).toUInt32 &&& Int32.toUInt32 31)).toInt32) &&& 858993459)) + ((((((nI s) - ((((nI s).toUInt32 >>> ((1 : Int32).toUInt32 &&& Int32.toUInt32 31)).toInt32) &&& 1431655765)) &&& 858993459) + (((((nI s) - ((((nI s).toUInt32 >>> ((1 : Int32).toUInt32 &&& Int32.toUInt32 31)).toInt32) &&& 1431655765)).toUInt32 >>> ((2 : Int32).toUInt32 &&& Int32.toUInt32 31)).toInt32) &&& 858993459)).toUInt32 >>> ((4 : Int32).toUInt32 &&& Int32.toUInt32 31)).toInt32)) &&& 252645135).toUInt32 >>> ((8 : Int32).toUInt32 &&& Int32.toUInt32 31)).toInt32)).toUInt32 >>> ((16 : Int32).toUInt32 &&& Int32.toUInt32 31)).toInt32)) &&& 63)]) (f' := f) rfl ?_
  exact wq_ret rfl (Ret.of (bc_pc s hs) rfl)
theorem dJ_0 {x : Nat} : dJ x = -1 ↔ 100000000 ≤ x := by
  unfold dJ
  by_cases h : 100000000 ≤ x
  · rw [if_pos h]; exact ⟨fun _ => h, fun _ => rfl⟩
  · rw [if_neg h]; exact ⟨fun q => absurd q (nI_nm (by omega)), fun q => absurd q h⟩
theorem dJ_v {x : Nat} (h : x < 100000000) : dJ x = nI x := if_neg (by omega)
theorem lp_nearIn {f : HI} {n r : Nat} {D : Nat → Nat → Nat} (hn12 : n ≤ 12) (hr2 : r ≤ 200) (hct : f 77 1 = nI n) (hsz : f 78 0 = 12) (hD : Mt 12 100000000 30 D) (hr : ∀ p q, p < 12 → q < 12 → f 79 (p * 12 + q) = nI (D p q)) {i : Nat} (hi : i < n) (K : ∀ g : Nat → Int32, (∀ k, k < i + 1 → g k = nI (nbN D r k n)) → wq 2 59 (fun v f' => ∃ g, v = none ∧ f' = up1 f 80 g ∧ ∀ i, i < n → g i = nI (nbN D r i n)) 2 [(0, .ref 77), (1, .int (nI r)), (2, .int (nI (i + 1)))] [] (up1 f 80 g)) : ∀ (m9 : Nat) (j : Nat) (g : Nat → Int32), (j ≤ n) → (∀ k, k < i → g k = nI (nbN D r k n)) → (g i = nI (nbN D r i j)) → n - j < m9 → wq 2 59 (fun v f' => ∃ g, v = none ∧ f' = up1 f 80 g ∧ ∀ i, i < n → g i = nI (nbN D r i n)) 19 [(0, .ref 77), (1, .int (nI r)), (2, .int (nI i)), (3, .int (nI j))] [] (up1 f 80 g) := by
  intro m9
  induction m9 with
  | zero => intro j g hj hg hgi hn; exact absurd hn (Nat.not_lt_zero _)
  | succ m9 ih =>
    intro j g hj hg hgi hn
    refine wq_run3 (pc' := 24) (L' := [(0, .ref 77), (1, .int (nI r)), (2, .int (nI i)), (3, .int (nI j))]) (S' := [.int (f 77 1), .int (nI j)]) (f' := (up1 f 80 g)) rfl ?_
    refine wq_v (y := (nI n)) (hct) ?_
    refine wq_if (c := (nI n) ≤ (nI j)) (p1 := 68) (L1 := [(0, .ref 77), (1, .int (nI r)), (2, .int (nI i)), (3, .int (nI j))]) (S1 := []) (p2 := 27) (L2 := [(0, .ref 77), (1, .int (nI r)), (2, .int (nI i)), (3, .int (nI j))]) (S2 := []) rfl (fun c_24 => ?_) (fun c_24 => ?_)
    · have k_24 : n ≤ j := (nI_leI (a := n) (b := j) (by omega) (by omega)).mp c_24
      refine wq_run1 (pc' := 71) (L' := [(0, .ref 77), (1, .int (nI r)), (2, .int ((nI i) + 1)), (3, .int (nI j))]) (S' := []) (f' := (up1 f 80 g)) rfl ?_
      refine wq_L (L' := [(0, .ref 77), (1, .int (nI r)), (2, .int (nI (i + 1))), (3, .int (nI j))]) (by rw [show nI i + 1 = nI (i + 1) from nI_add _ _]) ?_
      refine wq_run1 (pc' := 2) (L' := [(0, .ref 77), (1, .int (nI r)), (2, .int (nI (i + 1)))]) (S' := []) (f' := (up1 f 80 g)) rfl ?_
      have e : j = n := by omega
      rw [e] at hgi
      exact K g (fun k hk => by
        rcases Nat.lt_or_ge k i with c | c
        · exact hg k c
        · have e1 : k = i := by omega
          rw [e1]; exact hgi)
    · have k_24 : ¬ n ≤ j := fun q => c_24 ((nI_leI (a := n) (b := j) (by omega) (by omega)).mpr q)
      refine wq_run4 (pc' := 33) (L' := [(0, .ref 77), (1, .int (nI r)), (2, .int (nI i)), (3, .int (nI j))]) (S' := [.int (nI j), .int (nI i), .ref 78]) (f' := (up1 f 80 g)) rfl ?_
      refine wq_callI (r := (dJ (D i j))) (sp_betweenS (f := (up1 f 80 g)) (a := i) (b := j) hsz hD (by omega) (by omega) hr) (Nat.le_of_ble_eq_true rfl) (pc' := 36) (L' := [(0, .ref 77), (1, .int (nI r)), (2, .int (nI i)), (3, .int (nI j))]) (S' := []) rfl (Nat.le_of_ble_eq_true rfl) rfl rfl (Nat.le_of_ble_eq_true rfl) (Nat.le_of_ble_eq_true rfl) ?_
      refine wq_run3 (pc' := 41) (L' := [(0, .ref 77), (1, .int (nI r)), (2, .int (nI i)), (3, .int (nI j)), (4, .int (dJ (D i j)))]) (S' := [.int (-1), .int (dJ (D i j))]) (f' := (up1 f 80 g)) rfl ?_
      refine wq_if (c := (dJ (D i j)) = (-1)) (p1 := 62) (L1 := [(0, .ref 77), (1, .int (nI r)), (2, .int (nI i)), (3, .int (nI j)), (4, .int (dJ (D i j)))]) (S1 := []) (p2 := 44) (L2 := [(0, .ref 77), (1, .int (nI r)), (2, .int (nI i)), (3, .int (nI j)), (4, .int (dJ (D i j)))]) (S2 := []) rfl (fun c_41 => ?_) (fun c_41 => ?_)
      · have k_41 := dJ_0.mp c_41
        refine wq_run1 (pc' := 65) (L' := [(0, .ref 77), (1, .int (nI r)), (2, .int (nI i)), (3, .int ((nI j) + 1)), (4, .int (dJ (D i j)))]) (S' := []) (f' := (up1 f 80 g)) rfl ?_
        refine wq_L (L' := [(0, .ref 77), (1, .int (nI r)), (2, .int (nI i)), (3, .int (nI (j + 1))), (4, .int (dJ (D i j)))]) (by rw [show nI j + 1 = nI (j + 1) from nI_add _ _]) ?_
        refine wq_run1 (pc' := 19) (L' := [(0, .ref 77), (1, .int (nI r)), (2, .int (nI i)), (3, .int (nI (j + 1)))]) (S' := []) (f' := (up1 f 80 g)) rfl ?_
        exact ih (j + 1) g (by omega) hg (by rw [show nbN D r i (j + 1) = nbN D r i j from if_neg (by omega)]; exact hgi) (by omega)
      · have k_41 : D i j < 100000000 := Nat.lt_of_not_le (fun q => c_41 (dJ_0.mpr q))
        refine wq_L (L' := [(0, .ref 77), (1, .int (nI r)), (2, .int (nI i)), (3, .int (nI j)), (4, .int (nI (D i j)))]) (by rw [dJ_v k_41]) ?_
        refine wq_run2 (pc' := 47) (L' := [(0, .ref 77), (1, .int (nI r)), (2, .int (nI i)), (3, .int (nI j)), (4, .int (nI (D i j)))]) (S' := [.int (nI r), .int (nI (D i j))]) (f' := (up1 f 80 g)) rfl ?_
        refine wq_if (c := (nI r) < (nI (D i j))) (p1 := 62) (L1 := [(0, .ref 77), (1, .int (nI r)), (2, .int (nI i)), (3, .int (nI j)), (4, .int (nI (D i j)))]) (S1 := []) (p2 := 50) (L2 := [(0, .ref 77), (1, .int (nI r)), (2, .int (nI i)), (3, .int (nI j)), (4, .int (nI (D i j)))]) (S2 := []) rfl (fun c_47 => ?_) (fun c_47 => ?_)
        · have k_47 : r < (D i j) := (nI_ltI (a := r) (b := (D i j)) (by omega) (by omega)).mp c_47
          refine wq_run1 (pc' := 65) (L' := [(0, .ref 77), (1, .int (nI r)), (2, .int (nI i)), (3, .int ((nI j) + 1)), (4, .int (nI (D i j)))]) (S' := []) (f' := (up1 f 80 g)) rfl ?_
          refine wq_L (L' := [(0, .ref 77), (1, .int (nI r)), (2, .int (nI i)), (3, .int (nI (j + 1))), (4, .int (nI (D i j)))]) (by rw [show nI j + 1 = nI (j + 1) from nI_add _ _]) ?_
          refine wq_run1 (pc' := 19) (L' := [(0, .ref 77), (1, .int (nI r)), (2, .int (nI i)), (3, .int (nI (j + 1)))]) (S' := []) (f' := (up1 f 80 g)) rfl ?_
          exact ih (j + 1) g (by omega) hg (by rw [show nbN D r i (j + 1) = nbN D r i j from if_neg (by omega)]; exact hgi) (by omega)
        · have k_47 : ¬ r < (D i j) := fun q => c_47 ((nI_ltI (a := r) (b := (D i j)) (by omega) (by omega)).mpr q)
          refine wq_run4 (pc' := 56) (L' := [(0, .ref 77), (1, .int (nI r)), (2, .int (nI i)), (3, .int (nI j)), (4, .int (nI (D i j)))]) (S' := [.int (nI i), .ref 80, .int (nI i), .ref 80]) (f' := (up1 f 80 g)) rfl ?_
          have hnb := nb_lt D r i j
          refine wq_ald (j := i) (n := 12) (v := (nI (nbN D r i j))) rfl rfl rfl rfl (by omega) (Nat.le_of_ble_eq_true rfl) (hgi) ?_
          refine wq_run3 (pc' := 60) (L' := [(0, .ref 77), (1, .int (nI r)), (2, .int (nI i)), (3, .int (nI j)), (4, .int (nI (D i j)))]) (S' := [.int ((1 : Int32) <<< ((nI j) &&& 31)), .int (nI (nbN D r i j)), .int (nI i), .ref 80]) (f' := (up1 f 80 g)) rfl ?_
          refine wq_v (y := (nI (2 ^ j))) (shl1 (n := j) (by omega)) ?_
          refine wq_run1 (pc' := 61) (L' := [(0, .ref 77), (1, .int (nI r)), (2, .int (nI i)), (3, .int (nI j)), (4, .int (nI (D i j)))]) (S' := [.int ((nI (nbN D r i j)) ||| (nI (2 ^ j))), .int (nI i), .ref 80]) (f' := (up1 f 80 g)) rfl ?_
          refine wq_v (y := (nI ((nbN D r i j) ||| (2 ^ j)))) (nx_or (nbN D r i j) (2 ^ j)) ?_
          refine wq_ist (j := i) (n := 12) rfl rfl rfl rfl (by omega) (Nat.le_of_ble_eq_true rfl) ?_
          refine wq_h (f' := (up1 f 80 (upd g i (nI ((nbN D r i j) ||| (2 ^ j)))))) ((up2_up1_eq f 80 g i (nI ((nbN D r i j) ||| (2 ^ j)))).trans (congrArg (fun z => up1 f 80 z) (rfl))) ?_
          refine wq_run1 (pc' := 65) (L' := [(0, .ref 77), (1, .int (nI r)), (2, .int (nI i)), (3, .int ((nI j) + 1)), (4, .int (nI (D i j)))]) (S' := []) (f' := (up1 f 80 (upd g i (nI ((nbN D r i j) ||| (2 ^ j)))))) rfl ?_
          refine wq_L (L' := [(0, .ref 77), (1, .int (nI r)), (2, .int (nI i)), (3, .int (nI (j + 1))), (4, .int (nI (D i j)))]) (by rw [show nI j + 1 = nI (j + 1) from nI_add _ _]) ?_
          refine wq_run1 (pc' := 19) (L' := [(0, .ref 77), (1, .int (nI r)), (2, .int (nI i)), (3, .int (nI (j + 1)))]) (S' := []) (f' := (up1 f 80 (upd g i (nI ((nbN D r i j) ||| (2 ^ j)))))) rfl ?_
          exact ih (j + 1) _ (by omega) (fun k hk => (upd_n (by omega)).trans (hg k hk)) (by rw [show nbN D r i (j + 1) = nbN D r i j ||| 2 ^ j from if_pos (by omega)]; exact upd_s _ _ _) (by omega)
theorem lp_nearOut {f : HI} {n r : Nat} {D : Nat → Nat → Nat} (hn12 : n ≤ 12) (hr2 : r ≤ 200) (hct : f 77 1 = nI n) (hsz : f 78 0 = 12) (hD : Mt 12 100000000 30 D) (hr : ∀ p q, p < 12 → q < 12 → f 79 (p * 12 + q) = nI (D p q)) : ∀ (m9 : Nat) (i : Nat) (g : Nat → Int32), (i ≤ n) → (∀ k, k < i → g k = nI (nbN D r k n)) → n - i < m9 → wq 2 59 (fun v f' => ∃ g, v = none ∧ f' = up1 f 80 g ∧ ∀ i, i < n → g i = nI (nbN D r i n)) 2 [(0, .ref 77), (1, .int (nI r)), (2, .int (nI i))] [] (up1 f 80 g) := by
  intro m9
  induction m9 with
  | zero => intro i g hi hg hn; exact absurd hn (Nat.not_lt_zero _)
  | succ m9 ih =>
    intro i g hi hg hn
    refine wq_run3 (pc' := 7) (L' := [(0, .ref 77), (1, .int (nI r)), (2, .int (nI i))]) (S' := [.int (f 77 1), .int (nI i)]) (f' := (up1 f 80 g)) rfl ?_
    refine wq_v (y := (nI n)) (hct) ?_
    refine wq_if (c := (nI n) ≤ (nI i)) (p1 := 74) (L1 := [(0, .ref 77), (1, .int (nI r)), (2, .int (nI i))]) (S1 := []) (p2 := 10) (L2 := [(0, .ref 77), (1, .int (nI r)), (2, .int (nI i))]) (S2 := []) rfl (fun c_7 => ?_) (fun c_7 => ?_)
    · have k_7 : n ≤ i := (nI_leI (a := n) (b := i) (by omega) (by omega)).mp c_7
      have e : i = n := by omega
      rw [e] at hg
      exact wq_ret rfl ⟨g, rfl, rfl, hg⟩
    · have k_7 : ¬ n ≤ i := fun q => c_7 ((nI_leI (a := n) (b := i) (by omega) (by omega)).mpr q)
      refine wq_run4 (pc' := 16) (L' := [(0, .ref 77), (1, .int (nI r)), (2, .int (nI i))]) (S' := [.int 0, .int (nI i), .ref 80]) (f' := (up1 f 80 g)) rfl ?_
      refine wq_ist (j := i) (n := 12) rfl rfl rfl rfl (by omega) (Nat.le_of_ble_eq_true rfl) ?_
      refine wq_h (f' := (up1 f 80 (upd g i 0))) ((up2_up1_eq f 80 g i 0).trans (congrArg (fun z => up1 f 80 z) (rfl))) ?_
      refine wq_run2 (pc' := 19) (L' := [(0, .ref 77), (1, .int (nI r)), (2, .int (nI i)), (3, .int 0)]) (S' := []) (f' := (up1 f 80 (upd g i 0))) rfl ?_
      exact lp_nearIn hn12 hr2 hct hsz hD hr (i := i) (by omega) (fun g h => ih (i + 1) g (by omega) h (by omega)) (n - 0 + 1) 0 _ (Nat.zero_le _) (fun k hk => (upd_n (by omega)).trans (hg k hk)) (upd_s _ _ _) (Nat.lt_succ_self _)
theorem sp_findNear {f : HI} {n r : Nat} {D : Nat → Nat → Nat} (hn12 : n ≤ 12) (hr2 : r ≤ 200) (hct : f 77 1 = nI n) (hsz : f 78 0 = 12) (hD : Mt 12 100000000 30 D) (hr : ∀ p q, p < 12 → q < 12 → f 79 (p * 12 + q) = nI (D p q)) : Sp 2 59 [.ref 77, .int (nI r)] f (fun v f' => ∃ g, v = none ∧ f' = up1 f 80 g ∧ ∀ i, i < n → g i = nI (nbN D r i n)) := by
  show wq 2 59 (fun v f' => ∃ g, v = none ∧ f' = up1 f 80 g ∧ ∀ i, i < n → g i = nI (nbN D r i n)) 0 [(0, .ref 77), (1, .int (nI r))] [] f
  refine wq_run2 (pc' := 2) (L' := [(0, .ref 77), (1, .int (nI r)), (2, .int 0)]) (S' := []) (f' := f) rfl ?_
  have h9 := lp_nearOut hn12 hr2 hct hsz hD hr (n - 0 + 1) 0 (f 80) (Nat.zero_le _) (fun _ h => absurd h (Nat.not_lt_zero _)) (Nat.lt_succ_self _)
  rw [up1_id] at h9
  exact h9
theorem lp_nearTo {f : HI} {n r s : Nat} {D : Nat → Nat → Nat} (hn12 : n ≤ 12) (hs : s < 4096) (hct : f 77 1 = nI n) (hnr : ∀ i, i < n → f 80 i = nI (nbN D r i n)) : ∀ (m9 : Nat) (i : Nat), (i ≤ n) → n - i < m9 → wq 1 60 (Ret (nI (cvN D r n s n)) f) 4 [(0, .ref 77), (1, .int (nI s)), (2, .int (nI (cvN D r n s i))), (3, .int (nI i))] [] f := by
  intro m9
  induction m9 with
  | zero => intro i hi hn; exact absurd hn (Nat.not_lt_zero _)
  | succ m9 ih =>
    intro i hi hn
    have hbn := bN_lt s i
    refine wq_run3 (pc' := 9) (L' := [(0, .ref 77), (1, .int (nI s)), (2, .int (nI (cvN D r n s i))), (3, .int (nI i))]) (S' := [.int (f 77 1), .int (nI i)]) (f' := f) rfl ?_
    refine wq_v (y := (nI n)) (hct) ?_
    refine wq_if (c := (nI n) ≤ (nI i)) (p1 := 35) (L1 := [(0, .ref 77), (1, .int (nI s)), (2, .int (nI (cvN D r n s i))), (3, .int (nI i))]) (S1 := []) (p2 := 12) (L2 := [(0, .ref 77), (1, .int (nI s)), (2, .int (nI (cvN D r n s i))), (3, .int (nI i))]) (S2 := []) rfl (fun c_9 => ?_) (fun c_9 => ?_)
    · have k_9 : n ≤ i := (nI_leI (a := n) (b := i) (by omega) (by omega)).mp c_9
      refine wq_run1 (pc' := 36) (L' := [(0, .ref 77), (1, .int (nI s)), (2, .int (nI (cvN D r n s i))), (3, .int (nI i))]) (S' := [.int (nI (cvN D r n s i))]) (f' := f) rfl ?_
      have e : i = n := by omega
      exact wq_ret rfl ⟨by rw [e], rfl⟩
    · have k_9 : ¬ n ≤ i := fun q => c_9 ((nI_leI (a := n) (b := i) (by omega) (by omega)).mpr q)
      refine wq_run5 (pc' := 17) (L' := [(0, .ref 77), (1, .int (nI s)), (2, .int (nI (cvN D r n s i))), (3, .int (nI i))]) (S' := [.int (((nI s) >>> ((nI i) &&& 31)) &&& 1)]) (f' := f) rfl ?_
      refine wq_v (y := (nI (bN s i))) (bitN (by omega) (by omega)) ?_
      refine wq_if (c := (nI (bN s i)) = 0) (p1 := 29) (L1 := [(0, .ref 77), (1, .int (nI s)), (2, .int (nI (cvN D r n s i))), (3, .int (nI i))]) (S1 := []) (p2 := 20) (L2 := [(0, .ref 77), (1, .int (nI s)), (2, .int (nI (cvN D r n s i))), (3, .int (nI i))]) (S2 := []) rfl (fun c_17 => ?_) (fun c_17 => ?_)
      · have k_17 : (bN s i) = 0 := (nI_eq (a := (bN s i)) (b := 0) (by omega) (by omega)).mp c_17
        refine wq_run1 (pc' := 32) (L' := [(0, .ref 77), (1, .int (nI s)), (2, .int (nI (cvN D r n s i))), (3, .int ((nI i) + 1))]) (S' := []) (f' := f) rfl ?_
        refine wq_L (L' := [(0, .ref 77), (1, .int (nI s)), (2, .int (nI (cvN D r n s i))), (3, .int (nI (i + 1)))]) (by rw [show nI i + 1 = nI (i + 1) from nI_add _ _]) ?_
        refine wq_run1 (pc' := 4) (L' := [(0, .ref 77), (1, .int (nI s)), (2, .int (nI (cvN D r n s i))), (3, .int (nI (i + 1)))]) (S' := []) (f' := f) rfl ?_
        have h9 := ih (i + 1) (by omega) (by omega)
        rw [show cvN D r n s (i + 1) = _ from if_neg (by omega)] at h9
        exact h9
      · have k_17 : ¬ (bN s i) = 0 := fun q => c_17 ((nI_eq (a := (bN s i)) (b := 0) (by omega) (by omega)).mpr q)
        refine wq_run4 (pc' := 26) (L' := [(0, .ref 77), (1, .int (nI s)), (2, .int (nI (cvN D r n s i))), (3, .int (nI i))]) (S' := [.int (nI i), .ref 80, .int (nI (cvN D r n s i))]) (f' := f) rfl ?_
        refine wq_ald (j := i) (n := 12) (v := (nI (nbN D r i n))) rfl rfl rfl rfl (by omega) (Nat.le_of_ble_eq_true rfl) (hnr i (by omega)) ?_
        refine wq_run1 (pc' := 28) (L' := [(0, .ref 77), (1, .int (nI s)), (2, .int (nI (cvN D r n s i))), (3, .int (nI i))]) (S' := [.int ((nI (cvN D r n s i)) ||| (nI (nbN D r i n)))]) (f' := f) rfl ?_
        refine wq_v (y := (nI ((cvN D r n s i) ||| (nbN D r i n)))) (nx_or (cvN D r n s i) (nbN D r i n)) ?_
        refine wq_run2 (pc' := 32) (L' := [(0, .ref 77), (1, .int (nI s)), (2, .int (nI ((cvN D r n s i) ||| (nbN D r i n)))), (3, .int ((nI i) + 1))]) (S' := []) (f' := f) rfl ?_
        refine wq_L (L' := [(0, .ref 77), (1, .int (nI s)), (2, .int (nI ((cvN D r n s i) ||| (nbN D r i n)))), (3, .int (nI (i + 1)))]) (by rw [show nI i + 1 = nI (i + 1) from nI_add _ _]) ?_
        refine wq_run1 (pc' := 4) (L' := [(0, .ref 77), (1, .int (nI s)), (2, .int (nI ((cvN D r n s i) ||| (nbN D r i n)))), (3, .int (nI (i + 1)))]) (S' := []) (f' := f) rfl ?_
        have h9 := ih (i + 1) (by omega) (by omega)
        rw [show cvN D r n s (i + 1) = _ from if_pos (by omega)] at h9
        exact h9
theorem sp_nearTo {f : HI} {n r s : Nat} {D : Nat → Nat → Nat} (hn12 : n ≤ 12) (hs : s < 4096) (hct : f 77 1 = nI n) (hnr : ∀ i, i < n → f 80 i = nI (nbN D r i n)) : Sp 1 60 [.ref 77, .int (nI s)] f (Ret (nI (cvN D r n s n)) f) := by
  show wq 1 60 (Ret (nI (cvN D r n s n)) f) 0 [(0, .ref 77), (1, .int (nI s))] [] f
  refine wq_run4 (pc' := 4) (L' := [(0, .ref 77), (1, .int (nI s)), (2, .int 0), (3, .int 0)]) (S' := []) (f' := f) rfl ?_
  exact lp_nearTo hn12 hs hct hnr (n - 0 + 1) 0 (Nat.zero_le _) (Nat.lt_succ_self _)
theorem lp_boxes {f : HI} {n r : Nat} {D : Nat → Nat → Nat} (hn12 : n ≤ 12) (hr2 : r ≤ 200) (hct : f 77 1 = nI n) (hsz : f 78 0 = 12) (hD : Mt 12 100000000 30 D) (hr : ∀ p q, p < 12 → q < 12 → f 79 (p * 12 + q) = nI (D p q)) {g : Nat → Int32} (hg : ∀ i, i < n → g i = nI (nbN D r i n)) : ∀ (m9 : Nat) (s : Nat), (s < 2 ^ n) → 2 ^ n - s < m9 → wq 3 58 (fun v f' => ∃ g, v = some (.int (nI (bxN D r n (2 ^ n - 1)))) ∧ f' = up1 f 80 g) 19 [(0, .ref 77), (2, .int (nI (2 ^ n - 1))), (3, .int (nI (bxN D r n s))), (4, .int (nI (s + 1)))] [] (up1 f 80 g) := by
  intro m9
  induction m9 with
  | zero => intro s hs hn; exact absurd hn (Nat.not_lt_zero _)
  | succ m9 ih =>
    intro s hs hn
    have h12 := p12 hn12
    have hp0 := p0 n
    have hbx := bx_lt D r n s hs
    have hcv := cv_lt D r n (s + 1) n
    have hpc1 := pc_le 12 (s + 1)
    have hpc2 := pc_le 12 (bxN D r n s)
    refine wq_run2 (pc' := 22) (L' := [(0, .ref 77), (2, .int (nI (2 ^ n - 1))), (3, .int (nI (bxN D r n s))), (4, .int (nI (s + 1)))]) (S' := [.int (nI (2 ^ n - 1)), .int (nI (s + 1))]) (f' := (up1 f 80 g)) rfl ?_
    refine wq_if (c := (nI (2 ^ n - 1)) < (nI (s + 1))) (p1 := 56) (L1 := [(0, .ref 77), (2, .int (nI (2 ^ n - 1))), (3, .int (nI (bxN D r n s))), (4, .int (nI (s + 1)))]) (S1 := []) (p2 := 25) (L2 := [(0, .ref 77), (2, .int (nI (2 ^ n - 1))), (3, .int (nI (bxN D r n s))), (4, .int (nI (s + 1)))]) (S2 := []) rfl (fun c_22 => ?_) (fun c_22 => ?_)
    · have k_22 : (2 ^ n - 1) < (s + 1) := (nI_ltI (a := (2 ^ n - 1)) (b := (s + 1)) (by omega) (by omega)).mp c_22
      refine wq_run1 (pc' := 57) (L' := [(0, .ref 77), (2, .int (nI (2 ^ n - 1))), (3, .int (nI (bxN D r n s))), (4, .int (nI (s + 1)))]) (S' := [.int (nI (bxN D r n s))]) (f' := (up1 f 80 g)) rfl ?_
      have e : s = 2 ^ n - 1 := by omega
      exact wq_ret rfl ⟨g, by rw [← e], rfl⟩
    · have k_22 : ¬ (2 ^ n - 1) < (s + 1) := fun q => c_22 ((nI_ltI (a := (2 ^ n - 1)) (b := (s + 1)) (by omega) (by omega)).mpr q)
      refine wq_run1 (pc' := 27) (L' := [(0, .ref 77), (2, .int (nI (2 ^ n - 1))), (3, .int (nI (bxN D r n s))), (4, .int (nI (s + 1)))]) (S' := [.int (nI (s + 1))]) (f' := (up1 f 80 g)) rfl ?_
      refine wq_callI (r := (nI (pcN 12 (s + 1)))) (jp_bitCount (up1 f 80 g) (s := (s + 1)) (by omega)) (Nat.le_of_ble_eq_true rfl) (pc' := 30) (L' := [(0, .ref 77), (2, .int (nI (2 ^ n - 1))), (3, .int (nI (bxN D r n s))), (4, .int (nI (s + 1)))]) (S' := []) rfl (Nat.le_of_ble_eq_true rfl) rfl rfl (Nat.le_of_ble_eq_true rfl) (Nat.le_of_ble_eq_true rfl) ?_
      refine wq_run1 (pc' := 31) (L' := [(0, .ref 77), (2, .int (nI (2 ^ n - 1))), (3, .int (nI (bxN D r n s))), (4, .int (nI (s + 1)))]) (S' := [.int (nI (bxN D r n s)), .int (nI (pcN 12 (s + 1)))]) (f' := (up1 f 80 g)) rfl ?_
      refine wq_callI (r := (nI (pcN 12 (bxN D r n s)))) (jp_bitCount (up1 f 80 g) (s := (bxN D r n s)) (by omega)) (Nat.le_of_ble_eq_true rfl) (pc' := 34) (L' := [(0, .ref 77), (2, .int (nI (2 ^ n - 1))), (3, .int (nI (bxN D r n s))), (4, .int (nI (s + 1)))]) (S' := [.int (nI (pcN 12 (s + 1)))]) rfl (Nat.le_of_ble_eq_true rfl) rfl rfl (Nat.le_of_ble_eq_true rfl) (Nat.le_of_ble_eq_true rfl) ?_
      refine wq_if (c := (nI (pcN 12 (bxN D r n s))) ≤ (nI (pcN 12 (s + 1)))) (p1 := 50) (L1 := [(0, .ref 77), (2, .int (nI (2 ^ n - 1))), (3, .int (nI (bxN D r n s))), (4, .int (nI (s + 1)))]) (S1 := []) (p2 := 37) (L2 := [(0, .ref 77), (2, .int (nI (2 ^ n - 1))), (3, .int (nI (bxN D r n s))), (4, .int (nI (s + 1)))]) (S2 := []) rfl (fun c_34 => ?_) (fun c_34 => ?_)
      · have k_34 : (pcN 12 (bxN D r n s)) ≤ (pcN 12 (s + 1)) := (nI_leI (a := (pcN 12 (bxN D r n s))) (b := (pcN 12 (s + 1))) (by omega) (by omega)).mp c_34
        refine wq_run1 (pc' := 53) (L' := [(0, .ref 77), (2, .int (nI (2 ^ n - 1))), (3, .int (nI (bxN D r n s))), (4, .int ((nI (s + 1)) + 1))]) (S' := []) (f' := (up1 f 80 g)) rfl ?_
        refine wq_L (L' := [(0, .ref 77), (2, .int (nI (2 ^ n - 1))), (3, .int (nI (bxN D r n s))), (4, .int (nI ((s + 1) + 1)))]) (by rw [show nI (s + 1) + 1 = nI ((s + 1) + 1) from nI_add _ _]) ?_
        refine wq_run1 (pc' := 19) (L' := [(0, .ref 77), (2, .int (nI (2 ^ n - 1))), (3, .int (nI (bxN D r n s))), (4, .int (nI ((s + 1) + 1)))]) (S' := []) (f' := (up1 f 80 g)) rfl ?_
        have h9 := ih (s + 1) (by omega) (by omega)
        rw [show bxN D r n (s + 1) = _ from if_neg (fun q => by omega)] at h9
        exact h9
      · have k_34 : ¬ (pcN 12 (bxN D r n s)) ≤ (pcN 12 (s + 1)) := fun q => c_34 ((nI_leI (a := (pcN 12 (bxN D r n s))) (b := (pcN 12 (s + 1))) (by omega) (by omega)).mpr q)
        refine wq_run2 (pc' := 40) (L' := [(0, .ref 77), (2, .int (nI (2 ^ n - 1))), (3, .int (nI (bxN D r n s))), (4, .int (nI (s + 1)))]) (S' := [.int (nI (s + 1)), .ref 77]) (f' := (up1 f 80 g)) rfl ?_
        refine wq_callI (r := (nI (cvN D r n (s + 1) n))) (sp_nearTo (f := (up1 f 80 g)) (r := r) (D := D) (s := s + 1) hn12 (by omega) hct hg) (Nat.le_of_ble_eq_true rfl) (pc' := 43) (L' := [(0, .ref 77), (2, .int (nI (2 ^ n - 1))), (3, .int (nI (bxN D r n s))), (4, .int (nI (s + 1)))]) (S' := []) rfl (Nat.le_of_ble_eq_true rfl) rfl rfl (Nat.le_of_ble_eq_true rfl) (Nat.le_of_ble_eq_true rfl) ?_
        refine wq_run1 (pc' := 44) (L' := [(0, .ref 77), (2, .int (nI (2 ^ n - 1))), (3, .int (nI (bxN D r n s))), (4, .int (nI (s + 1)))]) (S' := [.int (nI (2 ^ n - 1)), .int (nI (cvN D r n (s + 1) n))]) (f' := (up1 f 80 g)) rfl ?_
        refine wq_if (c := (nI (cvN D r n (s + 1) n)) = (nI (2 ^ n - 1))) (p1 := 47) (L1 := [(0, .ref 77), (2, .int (nI (2 ^ n - 1))), (3, .int (nI (bxN D r n s))), (4, .int (nI (s + 1)))]) (S1 := []) (p2 := 50) (L2 := [(0, .ref 77), (2, .int (nI (2 ^ n - 1))), (3, .int (nI (bxN D r n s))), (4, .int (nI (s + 1)))]) (S2 := []) rfl (fun c_44 => ?_) (fun c_44 => ?_)
        · have k_44 : (cvN D r n (s + 1) n) = (2 ^ n - 1) := (nI_eq (a := (cvN D r n (s + 1) n)) (b := (2 ^ n - 1)) (by omega) (by omega)).mp c_44
          refine wq_run3 (pc' := 53) (L' := [(0, .ref 77), (2, .int (nI (2 ^ n - 1))), (3, .int (nI (s + 1))), (4, .int ((nI (s + 1)) + 1))]) (S' := []) (f' := (up1 f 80 g)) rfl ?_
          refine wq_L (L' := [(0, .ref 77), (2, .int (nI (2 ^ n - 1))), (3, .int (nI (s + 1))), (4, .int (nI ((s + 1) + 1)))]) (by rw [show nI (s + 1) + 1 = nI ((s + 1) + 1) from nI_add _ _]) ?_
          refine wq_run1 (pc' := 19) (L' := [(0, .ref 77), (2, .int (nI (2 ^ n - 1))), (3, .int (nI (s + 1))), (4, .int (nI ((s + 1) + 1)))]) (S' := []) (f' := (up1 f 80 g)) rfl ?_
          have h9 := ih (s + 1) (by omega) (by omega)
          rw [show bxN D r n (s + 1) = _ from if_pos ⟨by omega, k_44⟩] at h9
          exact h9
        · have k_44 : ¬ (cvN D r n (s + 1) n) = (2 ^ n - 1) := fun q => c_44 ((nI_eq (a := (cvN D r n (s + 1) n)) (b := (2 ^ n - 1)) (by omega) (by omega)).mpr q)
          refine wq_run1 (pc' := 53) (L' := [(0, .ref 77), (2, .int (nI (2 ^ n - 1))), (3, .int (nI (bxN D r n s))), (4, .int ((nI (s + 1)) + 1))]) (S' := []) (f' := (up1 f 80 g)) rfl ?_
          refine wq_L (L' := [(0, .ref 77), (2, .int (nI (2 ^ n - 1))), (3, .int (nI (bxN D r n s))), (4, .int (nI ((s + 1) + 1)))]) (by rw [show nI (s + 1) + 1 = nI ((s + 1) + 1) from nI_add _ _]) ?_
          refine wq_run1 (pc' := 19) (L' := [(0, .ref 77), (2, .int (nI (2 ^ n - 1))), (3, .int (nI (bxN D r n s))), (4, .int (nI ((s + 1) + 1)))]) (S' := []) (f' := (up1 f 80 g)) rfl ?_
          have h9 := ih (s + 1) (by omega) (by omega)
          rw [show bxN D r n (s + 1) = _ from if_neg (fun q => by omega)] at h9
          exact h9
theorem sp_fewestBoxes {f : HI} {n r : Nat} {D : Nat → Nat → Nat} (hn12 : n ≤ 12) (hr2 : r ≤ 200) (hct : f 77 1 = nI n) (hsz : f 78 0 = 12) (hD : Mt 12 100000000 30 D) (hr : ∀ p q, p < 12 → q < 12 → f 79 (p * 12 + q) = nI (D p q)) : Sp 3 58 [.ref 77, .int (nI r)] f (fun v f' => ∃ g, v = some (.int (nI (bxN D r n (2 ^ n - 1)))) ∧ f' = up1 f 80 g) := by
  have hp0 := p0 n
  show wq 3 58 (fun v f' => ∃ g, v = some (.int (nI (bxN D r n (2 ^ n - 1)))) ∧ f' = up1 f 80 g) 0 [(0, .ref 77), (1, .int (nI r))] [] f
  refine wq_run2 (pc' := 2) (L' := [(0, .ref 77), (1, .int (nI r))]) (S' := [.int (nI r), .ref 77]) (f' := f) rfl ?_
  refine wq_call (sp_findNear hn12 hr2 hct hsz hD hr) (Nat.le_of_ble_eq_true rfl) (pc' := 5) (L' := [(0, .ref 77), (1, .int (nI r))]) (S' := []) rfl (Nat.le_of_ble_eq_true rfl) rfl rfl (Nat.le_of_ble_eq_true rfl) (Nat.le_of_ble_eq_true rfl) ?_
  rintro v f9 ⟨g, e0, ef, hg⟩
  subst e0
  subst ef
  refine wq_run3 (pc' := 10) (L' := [(0, .ref 77), (1, .int (nI r))]) (S' := [.int (f 77 1), .int 1]) (f' := (up1 f 80 g)) rfl ?_
  refine wq_v (y := (nI n)) (hct) ?_
  refine wq_run1 (pc' := 11) (L' := [(0, .ref 77), (1, .int (nI r))]) (S' := [.int ((1 : Int32) <<< ((nI n) &&& 31))]) (f' := (up1 f 80 g)) rfl ?_
  refine wq_v (y := (nI (2 ^ n))) (shl1 (n := n) (by omega)) ?_
  refine wq_run2 (pc' := 13) (L' := [(0, .ref 77), (1, .int (nI r))]) (S' := [.int ((nI (2 ^ n)) - 1)]) (f' := (up1 f 80 g)) rfl ?_
  refine wq_v (y := (nI ((2 ^ n) - 1))) (pk_sub (a := (2 ^ n)) (b := 1) (by omega)) ?_
  refine wq_run5 (pc' := 19) (L' := [(0, .ref 77), (2, .int (nI ((2 ^ n) - 1))), (3, .int (nI ((2 ^ n) - 1))), (4, .int 1)]) (S' := []) (f' := (up1 f 80 g)) rfl ?_
  exact lp_boxes hn12 hr2 hct hsz hD hr hg (2 ^ n - 0 + 1) 0 (by omega) (by omega)
theorem sp_boxes0 {f : HI} {n r : Nat} {D : Nat → Nat → Nat} (hn12 : n ≤ 12) (hr2 : r ≤ 200) (hct : f 77 1 = nI n) (hsz : f 78 0 = 12) (hD : Mt 12 100000000 30 D) (hr : ∀ p q, p < 12 → q < 12 → f 79 (p * 12 + q) = nI (D p q)) : Sp 4 107 [.ref 0, .int (nI r), .int 0] f (fun v f' => ∃ g, v = some (.int (nI (pcN 12 (bxN D r n (2 ^ n - 1))))) ∧ f' = up1 f 80 g) := by
  show wq 4 107 (fun v f' => ∃ g, v = some (.int (nI (pcN 12 (bxN D r n (2 ^ n - 1))))) ∧ f' = up1 f 80 g) 0 [(0, .ref 0), (1, .int (nI r)), (2, .int 0)] [] f
  have hr200 : inR (nI r) 0 200 := ⟨nI_pos' (by omega), (nI_leI (a := r) (b := 200) (by omega) (by omega)).mpr hr2⟩
  have hbx := bx_lt D r n (2 ^ n - 1) (by have := p0 n; omega)
  have h12 := p12 hn12
  refine wq_run3 (pc' := 5) (L' := [(0, .ref 0), (1, .int (nI r)), (2, .int 0)]) (S' := [.int 200, .int 0, .int (nI r)]) (f' := f) rfl ?_
  refine wq_callI (r := (b2i (inR (nI r) 0 200))) (sp_within f (nI r) 0 200) (Nat.le_of_ble_eq_true rfl) (pc' := 8) (L' := [(0, .ref 0), (1, .int (nI r)), (2, .int 0)]) (S' := []) rfl (Nat.le_of_ble_eq_true rfl) rfl rfl (Nat.le_of_ble_eq_true rfl) (Nat.le_of_ble_eq_true rfl) ?_
  refine wq_if (c := (b2i (inR (nI r) 0 200)) = 0) (p1 := 20) (L1 := [(0, .ref 0), (1, .int (nI r)), (2, .int 0)]) (S1 := []) (p2 := 11) (L2 := [(0, .ref 0), (1, .int (nI r)), (2, .int 0)]) (S2 := []) rfl (fun q => absurd q (b2i_n0.mpr hr200)) (fun _ => ?_)
  refine wq_run3 (pc' := 14) (L' := [(0, .ref 0), (1, .int (nI r)), (2, .int 0)]) (S' := [.int 1, .int 0, .int 0]) (f' := f) rfl ?_
  refine wq_callI (r := (b2i (inR 0 0 1))) (sp_within f 0 0 1) (Nat.le_of_ble_eq_true rfl) (pc' := 17) (L' := [(0, .ref 0), (1, .int (nI r)), (2, .int 0)]) (S' := []) rfl (Nat.le_of_ble_eq_true rfl) rfl rfl (Nat.le_of_ble_eq_true rfl) (Nat.le_of_ble_eq_true rfl) ?_
  refine wq_if (c := (b2i (inR 0 0 1)) = 0) (p1 := 20) (L1 := [(0, .ref 0), (1, .int (nI r)), (2, .int 0)]) (S1 := []) (p2 := 23) (L2 := [(0, .ref 0), (1, .int (nI r)), (2, .int 0)]) (S2 := []) rfl (fun q => absurd q (b2i_n0.mpr (by decide))) (fun _ => ?_)
  refine wq_run3 (pc' := 28) (L' := [(0, .ref 0), (1, .int (nI r)), (2, .int 0)]) (S' := [.int (nI r), .ref 77]) (f' := f) rfl ?_
  refine wq_call (sp_fewestBoxes hn12 hr2 hct hsz hD hr) (Nat.le_of_ble_eq_true rfl) (pc' := 31) (L' := [(0, .ref 0), (1, .int (nI r)), (2, .int 0)]) (S' := []) rfl (Nat.le_of_ble_eq_true rfl) rfl rfl (Nat.le_of_ble_eq_true rfl) (Nat.le_of_ble_eq_true rfl) ?_
  rintro v f9 ⟨g, e0, ef⟩
  subst e0
  subst ef
  refine wq_run2 (pc' := 33) (L' := [(0, .ref 0), (1, .int (nI r)), (2, .int 0), (3, .int (nI (bxN D r n (2 ^ n - 1))))]) (S' := [.int 0]) (f' := (up1 f 80 g)) rfl ?_
  refine wq_if (c := 0 = 0) (p1 := 36) (L1 := [(0, .ref 0), (1, .int (nI r)), (2, .int 0), (3, .int (nI (bxN D r n (2 ^ n - 1))))]) (S1 := []) (p2 := 43) (L2 := [(0, .ref 0), (1, .int (nI r)), (2, .int 0), (3, .int (nI (bxN D r n (2 ^ n - 1))))]) (S2 := []) rfl (fun _ => ?_) (fun q => absurd rfl q)
  refine wq_run1 (pc' := 37) (L' := [(0, .ref 0), (1, .int (nI r)), (2, .int 0), (3, .int (nI (bxN D r n (2 ^ n - 1))))]) (S' := [.int (nI (bxN D r n (2 ^ n - 1)))]) (f' := (up1 f 80 g)) rfl ?_
  refine wq_callI (r := (nI (pcN 12 (bxN D r n (2 ^ n - 1))))) (jp_bitCount (up1 f 80 g) (s := (bxN D r n (2 ^ n - 1))) (by omega)) (Nat.le_of_ble_eq_true rfl) (pc' := 40) (L' := [(0, .ref 0), (1, .int (nI r)), (2, .int 0), (3, .int (nI (bxN D r n (2 ^ n - 1))))]) (S' := []) rfl (Nat.le_of_ble_eq_true rfl) rfl rfl (Nat.le_of_ble_eq_true rfl) (Nat.le_of_ble_eq_true rfl) ?_
  refine wq_run1 (pc' := 44) (L' := [(0, .ref 0), (1, .int (nI r)), (2, .int 0), (3, .int (nI (bxN D r n (2 ^ n - 1))))]) (S' := [.int (nI (pcN 12 (bxN D r n (2 ^ n - 1))))]) (f' := (up1 f 80 g)) rfl ?_
  exact wq_ret rfl ⟨g, rfl, rfl⟩
theorem sp_boxes1 {f : HI} {n r : Nat} {D : Nat → Nat → Nat} (hn12 : n ≤ 12) (hr2 : r ≤ 200) (hct : f 77 1 = nI n) (hsz : f 78 0 = 12) (hD : Mt 12 100000000 30 D) (hr : ∀ p q, p < 12 → q < 12 → f 79 (p * 12 + q) = nI (D p q)) : Sp 4 107 [.ref 0, .int (nI r), .int 1] f (fun v f' => ∃ g, v = some (.int (nI (bxN D r n (2 ^ n - 1)))) ∧ f' = up1 f 80 g) := by
  show wq 4 107 (fun v f' => ∃ g, v = some (.int (nI (bxN D r n (2 ^ n - 1)))) ∧ f' = up1 f 80 g) 0 [(0, .ref 0), (1, .int (nI r)), (2, .int 1)] [] f
  have hr200 : inR (nI r) 0 200 := ⟨nI_pos' (by omega), (nI_leI (a := r) (b := 200) (by omega) (by omega)).mpr hr2⟩
  have hbx := bx_lt D r n (2 ^ n - 1) (by have := p0 n; omega)
  have h12 := p12 hn12
  refine wq_run3 (pc' := 5) (L' := [(0, .ref 0), (1, .int (nI r)), (2, .int 1)]) (S' := [.int 200, .int 0, .int (nI r)]) (f' := f) rfl ?_
  refine wq_callI (r := (b2i (inR (nI r) 0 200))) (sp_within f (nI r) 0 200) (Nat.le_of_ble_eq_true rfl) (pc' := 8) (L' := [(0, .ref 0), (1, .int (nI r)), (2, .int 1)]) (S' := []) rfl (Nat.le_of_ble_eq_true rfl) rfl rfl (Nat.le_of_ble_eq_true rfl) (Nat.le_of_ble_eq_true rfl) ?_
  refine wq_if (c := (b2i (inR (nI r) 0 200)) = 0) (p1 := 20) (L1 := [(0, .ref 0), (1, .int (nI r)), (2, .int 1)]) (S1 := []) (p2 := 11) (L2 := [(0, .ref 0), (1, .int (nI r)), (2, .int 1)]) (S2 := []) rfl (fun q => absurd q (b2i_n0.mpr hr200)) (fun _ => ?_)
  refine wq_run3 (pc' := 14) (L' := [(0, .ref 0), (1, .int (nI r)), (2, .int 1)]) (S' := [.int 1, .int 0, .int 1]) (f' := f) rfl ?_
  refine wq_callI (r := (b2i (inR 1 0 1))) (sp_within f 1 0 1) (Nat.le_of_ble_eq_true rfl) (pc' := 17) (L' := [(0, .ref 0), (1, .int (nI r)), (2, .int 1)]) (S' := []) rfl (Nat.le_of_ble_eq_true rfl) rfl rfl (Nat.le_of_ble_eq_true rfl) (Nat.le_of_ble_eq_true rfl) ?_
  refine wq_if (c := (b2i (inR 1 0 1)) = 0) (p1 := 20) (L1 := [(0, .ref 0), (1, .int (nI r)), (2, .int 1)]) (S1 := []) (p2 := 23) (L2 := [(0, .ref 0), (1, .int (nI r)), (2, .int 1)]) (S2 := []) rfl (fun q => absurd q (b2i_n0.mpr (by decide))) (fun _ => ?_)
  refine wq_run3 (pc' := 28) (L' := [(0, .ref 0), (1, .int (nI r)), (2, .int 1)]) (S' := [.int (nI r), .ref 77]) (f' := f) rfl ?_
  refine wq_call (sp_fewestBoxes hn12 hr2 hct hsz hD hr) (Nat.le_of_ble_eq_true rfl) (pc' := 31) (L' := [(0, .ref 0), (1, .int (nI r)), (2, .int 1)]) (S' := []) rfl (Nat.le_of_ble_eq_true rfl) rfl rfl (Nat.le_of_ble_eq_true rfl) (Nat.le_of_ble_eq_true rfl) ?_
  rintro v f9 ⟨g, e0, ef⟩
  subst e0
  subst ef
  refine wq_run2 (pc' := 33) (L' := [(0, .ref 0), (1, .int (nI r)), (2, .int 1), (3, .int (nI (bxN D r n (2 ^ n - 1))))]) (S' := [.int 1]) (f' := (up1 f 80 g)) rfl ?_
  refine wq_if (c := 1 = 0) (p1 := 36) (L1 := [(0, .ref 0), (1, .int (nI r)), (2, .int 1), (3, .int (nI (bxN D r n (2 ^ n - 1))))]) (S1 := []) (p2 := 43) (L2 := [(0, .ref 0), (1, .int (nI r)), (2, .int 1), (3, .int (nI (bxN D r n (2 ^ n - 1))))]) (S2 := []) rfl (fun q => absurd q (by decide)) (fun _ => ?_)
  refine wq_run1 (pc' := 44) (L' := [(0, .ref 0), (1, .int (nI r)), (2, .int 1), (3, .int (nI (bxN D r n (2 ^ n - 1))))]) (S' := [.int (nI (bxN D r n (2 ^ n - 1)))]) (f' := (up1 f 80 g)) rfl ?_
  exact wq_ret rfl ⟨g, rfl, rfl⟩
theorem sp_boxesX (f : HI) {r w : Int32} (h1 : ¬ (inR r 0 200 ∧ inR w 0 1)) : Sp 2 107 [.ref 0, .int r, .int w] f (Ret (-3) f) := by
  show wq 2 107 (Ret (-3) f) 0 [(0, .ref 0), (1, .int r), (2, .int w)] [] f
  refine wq_run3 (pc' := 5) (L' := [(0, .ref 0), (1, .int r), (2, .int w)]) (S' := [.int 200, .int 0, .int r]) (f' := f) rfl ?_
  refine wq_callI (r := (b2i (inR r 0 200))) (sp_within f r 0 200) (Nat.le_of_ble_eq_true rfl) (pc' := 8) (L' := [(0, .ref 0), (1, .int r), (2, .int w)]) (S' := []) rfl (Nat.le_of_ble_eq_true rfl) rfl rfl (Nat.le_of_ble_eq_true rfl) (Nat.le_of_ble_eq_true rfl) ?_
  refine wq_if (c := (b2i (inR r 0 200)) = 0) (p1 := 20) (L1 := [(0, .ref 0), (1, .int r), (2, .int w)]) (S1 := []) (p2 := 11) (L2 := [(0, .ref 0), (1, .int r), (2, .int w)]) (S2 := []) rfl (fun c_8 => ?_) (fun c_8 => ?_)
  · have h_8 := b2i_0.mp c_8
    refine wq_run1 (pc' := 22) (L' := [(0, .ref 0), (1, .int r), (2, .int w)]) (S' := [.int (-3)]) (f' := f) rfl ?_
    exact wq_ret rfl ⟨rfl, rfl⟩
  · have h_8 := b2i_n0.mp c_8
    refine wq_run3 (pc' := 14) (L' := [(0, .ref 0), (1, .int r), (2, .int w)]) (S' := [.int 1, .int 0, .int w]) (f' := f) rfl ?_
    refine wq_callI (r := (b2i (inR w 0 1))) (sp_within f w 0 1) (Nat.le_of_ble_eq_true rfl) (pc' := 17) (L' := [(0, .ref 0), (1, .int r), (2, .int w)]) (S' := []) rfl (Nat.le_of_ble_eq_true rfl) rfl rfl (Nat.le_of_ble_eq_true rfl) (Nat.le_of_ble_eq_true rfl) ?_
    refine wq_if (c := (b2i (inR w 0 1)) = 0) (p1 := 20) (L1 := [(0, .ref 0), (1, .int r), (2, .int w)]) (S1 := []) (p2 := 23) (L2 := [(0, .ref 0), (1, .int r), (2, .int w)]) (S2 := []) rfl (fun c_17 => ?_) (fun c_17 => ?_)
    · have h_17 := b2i_0.mp c_17
      refine wq_run1 (pc' := 22) (L' := [(0, .ref 0), (1, .int r), (2, .int w)]) (S' := [.int (-3)]) (f' := f) rfl ?_
      exact wq_ret rfl ⟨rfl, rfl⟩
    · have h_17 := b2i_n0.mp c_17
      exact absurd ⟨h_8, h_17⟩ h1
theorem mp_boxesX (f : HI) {r w : Int32} (h1 : ¬ (inR r 0 200 ∧ inR w 0 1)) : Sp 2 195 [.ref 92, .int r, .int w] f (Ret (-3) f) := by
  show wq 2 195 (Ret (-3) f) 0 [(0, .ref 92), (1, .int r), (2, .int w)] [] f
  refine wq_run4 (pc' := 6) (L' := [(0, .ref 92), (1, .int r), (2, .int w)]) (S' := [.long 200, .long 0, .long r.toInt64]) (f' := f) rfl ?_
  refine wq_callI (r := (b2i (inR r 0 200))) (mp_in f r 0 200) (Nat.le_of_ble_eq_true rfl) (pc' := 9) (L' := [(0, .ref 92), (1, .int r), (2, .int w)]) (S' := []) rfl (Nat.le_of_ble_eq_true rfl) rfl rfl (Nat.le_of_ble_eq_true rfl) (Nat.le_of_ble_eq_true rfl) ?_
  refine wq_if (c := (b2i (inR r 0 200)) = 0) (p1 := 22) (L1 := [(0, .ref 92), (1, .int r), (2, .int w)]) (S1 := []) (p2 := 12) (L2 := [(0, .ref 92), (1, .int r), (2, .int w)]) (S2 := []) rfl (fun c_9 => ?_) (fun c_9 => ?_)
  · have h_9 := b2i_0.mp c_9
    refine wq_run1 (pc' := 24) (L' := [(0, .ref 92), (1, .int r), (2, .int w)]) (S' := [.int (-3)]) (f' := f) rfl ?_
    exact wq_ret rfl ⟨rfl, rfl⟩
  · have h_9 := b2i_n0.mp c_9
    refine wq_run4 (pc' := 16) (L' := [(0, .ref 92), (1, .int r), (2, .int w)]) (S' := [.long 1, .long 0, .long w.toInt64]) (f' := f) rfl ?_
    refine wq_callI (r := (b2i (inR w 0 1))) (mp_in f w 0 1) (Nat.le_of_ble_eq_true rfl) (pc' := 19) (L' := [(0, .ref 92), (1, .int r), (2, .int w)]) (S' := []) rfl (Nat.le_of_ble_eq_true rfl) rfl rfl (Nat.le_of_ble_eq_true rfl) (Nat.le_of_ble_eq_true rfl) ?_
    refine wq_if (c := (b2i (inR w 0 1)) = 0) (p1 := 22) (L1 := [(0, .ref 92), (1, .int r), (2, .int w)]) (S1 := []) (p2 := 25) (L2 := [(0, .ref 92), (1, .int r), (2, .int w)]) (S2 := []) rfl (fun c_19 => ?_) (fun c_19 => ?_)
    · have h_19 := b2i_0.mp c_19
      refine wq_run1 (pc' := 24) (L' := [(0, .ref 92), (1, .int r), (2, .int w)]) (S' := [.int (-3)]) (f' := f) rfl ?_
      exact wq_ret rfl ⟨rfl, rfl⟩
    · have h_19 := b2i_n0.mp c_19
      exact absurd ⟨h_9, h_19⟩ h1
