/-! stamps: which letters may stand behind which, rows (class) -/
theorem jp_bc24 (f : HI) {s : Nat} (hs : s < 2 ^ 24) : Sp 1 214 [.int (nI s)] f (Ret (nI (pcN 24 s)) f) := by
  show wq 1 214 (Ret (nI (pcN 24 s)) f) 0 [(0, .int (nI s))] [] f
  refine wq_run39 (pc' := 49) (L' := [(0, .int ((((((((nI s) - ((((nI s).toUInt32 >>> ((1 : Int32).toUInt32 &&& Int32.toUInt32 31)).toInt32) &&& 1431655765)) &&& 858993459) + (((((nI s) - ((((nI s).toUInt32 >>> ((1 : Int32).toUInt32 &&& Int32.toUInt32 31)).toInt32) &&& 1431655765)).toUInt32 >>> ((2 : Int32).toUInt32 &&& Int32.toUInt32 31)).toInt32) &&& 858993459)) + ((((((nI s) - ((((nI s).toUInt32 >>> ((1 : Int32).toUInt32 &&& Int32.toUInt32 31)).toInt32) &&& 1431655765)) &&& 858993459) + (((((nI s) - ((((nI s).toUInt32 >>> ((1 : Int32).toUInt32 &&& Int32.toUInt32 31)).toInt32) &&& 1431655765)).toUInt32 >>> ((2 : Int32).toUInt32 &&& Int32.toUInt32 31)).toInt32) &&& 858993459)).toUInt32 >>> ((4 : Int32).toUInt32 &&& Int32.toUInt32 31)).toInt32)) &&& 252645135) + ((((((((nI s) - ((((nI s).toUInt32 >>> ((1 : Int32).toUInt32 &&& Int32.toUInt32 31)).toInt32) &&& 1431655765)) &&& 858993459) + (((((nI s) - ((((nI s).toUInt32 >>> ((1 : Int32).toUInt32 &&& Int32.toUInt32 31)).toInt32) &&& 1431655765)).toUInt32 >>> ((2 : Int32).toUInt32 &&& Int32.toUInt32 31)).toInt32) &&& 858993459)) + ((((((nI s) - ((((nI s).toUInt32 >>> ((1 : Int32).toUInt32 &&& Int32.toUInt32 31)).toInt32) &&& 1431655765)) &&& 858993459) + (((((nI s) - ((((nI s).toUInt32 >>> ((1 : Int32).toUInt32 &&& Int32.toUInt32 31)).toInt32) &&& 1431655765)).toUInt32 >>> ((2 : Int32).toUInt32 &&& Int32.toUInt32 31)).toInt32) &&& 858993459)).toUInt32 >>> ((4 : Int32).toUInt32 &&& Int32.toUInt32 31)).toInt32)) &&& 252645135).toUInt32 >>> ((8 : Int32).toUInt32 &&& Int32.toUInt32 31)).toInt32)) + (((((((((nI s) - ((((nI s).toUInt32 >>> ((1 : Int32).toUInt32 &&& Int32.toUInt32 31)).toInt32) &&& 1431655765)) &&& 858993459) + (((((nI s) - ((((nI s).toUInt32 >>> ((1 : Int32).toUInt32 &&& Int32.toUInt32 31)).toInt32) &&& 1431655765)).toUInt32 >>> ((2 : Int32).toUInt32 &&& Int32.toUInt32 31)).toInt32) &&& 858993459)) + ((((((nI s) - ((((nI s).toUInt32 >>> ((1 : Int32).toUInt32 &&& Int32.toUInt32 31)).toInt32) &&& 1431655765)) &&& 858993459) + (((((nI s) - ((((nI s).toUInt32 >>> ((1 : Int32).toUInt32 &&& Int32.toUInt32 31)).toInt32) &&& 1431655765)).toUInt32 >>> ((2 : Int32).toUInt32 &&& Int32.toUInt32 31)).toInt32) &&& 858993459)).toUInt32 >>> ((4 : Int32).toUInt32 &&& Int32.toUInt32 31)).toInt32)) &&& 252645135) + ((((((((nI s) - ((((nI s).toUInt32 >>> ((1 : Int32).toUInt32 &&& Int32.toUInt32 31)).toInt32) &&& 1431655765)) &&& 858993459) + (((((nI s) - ((((nI s).toUInt32 >>> ((1 : Int32).toUInt32 &&& Int32.toUInt32 31)).toInt32) &&& 1431655765)).toUInt32 >>> ((2 : Int32).toUInt32 &&& Int32.toUInt32 31)).toInt32) &&& 858993459)) + ((((((nI s) - ((((nI s).toUInt32 >>> ((1 : Int32).toUInt32 &&& Int32.toUInt32 31)).toInt32) &&& 1431655765)) &&& 858993459) + (((((nI s) - ((((nI s).toUInt32 >>> ((1 : Int32).toUInt32 &&& Int32.toUInt32 31)).toInt32) &&& 1431655765)).toUInt32 >>> ((2 : Int32).toUInt32 &&& Int32.toUInt32 31)).toInt32) &&& 858993459)).toUInt32 >>> ((4 : Int32).toUInt32 &&& Int32.toUInt32 31)).toInt32)) &&& 252645135).toUInt32 >>> ((8 : Int32).toUInt32 &&& Int32.toUInt32 31)).toInt32)).toUInt32 >>> ((16 : Int32).toUInt32 &&& Int32.toUInt32 31)).toInt32)))]) (S' := [.int ((((((((nI s) - ((((nI s).toUInt32 >>> ((1 : Int32).toUInt32 &&& Int32.toUInt32 31)).toInt32) &&& 1431655765)) &&& 858993459) + (((((nI s) - ((((nI s).toUInt32 >>> ((1 : Int32).toUInt32 &&& Int32.toUInt32 31)).toInt32) &&& 1431655765)).toUInt32 >>> ((2 : Int32).toUInt32 &&& Int32.toUInt32 31)).toInt32) &&& 858993459)) + ((((((nI s) - ((((nI s).toUInt32 >>> ((1 : Int32).toUInt32 &&& Int32.toUInt32 31)).toInt32) &&& 1431655765)) &&& 858993459) + (((((nI s) - ((((nI s).toUInt32 >>> ((1 : Int32).toUInt32 &&& Int32.toUInt32 31)).toInt32) &&& 1431655765)).toUInt32 >>> ((2 : Int32).toUInt32 &&& Int32.toUInt32 31)).toInt32) &&& 858993459)).toUInt32 >>> ((4 : Int32).toUInt32 &&& Int32.toUInt32 31)).toInt32)) &&& 252645135) + ((((((((nI s) - ((((nI s).toUInt32 >>> ((1 : Int32).toUInt32 &&& Int32.toUInt32 31)).toInt32) &&& 1431655765)) &&& 858993459) + (((((nI s) - ((((nI s).toUInt32 >>> ((1 : Int32).toUInt32 &&& Int32.toUInt32 31)).toInt32) &&& 1431655765)).toUInt32 >>> ((2 : Int32).toUInt32 &&& Int32.toUInt32 31)).toInt32) &&& 858993459)) + ((((((nI s) - ((((nI s).toUInt32 >>> ((1 : Int32).toUInt32 &&& Int32.toUInt32 31)).toInt32) &&& 1431655765)) &&& 858993459) + (((((nI s) - ((((nI s).toUInt32 >>> ((1 : Int32).toUInt32 &&& Int32.toUInt32 31)).toInt32) &&& 1431655765)).toUInt32 >>> ((2 : Int32).toUInt32 &&& Int32.toUInt32 31)).toInt32) &&& 858993459)).toUInt32 >>> ((4 : Int32).toUInt32 &&& Int32.toUInt32 31)).toInt32)) &&& 252645135).toUInt32 >>> ((8 : Int32).toUInt32 &&& Int32.toUInt32 31)).toInt32)) + (((((((((nI s) - ((((nI s).toUInt32 >>> ((1 : Int32).toUInt32 &&& Int32.toUInt32 31)).toInt32) &&& 1431655765)) &&& 858993459) + (((((nI s) - ((((nI s).toUInt32 >>> ((1 : Int32).toUInt32 &&& Int32.toUInt32 31)).toInt32) &&& 1431655765)).toUInt32 >>> ((2 : Int32).toUInt32 &&& Int32.toUInt32 31)).toInt32) &&& 858993459)) + ((((((nI s) - ((((nI s).toUInt32 >>> ((1 : Int32).toUInt32 &&& Int32.toUInt32 31)).toInt32) &&& 1431655765)) &&& 858993459) + (((((nI s) - ((((nI s).toUInt32 >>> ((1 : Int32).toUInt32 &&& Int32.toUInt32 31)).toInt32) &&& 1431655765)).toUInt32 >>> ((2 : Int32).toUInt32 &&& Int32.toUInt32 31)).toInt32) &&& 858993459)).toUInt32 >>> ((4 : Int32).toUInt32 &&& Int32.toUInt32 31)).toInt32)) &&& 252645135) + ((((((((nI s) - ((((nI s).toUInt32 >>> ((1 : Int32).toUInt32 &&& Int32.toUInt32 31)).toInt32) &&& 1431655765)) &&& 858993459) + (((((nI s) - ((((nI s).toUInt32 >>> ((1 : Int32).toUInt32 &&& Int32.toUInt32 31)).toInt32) &&& 1431655765)).toUInt32 >>> ((2 : Int32).toUInt32 &&& Int32.toUInt32 31)).toInt32) &&& 858993459)) + ((((((nI s) - ((((nI s).toUInt32 >>> ((1 : Int32).toUInt32 &&& Int32.toUInt32 31)).toInt32) &&& 1431655765)) &&& 858993459) + (((((nI s) - ((((nI s).toUInt32 >>> ((1 : Int32).toUInt32 &&& Int32.toUInt32 31)).toInt32) &&& 1431655765)).toUInt32 >>> ((2 : Int32).toUInt32 &&& Int32.toUInt32 31)).toInt32) &&& 858993459)).toUInt32 >>> ((4 : Int32).toUInt32 &&& Int32.toUInt32 31)).toInt32)) &&& 252645135).toUInt32 >>> ((8 : Int32).toUInt32 &&& Int32.toUInt32 31)).toInt32)).toUInt32 >>> ((16 : Int32).toUInt32 &&& Int32.toUInt32 31)).toInt32))]) (f' := f) rfl ?_
  refine wq_run2 (pc' := 52) (L' := [(0, .int ((((((((nI s) - ((((nI s).toUInt32 >>> ((1 : Int32).toUInt32 &&& Int32.toUInt32 31)).toInt32) &&& 1431655765)) &&& 858993459) + (((((nI s) - ((((nI s).toUInt32 >>> ((1 : Int32).toUInt32 &&& Int32.toUInt32 31)).toInt32) &&& 1431655765)).toUInt32 >>> ((2 : Int32).toUInt32 &&& Int32.toUInt32 31)).toInt32) &&& 858993459)) + ((((((nI s) - ((((nI s).toUInt32 >>> ((1 : Int32).toUInt32 &&& Int32.toUInt32 31)).toInt32) &&& 1431655765)) &&& 858993459) + (((((nI s) - ((((nI s).toUInt32 >>> ((1 : Int32).toUInt32 &&& Int32.toUInt32 31)).toInt32) &&& 1431655765)).toUInt32 >>> ((2 : Int32).toUInt32 &&& Int32.toUInt32 31)).toInt32) &&& 858993459)).toUInt32 >>> ((4 : Int32).toUInt32 &&& Int32.toUInt32 31)).toInt32)) &&& 252645135) + ((((((((nI s) - ((((nI s).toUInt32 >>> ((1 : Int32).toUInt32 &&& Int32.toUInt32 31)).toInt32) &&& 1431655765)) &&& 858993459) + (((((nI s) - ((((nI s).toUInt32 >>> ((1 : Int32).toUInt32 &&& Int32.toUInt32 31)).toInt32) &&& 1431655765)).toUInt32 >>> ((2 : Int32).toUInt32 &&& Int32.toUInt32 31)).toInt32) &&& 858993459)) + ((((((nI s) - ((((nI s).toUInt32 >>> ((1 : Int32).toUInt32 &&& Int32.toUInt32 31)).toInt32) &&& 1431655765)) &&& 858993459) + (((((nI s) - ((((nI s).toUInt32 >>> ((1 : Int32).toUInt32 &&& Int32.toUInt32 31)).toInt32) &&& 1431655765)).toUInt32 >>> ((2 : Int32).toUInt32 &&& Int32.toUInt32 31)).toInt32) &&& 858993459)).toUInt32 >>> ((4 : Int32).toUInt32 &&& Int32.toUInt32 31)).toInt32)) &&& 252645135).toUInt32 >>> ((8 : Int32).toUInt32 &&& Int32.toUInt32 31)).toInt32)) + (((((((((nI s) - ((((nI s).toUInt32 >>> ((1 : Int32).toUInt32 &&& Int32.toUInt32 31)).toInt32) &&& 1431655765)) &&& 858993459) + (((((nI s) - ((((nI s).toUInt32 >>> ((1 : Int32).toUInt32 &&& Int32.toUInt32 31)).toInt32) &&& 1431655765)).toUInt32 >>> ((2 : Int32).toUInt32 &&& Int32.toUInt32 31)).toInt32) &&& 858993459)) + ((((((nI s) - ((((nI s).toUInt32 >>> ((1 : Int32).toUInt32 &&& Int32.toUInt32 31)).toInt32) &&& 1431655765)) &&& 858993459) + (((((nI s) - ((((nI s).toUInt32 >>> ((1 : Int32).toUInt32 &&& Int32.toUInt32 31)).toInt32) &&& 1431655765)).toUInt32 >>> ((2 : Int32).toUInt32 &&& Int32.toUInt32 31)).toInt32) &&& 858993459)).toUInt32 >>> ((4 : Int32).toUInt32 &&& Int32.toUInt32 31)).toInt32)) &&& 252645135) + ((((((((nI s) - ((((nI s).toUInt32 >>> ((1 : Int32).toUInt32 &&& Int32.toUInt32 31)).toInt32) &&& 1431655765)) &&& 858993459) + (((((nI s) - ((((nI s).toUInt32 >>> ((1 : Int32).toUInt32 &&& Int32.toUInt32 31)).toInt32) &&& 1431655765)).toUInt32 >>> ((2 : Int32).toUInt32 &&& Int32.toUInt32 31)).toInt32) &&& 858993459)) + ((((((nI s) - ((((nI s).toUInt32 >>> ((1 : Int32).toUInt32 &&& Int32.toUInt32 31)).toInt32) &&& 1431655765)) &&& 858993459) + (((((nI s) - ((((nI s).toUInt32 >>> ((1 : Int32).toUInt32 &&& Int32.toUInt32 31)).toInt32) &&& 1431655765)).toUInt32 >>> ((2 : Int32).toUInt32 &&& Int32.toUInt32 31)).toInt32) &&& 858993459)).toUInt32 >>> ((4 : Int32).toUInt32 &&& Int32.toUInt32 31)).toInt32)) &&& 252645135).toUInt32 >>> ((8 : Int32).toUInt32 &&& Int32.toUInt32 31)).toInt32)).toUInt32 >>> ((16 : Int32).toUInt32 &&& Int32.toUInt32 31)).toInt32)))]) (S' := [.int (((((((((nI s) - ((((nI s).toUInt32 >>> ((1 : Int32).toUInt32 &&& Int32.toUInt32 31)).toInt32) &&& 1431655765)) &&& 858993459) + (((((nI s) - ((((nI s).toUInt32 >>> ((1 : Int32).toUInt32 &&& Int32.toUInt32 31)).toInt32) &&& 1431655765)).toUInt32 >>> ((2 : Int32).toUInt32 &&& Int32.toUInt32 31)).toInt32) &&& 858993459)) + ((((((nI s) - ((((nI s).toUInt32 >>> ((1 : Int32).toUInt32 &&& Int32.toUInt32 31)).toInt32) &&& 1431655765)) &&& 858993459) + (((((nI s) - ((((nI s).toUInt32 >>> ((1 : Int32).toUInt32 &&& Int32.toUInt32 31)).toInt32) &&& 1431655765)).toUInt32 >>> ((2 : Int32).toUInt32 &&& Int32.toUInt32 31)).toInt32) &&& 858993459)).toUInt32 >>> ((4 : Int32).toUInt32 &&& Int32.toUInt32 31)).toInt32)) &&& 252645135) + ((((((((nI s) - ((((nI s).toUInt32 >>> ((1 : Int32).toUInt32 &&& Int32.toUInt32 31)).toInt32) &&& 1431655765)) &&& 858993459) + (((((nI s) - ((((nI s).toUInt32 >>> ((1 : Int32).toUInt32 &&& Int32.toUInt32 31)).toInt32) &&& 1431655765)).toUInt32 >>> ((2 : Int32).toUInt32 &&& Int32.toUInt32 31)).toInt32) &&& 858993459)) + ((((((nI s) - ((((nI s).toUInt32 >>> ((1 : Int32).toUInt32 &&& Int32.toUInt32 31)).toInt32) &&& 1431655765)) &&& 858993459) + (((((nI s) - ((((nI s).toUInt32 >>> ((1 : Int32).toUInt32 &&& Int32.toUInt32 31)).toInt32) &&& 1431655765)).toUInt32 >>> ((2 : Int32).toUInt32 &&& Int32.toUInt32 31)).toInt32) &&& 858993459)).toUInt32 >>> ((4 : Int32).toUInt32 &&& Int32.toUInt32 31)).toInt32)) &&& 252645135).toUInt32 >>> ((8 : Int32).toUInt32 &&& Int32.toUInt32 31)).toInt32)) + (((((((((nI s) - ((((nI s).toUInt32 >>> ((1 : Int32).toUInt32 &&& Int32.toUInt32 31)).toInt32) &&& 1431655765)) &&& 858993459) + (((((nI s) - ((((nI s).toUInt32 >>> ((1 : Int32).toUInt32 &&& Int32.toUInt32 31)).toInt32) &&& 1431655765)).toUInt32 >>> ((2 : Int32).toUInt32 &&& Int32.toUInt32 31)).toInt32) &&& 858993459)) + ((((((nI s) - ((((nI s).toUInt32 >>> ((1 : Int32).toUInt32 &&& Int32.toUInt32 31)).toInt32) &&& 1431655765)) &&& 858993459) + (((((nI s) - ((((nI s).toUInt32 >>> ((1 : Int32).toUInt32 &&& Int32.toUInt32 31)).toInt32) &&& 1431655765)).toUInt32 >>> ((2 : Int32).toUInt32 &&& Int32.toUInt32 31)).toInt32) &&& 858993459)).toUInt32 >>> ((4 : Int32).toUInt32 &&& Int32.toUInt32 31)).toInt32)) &&& 252645135) + ((((((((nI s) - ((((nI s).toUInt32 >>> ((1 : Int32).toUInt32 &&& Int32.toUInt32 31)).toInt32) &&& 1431655765)) &&& 858993459) + (((((nI s) - ((((nI s).toUInt32 >>> ((1 : Int32).toUInt32 &&& Int32.toUInt32 31)).toInt32) &&& 1431655765)).toUInt32 >>> ((2 : Int32).toUInt32 &&& Int32.toUInt32 31)).toInt32) &&& 858993459)) + ((((((nI s) - ((((nI s).toUInt32 >>> ((1 : Int32).toUInt32 &&& Int32.toUInt32 31)).toInt32) &&& 1431655765)) &&& 858993459) + (((((nI s) - ((((nI s).toUInt32 >>> ((1 : Int32).toUInt32 &&& Int32.toUInt32 31)).toInt32) &&& 1431655765)).toUInt32 >>> ((2 : Int32).toUInt32 &&& Int32.toUInt32 31)).toInt32) &&& 858993459)).toUInt32 >>> ((4 : Int32).toUInt32 &&& Int32.toUInt32 31)).toInt32)) &&& 252645135).toUInt32 >>> ((8 : Int32).toUInt32 &&& Int32.toUInt32 31)).toInt32)).toUInt32 >>> ((16 : Int32).toUInt32 &&& Int32.toUInt32 31)).toInt32)) &&& 63)]) (f' := f) rfl ?_
  exact wq_ret rfl (Ret.of (bc_24 hs) rfl)
def mkM (P : Nat → Bool) : Nat → Nat
  | 0 => 0
  | j + 1 => if P j = true then mkM P j ||| 2 ^ j else mkM P j
theorem mk_lt (P : Nat → Bool) : ∀ k, mkM P k < 2 ^ k
  | 0 => Nat.one_pos
  | k + 1 => by
    have h := mk_lt P k
    have h2 : (2 : Nat) ^ k < 2 ^ (k + 1) := Nat.pow_lt_pow_right (by decide) (Nat.lt_succ_self k)
    rw [mkM]
    split
    · exact Nat.or_lt_two_pow (Nat.lt_trans h h2) h2
    · exact Nat.lt_trans h h2
theorem mk_b {P : Nat → Bool} {j : Nat} : ∀ k, bN (mkM P k) j = 1 ↔ j < k ∧ P j = true
  | 0 => ⟨fun q => absurd q (bN_zero j), fun q => absurd q.1 (Nat.not_lt_zero _)⟩
  | k + 1 => by
    have ih := mk_b (P := P) (j := j) k
    rw [mkM]
    by_cases c : P k = true
    · rw [if_pos c, bN_or, ih]
      constructor
      · rintro (q | q)
        · exact ⟨by omega, q.2⟩
        · exact ⟨by omega, by rw [q]; exact c⟩
      · intro q
        by_cases e : j = k
        · exact Or.inr e
        · exact Or.inl ⟨by omega, q.2⟩
    · rw [if_neg c, ih]
      refine ⟨fun q => ⟨by omega, q.2⟩, fun q => ⟨?_, q.2⟩⟩
      by_cases e : j = k
      · exact absurd (e ▸ q.2) c
      · omega
theorem mk_0 {P : Nat → Bool} : ∀ k, (∀ j, j < k → ¬ P j = true) → mkM P k = 0
  | 0, _ => rfl
  | k + 1, h => by rw [mkM, if_neg (h k (Nat.lt_succ_self _)), mk_0 k (fun j q => h j (by omega))]
theorem ak_b {kk ww : Nat → Int32} {st : Int32} {j : Nat} : ∀ k, bN (akN kk ww st k) j = 1 ↔ j < k ∧ kk j = 1 ∧ ww j = st
  | 0 => ⟨fun q => absurd q (bN_zero j), fun q => absurd q.1 (Nat.not_lt_zero _)⟩
  | k + 1 => by
    have ih := ak_b (kk := kk) (ww := ww) (st := st) (j := j) k
    rw [akN]
    by_cases c : kk k = 1 ∧ ww k = st
    · rw [if_pos c, bN_or, ih]
      constructor
      · rintro (q | q)
        · exact ⟨by omega, q.2⟩
        · exact ⟨by omega, by rw [q]; exact c⟩
      · intro q
        by_cases e : j = k
        · exact Or.inr e
        · exact Or.inl ⟨by omega, q.2⟩
    · rw [if_neg c, ih]
      refine ⟨fun q => ⟨by omega, q.2⟩, fun q => ⟨?_, q.2⟩⟩
      by_cases e : j = k
      · exact absurd (e ▸ q.2) c
      · omega
/-- whether a stamp may be washed from i to j -/
def edB (W : Nat → Nat → Nat) (w : Nat) (to fr en wr : Nat → Nat) (sa : Nat → Int32) (wa S i j : Nat) : Bool := decide (bN S i = 1 ∧ sa i = 2 ∧ bN S j = 1 ∧ arN W w (to i) (en i + wa) (fr j) ≤ wr j)
def LfC (f : HI) (n wa : Nat) (to fr en wr : Nat → Nat) (sa : Nat → Int32) : Prop := f 43 6 = nI n ∧ n ≤ 24 ∧ f 1 1 = nI wa ∧ wa ≤ 200 ∧ ∀ i, i < n → f (47 + i) 0 = nI (fr i) ∧ fr i < 10 ∧ f (47 + i) 1 = nI (to i) ∧ to i < 10 ∧ f (47 + i) 7 = nI (wr i) ∧ wr i ≤ 9000 ∧ f (47 + i) 8 = sa i ∧ (sa i = 2 → f (47 + i) 16 = nI (en i) ∧ en i ≤ 9000)
theorem lp_washIn {f : HI} {W : Nat → Nat → Nat} {w n wa S : Nat} {to fr en wr : Nat → Nat} {sa : Nat → Int32} (hL : LaC f W w) (hF : LfC f n wa to fr en wr sa) (hS : S < 2 ^ n) {i : Nat} (hin : i < n) (hSi : bN S i = 1) (hst : sa i = 2) {g6 gt : Nat → Int32} (hgt : ∀ t, t < 10 → gt t = dI (arN W w (to i) (en i + wa) t)) (K : ∀ g5 : Nat → Int32, g5 i = nI (mkM (edB W w to fr en wr sa wa S i) n) → (∀ k, k < i → g5 k = nI (mkM (edB W w to fr en wr sa wa S k) n)) → wq 4 78 (fun v f' => v = none ∧ ∃ g5 g6 gt, f' = (up1 (up1 (up1 f 75 g5) 76 g6) 10 gt) ∧ (∀ k, k < n → g6 k = -1) ∧ ∀ k, k < n → g5 k = nI (mkM (edB W w to fr en wr sa wa S k) n)) 2 [(0, .ref 71), (1, .int (nI S)), (2, .int (nI (i + 1)))] [] (up1 (up1 (up1 f 75 g5) 76 g6) 10 gt)) : ∀ (m9 : Nat) (j : Nat) (g5 : Nat → Int32), (j ≤ n) → (g5 i = nI (mkM (edB W w to fr en wr sa wa S i) j)) → (∀ k, k < i → g5 k = nI (mkM (edB W w to fr en wr sa wa S k) n)) → n - j < m9 → wq 4 78 (fun v f' => v = none ∧ ∃ g5 g6 gt, f' = (up1 (up1 (up1 f 75 g5) 76 g6) 10 gt) ∧ (∀ k, k < n → g6 k = -1) ∧ ∀ k, k < n → g5 k = nI (mkM (edB W w to fr en wr sa wa S k) n)) 81 [(0, .ref 71), (1, .int (nI S)), (2, .int (nI i)), (4, .int (nI j))] [] (up1 (up1 (up1 f 75 g5) 76 g6) 10 gt) := by
  intro m9
  induction m9 with
  | zero => intro j g5 hj h5i h5 hn; exact absurd hn (Nat.not_lt_zero _)
  | succ m9 ih =>
    intro j g5 hj h5i h5 hn
    have hn24 := hF.2.1
    have hS24 : S < 2 ^ 24 := Nat.lt_of_lt_of_le hS (Nat.pow_le_pow_right (by decide) hn24)
    have hbl := bN_lt S j
    have hmk := mk_lt (edB W w to fr en wr sa wa S i) j
    refine wq_run4 (pc' := 90) (L' := [(0, .ref 71), (1, .int (nI S)), (2, .int (nI i)), (4, .int (nI j))]) (S' := [.int (f 43 6), .int (nI j)]) (f' := (up1 (up1 (up1 f 75 g5) 76 g6) 10 gt)) rfl ?_
    refine wq_v (y := (nI n)) (hF.1) ?_
    refine wq_if (c := (nI n) ≤ (nI j)) (p1 := 164) (L1 := [(0, .ref 71), (1, .int (nI S)), (2, .int (nI i)), (4, .int (nI j))]) (S1 := []) (p2 := 93) (L2 := [(0, .ref 71), (1, .int (nI S)), (2, .int (nI i)), (4, .int (nI j))]) (S2 := []) rfl (fun c_90 => ?_) (fun c_90 => ?_)
    · have k_90 : n ≤ j := (nI_leI (a := n) (b := j) (by omega) (by omega)).mp c_90
      refine wq_run1 (pc' := 167) (L' := [(0, .ref 71), (1, .int (nI S)), (2, .int ((nI i) + 1)), (4, .int (nI j))]) (S' := []) (f' := (up1 (up1 (up1 f 75 g5) 76 g6) 10 gt)) rfl ?_
      refine wq_L (L' := [(0, .ref 71), (1, .int (nI S)), (2, .int (nI (i + 1))), (4, .int (nI j))]) (by rw [show nI i + 1 = nI (i + 1) from nI_add _ _]) ?_
      refine wq_run1 (pc' := 2) (L' := [(0, .ref 71), (1, .int (nI S)), (2, .int (nI (i + 1)))]) (S' := []) (f' := (up1 (up1 (up1 f 75 g5) 76 g6) 10 gt)) rfl ?_
      have e : j = n := by omega
      rw [e] at h5i
      exact K g5 h5i h5
    · have k_90 : ¬ n ≤ j := fun q => c_90 ((nI_leI (a := n) (b := j) (by omega) (by omega)).mpr q)
      have hjn : j < n := by omega
      have hj24 : j < 24 := by omega
      have hfj := (hF.2.2.2.2 j hjn).2.1
      have hwj := (hF.2.2.2.2 j hjn).2.2.2.2.2.1
      refine wq_run4 (pc' := 102) (L' := [(0, .ref 71), (1, .int (nI S)), (2, .int (nI i)), (4, .int (nI j))]) (S' := [.int (nI j), .ref 44]) (f' := (up1 (up1 (up1 f 75 g5) 76 g6) 10 gt)) rfl ?_
      refine wq_qld (j := j) (n := 24) (b := (47 + j)) rfl rfl rfl rfl (by omega) (Nat.le_of_ble_eq_true rfl) (lets_at (by omega)) ?_
      refine wq_run5 (pc' := 114) (L' := [(0, .ref 71), (1, .int (nI S)), (2, .int (nI i)), (4, .int (nI j)), (5, .ref (47 + j))]) (S' := [.ref (47 + j), .ref 10]) (f' := (up1 (up1 (up1 f 75 g5) 76 g6) 10 gt)) rfl ?_
      refine wq_getI (v := (nI (fr j))) rfl (let_O hj24) (((congrFun (up1_f (f := (up1 (up1 f 75 g5) 76 g6)) (g := gt) (show ((47 + j) : Nat) ≠ 10 by omega)) 0).trans ((congrFun (up1_f (f := (up1 f 75 g5)) (g := g6) (show ((47 + j) : Nat) ≠ 76 by omega)) 0).trans (congrFun (up1_f (f := f) (g := g5) (show ((47 + j) : Nat) ≠ 75 by omega)) 0))).trans ((hF.2.2.2.2 j hjn).1)) ?_
      refine wq_ald (j := (fr j)) (n := 10) (v := (dI (arN W w (to i) (en i + wa) (fr j)))) rfl rfl rfl rfl hfj (Nat.le_of_ble_eq_true rfl) (hgt _ hfj) ?_
      refine wq_run6 (pc' := 126) (L' := [(0, .ref 71), (1, .int (nI S)), (2, .int (nI i)), (4, .int (nI j)), (5, .ref (47 + j)), (6, .int (dI (arN W w (to i) (en i + wa) (fr j))))]) (S' := [.int (((nI S) >>> ((nI j) &&& 31)) &&& 1)]) (f' := (up1 (up1 (up1 f 75 g5) 76 g6) 10 gt)) rfl ?_
      refine wq_v (y := (nI (bN S j))) (bitN (by omega) (by omega)) ?_
      refine wq_if (c := (nI (bN S j)) = 0) (p1 := 158) (L1 := [(0, .ref 71), (1, .int (nI S)), (2, .int (nI i)), (4, .int (nI j)), (5, .ref (47 + j)), (6, .int (dI (arN W w (to i) (en i + wa) (fr j))))]) (S1 := []) (p2 := 129) (L2 := [(0, .ref 71), (1, .int (nI S)), (2, .int (nI i)), (4, .int (nI j)), (5, .ref (47 + j)), (6, .int (dI (arN W w (to i) (en i + wa) (fr j))))]) (S2 := []) rfl (fun c_126 => ?_) (fun c_126 => ?_)
      · have k_126 : (bN S j) = 0 := (nI_eq (a := (bN S j)) (b := 0) (by omega) (by omega)).mp c_126
        refine wq_run1 (pc' := 161) (L' := [(0, .ref 71), (1, .int (nI S)), (2, .int (nI i)), (4, .int ((nI j) + 1)), (5, .ref (47 + j)), (6, .int (dI (arN W w (to i) (en i + wa) (fr j))))]) (S' := []) (f' := (up1 (up1 (up1 f 75 g5) 76 g6) 10 gt)) rfl ?_
        refine wq_L (L' := [(0, .ref 71), (1, .int (nI S)), (2, .int (nI i)), (4, .int (nI (j + 1))), (5, .ref (47 + j)), (6, .int (dI (arN W w (to i) (en i + wa) (fr j))))]) (by rw [show nI j + 1 = nI (j + 1) from nI_add _ _]) ?_
        refine wq_run1 (pc' := 81) (L' := [(0, .ref 71), (1, .int (nI S)), (2, .int (nI i)), (4, .int (nI (j + 1)))]) (S' := []) (f' := (up1 (up1 (up1 f 75 g5) 76 g6) 10 gt)) rfl ?_
        have hz : ¬ (edB W w to fr en wr sa wa S i) j = true := fun q => by
          have q := of_decide_eq_true q
          have := q.2.2.1
          omega
        exact ih (j + 1) g5 (by omega) (by rw [show mkM (edB W w to fr en wr sa wa S i) (j + 1) = _ from if_neg hz]; exact h5i) h5 (by omega)
      · have k_126 : ¬ (bN S j) = 0 := fun q => c_126 ((nI_eq (a := (bN S j)) (b := 0) (by omega) (by omega)).mpr q)
        refine wq_run2 (pc' := 132) (L' := [(0, .ref 71), (1, .int (nI S)), (2, .int (nI i)), (4, .int (nI j)), (5, .ref (47 + j)), (6, .int (dI (arN W w (to i) (en i + wa) (fr j))))]) (S' := [.int (-1), .int (dI (arN W w (to i) (en i + wa) (fr j)))]) (f' := (up1 (up1 (up1 f 75 g5) 76 g6) 10 gt)) rfl ?_
        refine wq_if (c := (dI (arN W w (to i) (en i + wa) (fr j))) = (-1)) (p1 := 158) (L1 := [(0, .ref 71), (1, .int (nI S)), (2, .int (nI i)), (4, .int (nI j)), (5, .ref (47 + j)), (6, .int (dI (arN W w (to i) (en i + wa) (fr j))))]) (S1 := []) (p2 := 135) (L2 := [(0, .ref 71), (1, .int (nI S)), (2, .int (nI i)), (4, .int (nI j)), (5, .ref (47 + j)), (6, .int (dI (arN W w (to i) (en i + wa) (fr j))))]) (S2 := []) rfl (fun c_132 => ?_) (fun c_132 => ?_)
        · refine wq_run1 (pc' := 161) (L' := [(0, .ref 71), (1, .int (nI S)), (2, .int (nI i)), (4, .int ((nI j) + 1)), (5, .ref (47 + j)), (6, .int (dI (arN W w (to i) (en i + wa) (fr j))))]) (S' := []) (f' := (up1 (up1 (up1 f 75 g5) 76 g6) 10 gt)) rfl ?_
          refine wq_L (L' := [(0, .ref 71), (1, .int (nI S)), (2, .int (nI i)), (4, .int (nI (j + 1))), (5, .ref (47 + j)), (6, .int (dI (arN W w (to i) (en i + wa) (fr j))))]) (by rw [show nI j + 1 = nI (j + 1) from nI_add _ _]) ?_
          refine wq_run1 (pc' := 81) (L' := [(0, .ref 71), (1, .int (nI S)), (2, .int (nI i)), (4, .int (nI (j + 1)))]) (S' := []) (f' := (up1 (up1 (up1 f 75 g5) 76 g6) 10 gt)) rfl ?_
          have hz : ¬ (edB W w to fr en wr sa wa S i) j = true := fun q => by
            have q := of_decide_eq_true q
            have h1 := dI_0.mp c_132
            have h2 := q.2.2.2
            have h3 := (hF.2.2.2.2 j hjn).2.2.2.2.2.1
            omega
          exact ih (j + 1) g5 (by omega) (by rw [show mkM (edB W w to fr en wr sa wa S i) (j + 1) = _ from if_neg hz]; exact h5i) h5 (by omega)
        · have hlt : (arN W w (to i) (en i + wa) (fr j)) < 268435456 := Nat.lt_of_not_le (fun q => c_132 (dI_0.mpr q))
          refine wq_L (L' := [(0, .ref 71), (1, .int (nI S)), (2, .int (nI i)), (4, .int (nI j)), (5, .ref (47 + j)), (6, .int (nI (arN W w (to i) (en i + wa) (fr j))))]) (by rw [dI_n hlt]) ?_
          refine wq_run2 (pc' := 139) (L' := [(0, .ref 71), (1, .int (nI S)), (2, .int (nI i)), (4, .int (nI j)), (5, .ref (47 + j)), (6, .int (nI (arN W w (to i) (en i + wa) (fr j))))]) (S' := [.ref (47 + j), .int (nI (arN W w (to i) (en i + wa) (fr j)))]) (f' := (up1 (up1 (up1 f 75 g5) 76 g6) 10 gt)) rfl ?_
          refine wq_getI (v := (nI (wr j))) rfl (let_O hj24) (((congrFun (up1_f (f := (up1 (up1 f 75 g5) 76 g6)) (g := gt) (show ((47 + j) : Nat) ≠ 10 by omega)) 7).trans ((congrFun (up1_f (f := (up1 f 75 g5)) (g := g6) (show ((47 + j) : Nat) ≠ 76 by omega)) 7).trans (congrFun (up1_f (f := f) (g := g5) (show ((47 + j) : Nat) ≠ 75 by omega)) 7))).trans ((hF.2.2.2.2 j hjn).2.2.2.2.1)) ?_
          refine wq_if (c := (nI (wr j)) < (nI (arN W w (to i) (en i + wa) (fr j)))) (p1 := 158) (L1 := [(0, .ref 71), (1, .int (nI S)), (2, .int (nI i)), (4, .int (nI j)), (5, .ref (47 + j)), (6, .int (nI (arN W w (to i) (en i + wa) (fr j))))]) (S1 := []) (p2 := 145) (L2 := [(0, .ref 71), (1, .int (nI S)), (2, .int (nI i)), (4, .int (nI j)), (5, .ref (47 + j)), (6, .int (nI (arN W w (to i) (en i + wa) (fr j))))]) (S2 := []) rfl (fun c_142 => ?_) (fun c_142 => ?_)
          · have k_142 : (wr j) < (arN W w (to i) (en i + wa) (fr j)) := (nI_ltI (a := (wr j)) (b := (arN W w (to i) (en i + wa) (fr j))) (by omega) (by omega)).mp c_142
            refine wq_run1 (pc' := 161) (L' := [(0, .ref 71), (1, .int (nI S)), (2, .int (nI i)), (4, .int ((nI j) + 1)), (5, .ref (47 + j)), (6, .int (nI (arN W w (to i) (en i + wa) (fr j))))]) (S' := []) (f' := (up1 (up1 (up1 f 75 g5) 76 g6) 10 gt)) rfl ?_
            refine wq_L (L' := [(0, .ref 71), (1, .int (nI S)), (2, .int (nI i)), (4, .int (nI (j + 1))), (5, .ref (47 + j)), (6, .int (nI (arN W w (to i) (en i + wa) (fr j))))]) (by rw [show nI j + 1 = nI (j + 1) from nI_add _ _]) ?_
            refine wq_run1 (pc' := 81) (L' := [(0, .ref 71), (1, .int (nI S)), (2, .int (nI i)), (4, .int (nI (j + 1)))]) (S' := []) (f' := (up1 (up1 (up1 f 75 g5) 76 g6) 10 gt)) rfl ?_
            have hz : ¬ (edB W w to fr en wr sa wa S i) j = true := fun q => by
              have q := of_decide_eq_true q
              have := q.2.2.2
              omega
            exact ih (j + 1) g5 (by omega) (by rw [show mkM (edB W w to fr en wr sa wa S i) (j + 1) = _ from if_neg hz]; exact h5i) h5 (by omega)
          · have k_142 : ¬ (wr j) < (arN W w (to i) (en i + wa) (fr j)) := fun q => c_142 ((nI_ltI (a := (wr j)) (b := (arN W w (to i) (en i + wa) (fr j))) (by omega) (by omega)).mpr q)
            refine wq_run4 (pc' := 151) (L' := [(0, .ref 71), (1, .int (nI S)), (2, .int (nI i)), (4, .int (nI j)), (5, .ref (47 + j)), (6, .int (nI (arN W w (to i) (en i + wa) (fr j))))]) (S' := [.int (nI i), .ref 75, .int (nI i), .ref 75]) (f' := (up1 (up1 (up1 f 75 g5) 76 g6) 10 gt)) rfl ?_
            refine wq_ald (j := i) (n := 24) (v := (nI (mkM (edB W w to fr en wr sa wa S i) j))) rfl rfl rfl rfl (by omega) (Nat.le_of_ble_eq_true rfl) h5i ?_
            refine wq_run3 (pc' := 156) (L' := [(0, .ref 71), (1, .int (nI S)), (2, .int (nI i)), (4, .int (nI j)), (5, .ref (47 + j)), (6, .int (nI (arN W w (to i) (en i + wa) (fr j))))]) (S' := [.int ((1 : Int32) <<< ((nI j) &&& 31)), .int (nI (mkM (edB W w to fr en wr sa wa S i) j)), .int (nI i), .ref 75]) (f' := (up1 (up1 (up1 f 75 g5) 76 g6) 10 gt)) rfl ?_
            refine wq_v (y := (nI (2 ^ j))) (shl1 (n := j) (by omega)) ?_
            refine wq_run1 (pc' := 157) (L' := [(0, .ref 71), (1, .int (nI S)), (2, .int (nI i)), (4, .int (nI j)), (5, .ref (47 + j)), (6, .int (nI (arN W w (to i) (en i + wa) (fr j))))]) (S' := [.int ((nI (mkM (edB W w to fr en wr sa wa S i) j)) ||| (nI (2 ^ j))), .int (nI i), .ref 75]) (f' := (up1 (up1 (up1 f 75 g5) 76 g6) 10 gt)) rfl ?_
            refine wq_v (y := (nI ((mkM (edB W w to fr en wr sa wa S i) j) ||| (2 ^ j)))) (nx_or (mkM (edB W w to fr en wr sa wa S i) j) (2 ^ j)) ?_
            refine wq_ist (j := i) (n := 24) rfl rfl rfl rfl (by omega) (Nat.le_of_ble_eq_true rfl) ?_
            refine wq_h (f' := (up1 (up1 (up1 f 75 (upd g5 i (nI ((mkM (edB W w to fr en wr sa wa S i) j) ||| (2 ^ j))))) 76 g6) 10 gt)) ((up2_up1_ne (f := (up1 (up1 f 75 g5) 76 g6)) (g := gt) (k := i) (v := (nI ((mkM (edB W w to fr en wr sa wa S i) j) ||| (2 ^ j)))) (show (75 : Nat) ≠ 10 by decide)).trans (congrArg (fun z => up1 z 10 gt) ((up2_up1_ne (f := (up1 f 75 g5)) (g := g6) (k := i) (v := (nI ((mkM (edB W w to fr en wr sa wa S i) j) ||| (2 ^ j)))) (show (75 : Nat) ≠ 76 by decide)).trans (congrArg (fun z => up1 z 76 g6) ((up2_up1_eq f 75 g5 i (nI ((mkM (edB W w to fr en wr sa wa S i) j) ||| (2 ^ j)))).trans (congrArg (fun z => up1 f 75 z) (rfl))))))) ?_
            refine wq_run1 (pc' := 161) (L' := [(0, .ref 71), (1, .int (nI S)), (2, .int (nI i)), (4, .int ((nI j) + 1)), (5, .ref (47 + j)), (6, .int (nI (arN W w (to i) (en i + wa) (fr j))))]) (S' := []) (f' := (up1 (up1 (up1 f 75 (upd g5 i (nI ((mkM (edB W w to fr en wr sa wa S i) j) ||| (2 ^ j))))) 76 g6) 10 gt)) rfl ?_
            refine wq_L (L' := [(0, .ref 71), (1, .int (nI S)), (2, .int (nI i)), (4, .int (nI (j + 1))), (5, .ref (47 + j)), (6, .int (nI (arN W w (to i) (en i + wa) (fr j))))]) (by rw [show nI j + 1 = nI (j + 1) from nI_add _ _]) ?_
            refine wq_run1 (pc' := 81) (L' := [(0, .ref 71), (1, .int (nI S)), (2, .int (nI i)), (4, .int (nI (j + 1)))]) (S' := []) (f' := (up1 (up1 (up1 f 75 (upd g5 i (nI ((mkM (edB W w to fr en wr sa wa S i) j) ||| (2 ^ j))))) 76 g6) 10 gt)) rfl ?_
            have hz : (edB W w to fr en wr sa wa S i) j = true := decide_eq_true ⟨hSi, hst, (by have := bN_lt S j; omega), (by omega)⟩
            exact ih (j + 1) _ (by omega) (by rw [upd_s, show mkM (edB W w to fr en wr sa wa S i) (j + 1) = _ from if_pos hz]) (fun k hk => by rw [upd_n (by omega)]; exact h5 k hk) (by omega)
theorem lp_wash {f : HI} {W : Nat → Nat → Nat} {w n wa S : Nat} {to fr en wr : Nat → Nat} {sa : Nat → Int32} (hL : LaC f W w) (hF : LfC f n wa to fr en wr sa) (hS : S < 2 ^ n) : ∀ (m9 : Nat) (i : Nat) (g5 : Nat → Int32) (g6 : Nat → Int32) (gt : Nat → Int32), (i ≤ n) → (∀ k, k < i → g6 k = -1) → (∀ k, k < i → g5 k = nI (mkM (edB W w to fr en wr sa wa S k) n)) → n - i < m9 → wq 4 78 (fun v f' => v = none ∧ ∃ g5 g6 gt, f' = (up1 (up1 (up1 f 75 g5) 76 g6) 10 gt) ∧ (∀ k, k < n → g6 k = -1) ∧ ∀ k, k < n → g5 k = nI (mkM (edB W w to fr en wr sa wa S k) n)) 2 [(0, .ref 71), (1, .int (nI S)), (2, .int (nI i))] [] (up1 (up1 (up1 f 75 g5) 76 g6) 10 gt) := by
  intro m9
  induction m9 with
  | zero => intro i g5 g6 gt hi h6 h5 hn; exact absurd hn (Nat.not_lt_zero _)
  | succ m9 ih =>
    intro i g5 g6 gt hi h6 h5 hn
    have hn24 := hF.2.1
    have hwa := hF.2.2.2.1
    have hS24 : S < 2 ^ 24 := Nat.lt_of_lt_of_le hS (Nat.pow_le_pow_right (by decide) hn24)
    have hbl := bN_lt S i
    refine wq_run4 (pc' := 10) (L' := [(0, .ref 71), (1, .int (nI S)), (2, .int (nI i))]) (S' := [.int (f 43 6), .int (nI i)]) (f' := (up1 (up1 (up1 f 75 g5) 76 g6) 10 gt)) rfl ?_
    refine wq_v (y := (nI n)) (hF.1) ?_
    refine wq_if (c := (nI n) ≤ (nI i)) (p1 := 170) (L1 := [(0, .ref 71), (1, .int (nI S)), (2, .int (nI i))]) (S1 := []) (p2 := 13) (L2 := [(0, .ref 71), (1, .int (nI S)), (2, .int (nI i))]) (S2 := []) rfl (fun c_10 => ?_) (fun c_10 => ?_)
    · have k_10 : n ≤ i := (nI_leI (a := n) (b := i) (by omega) (by omega)).mp c_10
      have e : i = n := by omega
      rw [e] at h5 h6
      exact wq_ret rfl ⟨rfl, g5, g6, gt, rfl, h6, h5⟩
    · have k_10 : ¬ n ≤ i := fun q => c_10 ((nI_leI (a := n) (b := i) (by omega) (by omega)).mpr q)
      have hin : i < n := by omega
      have hi24 : i < 24 := by omega
      refine wq_run4 (pc' := 21) (L' := [(0, .ref 71), (1, .int (nI S)), (2, .int (nI i))]) (S' := [.int (nI i), .ref 44]) (f' := (up1 (up1 (up1 f 75 g5) 76 g6) 10 gt)) rfl ?_
      refine wq_qld (j := i) (n := 24) (b := (47 + i)) rfl rfl rfl rfl (by omega) (Nat.le_of_ble_eq_true rfl) (lets_at (by omega)) ?_
      refine wq_run5 (pc' := 29) (L' := [(0, .ref 71), (1, .int (nI S)), (2, .int (nI i)), (3, .ref (47 + i))]) (S' := [.int (-1), .int (nI i), .ref 76]) (f' := (up1 (up1 (up1 f 75 g5) 76 g6) 10 gt)) rfl ?_
      refine wq_ist (j := i) (n := 24) rfl rfl rfl rfl (by omega) (Nat.le_of_ble_eq_true rfl) ?_
      refine wq_h (f' := (up1 (up1 (up1 f 75 g5) 76 (upd g6 i (-1))) 10 gt)) ((up2_up1_ne (f := (up1 (up1 f 75 g5) 76 g6)) (g := gt) (k := i) (v := (-1)) (show (76 : Nat) ≠ 10 by decide)).trans (congrArg (fun z => up1 z 10 gt) ((up2_up1_eq (up1 f 75 g5) 76 g6 i (-1)).trans (congrArg (fun z => up1 (up1 f 75 g5) 76 z) (rfl))))) ?_
      refine wq_run4 (pc' := 36) (L' := [(0, .ref 71), (1, .int (nI S)), (2, .int (nI i)), (3, .ref (47 + i))]) (S' := [.int 0, .int (nI i), .ref 75]) (f' := (up1 (up1 (up1 f 75 g5) 76 (upd g6 i (-1))) 10 gt)) rfl ?_
      refine wq_ist (j := i) (n := 24) rfl rfl rfl rfl (by omega) (Nat.le_of_ble_eq_true rfl) ?_
      refine wq_h (f' := (up1 (up1 (up1 f 75 (upd g5 i 0)) 76 (upd g6 i (-1))) 10 gt)) ((up2_up1_ne (f := (up1 (up1 f 75 g5) 76 (upd g6 i (-1)))) (g := gt) (k := i) (v := 0) (show (75 : Nat) ≠ 10 by decide)).trans (congrArg (fun z => up1 z 10 gt) ((up2_up1_ne (f := (up1 f 75 g5)) (g := (upd g6 i (-1))) (k := i) (v := 0) (show (75 : Nat) ≠ 76 by decide)).trans (congrArg (fun z => up1 z 76 (upd g6 i (-1))) ((up2_up1_eq f 75 g5 i 0).trans (congrArg (fun z => up1 f 75 z) (rfl))))))) ?_
      refine wq_run5 (pc' := 42) (L' := [(0, .ref 71), (1, .int (nI S)), (2, .int (nI i)), (3, .ref (47 + i))]) (S' := [.int (((nI S) >>> ((nI i) &&& 31)) &&& 1)]) (f' := (up1 (up1 (up1 f 75 (upd g5 i 0)) 76 (upd g6 i (-1))) 10 gt)) rfl ?_
      refine wq_v (y := (nI (bN S i))) (bitN (by omega) (by omega)) ?_
      refine wq_if (c := (nI (bN S i)) = 0) (p1 := 164) (L1 := [(0, .ref 71), (1, .int (nI S)), (2, .int (nI i)), (3, .ref (47 + i))]) (S1 := []) (p2 := 45) (L2 := [(0, .ref 71), (1, .int (nI S)), (2, .int (nI i)), (3, .ref (47 + i))]) (S2 := []) rfl (fun c_42 => ?_) (fun c_42 => ?_)
      · have k_42 : (bN S i) = 0 := (nI_eq (a := (bN S i)) (b := 0) (by omega) (by omega)).mp c_42
        refine wq_run1 (pc' := 167) (L' := [(0, .ref 71), (1, .int (nI S)), (2, .int ((nI i) + 1)), (3, .ref (47 + i))]) (S' := []) (f' := (up1 (up1 (up1 f 75 (upd g5 i 0)) 76 (upd g6 i (-1))) 10 gt)) rfl ?_
        refine wq_L (L' := [(0, .ref 71), (1, .int (nI S)), (2, .int (nI (i + 1))), (3, .ref (47 + i))]) (by rw [show nI i + 1 = nI (i + 1) from nI_add _ _]) ?_
        refine wq_run1 (pc' := 2) (L' := [(0, .ref 71), (1, .int (nI S)), (2, .int (nI (i + 1)))]) (S' := []) (f' := (up1 (up1 (up1 f 75 (upd g5 i 0)) 76 (upd g6 i (-1))) 10 gt)) rfl ?_
        have hz : mkM (edB W w to fr en wr sa wa S i) n = 0 := mk_0 n (fun j _ q => by
          have q := of_decide_eq_true q
          have := q.1
          omega)
        exact ih (i + 1) _ _ gt (by omega) (fun k hk => by
          by_cases e : k = i
          · rw [e, upd_s]
          · rw [upd_n e]; exact h6 k (by omega)) (fun k hk => by
          by_cases e : k = i
          · rw [e, upd_s, hz]; rfl
          · rw [upd_n e]; exact h5 k (by omega)) (by omega)
      · have k_42 : ¬ (bN S i) = 0 := fun q => c_42 ((nI_eq (a := (bN S i)) (b := 0) (by omega) (by omega)).mpr q)
        refine wq_run1 (pc' := 46) (L' := [(0, .ref 71), (1, .int (nI S)), (2, .int (nI i)), (3, .ref (47 + i))]) (S' := [.ref (47 + i)]) (f' := (up1 (up1 (up1 f 75 (upd g5 i 0)) 76 (upd g6 i (-1))) 10 gt)) rfl ?_
        refine wq_getI (v := (sa i)) rfl (let_O hi24) (((congrFun (up1_f (f := (up1 (up1 f 75 (upd g5 i 0)) 76 (upd g6 i (-1)))) (g := gt) (show ((47 + i) : Nat) ≠ 10 by omega)) 8).trans ((congrFun (up1_f (f := (up1 f 75 (upd g5 i 0))) (g := (upd g6 i (-1))) (show ((47 + i) : Nat) ≠ 76 by omega)) 8).trans (congrFun (up1_f (f := f) (g := (upd g5 i 0)) (show ((47 + i) : Nat) ≠ 75 by omega)) 8))).trans ((hF.2.2.2.2 i hin).2.2.2.2.2.2.1)) ?_
        refine wq_run1 (pc' := 50) (L' := [(0, .ref 71), (1, .int (nI S)), (2, .int (nI i)), (3, .ref (47 + i))]) (S' := [.int 2, .int (sa i)]) (f' := (up1 (up1 (up1 f 75 (upd g5 i 0)) 76 (upd g6 i (-1))) 10 gt)) rfl ?_
        refine wq_if (c := (sa i) = 2) (p1 := 56) (L1 := [(0, .ref 71), (1, .int (nI S)), (2, .int (nI i)), (3, .ref (47 + i))]) (S1 := []) (p2 := 53) (L2 := [(0, .ref 71), (1, .int (nI S)), (2, .int (nI i)), (3, .ref (47 + i))]) (S2 := []) rfl (fun c_50 => ?_) (fun c_50 => ?_)
        · have hei := (hF.2.2.2.2 i hin).2.2.2.2.2.2.2 c_50
          have hei9 := hei.2
          refine wq_run3 (pc' := 61) (L' := [(0, .ref 71), (1, .int (nI S)), (2, .int (nI i)), (3, .ref (47 + i))]) (S' := [.ref (47 + i), .ref 2]) (f' := (up1 (up1 (up1 f 75 (upd g5 i 0)) 76 (upd g6 i (-1))) 10 gt)) rfl ?_
          refine wq_getI (v := (nI (to i))) rfl (let_O hi24) (((congrFun (up1_f (f := (up1 (up1 f 75 (upd g5 i 0)) 76 (upd g6 i (-1)))) (g := gt) (show ((47 + i) : Nat) ≠ 10 by omega)) 1).trans ((congrFun (up1_f (f := (up1 f 75 (upd g5 i 0))) (g := (upd g6 i (-1))) (show ((47 + i) : Nat) ≠ 76 by omega)) 1).trans (congrFun (up1_f (f := f) (g := (upd g5 i 0)) (show ((47 + i) : Nat) ≠ 75 by omega)) 1))).trans ((hF.2.2.2.2 i hin).2.2.1)) ?_
          refine wq_run1 (pc' := 65) (L' := [(0, .ref 71), (1, .int (nI S)), (2, .int (nI i)), (3, .ref (47 + i))]) (S' := [.ref (47 + i), .int (nI (to i)), .ref 2]) (f' := (up1 (up1 (up1 f 75 (upd g5 i 0)) 76 (upd g6 i (-1))) 10 gt)) rfl ?_
          refine wq_getI (v := (nI (en i))) rfl (let_O hi24) (((congrFun (up1_f (f := (up1 (up1 f 75 (upd g5 i 0)) 76 (upd g6 i (-1)))) (g := gt) (show ((47 + i) : Nat) ≠ 10 by omega)) 16).trans ((congrFun (up1_f (f := (up1 f 75 (upd g5 i 0))) (g := (upd g6 i (-1))) (show ((47 + i) : Nat) ≠ 76 by omega)) 16).trans (congrFun (up1_f (f := f) (g := (upd g5 i 0)) (show ((47 + i) : Nat) ≠ 75 by omega)) 16))).trans (hei.1)) ?_
          refine wq_run3 (pc' := 73) (L' := [(0, .ref 71), (1, .int (nI S)), (2, .int (nI i)), (3, .ref (47 + i))]) (S' := [.int 1, .ref 1, .int (nI (en i)), .int (nI (to i)), .ref 2]) (f' := (up1 (up1 (up1 f 75 (upd g5 i 0)) 76 (upd g6 i (-1))) 10 gt)) rfl ?_
          refine wq_ald (j := 1) (n := 7) (v := (nI wa)) rfl rfl rfl rfl (Nat.le_of_ble_eq_true rfl) (Nat.le_of_ble_eq_true rfl) (hF.2.2.1) ?_
          refine wq_run1 (pc' := 75) (L' := [(0, .ref 71), (1, .int (nI S)), (2, .int (nI i)), (3, .ref (47 + i))]) (S' := [.int ((nI (en i)) + (nI wa)), .int (nI (to i)), .ref 2]) (f' := (up1 (up1 (up1 f 75 (upd g5 i 0)) 76 (upd g6 i (-1))) 10 gt)) rfl ?_
          refine wq_v (y := (nI ((en i) + wa))) (nI_add (en i) wa) ?_
          refine wq_call (sp_spread (f := (up1 (up1 (up1 f 75 (upd g5 i 0)) 76 (upd g6 i (-1))) 10 gt)) (W := W) (w := w) (a := to i) (h := en i + wa) hL (hF.2.2.2.2 i hin).2.2.2.1 (by omega)) (Nat.le_of_ble_eq_true rfl) (pc' := 78) (L' := [(0, .ref 71), (1, .int (nI S)), (2, .int (nI i)), (3, .ref (47 + i))]) (S' := []) rfl (Nat.le_of_ble_eq_true rfl) rfl rfl (Nat.le_of_ble_eq_true rfl) (Nat.le_of_ble_eq_true rfl) ?_
          rintro v f9 ⟨g2, e0, ef, hg2⟩
          subst e0
          subst ef
          refine wq_h (f' := (up1 (up1 (up1 f 75 (upd g5 i 0)) 76 (upd g6 i (-1))) 10 g2)) (by rw [show up1 (up1 (up1 (up1 f 75 (upd g5 i 0)) 76 (upd g6 i (-1))) 10 gt) 10 g2 = _ from up1_up1 (up1 (up1 f 75 (upd g5 i 0)) 76 (upd g6 i (-1))) 10 gt g2]) ?_
          refine wq_run2 (pc' := 81) (L' := [(0, .ref 71), (1, .int (nI S)), (2, .int (nI i)), (4, .int 0)]) (S' := []) (f' := (up1 (up1 (up1 f 75 (upd g5 i 0)) 76 (upd g6 i (-1))) 10 g2)) rfl ?_
          exact lp_washIn hL hF hS hin (by omega) c_50 hg2 (fun g7 q1 q2 => ih (i + 1) g7 _ g2 (by omega) (fun k hk => by
              by_cases e : k = i
              · rw [e, upd_s]
              · rw [upd_n e]; exact h6 k (by omega)) (fun k hk => by
              by_cases e : k = i
              · rw [e]; exact q1
              · exact q2 k (by omega)) (by omega)) (n - 0 + 1) 0 _ (Nat.zero_le _) (by rw [upd_s]; rfl) (fun k hk => by rw [upd_n (by omega)]; exact h5 k hk) (Nat.lt_succ_self _)
        · refine wq_run2 (pc' := 167) (L' := [(0, .ref 71), (1, .int (nI S)), (2, .int ((nI i) + 1)), (3, .ref (47 + i))]) (S' := []) (f' := (up1 (up1 (up1 f 75 (upd g5 i 0)) 76 (upd g6 i (-1))) 10 gt)) rfl ?_
          refine wq_L (L' := [(0, .ref 71), (1, .int (nI S)), (2, .int (nI (i + 1))), (3, .ref (47 + i))]) (by rw [show nI i + 1 = nI (i + 1) from nI_add _ _]) ?_
          refine wq_run1 (pc' := 2) (L' := [(0, .ref 71), (1, .int (nI S)), (2, .int (nI (i + 1)))]) (S' := []) (f' := (up1 (up1 (up1 f 75 (upd g5 i 0)) 76 (upd g6 i (-1))) 10 gt)) rfl ?_
          have hz : mkM (edB W w to fr en wr sa wa S i) n = 0 := mk_0 n (fun j _ q => by
            have q := of_decide_eq_true q
            exact c_50 q.2.1)
          exact ih (i + 1) _ _ gt (by omega) (fun k hk => by
            by_cases e : k = i
            · rw [e, upd_s]
            · rw [upd_n e]; exact h6 k (by omega)) (fun k hk => by
            by_cases e : k = i
            · rw [e, upd_s, hz]; rfl
            · rw [upd_n e]; exact h5 k (by omega)) (by omega)
theorem sp_findWashable {f : HI} {W : Nat → Nat → Nat} {w n wa S : Nat} {to fr en wr : Nat → Nat} {sa : Nat → Int32} (hL : LaC f W w) (hF : LfC f n wa to fr en wr sa) (hS : S < 2 ^ n) : Sp 4 78 [.ref 71, .int (nI S)] f (fun v f' => v = none ∧ ∃ g5 g6 gt, f' = (up1 (up1 (up1 f 75 g5) 76 g6) 10 gt) ∧ (∀ k, k < n → g6 k = -1) ∧ ∀ k, k < n → g5 k = nI (mkM (edB W w to fr en wr sa wa S k) n)) := by
  show wq 4 78 (fun v f' => v = none ∧ ∃ g5 g6 gt, f' = (up1 (up1 (up1 f 75 g5) 76 g6) 10 gt) ∧ (∀ k, k < n → g6 k = -1) ∧ ∀ k, k < n → g5 k = nI (mkM (edB W w to fr en wr sa wa S k) n)) 0 [(0, .ref 71), (1, .int (nI S))] [] f
  refine wq_run2 (pc' := 2) (L' := [(0, .ref 71), (1, .int (nI S)), (2, .int 0)]) (S' := []) (f' := f) rfl ?_
  have h9 := lp_wash hL hF hS (n - 0 + 1) 0 (f 75) (f 76) (f 10) (Nat.zero_le _) (fun k q => absurd q (Nat.not_lt_zero _)) (fun k q => absurd q (Nat.not_lt_zero _)) (Nat.lt_succ_self _)
  rw [up1_id f 75, up1_id f 76, up1_id f 10] at h9
  exact h9
