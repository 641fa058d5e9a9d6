/-! bits of 24, how many of them; rows of letters, over numbers -/
theorem us_h (x : Nat) (hx : x < 2 ^ 32) (u : UInt32) (k : Nat) (hu : u.toNat % 32 = k) : ((nI x).toUInt32 >>> u).toInt32 = nI (x / 2 ^ k) := by
  apply Int32.toBitVec_inj.1
  apply BitVec.eq_of_toNat_eq
  show ((UInt32.ofNat x) >>> u).toNat = (BitVec.ofNat 32 (x / 2 ^ k)).toNat
  rw [UInt32.toNat_shiftRight, hu, Nat.shiftRight_eq_div_pow, BitVec.toNat_ofNat, UInt32.toNat_ofNat', Nat.mod_eq_of_lt hx, Nat.mod_eq_of_lt (Nat.lt_of_le_of_lt (Nat.div_le_self _ _) hx)]
theorem nx_and (a b : Nat) : nI a &&& nI b = nI (a &&& b) := by
  apply Int32.toBitVec_inj.1
  show BitVec.ofNat 32 a &&& BitVec.ofNat 32 b = BitVec.ofNat 32 (a &&& b)
  apply BitVec.eq_of_getLsbD_eq
  intro i hi
  simp [hi]
theorem mkk {x m : Nat} (k : Nat) (hx : x < 2 ^ k) : x &&& m = x &&& (m % 2 ^ k) := by
  apply Nat.eq_of_testBit_eq
  intro i
  rw [Nat.testBit_and, Nat.testBit_and, Nat.testBit_mod_two_pow]
  by_cases c : i < k
  · rw [decide_eq_true c, Bool.true_and]
  · rw [Nat.testBit_lt_two_pow (Nat.lt_of_lt_of_le hx (Nat.pow_le_pow_right (by decide) (by omega))), Bool.false_and, Bool.false_and]
theorem and_sp {a b c d : Nat} (hb : b < 256) (hd : d < 256) : (256 * a + b) &&& (256 * c + d) = 256 * (a &&& c) + (b &&& d) := by
  apply Nat.eq_of_testBit_eq
  intro i
  have e : (256 : Nat) = 2 ^ 8 := rfl
  have hbd : b &&& d < 2 ^ 8 := Nat.lt_of_le_of_lt Nat.and_le_left hb
  rw [Nat.testBit_and, e, Nat.testBit_two_pow_mul_add a hb, Nat.testBit_two_pow_mul_add c hd, Nat.testBit_two_pow_mul_add _ hbd, Nat.testBit_and, Nat.testBit_and]
  split <;> rfl
def aaN (s : Nat) : Nat := s - (s / 2 &&& 1431655765)
def bbN (a : Nat) : Nat := (a &&& 858993459) + (a / 4 &&& 858993459)
def ccM (b : Nat) : Nat := (b + b / 16) &&& 252645135
theorem aa_k : ∀ e, e < 2 → ∀ l, l < 256 → ((128 * e + l / 2) &&& 85) = (l / 2 &&& 85) := by decide +kernel
theorem bb_k : ∀ e, e < 4 → ∀ l, l < 256 → ((64 * e + l / 4) &&& 51) = (l / 4 &&& 51) ∧ (l &&& 51) + (l / 4 &&& 51) < 256 := by decide +kernel
theorem cc_k : ∀ e, e < 5 → ∀ l, l < 69 → ((l + l / 16 + 16 * e) &&& 15) = ((l + l / 16) &&& 15) := by decide +kernel
theorem ab_k : ∀ l, l < 256 → bbN (aaN l) < 69 ∧ bbN (aaN l) % 16 < 5 ∧ ccM (bbN (aaN l)) = pcN 8 l := by decide +kernel
theorem aa_sp {h l : Nat} (hh : h < 65536) (hl : l < 256) : aaN (256 * h + l) = 256 * aaN h + aaN l := by
  unfold aaN
  rw [show (256 * h + l) / 2 = 256 * (h / 2) + (128 * (h % 2) + l / 2) by omega, show (1431655765 : Nat) = 256 * 5592405 + 85 from rfl, and_sp (by omega) (by decide), aa_k _ (by omega) l hl]
  rw [show (256 * 5592405 + 85 : Nat) = 1431655765 from rfl, mkk (x := h / 2) (m := 1431655765) 24 (by omega), mkk (x := l / 2) (m := 1431655765) 8 (by omega), show (1431655765 : Nat) % 2 ^ 24 = 5592405 from rfl, show (1431655765 : Nat) % 2 ^ 8 = 85 from rfl]
  have h1 : (h / 2 &&& 5592405) ≤ h / 2 := Nat.and_le_left
  have h2 : (l / 2 &&& 85) ≤ l / 2 := Nat.and_le_left
  omega
theorem bb_sp {h l : Nat} (hh : h < 65536) (hl : l < 256) : bbN (256 * h + l) = 256 * bbN h + bbN l := by
  unfold bbN
  rw [show (256 * h + l) / 4 = 256 * (h / 4) + (64 * (h % 4) + l / 4) by omega, show (858993459 : Nat) = 256 * 3355443 + 51 from rfl, and_sp hl (by decide), and_sp (by omega) (by decide), (bb_k _ (by omega) l hl).1]
  rw [show (256 * 3355443 + 51 : Nat) = 858993459 from rfl, mkk (x := h) (m := 858993459) 24 (by omega), mkk (x := h / 4) (m := 858993459) 24 (by omega), mkk (x := l) (m := 858993459) 8 (by omega), mkk (x := l / 4) (m := 858993459) 8 (by omega), show (858993459 : Nat) % 2 ^ 24 = 3355443 from rfl, show (858993459 : Nat) % 2 ^ 8 = 51 from rfl]
  omega
theorem cc_sp {h l : Nat} (hh : h < 65536) (h4 : h % 16 < 5) (hl : l < 69) : ccM (256 * h + l) = 256 * ccM h + ccM l := by
  unfold ccM
  rw [show 256 * h + l + (256 * h + l) / 16 = 256 * (h + h / 16) + (l + l / 16 + 16 * (h % 16)) by omega, show (252645135 : Nat) = 256 * 986895 + 15 from rfl, and_sp (by omega) (by decide), cc_k _ h4 l hl]
  rw [show (256 * 986895 + 15 : Nat) = 252645135 from rfl, mkk (x := h + h / 16) (m := 252645135) 24 (by omega), mkk (x := l + l / 16) (m := 252645135) 8 (by omega), show (252645135 : Nat) % 2 ^ 24 = 986895 from rfl, show (252645135 : Nat) % 2 ^ 8 = 15 from rfl]
theorem aa_le (s : Nat) : aaN s ≤ s := Nat.sub_le _ _
theorem bb_le (a : Nat) : bbN a ≤ a + a / 4 := Nat.add_le_add Nat.and_le_left Nat.and_le_left
theorem ff_3 {a b c : Nat} (ha : a < 256) (hb : b < 256) (hc : c < 256) : ccM (bbN (aaN (256 * (256 * c + b) + a))) = 65536 * pcN 8 c + 256 * pcN 8 b + pcN 8 a := by
  have ka := ab_k a ha
  have kb := ab_k b hb
  have kc := ab_k c hc
  have la := aa_le a
  have lb := aa_le b
  have lc := aa_le c
  rw [aa_sp (by omega) ha, aa_sp (by omega) hb, bb_sp (by omega) (by omega), bb_sp (by omega) (by omega), cc_sp (by omega) (by omega) ka.1, cc_sp (by omega) kc.2.1 kb.1, ka.2.2, kb.2.2, kc.2.2]
  omega
theorem pc_8 : ∀ l, l < 256 → pcN 8 l ≤ 8 := by decide +kernel
theorem bN_hi {h l k : Nat} (hl : l < 2 ^ k) (i : Nat) : bN (2 ^ k * h + l) (k + i) = bN h i := by
  unfold bN
  rw [Nat.pow_add, ← Nat.div_div_eq_div_mul, Nat.mul_add_div (Nat.two_pow_pos k), Nat.div_eq_of_lt hl, Nat.add_zero]
theorem bN_lo {h l k i : Nat} (hl : l < 2 ^ k) (hi : i < k) : bN (2 ^ k * h + l) i = bN l i := by
  have e : (bN (2 ^ k * h + l) i = 1) ↔ (bN l i = 1) := by
    rw [bN_tb, bN_tb, Nat.testBit_two_pow_mul_add h hl, if_pos hi]
  have h1 := bN_lt (2 ^ k * h + l) i
  have h2 := bN_lt l i
  omega
theorem pc_add {h l k : Nat} (hl : l < 2 ^ k) : ∀ m, pcN (k + m) (2 ^ k * h + l) = pcN k l + pcN m h
  | 0 => by
    have : ∀ i, i ≤ k → pcN i (2 ^ k * h + l) = pcN i l := by
      intro i
      induction i with
      | zero => intro _; rfl
      | succ i ih =>
        intro hi
        rw [pcN, pcN, ih (by omega), bN_lo hl (by omega)]
    exact this k (Nat.le_refl _)
  | m + 1 => by
    show pcN (k + m) (2 ^ k * h + l) + bN (2 ^ k * h + l) (k + m) = pcN k l + (pcN m h + bN h m)
    rw [pc_add hl m, bN_hi hl]
    omega
theorem bc_24 {s : Nat} (hs : s < 2 ^ 24) : bcI (nI s) = nI (pcN 24 s) := by
  have ha := aa_le s
  have hb := bb_le (aaN s)
  have hc : ccM (bbN (aaN s)) ≤ bbN (aaN s) + bbN (aaN s) / 16 := Nat.and_le_left
  have m1 : (s / 2 &&& 1431655765) ≤ s := Nat.le_trans Nat.and_le_left (Nat.div_le_self _ _)
  have e1 : nI s - (((nI s).toUInt32 >>> ((1 : Int32).toUInt32 &&& Int32.toUInt32 31)).toInt32 &&& 1431655765) = nI (aaN s) := by
    rw [us_h s (by omega) _ 1 (by decide), show (1431655765 : Int32) = nI 1431655765 from rfl, nx_and, pk_sub m1]
    rfl
  have e2 : (nI (aaN s) &&& 858993459) + (((nI (aaN s)).toUInt32 >>> ((2 : Int32).toUInt32 &&& Int32.toUInt32 31)).toInt32 &&& 858993459) = nI (bbN (aaN s)) := by
    rw [us_h _ (by omega) _ 2 (by decide), show (858993459 : Int32) = nI 858993459 from rfl, nx_and, nx_and, nI_add]
    rfl
  have e3 : (nI (bbN (aaN s)) + ((nI (bbN (aaN s))).toUInt32 >>> ((4 : Int32).toUInt32 &&& Int32.toUInt32 31)).toInt32) &&& 252645135 = nI (ccM (bbN (aaN s))) := by
    rw [us_h _ (by omega) _ 4 (by decide), show (252645135 : Int32) = nI 252645135 from rfl, nI_add, nx_and]
    rfl
  have hf : ccM (bbN (aaN s)) = 65536 * pcN 8 (s / 65536) + 256 * pcN 8 (s / 256 % 256) + pcN 8 (s % 256) := by
    rw [← ff_3 (a := s % 256) (b := s / 256 % 256) (c := s / 65536) (by omega) (by omega) (by omega), show 256 * (256 * (s / 65536) + s / 256 % 256) + s % 256 = s by omega]
  have k1 := pc_8 (s % 256) (by omega)
  have k2 := pc_8 (s / 256 % 256) (by omega)
  have k3 := pc_8 (s / 65536) (by omega)
  have hp : pcN 24 s = pcN 8 (s % 256) + (pcN 8 (s / 256 % 256) + pcN 8 (s / 65536)) := by
    have p1 := pc_add (h := s / 256) (l := s % 256) (k := 8) (by omega) 16
    have p2 := pc_add (h := s / 65536) (l := s / 256 % 256) (k := 8) (by omega) 8
    rw [show 2 ^ 8 * (s / 256) + s % 256 = s by omega] at p1
    rw [show 2 ^ 8 * (s / 65536) + s / 256 % 256 = s / 256 by omega] at p2
    exact p1.trans (congrArg (fun z => pcN 8 (s % 256) + z) p2)
  unfold bcI
  dsimp only
  rw [e1, e2, e3, us_h _ (by omega) _ 8 (by decide), nI_add, us_h _ (by omega) _ 16 (by decide), nI_add, show (63 : Int32) = nI 63 from rfl, nx_and, show (63 : Nat) = 2 ^ 6 - 1 from rfl, Nat.and_two_pow_sub_one_eq_mod, hp, hf]
  generalize pcN 8 (s / 65536) = z at *
  generalize pcN 8 (s / 256 % 256) = y at *
  generalize pcN 8 (s % 256) = x at *
  have q1 : (65536 * z + 256 * y + x) / 2 ^ 8 = 256 * z + y := by omega
  rw [q1]
  have q2 : (65536 * z + 256 * y + x + (256 * z + y)) / 2 ^ 16 = z := by omega
  rw [q2]
  exact congrArg nI (by omega)
theorem andnot24 {S s : Nat} (hS : S < 2 ^ 24) : nI S &&& (nI s ^^^ (-1)) = nI (S &&& ((2 ^ 24 - 1) ^^^ s)) := by
  apply Int32.toBitVec_inj.1
  show BitVec.ofNat 32 S &&& (BitVec.ofNat 32 s ^^^ BitVec.allOnes 32) = BitVec.ofNat 32 (S &&& ((2 ^ 24 - 1) ^^^ s))
  apply BitVec.eq_of_getLsbD_eq
  intro i hi
  rw [BitVec.getLsbD_and, BitVec.getLsbD_xor, BitVec.getLsbD_ofNat, BitVec.getLsbD_ofNat, BitVec.getLsbD_ofNat, BitVec.getLsbD_allOnes, Nat.testBit_and, Nat.testBit_xor, Nat.testBit_two_pow_sub_one]
  rcases Nat.lt_or_ge i 24 with c | c
  · simp [hi, c]
  · rw [Nat.testBit_lt_two_pow (Nat.lt_of_lt_of_le hS (Nat.pow_le_pow_right (by decide) c))]
    simp
theorem un_bit {S s j : Nat} (hS : S < 2 ^ 24) (hj : j < 24) : (nI S &&& (nI s ^^^ (-1))) &&& nI (2 ^ j) = nI (if bN S j = 1 ∧ bN s j = 0 then 2 ^ j else 0) := by
  rw [andnot24 hS, nx_and]
  apply congrArg
  apply Nat.eq_of_testBit_eq
  intro i
  have b1 : (bN S j = 1 ∧ bN s j = 0) ↔ (S.testBit j = true ∧ ¬ s.testBit j = true) := by rw [bN_0, bN_tb, bN_tb]
  rw [Nat.testBit_and, Nat.testBit_and, Nat.testBit_xor, Nat.testBit_two_pow_sub_one, Nat.testBit_two_pow]
  by_cases e : j = i
  · rw [← e, decide_eq_true (rfl : j = j), decide_eq_true hj]
    by_cases c : bN S j = 1 ∧ bN s j = 0
    · rw [if_pos c, Nat.testBit_two_pow, decide_eq_true (rfl : j = j), (b1.mp c).1, Bool.eq_false_iff.mpr (b1.mp c).2]
      rfl
    · rw [if_neg c, Nat.zero_testBit]
      have c2 := fun q => c (b1.mpr q)
      revert c2
      cases S.testBit j <;> cases s.testBit j <;> simp
  · rw [decide_eq_false e, Bool.and_false]
    by_cases c : bN S j = 1 ∧ bN s j = 0
    · rw [if_pos c, Nat.testBit_two_pow, decide_eq_false e]
    · rw [if_neg c, Nat.zero_testBit]
theorem un_0 {S s j : Nat} (hS : S < 2 ^ 24) (hj : j < 24) : (nI S &&& (nI s ^^^ (-1))) &&& nI (2 ^ j) = 0 ↔ ¬ (bN S j = 1 ∧ bN s j = 0) := by
  rw [un_bit hS hj]
  have hp : 2 ^ j ≤ 2 ^ 23 := Nat.pow_le_pow_right (by decide) (by omega)
  have hp1 := Nat.two_pow_pos j
  by_cases c : bN S j = 1 ∧ bN s j = 0
  · rw [if_pos c]
    exact ⟨fun q => absurd q (nI_ne0 hp1 (by omega)), fun q => absurd c q⟩
  · rw [if_neg c]
    exact ⟨fun _ => c, fun _ => nI_0⟩
theorem pcq_le : ∀ k s, pcN k s ≤ k
  | 0, _ => Nat.le_refl _
  | k + 1, s => by
    have := pcq_le k s
    have := bN_lt s k
    rw [pcN]; omega
theorem pcq_full : ∀ k s, k ≤ pcN k s → ∀ i, i < k → bN s i = 1
  | 0, _, _, i, hi => absurd hi (Nat.not_lt_zero _)
  | k + 1, s, h, i, hi => by
    have h1 := pcq_le k s
    have h2 := bN_lt s k
    rw [pcN] at h
    by_cases c : i = k
    · rw [c]; omega
    · exact pcq_full k s (by omega) i (by omega)
theorem pc_or {s j : Nat} (hj : bN s j = 0) : ∀ k, pcN k (s ||| 2 ^ j) = pcN k s + (if j < k then 1 else 0)
  | 0 => rfl
  | k + 1 => by
    rw [pcN, pcN, pc_or hj k]
    have h1 := bN_lt (s ||| 2 ^ j) k
    have h2 := bN_lt s k
    by_cases c : j = k
    · have h3 : bN (s ||| 2 ^ j) k = 1 := bN_or.mpr (Or.inr c.symm)
      rw [h3, if_neg (by omega), if_pos (by omega), ← c, hj]
    · have h3 : bN (s ||| 2 ^ j) k = bN s k := by
        have e : bN (s ||| 2 ^ j) k = 1 ↔ bN s k = 1 := ⟨fun q => (bN_or.mp q).resolve_right (fun z => c z.symm), fun q => bN_or.mpr (Or.inl q)⟩
        omega
      rw [h3]
      by_cases c2 : j < k
      · rw [if_pos c2, if_pos (by omega)]; omega
      · rw [if_neg c2, if_neg (by omega)]; omega
theorem pc_hu (B : Nat → Bool) (s : Nat) : ∀ k, (∀ i, i < k → (B i = true ↔ bN s i = 1)) → huC B k = pcN k s
  | 0, _ => rfl
  | k + 1, h => by
    have h2 := bN_lt s k
    rw [huC, pcN, pc_hu B s k (fun i q => h i (by omega))]
    by_cases c : B k = true
    · rw [if_pos c, (h k (by omega)).mp c]
    · rw [if_neg c]
      have : ¬ bN s k = 1 := fun q => c ((h k (by omega)).mpr q)
      omega
/-! rows -/
theorem hu_rm {X : Nat → Bool} {l0 : Nat} : ∀ m, X l0 = true → huC X m = huC (fun l => X l && !decide (l = l0)) m + (if l0 < m then 1 else 0)
  | 0, _ => rfl
  | m + 1, h => by
    rw [huC, huC, hu_rm m h]
    by_cases c : m = l0
    · rw [c, if_pos h, if_neg (show ¬ ((X l0 && !decide (l0 = l0)) = true) by rw [decide_eq_true (rfl : l0 = l0)]; simp), if_neg (Nat.lt_irrefl _), if_pos (Nat.lt_succ_self _)]
    · have e : (X m && !decide (m = l0)) = X m := by rw [decide_eq_false c]; simp
      rw [e]
      by_cases c2 : l0 < m
      · rw [if_pos c2, if_pos (show l0 < m + 1 by omega)]; split <;> omega
      · rw [if_neg c2, if_neg (show ¬ l0 < m + 1 by omega)]; split <;> omega
theorem rel_inj {Rl : Nat → Nat → Prop} {P : Nat → Bool} {m : Nat} : ∀ (n : Nat) (X : Nat → Bool), (∀ j, j < n → P j = true → ∃ l, l < m ∧ X l = true ∧ Rl j l) → (∀ j j' l, Rl j l → Rl j' l → j = j') → huC P n ≤ huC X m
  | 0, _, _, _ => Nat.zero_le _
  | n + 1, X, h, hi => by
    rw [huC]
    by_cases c : P n = true
    · obtain ⟨l0, hl, hx, hr⟩ := h n (Nat.lt_succ_self _) c
      rw [if_pos c, hu_rm m hx, if_pos hl]
      refine Nat.succ_le_succ (rel_inj n _ (fun j hj hp => ?_) hi)
      obtain ⟨l, h1, h2, h3⟩ := h j (by omega) hp
      refine ⟨l, h1, ?_, h3⟩
      have : l ≠ l0 := fun q => by
        have := hi j n l0 (q ▸ h3) hr
        omega
      rw [h2, decide_eq_false this]
      rfl
    · rw [if_neg c]
      exact rel_inj n X (fun j hj hp => h j (by omega) hp) hi
def KuI (N M : Nat → Nat → Prop) (R : Nat → Prop) (n i : Nat) : Prop := (∀ p q, M p q → p < n ∧ q < n ∧ N p q) ∧ (∀ p p' q, M p q → M p' q → p = p') ∧ (∀ p q q', M p q → M p q' → q = q') ∧ (∀ q, R q → ∃ p, M p q ∧ ∀ q', N p q' → R q') ∧ ∀ p, p < i → (∃ q, M p q) ∨ ∀ q, N p q → R q
theorem ku_le {N M M2 : Nat → Nat → Prop} {R : Nat → Prop} {n : Nat} {B B2 : Nat → Bool} (h : KuI N M R n n) (h1 : ∀ b a, M2 b a → b < n ∧ a < n ∧ N a b) (h2 : ∀ b b' a, M2 b a → M2 b' a → b = b') (hB : ∀ l, B l = true ↔ ∃ j, M l j) (hB2 : ∀ b, B2 b = true ↔ ∃ a, M2 b a) : huC B2 n ≤ huC B n := by
  obtain ⟨k1, k2, k3, k4, k5⟩ := h
  refine rel_inj (Rl := fun b l => (R b ∧ M l b) ∨ (¬ R b ∧ M2 b l)) n B (fun b hb hp => ?_) (fun b b' l q q' => ?_)
  · obtain ⟨a, ha⟩ := (hB2 b).mp hp
    by_cases c : R b
    · obtain ⟨p, hp2, _⟩ := k4 b c
      exact ⟨p, (k1 p b hp2).1, (hB p).mpr ⟨b, hp2⟩, Or.inl ⟨c, hp2⟩⟩
    · obtain ⟨_, e2, e3⟩ := h1 b a ha
      rcases k5 a e2 with z | z
      · exact ⟨a, e2, (hB a).mpr z, Or.inr ⟨c, ha⟩⟩
      · exact absurd (z b e3) c
  · rcases q with ⟨q1, q2⟩ | ⟨q1, q2⟩
    · rcases q' with ⟨r1, r2⟩ | ⟨r1, r2⟩
      · exact k3 l b b' q2 r2
      · obtain ⟨p, z1, z2⟩ := k4 b q1
        have e := k2 p l b z1 q2
        rw [e] at z2
        exact absurd (z2 b' (h1 b' l r2).2.2) r1
    · rcases q' with ⟨r1, r2⟩ | ⟨r1, r2⟩
      · obtain ⟨p, z1, z2⟩ := k4 b' r1
        have e := k2 p l b' z1 r2
        rw [e] at z2
        exact absurd (z2 b (h1 b l q2).2.2) q1
      · exact h2 b b' l q2 r2
theorem ku_eq {N M M2 : Nat → Nat → Prop} {R R2 : Nat → Prop} {n : Nat} {B B2 : Nat → Bool} (h : KuI N M R n n) (h2 : KuI (fun b a => N a b) M2 R2 n n) (hB : ∀ l, B l = true ↔ ∃ j, M l j) (hB2 : ∀ b, B2 b = true ↔ ∃ a, M2 b a) : huC B n = huC B2 n := Nat.le_antisymm (ku_le h2 (fun b a q => h.1 b a q) h.2.1 hB2 hB) (ku_le h (fun b a q => h2.1 b a q) h2.2.1 hB hB2)
/-- how often p stands in a -/
def cnA (a : Nat → Nat) (p n : Nat) : Nat := huC (fun j => decide (a j = p)) n
theorem ca_upd {a : Nat → Nat} {j v p : Nat} : ∀ n, cnA (updN a j v) p n + (if j < n ∧ a j = p then 1 else 0) = cnA a p n + (if j < n ∧ v = p then 1 else 0)
  | 0 => by rw [if_neg (fun q => absurd q.1 (Nat.not_lt_zero _)), if_neg (fun q => absurd q.1 (Nat.not_lt_zero _))]; rfl
  | n + 1 => by
    have h1 := ca_upd (a := a) (j := j) (v := v) (p := p) n
    unfold cnA at h1 ⊢
    rw [huC, huC]
    by_cases c : n = j
    · have e : updN a j v n = v := by unfold updN; exact if_pos c
      rw [if_neg (fun q => by omega), if_neg (fun q => by omega)] at h1
      rw [show decide (updN a j v n = p) = decide (v = p) by rw [e], show decide (a n = p) = decide (a j = p) by rw [c]]
      by_cases c1 : a j = p <;> by_cases c2 : v = p
      · rw [if_pos (decide_eq_true c2), if_pos ⟨by omega, c1⟩, if_pos (decide_eq_true c1), if_pos ⟨by omega, c2⟩]; omega
      · rw [if_neg (by rw [decide_eq_false c2]; decide), if_pos ⟨by omega, c1⟩, if_pos (decide_eq_true c1), if_neg (fun q => c2 q.2)]; omega
      · rw [if_pos (decide_eq_true c2), if_neg (fun q => c1 q.2), if_neg (by rw [decide_eq_false c1]; decide), if_pos ⟨by omega, c2⟩]; omega
      · rw [if_neg (by rw [decide_eq_false c2]; decide), if_neg (fun q => c1 q.2), if_neg (by rw [decide_eq_false c1]; decide), if_neg (fun q => c2 q.2)]; omega
    · have e : updN a j v n = a n := by unfold updN; exact if_neg c
      rw [show decide (updN a j v n = p) = decide (a n = p) by rw [e], hu_ite (show (j < n + 1 ∧ a j = p) ↔ (j < n ∧ a j = p) from ⟨fun q => ⟨by omega, q.2⟩, fun q => ⟨by omega, q.2⟩⟩), hu_ite (show (j < n + 1 ∧ v = p) ↔ (j < n ∧ v = p) from ⟨fun q => ⟨by omega, q.2⟩, fun q => ⟨by omega, q.2⟩⟩)]
      split <;> omega
theorem ca_ge {a : Nat → Nat} {p j : Nat} (h : a j = p) : ∀ n, j < n → 1 ≤ cnA a p n
  | 0, q => absurd q (Nat.not_lt_zero _)
  | n + 1, q => by
    unfold cnA
    rw [huC]
    by_cases c : j = n
    · rw [if_pos (decide_eq_true (c ▸ h))]; omega
    · have := ca_ge h n (by omega)
      unfold cnA at this
      split <;> omega
theorem ca_2 {a : Nat → Nat} {p j j' : Nat} (h : a j = p) (h' : a j' = p) (hj : j < j') : ∀ n, j' < n → 2 ≤ cnA a p n
  | 0, q => absurd q (Nat.not_lt_zero _)
  | n + 1, q => by
    unfold cnA
    rw [huC]
    by_cases c : j' = n
    · rw [if_pos (decide_eq_true (c ▸ h'))]
      have := ca_ge h n (by omega)
      unfold cnA at this
      omega
    · have := ca_2 h h' hj n (by omega)
      unfold cnA at this
      split <;> omega
theorem ca_ex {a : Nat → Nat} {p : Nat} : ∀ n, 1 ≤ cnA a p n → ∃ j, j < n ∧ a j = p
  | 0, q => absurd q (by show ¬ 1 ≤ 0; decide)
  | n + 1, q => by
    unfold cnA at q
    rw [huC] at q
    by_cases c : a n = p
    · exact ⟨n, Nat.lt_succ_self _, c⟩
    · rw [if_neg (by rw [decide_eq_false c]; decide)] at q
      obtain ⟨j, h1, h2⟩ := ca_ex (a := a) (p := p) n q
      exact ⟨j, by omega, h2⟩
theorem ca_in {a : Nat → Nat} {p n j j' : Nat} (h : cnA a p n ≤ 1) (h1 : a j = p) (h2 : a j' = p) (hj : j < n) (hj' : j' < n) : j = j' := by
  rcases Nat.lt_trichotomy j j' with c | c | c
  · have := ca_2 h1 h2 c n hj'; omega
  · exact c
  · have := ca_2 h2 h1 c n hj; omega
