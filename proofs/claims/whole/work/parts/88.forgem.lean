/-! stamps: forged of the reference; both sides alike -/
def MbA (bh : Nat → Nat) (n b a : Nat) : Prop := b < n ∧ bh b = a ∧ a < n
def KmP (N : Nat → Nat → Prop) (S n i : Nat) (bh : Nat → Nat) : Prop := (∃ R, KuI (fun b a => N a b) (MbA bh n) R n i) ∧ (∀ p, p < n → cnA bh p n ≤ 1) ∧ (∀ b, i ≤ b → 32 ≤ bh b) ∧ (∀ q, bh q < n ∨ 32 ≤ bh q) ∧ ∀ b, b < n → bh b < n → bN S b = 1
def mbC (bh : Nat → Nat) (n : Nat) : Nat := huC (fun b => decide (bh b < n)) n
def FoM (N : Nat → Nat → Prop) (S n : Nat) (r : Int32) : Prop := (S = 0 → r = 0) ∧ (¬ S = 0 → ∃ M R B, KuI (fun b a => N a b) M R n n ∧ (∀ b, B b = true ↔ ∃ a, M b a) ∧ r = nI (pcN 24 S) - nI (huC B n) - 1)
theorem fo_eq {N : Nat → Nat → Prop} {S n : Nat} {r r' : Int32} (h : FoP N S n r) (h' : FoM N S n r') : r = r' := by
  by_cases c : S = 0
  · rw [h.1 c, h'.1 c]
  · obtain ⟨M, R, B, k1, k2, k3⟩ := h.2 c
    obtain ⟨M2, R2, B2, j1, j2, j3⟩ := h'.2 c
    rw [k3, j3, ku_eq k1 j1 k2 j2]
theorem pc_zero {S : Nat} : ∀ n, pcN n S = 0 → ∀ i, i < n → bN S i = 0
  | 0, _, i, hi => absurd hi (Nat.not_lt_zero _)
  | n + 1, h, i, hi => by
    rw [pcN] at h
    by_cases c : i = n
    · rw [c]; omega
    · exact pc_zero n (by omega) i (by omega)
theorem pc_S {S n : Nat} (hS : S < 2 ^ n) : pcN n S = 0 ↔ S = 0 := by
  constructor
  · intro h
    apply Nat.eq_of_testBit_eq
    intro i
    rw [Nat.zero_testBit]
    by_cases c : i < n
    · cases q : Nat.testBit S i with
      | false => rfl
      | true =>
        have := pc_zero n h i c
        rw [bN_0, bN_tb] at this
        exact absurd q this
    · exact Nat.testBit_lt_two_pow (Nat.lt_of_lt_of_le hS (Nat.pow_le_pow_right (by decide) (by omega)))
  · intro h
    rw [h]
    have z : ∀ k, pcN k 0 = 0 := by
      intro k
      induction k with
      | zero => rfl
      | succ k ih => rw [pcN, ih, bN_0.mpr (bN_zero k)]
    exact z n
section P88
variable {N : Nat → Nat → Prop} {S n i : Nat} {bh bh' : Nat → Nat} {r : Int32}
theorem km_skip (h : KmP N S n i bh) (hN : ∀ a, ¬ N a i) : KmP N S n (i + 1) bh := by
  obtain ⟨⟨R, k1, k2, k3, k4, k5⟩, h1, h2, h3, h4⟩ := h
  refine ⟨⟨R, k1, k2, k3, k4, fun p hp => ?_⟩, h1, fun b q => h2 b (by omega), h3, h4⟩
  by_cases c : p = i
  · exact Or.inr (fun q hq => absurd (c ▸ hq) (hN q))
  · exact k5 p (by omega)
theorem km_fail (h : KmP N S n i bh) (hJ : JnP n N bh i r bh') (hr : r = 0) : bh' = bh ∧ KmP N S n (i + 1) bh := by
  obtain ⟨_, e1, s, e2, e3⟩ := hJ.resolve_right (fun q => q.1 hr)
  obtain ⟨⟨R, k1, k2, k3, k4, k5⟩, h1, h2, h3, h4⟩ := h
  refine ⟨e1, ⟨fun q => R q ∨ bN s q = 1, k1, k2, k3, fun q hq => ?_, fun p hp => ?_⟩, h1, fun b q => h2 b (by omega), h3, h4⟩
  · rcases hq with hq | hq
    · obtain ⟨p, z1, z2⟩ := k4 q hq
      exact ⟨p, z1, fun q' z => Or.inl (z2 q' z)⟩
    · obtain ⟨z1, b, z2, z3, z4⟩ := e2 q hq
      exact ⟨b, ⟨z2, z3, z1⟩, fun q' z => Or.inr (z4 q' z)⟩
  · by_cases c : p = i
    · right
      intro q hq
      rw [c] at hq
      exact Or.inr (e3 q hq)
    · rcases k5 p (by omega) with z | z
      · exact Or.inl z
      · exact Or.inr (fun q hq => Or.inl (z q hq))
theorem km_succ (hn : n ≤ 24) (hi : i < n) (hiS : bN S i = 1) (hNb : ∀ a b, N a b → a < n ∧ b < n) (h : KmP N S n i bh) (hJ : JnP n N bh i r bh') (hr : ¬ r = 0) : KmP N S n (i + 1) bh' ∧ mbC bh' n = mbC bh n + 1 := by
  obtain ⟨_, a0, ha0, hz, t1, t2, t3, t4⟩ := hJ.resolve_left (fun q => hr q.1)
  obtain ⟨⟨R, k1, k2, k3, k4, k5⟩, h1, h2, h3, h4⟩ := h
  have h1' : ∀ p, p < n → cnA bh' p n ≤ 1 := by
    intro p hp
    rw [t1 p hp]
    by_cases c : p = a0
    · rw [if_pos c, c, hz]; exact Nat.le_refl _
    · rw [if_neg c]; exact h1 p hp
  have hR : CloP n N bh R := by
    intro a ha
    obtain ⟨p, z1, z2⟩ := k4 a ha
    exact ⟨z1.2.2, p, z1.1, z1.2.1, z2⟩
  obtain ⟨_, t5⟩ := t4 R hR
  refine ⟨⟨⟨R, fun p q hm => ?_, fun p p' q z z' => ca_in (h1' q z.2.2) z.2.1 z'.2.1 z.1 z'.1, fun p q q' z z' => z.2.1.symm.trans z'.2.1, fun q hq => ?_, fun p hp => ?_⟩, h1', fun b hb => ?_, fun q => ?_, fun b hb1 hb2 => ?_⟩, ?_⟩
  · rcases t2 p with z | ⟨z1, z2, z3, z4⟩
    · exact k1 p q ⟨hm.1, z.symm.trans hm.2.1, hm.2.2⟩
    · exact ⟨hm.1, hm.2.2, by show N q p; rw [← hm.2.1]; exact z4⟩
  · obtain ⟨p, z1, z2⟩ := k4 q hq
    exact ⟨p, ⟨z1.1, (t5 p (Or.inl (by rw [z1.2.1]; exact hq))).trans z1.2.1, z1.2.2⟩, z2⟩
  · by_cases c : p = i
    · rw [c]
      exact Or.inl ⟨bh' i, hi, rfl, t3⟩
    · rcases k5 p (by omega) with ⟨q, z⟩ | z
      · left
        have z9 : bh p < n := by rw [z.2.1]; exact z.2.2
        have : bh' p < n := by
          rcases t2 p with y | ⟨_, _, y, _⟩
          · rw [y]; exact z9
          · exact y
        exact ⟨bh' p, z.1, rfl, this⟩
      · exact Or.inr z
  · have hb2 := h2 b (by omega)
    rcases t2 b with z | ⟨z1, z2, z3, z4⟩
    · rw [z]; exact hb2
    · omega
  · rcases t2 q with z | ⟨z1, z2, z3, z4⟩
    · rw [z]; exact h3 q
    · exact Or.inl z3
  · rcases t2 b with z | ⟨z1, z2, z3, z4⟩
    · rw [z] at hb2; exact h4 b hb1 hb2
    · rcases z2 with z2 | z2
      · exact h4 b hb1 z2
      · rw [z2]; exact hiS
  · refine hu_one n hi (fun p hp hne => ?_) (fun q => ?_) (decide_eq_true t3)
    · show decide (bh' p < n) = decide (bh p < n)
      rw [decide_eq_decide]
      rcases t2 p with z | ⟨z1, z2, z3, z4⟩
      · rw [z]
      · exact ⟨fun _ => z2.resolve_right hne, fun _ => z3⟩
    · have := of_decide_eq_true q
      have := h2 i (Nat.le_refl _)
      omega
theorem km_0 (hn : n ≤ 24) : KmP N S n 0 (fun _ => 999) ∧ mbC (fun _ => 999) n = 0 := by
  have zm : ∀ p q, ¬ MbA (fun _ => 999) n p q := by
    intro p q h
    have h2 : 999 = q := h.2.1
    have := h.2.2
    omega
  refine ⟨⟨⟨fun _ => False, fun p q h => absurd h (zm p q), fun p p' q h _ => absurd h (zm p q), fun p q q' h _ => absurd h (zm p q), fun q h => h.elim, fun p h => absurd h (Nat.not_lt_zero _)⟩, fun p hp => ?_, fun _ _ => (show 32 ≤ 999 by decide), fun _ => Or.inr (show 32 ≤ 999 by decide), fun b _ h => ?_⟩, ?_⟩
  · apply Nat.le_trans (Nat.le_of_not_lt (fun q : 0 < cnA (fun _ => 999) p n => ?_)) (Nat.zero_le _)
    obtain ⟨j, _, j2⟩ := ca_ex n q
    have j2 : 999 = p := j2
    omega
  · have h : 999 < n := h
    omega
  · have zz : ∀ k, huC (fun b => decide ((fun _ => 999 : Nat → Nat) b < n)) k = 0 := by
      intro k
      induction k with
      | zero => rfl
      | succ k ih =>
        rw [huC, if_neg (fun q => by
          have q2 : 999 < n := of_decide_eq_true q
          omega)]
        exact ih
    exact zz n
theorem km_B (h : ∀ b, b < n → bh b < n → True) (b : Nat) : (decide (b < n ∧ bh b < n) = true) ↔ ∃ a, MbA bh n b a := by
  rw [decide_eq_true_iff]
  constructor
  · rintro ⟨h1, h2⟩
    exact ⟨bh b, h1, rfl, h2⟩
  · rintro ⟨a, h1, h2, h3⟩
    exact ⟨h1, by rw [h2]; exact h3⟩
theorem mb_B : mbC bh n = huC (fun b => decide (b < n ∧ bh b < n)) n := (hu_c n (fun p hp => by
  show decide (p < n ∧ bh p < n) = decide (bh p < n)
  rw [decide_eq_decide]
  exact ⟨fun q => q.2, fun q => ⟨hp, q⟩⟩)).symm
end P88
theorem mlp_forge2 {f : HI} {W : Nat → Nat → Nat} {w n wa S : Nat} {to fr en wr : Nat → Nat} {sa : Nat → Int32} (hM : LaM f W w) (hF : LfM f n wa to fr en wr sa) (hS : S < 2 ^ n) : ∀ (m9 : Nat) (i : Nat) (gb : Nat → Int32) (gq : Nat → Int32) (gc : Nat → Int32) (g : Nat → Int32) (bh : Nat → Nat), (i ≤ n) → (∀ k, k < n → gb k = rI (bh k)) → (KmP (NeD W w to fr en wr sa wa S n) S n i bh) → n - i < m9 → wq 7 190 (fun v f' => ∃ r gb gq gc g, v = some (.int r) ∧ f' = (up1 (up1 (up1 (up1 f 138 gb) 139 gq) 140 gc) 136 g) ∧ FoM (NeD W w to fr en wr sa wa S n) S n r) 73 [(0, .ref 92), (2, .int (nI S)), (3, .int (nI (pcN n S) - nI (mbC bh n))), (4, .int (nI (pcN n S))), (5, .int (nI i))] [] (up1 (up1 (up1 (up1 f 138 gb) 139 gq) 140 gc) 136 g) := by
  intro m9
  induction m9 with
  | zero => intro i gb gq gc g bh hi hg hW hn; exact absurd hn (Nat.not_lt_zero _)
  | succ m9 ih =>
    intro i gb gq gc g bh hi hg hW hn
    have hn24 := hF.2.1
    have hS24 : S < 2 ^ 24 := Nat.lt_of_lt_of_le hS (Nat.pow_le_pow_right (by decide) hn24)
    have hbl := bN_lt S i
    have hpc := pcq_le n S
    refine wq_run3 (pc' := 79) (L' := [(0, .ref 92), (2, .int (nI S)), (3, .int (nI (pcN n S) - nI (mbC bh n))), (4, .int (nI (pcN n S))), (5, .int (nI i))]) (S' := [.int (f 92 35), .int (nI i)]) (f' := (up1 (up1 (up1 (up1 f 138 gb) 139 gq) 140 gc) 136 g)) rfl ?_
    refine wq_v (y := (nI n)) (hF.1) ?_
    refine wq_if (c := (nI n) ≤ (nI i)) (p1 := 116) (L1 := [(0, .ref 92), (2, .int (nI S)), (3, .int (nI (pcN n S) - nI (mbC bh n))), (4, .int (nI (pcN n S))), (5, .int (nI i))]) (S1 := []) (p2 := 82) (L2 := [(0, .ref 92), (2, .int (nI S)), (3, .int (nI (pcN n S) - nI (mbC bh n))), (4, .int (nI (pcN n S))), (5, .int (nI i))]) (S2 := []) rfl (fun c_79 => ?_) (fun c_79 => ?_)
    · have k_79 : n ≤ i := (nI_leI (a := n) (b := i) (by omega) (by omega)).mp c_79
      refine wq_run1 (pc' := 118) (L' := [(0, .ref 92), (2, .int (nI S)), (3, .int (nI (pcN n S) - nI (mbC bh n))), (4, .int (nI (pcN n S))), (5, .int (nI i))]) (S' := [.int (nI (pcN n S))]) (f' := (up1 (up1 (up1 (up1 f 138 gb) 139 gq) 140 gc) 136 g)) rfl ?_
      refine wq_if (c := (nI (pcN n S)) = 0) (p1 := 121) (L1 := [(0, .ref 92), (2, .int (nI S)), (3, .int (nI (pcN n S) - nI (mbC bh n))), (4, .int (nI (pcN n S))), (5, .int (nI i))]) (S1 := []) (p2 := 125) (L2 := [(0, .ref 92), (2, .int (nI S)), (3, .int (nI (pcN n S) - nI (mbC bh n))), (4, .int (nI (pcN n S))), (5, .int (nI i))]) (S2 := []) rfl (fun c_118 => ?_) (fun c_118 => ?_)
      · have k_118 : (pcN n S) = 0 := (nI_eq (a := (pcN n S)) (b := 0) (by omega) (by omega)).mp c_118
        refine wq_run2 (pc' := 128) (L' := [(0, .ref 92), (2, .int (nI S)), (3, .int (nI (pcN n S) - nI (mbC bh n))), (4, .int (nI (pcN n S))), (5, .int (nI i))]) (S' := [.int 0]) (f' := (up1 (up1 (up1 (up1 f 138 gb) 139 gq) 140 gc) 136 g)) rfl ?_
        exact wq_ret rfl ⟨0, gb, gq, gc, g, rfl, rfl, fun _ => rfl, fun z => absurd ((pc_S hS).mp k_118) z⟩
      · have k_118 : ¬ (pcN n S) = 0 := fun q => c_118 ((nI_eq (a := (pcN n S)) (b := 0) (by omega) (by omega)).mpr q)
        refine wq_run3 (pc' := 128) (L' := [(0, .ref 92), (2, .int (nI S)), (3, .int (nI (pcN n S) - nI (mbC bh n))), (4, .int (nI (pcN n S))), (5, .int (nI i))]) (S' := [.int ((nI (pcN n S) - nI (mbC bh n)) - 1)]) (f' := (up1 (up1 (up1 (up1 f 138 gb) 139 gq) 140 gc) 136 g)) rfl ?_
        have e : i = n := by omega
        rw [e] at hW
        obtain ⟨⟨R, q4⟩, _⟩ := hW
        exact wq_ret rfl ⟨_, gb, gq, gc, g, rfl, rfl, fun z => absurd ((pc_S hS).mpr z) k_118, fun _ => ⟨_, R, _, q4, km_B (fun _ _ _ => trivial), by rw [mb_B, ← pc_up hS (24 - n), show n + (24 - n) = 24 by omega]⟩⟩
    · have k_79 : ¬ n ≤ i := fun q => c_79 ((nI_leI (a := n) (b := i) (by omega) (by omega)).mpr q)
      have hin : i < n := by omega
      refine wq_run5 (pc' := 88) (L' := [(0, .ref 92), (2, .int (nI S)), (3, .int (nI (pcN n S) - nI (mbC bh n))), (4, .int (nI (pcN n S))), (5, .int (nI i))]) (S' := [.int (((nI S) >>> ((nI i) &&& 31)) &&& 1)]) (f' := (up1 (up1 (up1 (up1 f 138 gb) 139 gq) 140 gc) 136 g)) rfl ?_
      refine wq_v (y := (nI (bN S i))) (bitN (by omega) (by omega)) ?_
      refine wq_run1 (pc' := 89) (L' := [(0, .ref 92), (2, .int (nI S)), (3, .int (nI (pcN n S) - nI (mbC bh n))), (4, .int (nI (pcN n S))), (5, .int (nI i))]) (S' := [.int 1, .int (nI (bN S i))]) (f' := (up1 (up1 (up1 (up1 f 138 gb) 139 gq) 140 gc) 136 g)) rfl ?_
      refine wq_if (c := (nI (bN S i)) = 1) (p1 := 92) (L1 := [(0, .ref 92), (2, .int (nI S)), (3, .int (nI (pcN n S) - nI (mbC bh n))), (4, .int (nI (pcN n S))), (5, .int (nI i))]) (S1 := []) (p2 := 110) (L2 := [(0, .ref 92), (2, .int (nI S)), (3, .int (nI (pcN n S) - nI (mbC bh n))), (4, .int (nI (pcN n S))), (5, .int (nI i))]) (S2 := []) rfl (fun c_89 => ?_) (fun c_89 => ?_)
      · have k_89 : (bN S i) = 1 := (nI_eq (a := (bN S i)) (b := 1) (by omega) (by omega)).mp c_89
        refine wq_run4 (pc' := 97) (L' := [(0, .ref 92), (2, .int (nI S)), (3, .int (nI (pcN n S) - nI (mbC bh n))), (4, .int (nI (pcN n S))), (5, .int (nI i))]) (S' := [.int (nI i), .int (nI S), .ref 92, .int (nI (pcN n S) - nI (mbC bh n))]) (f' := (up1 (up1 (up1 (up1 f 138 gb) 139 gq) 140 gc) 136 g)) rfl ?_
        refine wq_call (mp_isJoined (f := (up1 (up1 (up1 (up1 f 138 gb) 139 gq) 140 gc) 136 g)) (W := W) (w := w) (n := n) (wa := wa) (S := S) (to := to) (fr := fr) (en := en) (wr := wr) (sa := sa) (bh := bh) (b0 := i) hM hF hS hW.2.2.2.2 hW.2.1 (hW.2.2.1 i (Nat.le_refl _)) hin k_89 hg) (Nat.le_of_ble_eq_true rfl) (pc' := 100) (L' := [(0, .ref 92), (2, .int (nI S)), (3, .int (nI (pcN n S) - nI (mbC bh n))), (4, .int (nI (pcN n S))), (5, .int (nI i))]) (S' := [.int (nI (pcN n S) - nI (mbC bh n))]) rfl (Nat.le_of_ble_eq_true rfl) rfl rfl (Nat.le_of_ble_eq_true rfl) (Nat.le_of_ble_eq_true rfl) ?_
        rintro v f9 ⟨r, gq2, gc2, g2, gb2, bh2, e0, ef, hgb2, hJ⟩
        subst e0
        subst ef
        refine wq_h (f' := (up1 (up1 (up1 (up1 f 138 gb2) 139 gq2) 140 gc2) 136 g2)) (by rw [show up1 (up1 (up1 (up1 (up1 f 138 gb) 139 gq) 140 gc) 136 g) 138 gb2 = _ from (up1_sw (f := (up1 (up1 (up1 f 138 gb) 139 gq) 140 gc)) (g := g) (g' := gb2) (show (138 : Nat) ≠ 136 by decide)).trans (congrArg (fun z => up1 z 136 g) ((up1_sw (f := (up1 (up1 f 138 gb) 139 gq)) (g := gc) (g' := gb2) (show (138 : Nat) ≠ 140 by decide)).trans (congrArg (fun z => up1 z 140 gc) ((up1_sw (f := (up1 f 138 gb)) (g := gq) (g' := gb2) (show (138 : Nat) ≠ 139 by decide)).trans (congrArg (fun z => up1 z 139 gq) (up1_up1 f 138 gb gb2)))))), show up1 (up1 (up1 (up1 (up1 f 138 gb2) 139 gq) 140 gc) 136 g) 139 gq2 = _ from (up1_sw (f := (up1 (up1 (up1 f 138 gb2) 139 gq) 140 gc)) (g := g) (g' := gq2) (show (139 : Nat) ≠ 136 by decide)).trans (congrArg (fun z => up1 z 136 g) ((up1_sw (f := (up1 (up1 f 138 gb2) 139 gq)) (g := gc) (g' := gq2) (show (139 : Nat) ≠ 140 by decide)).trans (congrArg (fun z => up1 z 140 gc) (up1_up1 (up1 f 138 gb2) 139 gq gq2)))), show up1 (up1 (up1 (up1 (up1 f 138 gb2) 139 gq2) 140 gc) 136 g) 140 gc2 = _ from (up1_sw (f := (up1 (up1 (up1 f 138 gb2) 139 gq2) 140 gc)) (g := g) (g' := gc2) (show (140 : Nat) ≠ 136 by decide)).trans (congrArg (fun z => up1 z 136 g) (up1_up1 (up1 (up1 f 138 gb2) 139 gq2) 140 gc gc2)), show up1 (up1 (up1 (up1 (up1 f 138 gb2) 139 gq2) 140 gc2) 136 g) 136 g2 = _ from up1_up1 (up1 (up1 (up1 f 138 gb2) 139 gq2) 140 gc2) 136 g g2]) ?_
        refine wq_if (c := r = 0) (p1 := 107) (L1 := [(0, .ref 92), (2, .int (nI S)), (3, .int (nI (pcN n S) - nI (mbC bh n))), (4, .int (nI (pcN n S))), (5, .int (nI i))]) (S1 := [.int (nI (pcN n S) - nI (mbC bh n))]) (p2 := 103) (L2 := [(0, .ref 92), (2, .int (nI S)), (3, .int (nI (pcN n S) - nI (mbC bh n))), (4, .int (nI (pcN n S))), (5, .int (nI i))]) (S2 := [.int (nI (pcN n S) - nI (mbC bh n))]) rfl (fun c_100 => ?_) (fun c_100 => ?_)
        · refine wq_run4 (pc' := 113) (L' := [(0, .ref 92), (2, .int (nI S)), (3, .int ((nI (pcN n S) - nI (mbC bh n)) - 0)), (4, .int (nI (pcN n S))), (5, .int ((nI i) + 1))]) (S' := []) (f' := (up1 (up1 (up1 (up1 f 138 gb2) 139 gq2) 140 gc2) 136 g2)) rfl ?_
          refine wq_L (L' := [(0, .ref 92), (2, .int (nI S)), (3, .int ((nI (pcN n S) - nI (mbC bh n)) - 0)), (4, .int (nI (pcN n S))), (5, .int (nI (i + 1)))]) (by rw [show nI i + 1 = nI (i + 1) from nI_add _ _]) ?_
          refine wq_run1 (pc' := 73) (L' := [(0, .ref 92), (2, .int (nI S)), (3, .int ((nI (pcN n S) - nI (mbC bh n)) - 0)), (4, .int (nI (pcN n S))), (5, .int (nI (i + 1)))]) (S' := []) (f' := (up1 (up1 (up1 (up1 f 138 gb2) 139 gq2) 140 gc2) 136 g2)) rfl ?_
          obtain ⟨ea, hW2⟩ := km_fail hW hJ c_100
          have h9 := ih (i + 1) gb2 gq2 gc2 g2 bh (by omega) (by rw [ea] at hgb2; exact hgb2) hW2 (by omega)
          rw [← Int32.sub_zero (nI (pcN n S) - nI (mbC bh n))] at h9
          exact h9
        · refine wq_run5 (pc' := 113) (L' := [(0, .ref 92), (2, .int (nI S)), (3, .int ((nI (pcN n S) - nI (mbC bh n)) - 1)), (4, .int (nI (pcN n S))), (5, .int ((nI i) + 1))]) (S' := []) (f' := (up1 (up1 (up1 (up1 f 138 gb2) 139 gq2) 140 gc2) 136 g2)) rfl ?_
          refine wq_L (L' := [(0, .ref 92), (2, .int (nI S)), (3, .int ((nI (pcN n S) - nI (mbC bh n)) - 1)), (4, .int (nI (pcN n S))), (5, .int (nI (i + 1)))]) (by rw [show nI i + 1 = nI (i + 1) from nI_add _ _]) ?_
          refine wq_run1 (pc' := 73) (L' := [(0, .ref 92), (2, .int (nI S)), (3, .int ((nI (pcN n S) - nI (mbC bh n)) - 1)), (4, .int (nI (pcN n S))), (5, .int (nI (i + 1)))]) (S' := []) (f' := (up1 (up1 (up1 (up1 f 138 gb2) 139 gq2) 140 gc2) 136 g2)) rfl ?_
          obtain ⟨hW2, em⟩ := km_succ hn24 hin k_89 (fun a b z => ⟨z.1, z.2.1⟩) hW hJ c_100
          have h9 := ih (i + 1) gb2 gq2 gc2 g2 bh2 (by omega) hgb2 hW2 (by omega)
          rw [em, show nI (pcN n S) - nI (mbC bh n + 1) = nI (pcN n S) - nI (mbC bh n) - 1 from by rw [← nI_1, ← Int32.sub_sub]] at h9
          exact h9
      · have k_89 : ¬ (bN S i) = 1 := fun q => c_89 ((nI_eq (a := (bN S i)) (b := 1) (by omega) (by omega)).mpr q)
        refine wq_run1 (pc' := 113) (L' := [(0, .ref 92), (2, .int (nI S)), (3, .int (nI (pcN n S) - nI (mbC bh n))), (4, .int (nI (pcN n S))), (5, .int ((nI i) + 1))]) (S' := []) (f' := (up1 (up1 (up1 (up1 f 138 gb) 139 gq) 140 gc) 136 g)) rfl ?_
        refine wq_L (L' := [(0, .ref 92), (2, .int (nI S)), (3, .int (nI (pcN n S) - nI (mbC bh n))), (4, .int (nI (pcN n S))), (5, .int (nI (i + 1)))]) (by rw [show nI i + 1 = nI (i + 1) from nI_add _ _]) ?_
        refine wq_run1 (pc' := 73) (L' := [(0, .ref 92), (2, .int (nI S)), (3, .int (nI (pcN n S) - nI (mbC bh n))), (4, .int (nI (pcN n S))), (5, .int (nI (i + 1)))]) (S' := []) (f' := (up1 (up1 (up1 (up1 f 138 gb) 139 gq) 140 gc) 136 g)) rfl ?_
        exact ih (i + 1) gb gq gc g bh (by omega) hg (km_skip hW (fun a z => by
          have q := of_decide_eq_true z.2.2
          exact k_89 q.2.2.1)) (by omega)
theorem mlp_forge1 {f : HI} {W : Nat → Nat → Nat} {w n wa S : Nat} {to fr en wr : Nat → Nat} {sa : Nat → Int32} (hM : LaM f W w) (hF : LfM f n wa to fr en wr sa) (hS : S < 2 ^ n) : ∀ (m9 : Nat) (i : Nat) (gb : Nat → Int32), (i ≤ n) → (∀ k, k < i → gb k = -1) → n - i < m9 → wq 7 190 (fun v f' => ∃ r gb gq gc g, v = some (.int r) ∧ f' = (up1 (up1 (up1 (up1 f 138 gb) 139 gq) 140 gc) 136 g) ∧ FoM (NeD W w to fr en wr sa wa S n) S n r) 26 [(0, .ref 92), (2, .int (nI S)), (3, .int (nI (pcN i S))), (4, .int (nI i))] [] (up1 f 138 gb) := by
  intro m9
  induction m9 with
  | zero => intro i gb hi hg hn; exact absurd hn (Nat.not_lt_zero _)
  | succ m9 ih =>
    intro i gb hi hg hn
    have hn24 := hF.2.1
    have hS24 : S < 2 ^ 24 := Nat.lt_of_lt_of_le hS (Nat.pow_le_pow_right (by decide) hn24)
    have hbl := bN_lt S i
    have hpc := pcq_le n S
    have hpci := pcq_le i S
    refine wq_run3 (pc' := 32) (L' := [(0, .ref 92), (2, .int (nI S)), (3, .int (nI (pcN i S))), (4, .int (nI i))]) (S' := [.int (f 92 35), .int (nI i)]) (f' := (up1 f 138 gb)) rfl ?_
    refine wq_v (y := (nI n)) (hF.1) ?_
    refine wq_if (c := (nI n) ≤ (nI i)) (p1 := 67) (L1 := [(0, .ref 92), (2, .int (nI S)), (3, .int (nI (pcN i S))), (4, .int (nI i))]) (S1 := []) (p2 := 35) (L2 := [(0, .ref 92), (2, .int (nI S)), (3, .int (nI (pcN i S))), (4, .int (nI i))]) (S2 := []) rfl (fun c_32 => ?_) (fun c_32 => ?_)
    · have k_32 : n ≤ i := (nI_leI (a := n) (b := i) (by omega) (by omega)).mp c_32
      refine wq_run4 (pc' := 73) (L' := [(0, .ref 92), (2, .int (nI S)), (3, .int (nI (pcN i S))), (4, .int (nI (pcN i S))), (5, .int 0)]) (S' := []) (f' := (up1 f 138 gb)) rfl ?_
      have e : i = n := by omega
      rw [e] at hg
      rw [e]
      have h9 := mlp_forge2 hM hF hS (n - 0 + 1) 0 gb (f 139) (f 140) (f 136) (fun _ => 999) (Nat.zero_le _) (fun k hk => (hg k hk).trans (rI_n (by decide)).symm) (km_0 hn24).1 (Nat.lt_succ_self _)
      rw [show up1 (up1 (up1 (up1 f 138 gb) 139 (f 139)) 140 (f 140)) 136 (f 136) = up1 f 138 gb from by
        rw [show up1 (up1 f 138 gb) 139 (f 139) = up1 f 138 gb from up1_id (up1 f 138 gb) 139, show up1 (up1 f 138 gb) 140 (f 140) = up1 f 138 gb from up1_id (up1 f 138 gb) 140]
        exact up1_id (up1 f 138 gb) 136, (km_0 (N := (NeD W w to fr en wr sa wa S n)) (S := S) hn24).2, nI_0, Int32.sub_zero] at h9
      exact h9
    · have k_32 : ¬ n ≤ i := fun q => c_32 ((nI_leI (a := n) (b := i) (by omega) (by omega)).mpr q)
      refine wq_run4 (pc' := 42) (L' := [(0, .ref 92), (2, .int (nI S)), (3, .int (nI (pcN i S))), (4, .int (nI i))]) (S' := [.int (-1), .int (nI i), .ref 138]) (f' := (up1 f 138 gb)) rfl ?_
      refine wq_ist (j := i) (n := 24) rfl rfl rfl rfl (by omega) (Nat.le_of_ble_eq_true rfl) ?_
      refine wq_h (f' := (up1 f 138 (upd gb i (-1)))) ((up2_up1_eq f 138 gb i (-1)).trans (congrArg (fun z => up1 f 138 z) (rfl))) ?_
      refine wq_run6 (pc' := 50) (L' := [(0, .ref 92), (2, .int (nI S)), (3, .int (nI (pcN i S))), (4, .int (nI i))]) (S' := [.int (((nI S) >>> ((nI i) &&& 31)) &&& 1), .int (nI (pcN i S))]) (f' := (up1 f 138 (upd gb i (-1)))) rfl ?_
      refine wq_v (y := (nI (bN S i))) (bitN (by omega) (by omega)) ?_
      refine wq_run1 (pc' := 51) (L' := [(0, .ref 92), (2, .int (nI S)), (3, .int (nI (pcN i S))), (4, .int (nI i))]) (S' := [.int 1, .int (nI (bN S i)), .int (nI (pcN i S))]) (f' := (up1 f 138 (upd gb i (-1)))) rfl ?_
      refine wq_if (c := (nI (bN S i)) = 1) (p1 := 54) (L1 := [(0, .ref 92), (2, .int (nI S)), (3, .int (nI (pcN i S))), (4, .int (nI i))]) (S1 := [.int (nI (pcN i S))]) (p2 := 58) (L2 := [(0, .ref 92), (2, .int (nI S)), (3, .int (nI (pcN i S))), (4, .int (nI i))]) (S2 := [.int (nI (pcN i S))]) rfl (fun c_51 => ?_) (fun c_51 => ?_)
      · have k_51 : (bN S i) = 1 := (nI_eq (a := (bN S i)) (b := 1) (by omega) (by omega)).mp c_51
        refine wq_run3 (pc' := 60) (L' := [(0, .ref 92), (2, .int (nI S)), (3, .int (nI (pcN i S))), (4, .int (nI i))]) (S' := [.int ((nI (pcN i S)) + 1)]) (f' := (up1 f 138 (upd gb i (-1)))) rfl ?_
        refine wq_v (y := (nI ((pcN i S) + 1))) (nI_add (pcN i S) 1) ?_
        refine wq_run2 (pc' := 64) (L' := [(0, .ref 92), (2, .int (nI S)), (3, .int (nI ((pcN i S) + 1))), (4, .int ((nI i) + 1))]) (S' := []) (f' := (up1 f 138 (upd gb i (-1)))) rfl ?_
        refine wq_L (L' := [(0, .ref 92), (2, .int (nI S)), (3, .int (nI ((pcN i S) + 1))), (4, .int (nI (i + 1)))]) (by rw [show nI i + 1 = nI (i + 1) from nI_add _ _]) ?_
        refine wq_run1 (pc' := 26) (L' := [(0, .ref 92), (2, .int (nI S)), (3, .int (nI ((pcN i S) + 1))), (4, .int (nI (i + 1)))]) (S' := []) (f' := (up1 f 138 (upd gb i (-1)))) rfl ?_
        have h9 := ih (i + 1) _ (by omega) (show ∀ k, k < i + 1 → upd gb i (-1) k = -1 from fun k hk => by
          by_cases e : k = i
          · rw [e, upd_s]
          · rw [upd_n e]; exact hg k (by omega)) (by omega)
        rw [show pcN (i + 1) S = pcN i S + 1 from by rw [pcN]; omega] at h9
        exact h9
      · have k_51 : ¬ (bN S i) = 1 := fun q => c_51 ((nI_eq (a := (bN S i)) (b := 1) (by omega) (by omega)).mpr q)
        refine wq_run2 (pc' := 60) (L' := [(0, .ref 92), (2, .int (nI S)), (3, .int (nI (pcN i S))), (4, .int (nI i))]) (S' := [.int ((nI (pcN i S)) + 0)]) (f' := (up1 f 138 (upd gb i (-1)))) rfl ?_
        refine wq_v (y := (nI ((pcN i S) + 0))) (nI_add (pcN i S) 0) ?_
        refine wq_run2 (pc' := 64) (L' := [(0, .ref 92), (2, .int (nI S)), (3, .int (nI ((pcN i S) + 0))), (4, .int ((nI i) + 1))]) (S' := []) (f' := (up1 f 138 (upd gb i (-1)))) rfl ?_
        refine wq_L (L' := [(0, .ref 92), (2, .int (nI S)), (3, .int (nI ((pcN i S) + 0))), (4, .int (nI (i + 1)))]) (by rw [show nI i + 1 = nI (i + 1) from nI_add _ _]) ?_
        refine wq_run1 (pc' := 26) (L' := [(0, .ref 92), (2, .int (nI S)), (3, .int (nI ((pcN i S) + 0))), (4, .int (nI (i + 1)))]) (S' := []) (f' := (up1 f 138 (upd gb i (-1)))) rfl ?_
        have h9 := ih (i + 1) _ (by omega) (show ∀ k, k < i + 1 → upd gb i (-1) k = -1 from fun k hk => by
          by_cases e : k = i
          · rw [e, upd_s]
          · rw [upd_n e]; exact hg k (by omega)) (by omega)
        rw [show pcN (i + 1) S = pcN i S + 0 from by rw [pcN]; omega] at h9
        exact h9
theorem mp_forged1 (f : HI) {st : Int32} (h1 : ¬ inR st 0 2399) : Sp 3 190 [.ref 92, .int st] f (Ret (-3) f) := by
  show wq 3 190 (Ret (-3) f) 0 [(0, .ref 92), (1, .int st)] [] f
  refine wq_run4 (pc' := 6) (L' := [(0, .ref 92), (1, .int st)]) (S' := [.long 2399, .long 0, .long st.toInt64]) (f' := f) rfl ?_
  refine wq_callI (r := (b2i (inR st 0 2399))) (mp_in f st 0 2399) (Nat.le_of_ble_eq_true rfl) (pc' := 9) (L' := [(0, .ref 92), (1, .int st)]) (S' := []) rfl (Nat.le_of_ble_eq_true rfl) rfl rfl (Nat.le_of_ble_eq_true rfl) (Nat.le_of_ble_eq_true rfl) ?_
  refine wq_if (c := (b2i (inR st 0 2399)) = 0) (p1 := 12) (L1 := [(0, .ref 92), (1, .int st)]) (S1 := []) (p2 := 15) (L2 := [(0, .ref 92), (1, .int st)]) (S2 := []) rfl (fun _ => ?_) (fun q => absurd (b2i_0.mpr h1) q)
  refine wq_run1 (pc' := 14) (L' := [(0, .ref 92), (1, .int st)]) (S' := [.int (-3)]) (f' := f) rfl ?_
  exact wq_ret rfl ⟨rfl, rfl⟩
theorem mp_forged2 {f : HI} {W : Nat → Nat → Nat} {w n wa : Nat} {to fr en wr : Nat → Nat} {sa : Nat → Int32} (hM : LaM f W w) (hF : LfM f n wa to fr en wr sa) {kk ww : Nat → Int32} (hl : LtM f n kk ww) {st : Int32} (h1 : inR st 0 2399) : Sp 7 190 [.ref 92, .int st] f (fun v f' => ∃ r gb gq gc g, v = some (.int r) ∧ f' = (up1 (up1 (up1 (up1 f 138 gb) 139 gq) 140 gc) 136 g) ∧ FoM (NeD W w to fr en wr sa wa (akN kk ww st n) n) (akN kk ww st n) n r) := by
  show wq 7 190 (fun v f' => ∃ r gb gq gc g, v = some (.int r) ∧ f' = (up1 (up1 (up1 (up1 f 138 gb) 139 gq) 140 gc) 136 g) ∧ FoM (NeD W w to fr en wr sa wa (akN kk ww st n) n) (akN kk ww st n) n r) 0 [(0, .ref 92), (1, .int st)] [] f
  refine wq_run4 (pc' := 6) (L' := [(0, .ref 92), (1, .int st)]) (S' := [.long 2399, .long 0, .long st.toInt64]) (f' := f) rfl ?_
  refine wq_callI (r := (b2i (inR st 0 2399))) (mp_in f st 0 2399) (Nat.le_of_ble_eq_true rfl) (pc' := 9) (L' := [(0, .ref 92), (1, .int st)]) (S' := []) rfl (Nat.le_of_ble_eq_true rfl) rfl rfl (Nat.le_of_ble_eq_true rfl) (Nat.le_of_ble_eq_true rfl) ?_
  refine wq_if (c := (b2i (inR st 0 2399)) = 0) (p1 := 12) (L1 := [(0, .ref 92), (1, .int st)]) (S1 := []) (p2 := 15) (L2 := [(0, .ref 92), (1, .int st)]) (S2 := []) rfl (fun q => absurd q (b2i_n0.mpr h1)) (fun _ => ?_)
  refine wq_run2 (pc' := 17) (L' := [(0, .ref 92), (1, .int st)]) (S' := [.int st, .ref 92]) (f' := f) rfl ?_
  refine wq_callI (r := (nI (akN kk ww st n))) (mp_alikeOf hl st) (Nat.le_of_ble_eq_true rfl) (pc' := 20) (L' := [(0, .ref 92), (1, .int st)]) (S' := []) rfl (Nat.le_of_ble_eq_true rfl) rfl rfl (Nat.le_of_ble_eq_true rfl) (Nat.le_of_ble_eq_true rfl) ?_
  refine wq_run5 (pc' := 26) (L' := [(0, .ref 92), (2, .int (nI (akN kk ww st n))), (3, .int 0), (4, .int 0)]) (S' := []) (f' := f) rfl ?_
  have h9 := mlp_forge1 hM hF (ak_lt kk ww st n) (n - 0 + 1) 0 (f 138) (Nat.zero_le _) (fun k hk => absurd hk (Nat.not_lt_zero _)) (Nat.lt_succ_self _)
  rw [up1_id] at h9
  exact h9
