/-! stamps: a letter is joined (reference) -/
def BfP (n : Nat) (N : Nat → Nat → Prop) (bh : Nat → Nat) (b0 : Nat) (qu cf : Nat → Nat) (s many : Nat) : Prop := TqP n N bh b0 qu cf many ∧ s < 2 ^ n ∧ (∀ a, bN s a = 1 → ∃ k, k < many ∧ bh (qu k) = a) ∧ ∀ k, 1 ≤ k → k < many → bN s (bh (qu k)) = 1
def JnP (n : Nat) (N : Nat → Nat → Prop) (bh : Nat → Nat) (b0 : Nat) (r : Int32) (bh' : Nat → Nat) : Prop := (r = 0 ∧ bh' = bh ∧ ∃ s : Nat, (∀ a, bN s a = 1 → a < n ∧ ∃ b, b < n ∧ bh b = a ∧ ∀ a', N a' b → bN s a' = 1) ∧ ∀ a', N a' b0 → bN s a' = 1) ∨ (¬ r = 0 ∧ ∃ a0, a0 < n ∧ cnA bh a0 n = 0 ∧ TuP n N bh b0 a0 bh')
theorem hu_t : ∀ n, huC (fun _ => true) n = n
  | 0 => rfl
  | n + 1 => by rw [huC, if_pos rfl, hu_t n]
section P87
variable {n : Nat} {N : Nat → Nat → Prop} {bh : Nat → Nat} {b0 : Nat} {qu cf : Nat → Nat} {s many k a b2 : Nat}
theorem tq_le (h : TqP n N bh b0 qu cf many) : many ≤ n := by
  have := rel_inj (Rl := fun j l => j < many ∧ qu j = l) (P := fun _ => true) (m := n) many (fun _ => true) (fun j hj _ => ⟨qu j, h.2.2.1 j hj, rfl, hj, rfl⟩) (fun j j' l z z' => by
    rcases Nat.lt_trichotomy j j' with c | c | c
    · exact absurd (z.2.trans z'.2.symm) (h.2.2.2.1 j j' c z'.1)
    · exact c
    · exact absurd (z'.2.trans z.2.symm) (h.2.2.2.1 j' j c z.1))
  rw [hu_t, hu_t] at this
  exact this
theorem bf_0 (hb0 : b0 < n) : BfP n N bh b0 (fun _ => b0) cf 0 1 := ⟨⟨Nat.le_refl _, rfl, fun _ _ => hb0, fun i j h h2 => by omega, fun k h h2 => by omega⟩, Nat.two_pow_pos n, fun a h => absurd h (bN_zero a), fun k h h2 => by omega⟩
theorem tq_cf (h : BfP n N bh b0 qu cf s many) (hs : bN s a = 0) : TqP n N bh b0 qu (updN cf a (qu k)) many := by
  obtain ⟨⟨q1, q2, q3, q4, q5⟩, h2, h3, h4⟩ := h
  refine ⟨q1, q2, q3, q4, fun k2 z1 z2 => ?_⟩
  obtain ⟨y1, k', y2, y3, y4⟩ := q5 k2 z1 z2
  refine ⟨y1, k', y2, ?_, y4⟩
  rw [upN_n (fun e => by have := h4 k2 z1 z2; rw [e] at this; omega)]
  exact y3
theorem bf_app (h : BfP n N bh b0 qu cf s many) (hb0 : 32 ≤ bh b0) (hn : n ≤ 24) (hk : k < many) (ha : a < n) (hs : bN s a = 0) (hN : N a (qu k)) (hb2 : b2 < n) (hbb : bh b2 = a) : BfP n N bh b0 (updN qu many b2) (updN cf a (qu k)) (s ||| 2 ^ a) (many + 1) := by
  have htq := tq_cf (k := k) h hs
  obtain ⟨⟨q1, q2, q3, q4, q5⟩, h2, h3, h4⟩ := h
  have e : ∀ i, i < many → updN qu many b2 i = qu i := fun i hi => upN_n (by omega)
  have new : ∀ i, i < many → qu i ≠ b2 := by
    intro i hi c
    by_cases z : i = 0
    · rw [z, q2] at c
      rw [c, hbb] at hb0
      omega
    · have := h4 i (by omega) hi
      rw [c, hbb] at this
      omega
  refine ⟨⟨by omega, (e 0 (by omega)).trans q2, fun i hi => ?_, fun i j hij hj => ?_, fun i hi1 hi2 => ?_⟩, bor_lt h2 ha, fun x hx => ?_, fun i hi1 hi2 => ?_⟩
  · by_cases c : i = many
    · rw [c, upN_s]; exact hb2
    · rw [e i (by omega)]; exact q3 i (by omega)
  · by_cases c : j = many
    · rw [c, upN_s, e i (by omega)]; exact new i (by omega)
    · rw [e i (by omega), e j (by omega)]; exact q4 i j hij (by omega)
  · by_cases c : i = many
    · rw [c, upN_s, hbb]
      refine ⟨ha, k, hk, ?_, ?_⟩
      · rw [upN_s, e k hk]
      · rw [e k hk]; exact hN
    · rw [e i (by omega)]
      obtain ⟨y1, k', y2, y3, y4⟩ := htq.2.2.2.2 i hi1 (by omega)
      exact ⟨y1, k', y2, by rw [e k' (by omega)]; exact y3, by rw [e k' (by omega)]; exact y4⟩
  · rcases bN_or.mp hx with z | z
    · obtain ⟨k2, z1, z2⟩ := h3 x z
      exact ⟨k2, by omega, by rw [e k2 z1]; exact z2⟩
    · exact ⟨many, by omega, by rw [upN_s, hbb, z]⟩
  · by_cases c : i = many
    · rw [c, upN_s, hbb]; exact bN_or.mpr (Or.inr rfl)
    · rw [e i (by omega)]; exact bN_or.mpr (Or.inl (h4 i hi1 (by omega)))
theorem bf_tv (h : BfP n N bh b0 qu cf s many) (hk : k < many) (ha : a < n) (hs : bN s a = 0) (hN : N a (qu k)) (hfree : ∀ b, b < n → ¬ bh b = a) : TqP n N bh b0 qu (updN cf a (qu k)) many ∧ TvP n N bh qu (updN cf a (qu k)) many a bh a k := by
  refine ⟨tq_cf h hs, hk, ⟨ha, Or.inl rfl⟩, upN_s _ _ _, hN, fun _ _ => rfl, fun _ _ => rfl, fun _ => Or.inl rfl, fun R hR => ⟨fun z => ?_, fun _ _ => rfl⟩⟩
  obtain ⟨_, b, b1, b2, _⟩ := hR a z
  exact hfree b b1 b2
theorem bf_fail (h : BfP n N bh b0 qu cf s many) (hb0 : 32 ≤ bh b0) (hn : n ≤ 24) (hL : ∀ k, k < many → ∀ a', N a' (qu k) → bN s a' = 1) : JnP n N bh b0 0 bh := by
  obtain ⟨⟨q1, q2, q3, q4, q5⟩, h2, h3, h4⟩ := h
  refine Or.inl ⟨rfl, rfl, s, fun a ha => ?_, fun a' z => hL 0 (by omega) a' (by rw [q2]; exact z)⟩
  obtain ⟨k, k1, k2⟩ := h3 a ha
  exact ⟨bN_bd h2 ha, qu k, q3 k k1, k2, hL k k1⟩
theorem bf_free (h : ∀ b, b < n → ¬ bh b = a) : cnA bh a n = 0 := by
  apply Nat.le_antisymm _ (Nat.zero_le _)
  apply Nat.le_of_not_lt
  intro q
  obtain ⟨j, j1, j2⟩ := ca_ex n q
  exact h j j1 j2
end P87
theorem mlp_joinIn {f : HI} {W : Nat → Nat → Nat} {w n wa S : Nat} {to fr en wr : Nat → Nat} {sa : Nat → Int32} {bh : Nat → Nat} {b0 : Nat} (hM : LaM f W w) (hF : LfM f n wa to fr en wr sa) (hS : S < 2 ^ n) (hbS : ∀ b, b < n → bh b < n → bN S b = 1) (hb : ∀ p, p < n → cnA bh p n ≤ 1) (hb0 : 32 ≤ bh b0) (hb0n : b0 < n) (hb0S : bN S b0 = 1) (hbh : ∀ k, k < n → f 138 k = rI (bh k)) {k : Nat} (K : ∀ (gq gc g : Nat → Int32) (qu cf : Nat → Nat) (s many : Nat), BfP n (NeD W w to fr en wr sa wa S n) bh b0 qu cf s many → (∀ i, i < many → gq i = nI (qu i)) → (∀ i, bN s i = 1 → gc i = nI (cf i)) → (∀ i, i < k + 1 → ∀ a', (NeD W w to fr en wr sa wa S n) a' (qu i) → bN s a' = 1) → wq 6 187 (fun v f' => ∃ r gq gc g gb bh', v = some (.int r) ∧ f' = (up1 (up1 (up1 (up1 f 138 gb) 139 gq) 140 gc) 136 g) ∧ (∀ k, k < n → gb k = rI (bh' k)) ∧ JnP n (NeD W w to fr en wr sa wa S n) bh b0 r bh') 15 [(0, .ref 92), (1, .int (nI S)), (2, .int (nI b0)), (3, .int (nI many)), (4, .int (nI s)), (5, .int (nI (k + 1)))] [] (up1 (up1 (up1 f 139 gq) 140 gc) 136 g)) : ∀ (m9 : Nat) (a : Nat) (gq : Nat → Int32) (gc : Nat → Int32) (g : Nat → Int32) (qu : Nat → Nat) (cf : Nat → Nat) (s : Nat) (many : Nat), (a ≤ n) → (BfP n (NeD W w to fr en wr sa wa S n) bh b0 qu cf s many) → (∀ i, i < many → gq i = nI (qu i)) → (∀ i, bN s i = 1 → gc i = nI (cf i)) → (∀ i, i < k → ∀ a', (NeD W w to fr en wr sa wa S n) a' (qu i) → bN s a' = 1) → (∀ x, x < a → (NeD W w to fr en wr sa wa S n) x (qu k) → bN s x = 1) → (k < many) → n - a < m9 → wq 6 187 (fun v f' => ∃ r gq gc g gb bh', v = some (.int r) ∧ f' = (up1 (up1 (up1 (up1 f 138 gb) 139 gq) 140 gc) 136 g) ∧ (∀ k, k < n → gb k = rI (bh' k)) ∧ JnP n (NeD W w to fr en wr sa wa S n) bh b0 r bh') 24 [(0, .ref 92), (1, .int (nI S)), (2, .int (nI b0)), (3, .int (nI many)), (4, .int (nI s)), (5, .int (nI k)), (6, .int (nI a))] [] (up1 (up1 (up1 f 139 gq) 140 gc) 136 g) := by
  intro m9
  induction m9 with
  | zero => intro a gq gc g qu cf s many ha hB hgq hgc hL1 hL2 hkm hn; exact absurd hn (Nat.not_lt_zero _)
  | succ m9 ih =>
    intro a gq gc g qu cf s many ha hB hgq hgc hL1 hL2 hkm hn
    have hn24 := hF.2.1
    have hS24 : S < 2 ^ 24 := Nat.lt_of_lt_of_le hS (Nat.pow_le_pow_right (by decide) hn24)
    have hs24 : s < 2 ^ 24 := Nat.lt_of_lt_of_le hB.2.1 (Nat.pow_le_pow_right (by decide) hn24)
    have hbl := bN_lt S a
    have hbs := bN_lt s a
    have hmn := tq_le hB.1
    have hqk := hB.1.2.2.1 k hkm
    have hqS : bN S (qu k) = 1 := by
      by_cases e : k = 0
      · rw [e, hB.1.2.1]; exact hb0S
      · exact hbS _ hqk (hB.1.2.2.2.2 k (by omega) hkm).1
    refine wq_run3 (pc' := 30) (L' := [(0, .ref 92), (1, .int (nI S)), (2, .int (nI b0)), (3, .int (nI many)), (4, .int (nI s)), (5, .int (nI k)), (6, .int (nI a))]) (S' := [.int (f 92 35), .int (nI a)]) (f' := (up1 (up1 (up1 f 139 gq) 140 gc) 136 g)) rfl ?_
    refine wq_v (y := (nI n)) (hF.1) ?_
    refine wq_if (c := (nI n) ≤ (nI a)) (p1 := 133) (L1 := [(0, .ref 92), (1, .int (nI S)), (2, .int (nI b0)), (3, .int (nI many)), (4, .int (nI s)), (5, .int (nI k)), (6, .int (nI a))]) (S1 := []) (p2 := 33) (L2 := [(0, .ref 92), (1, .int (nI S)), (2, .int (nI b0)), (3, .int (nI many)), (4, .int (nI s)), (5, .int (nI k)), (6, .int (nI a))]) (S2 := []) rfl (fun c_30 => ?_) (fun c_30 => ?_)
    · have k_30 : n ≤ a := (nI_leI (a := n) (b := a) (by omega) (by omega)).mp c_30
      refine wq_run1 (pc' := 136) (L' := [(0, .ref 92), (1, .int (nI S)), (2, .int (nI b0)), (3, .int (nI many)), (4, .int (nI s)), (5, .int ((nI k) + 1)), (6, .int (nI a))]) (S' := []) (f' := (up1 (up1 (up1 f 139 gq) 140 gc) 136 g)) rfl ?_
      refine wq_L (L' := [(0, .ref 92), (1, .int (nI S)), (2, .int (nI b0)), (3, .int (nI many)), (4, .int (nI s)), (5, .int (nI (k + 1))), (6, .int (nI a))]) (by rw [show nI k + 1 = nI (k + 1) from nI_add _ _]) ?_
      refine wq_run1 (pc' := 15) (L' := [(0, .ref 92), (1, .int (nI S)), (2, .int (nI b0)), (3, .int (nI many)), (4, .int (nI s)), (5, .int (nI (k + 1)))]) (S' := []) (f' := (up1 (up1 (up1 f 139 gq) 140 gc) 136 g)) rfl ?_
      have e : a = n := by omega
      rw [e] at hL2
      exact K gq gc g qu cf s many hB hgq hgc (fun i hi a' z => by
        by_cases c : i = k
        · rw [c] at z; exact hL2 a' z.1 z
        · exact hL1 i (by omega) a' z)
    · have k_30 : ¬ n ≤ a := fun q => c_30 ((nI_leI (a := n) (b := a) (by omega) (by omega)).mpr q)
      have han : a < n := by omega
      refine wq_run5 (pc' := 39) (L' := [(0, .ref 92), (1, .int (nI S)), (2, .int (nI b0)), (3, .int (nI many)), (4, .int (nI s)), (5, .int (nI k)), (6, .int (nI a))]) (S' := [.int (((nI S) >>> ((nI a) &&& 31)) &&& 1)]) (f' := (up1 (up1 (up1 f 139 gq) 140 gc) 136 g)) rfl ?_
      refine wq_v (y := (nI (bN S a))) (bitN (by omega) (by omega)) ?_
      refine wq_run1 (pc' := 40) (L' := [(0, .ref 92), (1, .int (nI S)), (2, .int (nI b0)), (3, .int (nI many)), (4, .int (nI s)), (5, .int (nI k)), (6, .int (nI a))]) (S' := [.int 1, .int (nI (bN S a))]) (f' := (up1 (up1 (up1 f 139 gq) 140 gc) 136 g)) rfl ?_
      refine wq_if (c := (nI (bN S a)) = 1) (p1 := 43) (L1 := [(0, .ref 92), (1, .int (nI S)), (2, .int (nI b0)), (3, .int (nI many)), (4, .int (nI s)), (5, .int (nI k)), (6, .int (nI a))]) (S1 := []) (p2 := 127) (L2 := [(0, .ref 92), (1, .int (nI S)), (2, .int (nI b0)), (3, .int (nI many)), (4, .int (nI s)), (5, .int (nI k)), (6, .int (nI a))]) (S2 := []) rfl (fun c_40 => ?_) (fun c_40 => ?_)
      · have k_40 : (bN S a) = 1 := (nI_eq (a := (bN S a)) (b := 1) (by omega) (by omega)).mp c_40
        refine wq_run5 (pc' := 50) (L' := [(0, .ref 92), (1, .int (nI S)), (2, .int (nI b0)), (3, .int (nI many)), (4, .int (nI s)), (5, .int (nI k)), (6, .int (nI a))]) (S' := [.int (((nI s) >>> ((nI a) &&& 31)) &&& 1)]) (f' := (up1 (up1 (up1 f 139 gq) 140 gc) 136 g)) rfl ?_
        refine wq_v (y := (nI (bN s a))) (bitN (by omega) (by omega)) ?_
        refine wq_if (c := (nI (bN s a)) = 0) (p1 := 53) (L1 := [(0, .ref 92), (1, .int (nI S)), (2, .int (nI b0)), (3, .int (nI many)), (4, .int (nI s)), (5, .int (nI k)), (6, .int (nI a))]) (S1 := []) (p2 := 127) (L2 := [(0, .ref 92), (1, .int (nI S)), (2, .int (nI b0)), (3, .int (nI many)), (4, .int (nI s)), (5, .int (nI k)), (6, .int (nI a))]) (S2 := []) rfl (fun c_50 => ?_) (fun c_50 => ?_)
        · have k_50 : (bN s a) = 0 := (nI_eq (a := (bN s a)) (b := 0) (by omega) (by omega)).mp c_50
          refine wq_run5 (pc' := 62) (L' := [(0, .ref 92), (1, .int (nI S)), (2, .int (nI b0)), (3, .int (nI many)), (4, .int (nI s)), (5, .int (nI k)), (6, .int (nI a))]) (S' := [.int (nI k), .ref 139, .int (nI a), .ref 92]) (f' := (up1 (up1 (up1 f 139 gq) 140 gc) 136 g)) rfl ?_
          refine wq_ald (j := k) (n := 24) (v := (nI (qu k))) rfl rfl rfl rfl (by omega) (Nat.le_of_ble_eq_true rfl) (hgq k hkm) ?_
          refine wq_call ((show Sp 5 186 [.ref 92, .int (nI a), .int (nI (qu k))] (up1 (up1 (up1 f 139 gq) 140 gc) 136 g) (fun v f' => ∃ g8, v = some (.int (b2i (edB W w to fr en wr sa wa S a (qu k) = true))) ∧ f' = up1 (up1 (up1 (up1 f 139 gq) 140 gc) 136 g) 136 g8) from by have h9 := mp_mayWash (f := (up1 (up1 (up1 f 139 gq) 140 gc) 136 g)) (W := W) (w := w) (n := n) (wa := wa) (to := to) (fr := fr) (en := en) (wr := wr) (sa := sa) hM hF (a := a) (b := qu k) han hqk; rw [b2i_c (ed_i hM.2.2.2 hF han k_40 hqS)] at h9; exact h9)) (Nat.le_of_ble_eq_true rfl) (pc' := 66) (L' := [(0, .ref 92), (1, .int (nI S)), (2, .int (nI b0)), (3, .int (nI many)), (4, .int (nI s)), (5, .int (nI k)), (6, .int (nI a))]) (S' := []) rfl (Nat.le_of_ble_eq_true rfl) rfl rfl (Nat.le_of_ble_eq_true rfl) (Nat.le_of_ble_eq_true rfl) ?_
          rintro v f9 ⟨g2, e0, ef⟩
          subst e0
          subst ef
          refine wq_h (f' := (up1 (up1 (up1 f 139 gq) 140 gc) 136 g2)) (by rw [show up1 (up1 (up1 (up1 f 139 gq) 140 gc) 136 g) 136 g2 = _ from up1_up1 (up1 (up1 f 139 gq) 140 gc) 136 g g2]) ?_
          refine wq_if (c := (b2i (edB W w to fr en wr sa wa S a (qu k) = true)) = 0) (p1 := 127) (L1 := [(0, .ref 92), (1, .int (nI S)), (2, .int (nI b0)), (3, .int (nI many)), (4, .int (nI s)), (5, .int (nI k)), (6, .int (nI a))]) (S1 := []) (p2 := 69) (L2 := [(0, .ref 92), (1, .int (nI S)), (2, .int (nI b0)), (3, .int (nI many)), (4, .int (nI s)), (5, .int (nI k)), (6, .int (nI a))]) (S2 := []) rfl (fun c_66 => ?_) (fun c_66 => ?_)
          · have h_66 := b2i_0.mp c_66
            refine wq_run1 (pc' := 130) (L' := [(0, .ref 92), (1, .int (nI S)), (2, .int (nI b0)), (3, .int (nI many)), (4, .int (nI s)), (5, .int (nI k)), (6, .int ((nI a) + 1))]) (S' := []) (f' := (up1 (up1 (up1 f 139 gq) 140 gc) 136 g2)) rfl ?_
            refine wq_L (L' := [(0, .ref 92), (1, .int (nI S)), (2, .int (nI b0)), (3, .int (nI many)), (4, .int (nI s)), (5, .int (nI k)), (6, .int (nI (a + 1)))]) (by rw [show nI a + 1 = nI (a + 1) from nI_add _ _]) ?_
            refine wq_run1 (pc' := 24) (L' := [(0, .ref 92), (1, .int (nI S)), (2, .int (nI b0)), (3, .int (nI many)), (4, .int (nI s)), (5, .int (nI k)), (6, .int (nI (a + 1)))]) (S' := []) (f' := (up1 (up1 (up1 f 139 gq) 140 gc) 136 g2)) rfl ?_
            exact ih (a + 1) gq gc g2 qu cf s many (by omega) hB hgq hgc hL1 (fun x hx z => by
              by_cases e : x = a
              · rw [e] at z ⊢
                exact absurd z.2.2 h_66
              · exact hL2 x (by omega) z) (by omega) (by omega)
          · have h_66 := b2i_n0.mp c_66
            refine wq_run4 (pc' := 75) (L' := [(0, .ref 92), (1, .int (nI S)), (2, .int (nI b0)), (3, .int (nI many)), (4, .int (nI s)), (5, .int (nI k)), (6, .int (nI a))]) (S' := [.int ((1 : Int32) <<< ((nI a) &&& 31)), .int (nI s)]) (f' := (up1 (up1 (up1 f 139 gq) 140 gc) 136 g2)) rfl ?_
            refine wq_v (y := (nI (2 ^ a))) (shl1 (n := a) (by omega)) ?_
            refine wq_run1 (pc' := 76) (L' := [(0, .ref 92), (1, .int (nI S)), (2, .int (nI b0)), (3, .int (nI many)), (4, .int (nI s)), (5, .int (nI k)), (6, .int (nI a))]) (S' := [.int ((nI s) ||| (nI (2 ^ a)))]) (f' := (up1 (up1 (up1 f 139 gq) 140 gc) 136 g2)) rfl ?_
            refine wq_v (y := (nI (s ||| (2 ^ a)))) (nx_or s (2 ^ a)) ?_
            refine wq_run7 (pc' := 90) (L' := [(0, .ref 92), (1, .int (nI S)), (2, .int (nI b0)), (3, .int (nI many)), (4, .int (nI (s ||| (2 ^ a)))), (5, .int (nI k)), (6, .int (nI a))]) (S' := [.int (nI k), .ref 139, .int (nI a), .ref 140]) (f' := (up1 (up1 (up1 f 139 gq) 140 gc) 136 g2)) rfl ?_
            refine wq_ald (j := k) (n := 24) (v := (nI (qu k))) rfl rfl rfl rfl (by omega) (Nat.le_of_ble_eq_true rfl) (hgq k hkm) ?_
            refine wq_ist (j := a) (n := 24) rfl rfl rfl rfl (by omega) (Nat.le_of_ble_eq_true rfl) ?_
            refine wq_h (f' := (up1 (up1 (up1 f 139 gq) 140 (upd gc a (nI (qu k)))) 136 g2)) ((up2_up1_ne (f := (up1 (up1 f 139 gq) 140 gc)) (g := g2) (k := a) (v := (nI (qu k))) (show (140 : Nat) ≠ 136 by decide)).trans (congrArg (fun z => up1 z 136 g2) ((up2_up1_eq (up1 f 139 gq) 140 gc a (nI (qu k))).trans (congrArg (fun z => up1 (up1 f 139 gq) 140 z) (rfl))))) ?_
            refine wq_run3 (pc' := 96) (L' := [(0, .ref 92), (1, .int (nI S)), (2, .int (nI b0)), (3, .int (nI many)), (4, .int (nI (s ||| (2 ^ a)))), (5, .int (nI k)), (6, .int (nI a))]) (S' := [.int (nI a), .int (nI S), .ref 92]) (f' := (up1 (up1 (up1 f 139 gq) 140 (upd gc a (nI (qu k)))) 136 g2)) rfl ?_
            refine wq_callI (r := (obI (tkbN S bh a n))) (mp_takenBy (f := (up1 (up1 (up1 f 139 gq) 140 (upd gc a (nI (qu k)))) 136 g2)) (n := n) (S := S) (a := a) (bh := bh) hF.1 hn24 hS24 (by omega) hbh) (Nat.le_of_ble_eq_true rfl) (pc' := 99) (L' := [(0, .ref 92), (1, .int (nI S)), (2, .int (nI b0)), (3, .int (nI many)), (4, .int (nI (s ||| (2 ^ a)))), (5, .int (nI k)), (6, .int (nI a))]) (S' := []) rfl (Nat.le_of_ble_eq_true rfl) rfl rfl (Nat.le_of_ble_eq_true rfl) (Nat.le_of_ble_eq_true rfl) ?_
            refine wq_run3 (pc' := 104) (L' := [(0, .ref 92), (1, .int (nI S)), (2, .int (nI b0)), (3, .int (nI many)), (4, .int (nI (s ||| (2 ^ a)))), (5, .int (nI k)), (6, .int (nI a)), (7, .int (obI (tkbN S bh a n)))]) (S' := [.int (-1), .int (obI (tkbN S bh a n))]) (f' := (up1 (up1 (up1 f 139 gq) 140 (upd gc a (nI (qu k)))) 136 g2)) rfl ?_
            refine wq_if (c := (obI (tkbN S bh a n)) = (-1)) (p1 := 107) (L1 := [(0, .ref 92), (1, .int (nI S)), (2, .int (nI b0)), (3, .int (nI many)), (4, .int (nI (s ||| (2 ^ a)))), (5, .int (nI k)), (6, .int (nI a)), (7, .int (obI (tkbN S bh a n)))]) (S1 := []) (p2 := 116) (L2 := [(0, .ref 92), (1, .int (nI S)), (2, .int (nI b0)), (3, .int (nI many)), (4, .int (nI (s ||| (2 ^ a)))), (5, .int (nI k)), (6, .int (nI a)), (7, .int (obI (tkbN S bh a n)))]) (S2 := []) rfl (fun c_104 => ?_) (fun c_104 => ?_)
            · have hnone : tkbN S bh a n = none := (obI_0 (n := n) (by omega) (fun b q => (tb_y q).1)).mp c_104
              have hfree : ∀ b, b < n → ¬ bh b = a := fun b hbn q => tb_n hnone b hbn (hbS b hbn (by omega)) q
              obtain ⟨hTq, hTv⟩ := bf_tv (k := k) (a := a) hB hkm han k_50 ⟨han, hqk, h_66⟩ hfree
              have hcx : ∀ x, (x = a ∨ ∃ k2, k2 < many ∧ bh (qu k2) = x) → x < n → upd gc a (nI (qu k)) x = nI (updN cf a (qu k) x) := fun x hx hxn => by
                by_cases e : x = a
                · rw [e, upd_s, upN_s]
                · rw [upd_n e, upN_n e]
                  obtain ⟨k2, z1, z2⟩ := hx.resolve_left e
                  by_cases e2 : k2 = 0
                  · rw [e2, hB.1.2.1] at z2
                    omega
                  · have z3 := hB.2.2.2 k2 (by omega) z1
                    rw [z2] at z3
                    exact hgc x z3
              refine wq_run3 (pc' := 111) (L' := [(0, .ref 92), (1, .int (nI S)), (2, .int (nI b0)), (3, .int (nI many)), (4, .int (nI (s ||| (2 ^ a)))), (5, .int (nI k)), (6, .int (nI a)), (7, .int (obI (tkbN S bh a n)))]) (S' := [.int (nI b0), .int (nI a), .ref 92]) (f' := (up1 (up1 (up1 f 139 gq) 140 (upd gc a (nI (qu k)))) 136 g2)) rfl ?_
              refine wq_call (mp_turn (f := (up1 (up1 (up1 f 139 gq) 140 (upd gc a (nI (qu k)))) 136 g2)) (n := n) (N := (NeD W w to fr en wr sa wa S n)) (bh := bh) (b0 := b0) (qu := qu) (cf := updN cf a (qu k)) (many := many) (a0 := a) hn24 hb hb0 hb0n hTq (fun x hx hxn => hcx x hx hxn) hbh hTv) (Nat.le_of_ble_eq_true rfl) (pc' := 114) (L' := [(0, .ref 92), (1, .int (nI S)), (2, .int (nI b0)), (3, .int (nI many)), (4, .int (nI (s ||| (2 ^ a)))), (5, .int (nI k)), (6, .int (nI a)), (7, .int (obI (tkbN S bh a n)))]) (S' := []) rfl (Nat.le_of_ble_eq_true rfl) rfl rfl (Nat.le_of_ble_eq_true rfl) (Nat.le_of_ble_eq_true rfl) ?_
              rintro v f9 ⟨e0, gb, bh2, ef, hgb, hTu⟩
              subst e0
              subst ef
              refine wq_h (f' := (up1 (up1 (up1 (up1 f 138 gb) 139 gq) 140 (upd gc a (nI (qu k)))) 136 g2)) (by rw [show up1 (up1 (up1 (up1 f 139 gq) 140 (upd gc a (nI (qu k)))) 136 g2) 138 gb = _ from (up1_sw (f := (up1 (up1 f 139 gq) 140 (upd gc a (nI (qu k))))) (g := g2) (g' := gb) (show (138 : Nat) ≠ 136 by decide)).trans (congrArg (fun z => up1 z 136 g2) ((up1_sw (f := (up1 f 139 gq)) (g := (upd gc a (nI (qu k)))) (g' := gb) (show (138 : Nat) ≠ 140 by decide)).trans (congrArg (fun z => up1 z 140 (upd gc a (nI (qu k)))) ((up1_sw (f := f) (g := gq) (g' := gb) (show (138 : Nat) ≠ 139 by decide)).trans (congrArg (fun z => up1 z 139 gq) (rfl))))))]) ?_
              refine wq_run1 (pc' := 115) (L' := [(0, .ref 92), (1, .int (nI S)), (2, .int (nI b0)), (3, .int (nI many)), (4, .int (nI (s ||| (2 ^ a)))), (5, .int (nI k)), (6, .int (nI a)), (7, .int (obI (tkbN S bh a n)))]) (S' := [.int 1]) (f' := (up1 (up1 (up1 (up1 f 138 gb) 139 gq) 140 (upd gc a (nI (qu k)))) 136 g2)) rfl ?_
              exact wq_retZ rfl (Or.inr rfl) ⟨1, gq, _, g2, gb, bh2, rfl, rfl, hgb, Or.inr ⟨by decide, a, han, bf_free hfree, hTu⟩⟩
            · obtain ⟨b2, hb2⟩ := obI_y c_104
              have hbt := tb_y hb2
              have hmn2 := tq_le (bf_app (k := k) (a := a) (b2 := b2) hB hb0 hn24 hkm han k_50 ⟨han, hqk, h_66⟩ hbt.1 hbt.2.2).1
              refine wq_L (L' := [(0, .ref 92), (1, .int (nI S)), (2, .int (nI b0)), (3, .int (nI many)), (4, .int (nI (s ||| (2 ^ a)))), (5, .int (nI k)), (6, .int (nI a)), (7, .int (nI b2))]) (by rw [hb2]; rfl) ?_
              refine wq_run4 (pc' := 123) (L' := [(0, .ref 92), (1, .int (nI S)), (2, .int (nI b0)), (3, .int (nI many)), (4, .int (nI (s ||| (2 ^ a)))), (5, .int (nI k)), (6, .int (nI a)), (7, .int (nI b2))]) (S' := [.int (nI b2), .int (nI many), .ref 139]) (f' := (up1 (up1 (up1 f 139 gq) 140 (upd gc a (nI (qu k)))) 136 g2)) rfl ?_
              refine wq_ist (j := many) (n := 24) rfl rfl rfl rfl (by omega) (Nat.le_of_ble_eq_true rfl) ?_
              refine wq_h (f' := (up1 (up1 (up1 f 139 (upd gq many (nI b2))) 140 (upd gc a (nI (qu k)))) 136 g2)) ((up2_up1_ne (f := (up1 (up1 f 139 gq) 140 (upd gc a (nI (qu k))))) (g := g2) (k := many) (v := (nI b2)) (show (139 : Nat) ≠ 136 by decide)).trans (congrArg (fun z => up1 z 136 g2) ((up2_up1_ne (f := (up1 f 139 gq)) (g := (upd gc a (nI (qu k)))) (k := many) (v := (nI b2)) (show (139 : Nat) ≠ 140 by decide)).trans (congrArg (fun z => up1 z 140 (upd gc a (nI (qu k)))) ((up2_up1_eq f 139 gq many (nI b2)).trans (congrArg (fun z => up1 f 139 z) (rfl))))))) ?_
              refine wq_run1 (pc' := 127) (L' := [(0, .ref 92), (1, .int (nI S)), (2, .int (nI b0)), (3, .int ((nI many) + 1)), (4, .int (nI (s ||| (2 ^ a)))), (5, .int (nI k)), (6, .int (nI a)), (7, .int (nI b2))]) (S' := []) (f' := (up1 (up1 (up1 f 139 (upd gq many (nI b2))) 140 (upd gc a (nI (qu k)))) 136 g2)) rfl ?_
              refine wq_L (L' := [(0, .ref 92), (1, .int (nI S)), (2, .int (nI b0)), (3, .int (nI (many + 1))), (4, .int (nI (s ||| (2 ^ a)))), (5, .int (nI k)), (6, .int (nI a)), (7, .int (nI b2))]) (by rw [show nI many + 1 = nI (many + 1) from nI_add _ _]) ?_
              refine wq_run1 (pc' := 130) (L' := [(0, .ref 92), (1, .int (nI S)), (2, .int (nI b0)), (3, .int (nI (many + 1))), (4, .int (nI (s ||| (2 ^ a)))), (5, .int (nI k)), (6, .int ((nI a) + 1)), (7, .int (nI b2))]) (S' := []) (f' := (up1 (up1 (up1 f 139 (upd gq many (nI b2))) 140 (upd gc a (nI (qu k)))) 136 g2)) rfl ?_
              refine wq_L (L' := [(0, .ref 92), (1, .int (nI S)), (2, .int (nI b0)), (3, .int (nI (many + 1))), (4, .int (nI (s ||| (2 ^ a)))), (5, .int (nI k)), (6, .int (nI (a + 1))), (7, .int (nI b2))]) (by rw [show nI a + 1 = nI (a + 1) from nI_add _ _]) ?_
              refine wq_run1 (pc' := 24) (L' := [(0, .ref 92), (1, .int (nI S)), (2, .int (nI b0)), (3, .int (nI (many + 1))), (4, .int (nI (s ||| (2 ^ a)))), (5, .int (nI k)), (6, .int (nI (a + 1)))]) (S' := []) (f' := (up1 (up1 (up1 f 139 (upd gq many (nI b2))) 140 (upd gc a (nI (qu k)))) 136 g2)) rfl ?_
              have hB2 := bf_app (k := k) (a := a) (b2 := b2) hB hb0 hn24 hkm han k_50 ⟨han, hqk, h_66⟩ hbt.1 hbt.2.2
              have qe : ∀ i, i < many → updN qu many b2 i = qu i := fun i hi => upN_n (by omega)
              exact ih (a + 1) (upd gq many (nI b2)) (upd gc a (nI (qu k))) g2 (updN qu many b2) (updN cf a (qu k)) (s ||| 2 ^ a) (many + 1) (by omega) hB2 (fun i hi => by
                by_cases e : i = many
                · rw [e, upd_s, upN_s]
                · rw [upd_n e, upN_n e]; exact hgq i (by omega)) (fun i hi => by
                by_cases e : i = a
                · rw [e, upd_s, upN_s]
                · rw [upd_n e, upN_n e]; exact hgc i ((bN_or.mp hi).resolve_right e)) (fun i hi a' z => by
                rw [qe i (by omega)] at z
                exact bN_or.mpr (Or.inl (hL1 i hi a' z))) (fun x hx z => by
                rw [qe k hkm] at z
                by_cases e : x = a
                · exact bN_or.mpr (Or.inr e)
                · exact bN_or.mpr (Or.inl (hL2 x (by omega) z))) (by omega) (by omega)
        · have k_50 : ¬ (bN s a) = 0 := fun q => c_50 ((nI_eq (a := (bN s a)) (b := 0) (by omega) (by omega)).mpr q)
          refine wq_run1 (pc' := 130) (L' := [(0, .ref 92), (1, .int (nI S)), (2, .int (nI b0)), (3, .int (nI many)), (4, .int (nI s)), (5, .int (nI k)), (6, .int ((nI a) + 1))]) (S' := []) (f' := (up1 (up1 (up1 f 139 gq) 140 gc) 136 g)) rfl ?_
          refine wq_L (L' := [(0, .ref 92), (1, .int (nI S)), (2, .int (nI b0)), (3, .int (nI many)), (4, .int (nI s)), (5, .int (nI k)), (6, .int (nI (a + 1)))]) (by rw [show nI a + 1 = nI (a + 1) from nI_add _ _]) ?_
          refine wq_run1 (pc' := 24) (L' := [(0, .ref 92), (1, .int (nI S)), (2, .int (nI b0)), (3, .int (nI many)), (4, .int (nI s)), (5, .int (nI k)), (6, .int (nI (a + 1)))]) (S' := []) (f' := (up1 (up1 (up1 f 139 gq) 140 gc) 136 g)) rfl ?_
          exact ih (a + 1) gq gc g qu cf s many (by omega) hB hgq hgc hL1 (fun x hx z => by
            by_cases e : x = a
            · rw [e] at z ⊢
              have := bN_lt s a
              omega
            · exact hL2 x (by omega) z) (by omega) (by omega)
      · have k_40 : ¬ (bN S a) = 1 := fun q => c_40 ((nI_eq (a := (bN S a)) (b := 1) (by omega) (by omega)).mpr q)
        refine wq_run1 (pc' := 130) (L' := [(0, .ref 92), (1, .int (nI S)), (2, .int (nI b0)), (3, .int (nI many)), (4, .int (nI s)), (5, .int (nI k)), (6, .int ((nI a) + 1))]) (S' := []) (f' := (up1 (up1 (up1 f 139 gq) 140 gc) 136 g)) rfl ?_
        refine wq_L (L' := [(0, .ref 92), (1, .int (nI S)), (2, .int (nI b0)), (3, .int (nI many)), (4, .int (nI s)), (5, .int (nI k)), (6, .int (nI (a + 1)))]) (by rw [show nI a + 1 = nI (a + 1) from nI_add _ _]) ?_
        refine wq_run1 (pc' := 24) (L' := [(0, .ref 92), (1, .int (nI S)), (2, .int (nI b0)), (3, .int (nI many)), (4, .int (nI s)), (5, .int (nI k)), (6, .int (nI (a + 1)))]) (S' := []) (f' := (up1 (up1 (up1 f 139 gq) 140 gc) 136 g)) rfl ?_
        exact ih (a + 1) gq gc g qu cf s many (by omega) hB hgq hgc hL1 (fun x hx z => by
          by_cases e : x = a
          · rw [e] at z ⊢
            have q := of_decide_eq_true z.2.2
            exact absurd q.1 k_40
          · exact hL2 x (by omega) z) (by omega) (by omega)
theorem mlp_join {f : HI} {W : Nat → Nat → Nat} {w n wa S : Nat} {to fr en wr : Nat → Nat} {sa : Nat → Int32} {bh : Nat → Nat} {b0 : Nat} (hM : LaM f W w) (hF : LfM f n wa to fr en wr sa) (hS : S < 2 ^ n) (hbS : ∀ b, b < n → bh b < n → bN S b = 1) (hb : ∀ p, p < n → cnA bh p n ≤ 1) (hb0 : 32 ≤ bh b0) (hb0n : b0 < n) (hb0S : bN S b0 = 1) (hbh : ∀ k, k < n → f 138 k = rI (bh k)) : ∀ (m9 : Nat) (k : Nat) (gq : Nat → Int32) (gc : Nat → Int32) (g : Nat → Int32) (qu : Nat → Nat) (cf : Nat → Nat) (s : Nat) (many : Nat), (k ≤ n) → (BfP n (NeD W w to fr en wr sa wa S n) bh b0 qu cf s many) → (∀ i, i < many → gq i = nI (qu i)) → (∀ i, bN s i = 1 → gc i = nI (cf i)) → (∀ i, i < k → ∀ a', (NeD W w to fr en wr sa wa S n) a' (qu i) → bN s a' = 1) → n - k < m9 → wq 6 187 (fun v f' => ∃ r gq gc g gb bh', v = some (.int r) ∧ f' = (up1 (up1 (up1 (up1 f 138 gb) 139 gq) 140 gc) 136 g) ∧ (∀ k, k < n → gb k = rI (bh' k)) ∧ JnP n (NeD W w to fr en wr sa wa S n) bh b0 r bh') 15 [(0, .ref 92), (1, .int (nI S)), (2, .int (nI b0)), (3, .int (nI many)), (4, .int (nI s)), (5, .int (nI k))] [] (up1 (up1 (up1 f 139 gq) 140 gc) 136 g) := by
  intro m9
  induction m9 with
  | zero => intro k gq gc g qu cf s many hk hB hgq hgc hL1 hn; exact absurd hn (Nat.not_lt_zero _)
  | succ m9 ih =>
    intro k gq gc g qu cf s many hk hB hgq hgc hL1 hn
    have hn24 := hF.2.1
    have hmn := tq_le hB.1
    refine wq_run2 (pc' := 18) (L' := [(0, .ref 92), (1, .int (nI S)), (2, .int (nI b0)), (3, .int (nI many)), (4, .int (nI s)), (5, .int (nI k))]) (S' := [.int (nI many), .int (nI k)]) (f' := (up1 (up1 (up1 f 139 gq) 140 gc) 136 g)) rfl ?_
    refine wq_if (c := (nI many) ≤ (nI k)) (p1 := 139) (L1 := [(0, .ref 92), (1, .int (nI S)), (2, .int (nI b0)), (3, .int (nI many)), (4, .int (nI s)), (5, .int (nI k))]) (S1 := []) (p2 := 21) (L2 := [(0, .ref 92), (1, .int (nI S)), (2, .int (nI b0)), (3, .int (nI many)), (4, .int (nI s)), (5, .int (nI k))]) (S2 := []) rfl (fun c_18 => ?_) (fun c_18 => ?_)
    · have k_18 : many ≤ k := (nI_leI (a := many) (b := k) (by omega) (by omega)).mp c_18
      refine wq_run1 (pc' := 140) (L' := [(0, .ref 92), (1, .int (nI S)), (2, .int (nI b0)), (3, .int (nI many)), (4, .int (nI s)), (5, .int (nI k))]) (S' := [.int 0]) (f' := (up1 (up1 (up1 f 139 gq) 140 gc) 136 g)) rfl ?_
      exact wq_retZ rfl (Or.inl rfl) ⟨0, gq, gc, g, f 138, bh, rfl, by rw [up1_id f 138], hbh, bf_fail hB hb0 hn24 (fun i hi => hL1 i (by omega))⟩
    · have k_18 : ¬ many ≤ k := fun q => c_18 ((nI_leI (a := many) (b := k) (by omega) (by omega)).mpr q)
      refine wq_run2 (pc' := 24) (L' := [(0, .ref 92), (1, .int (nI S)), (2, .int (nI b0)), (3, .int (nI many)), (4, .int (nI s)), (5, .int (nI k)), (6, .int 0)]) (S' := []) (f' := (up1 (up1 (up1 f 139 gq) 140 gc) 136 g)) rfl ?_
      exact mlp_joinIn hM hF hS hbS hb hb0 hb0n hb0S hbh (k := k) (fun gq gc g qu cf s many q1 q2 q3 q4 => ih (k + 1) gq gc g qu cf s many (by have := tq_le hB.1; omega) q1 q2 q3 q4 (by have := tq_le hB.1; omega)) (n - 0 + 1) 0 gq gc g qu cf s many (Nat.zero_le _) hB hgq hgc hL1 (fun x hx => absurd hx (Nat.not_lt_zero _)) (by omega) (Nat.lt_succ_self _)
theorem mp_isJoined {f : HI} {W : Nat → Nat → Nat} {w n wa S : Nat} {to fr en wr : Nat → Nat} {sa : Nat → Int32} {bh : Nat → Nat} {b0 : Nat} (hM : LaM f W w) (hF : LfM f n wa to fr en wr sa) (hS : S < 2 ^ n) (hbS : ∀ b, b < n → bh b < n → bN S b = 1) (hb : ∀ p, p < n → cnA bh p n ≤ 1) (hb0 : 32 ≤ bh b0) (hb0n : b0 < n) (hb0S : bN S b0 = 1) (hbh : ∀ k, k < n → f 138 k = rI (bh k)) : Sp 6 187 [.ref 92, .int (nI S), .int (nI b0)] f (fun v f' => ∃ r gq gc g gb bh', v = some (.int r) ∧ f' = (up1 (up1 (up1 (up1 f 138 gb) 139 gq) 140 gc) 136 g) ∧ (∀ k, k < n → gb k = rI (bh' k)) ∧ JnP n (NeD W w to fr en wr sa wa S n) bh b0 r bh') := by
  show wq 6 187 (fun v f' => ∃ r gq gc g gb bh', v = some (.int r) ∧ f' = (up1 (up1 (up1 (up1 f 138 gb) 139 gq) 140 gc) 136 g) ∧ (∀ k, k < n → gb k = rI (bh' k)) ∧ JnP n (NeD W w to fr en wr sa wa S n) bh b0 r bh') 0 [(0, .ref 92), (1, .int (nI S)), (2, .int (nI b0))] [] f
  refine wq_run6 (pc' := 8) (L' := [(0, .ref 92), (1, .int (nI S)), (2, .int (nI b0)), (3, .int 1)]) (S' := [.int (nI b0), .int 0, .ref 139]) (f' := f) rfl ?_
  refine wq_ist (j := 0) (n := 24) rfl rfl rfl rfl (Nat.le_of_ble_eq_true rfl) (Nat.le_of_ble_eq_true rfl) ?_
  refine wq_h (f' := (up1 f 139 (upd (f 139) 0 (nI b0)))) (up2_eq1 f 139 0 (nI b0)) ?_
  refine wq_run4 (pc' := 15) (L' := [(0, .ref 92), (1, .int (nI S)), (2, .int (nI b0)), (3, .int 1), (4, .int 0), (5, .int 0)]) (S' := []) (f' := (up1 f 139 (upd (f 139) 0 (nI b0)))) rfl ?_
  have h9 := mlp_join hM hF hS hbS hb hb0 hb0n hb0S hbh (n - 0 + 1) 0 (upd (f 139) 0 (nI b0)) (f 140) (f 136) (fun _ => b0) (fun _ => 0) 0 1 (Nat.zero_le _) (bf_0 hb0n) (fun i hi => by rw [show i = 0 by omega]; exact upd_s _ _ _) (fun i hi => absurd hi (bN_zero i)) (fun i hi => absurd hi (Nat.not_lt_zero _)) (Nat.lt_succ_self _)
  rw [show (up1 (up1 (up1 f 139 (upd (f 139) 0 (nI b0))) 140 (f 140)) 136 (f 136)) = (up1 f 139 (upd (f 139) 0 (nI b0))) from by rw [show up1 (up1 f 139 (upd (f 139) 0 (nI b0))) 140 (f 140) = (up1 f 139 (upd (f 139) 0 (nI b0))) from up1_id (up1 f 139 (upd (f 139) 0 (nI b0))) 140]; exact up1_id (up1 f 139 (upd (f 139) 0 (nI b0))) 136] at h9
  exact h9
