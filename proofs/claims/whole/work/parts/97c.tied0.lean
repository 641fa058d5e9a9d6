/-! behind the makers both sides are tied -/
abbrev fN0 : HI := aI ivL
def DN (K : Nat) (p q : Nat) : Nat := if p = q then 0 else K
theorem dn_mt {n K L : Nat} : Mt n K L (DN K) := by
  refine ⟨fun i j _ _ => ?_, fun i _ => if_pos rfl, fun i j k _ _ _ => ?_, fun i j _ _ => ?_, fun p q _ _ hpq h => ?_⟩
  · unfold DN
    by_cases c : i = j
    · rw [if_pos c, if_pos c.symm]
    · rw [if_neg c, if_neg (fun e => c e.symm)]
  · unfold DN
    by_cases c : i = k
    · rw [if_pos c]; exact Nat.zero_le _
    · rw [if_neg c]
      by_cases c1 : i = j
      · rw [if_pos c1, if_neg (fun e => c (c1.trans e))]; omega
      · rw [if_neg c1]; omega
  · unfold DN
    by_cases c : i = j
    · rw [if_pos c]; exact Nat.zero_le _
    · rw [if_neg c]; exact Nat.le_refl _
  · unfold DN at h
    rw [if_neg hpq] at h
    exact absurd h (Nat.lt_irrefl _)
theorem r0_4 : ∀ p, p < 10 → ∀ q, q < 10 → fN0 4 (p * 10 + q) = nI (DN 100000000 p q) := by decide +kernel
theorem r0_79 : ∀ p, p < 12 → ∀ q, q < 12 → fN0 79 (p * 12 + q) = nI (DN 100000000 p q) := by decide +kernel
theorem r0_129 : ∀ p, p < 1 → ∀ q, q < 1 → fN0 129 (12 * p + q) = nI (DN 268435456 p q) := by decide +kernel
theorem cp_0 : CpZ fN0 := by
  refine ⟨⟨0, Nat.zero_le _, by decide, by decide, fun j hj => absurd hj (Nat.not_lt_zero _)⟩, ⟨fun _ _ => 0, 0, DN 100000000, 0, 0, 0, ⟨⟨by decide, by decide, fun e he => absurd he (by omega), fun i hi => absurd hi (Nat.not_lt_zero _), fun i hi => absurd hi (Nat.not_lt_zero _)⟩, ⟨by decide, by decide, fun i hi => absurd hi (Nat.not_lt_zero _), fun i hi => absurd hi (Nat.not_lt_zero _)⟩, ⟨fun i hi => absurd hi (Nat.not_lt_zero _), dn_mt, fun i hi => absurd hi (Nat.not_lt_zero _), fun r _ p q _ _ h => ?_⟩, ⟨by decide, fun p q hp hq => r0_4 p hp q hq⟩, fun y hy => absurd hy (Nat.not_lt_zero _), ⟨by decide, by decide, Nat.zero_le _, fun a ha => absurd ha (Nat.not_lt_zero _)⟩, by decide, Or.inl (by decide)⟩, fun j _ => ⟨rfl, by show (0 : Int32) &&& (-255) = 0; decide⟩, ⟨⟨by decide, by decide, by decide, by decide⟩, ⟨by decide, by decide, by decide, by decide⟩, fun j _ => rfl⟩, by decide, by decide, fun l hl => absurd hl (Nat.not_lt_zero _), fun l _ hl => ?_⟩, ⟨fun k k1 k2 => ?_, ⟨48, by decide, by decide⟩, ⟨1, by decide, by decide⟩⟩, ⟨0, Nat.zero_le _, by decide, by decide, rfl, rfl, rfl, fun i hi => absurd hi (Nat.not_lt_zero _)⟩, ⟨1, 0, DN 100000000, DN 268435456, by decide, by decide, by decide, by decide, by decide, by decide, by decide, by decide, dn_mt, fun p q hp hq => r0_79 p hp q hq, dn_mt, fun p q hp hq => r0_129 p hp q hq, fun p q hp hq => ?_⟩, ⟨0, 0, by decide, by decide, by decide, by decide, by decide, by decide, ⟨rfl, rfl, rfl, rfl, rfl⟩, fun v hv => absurd hv (Nat.not_lt_zero _), fun v hv => absurd hv (Nat.not_lt_zero _), fun v hv => absurd hv (Nat.not_lt_zero _), fun i hi => absurd hi (Nat.not_lt_zero _)⟩⟩
  · unfold DN at h ⊢
    by_cases c : p = q
    · rw [if_pos c, c]; exact Nat.le_refl _
    · rw [if_neg c] at h; exact absurd h (Nat.lt_irrefl _)
  · have h : ∀ l, l < 24 → fN0 (47 + l) 13 = 0 ∧ fN0 (47 + l) 14 = 0 ∧ fN0 (47 + l) 15 = 0 := by decide +kernel
    exact h l hl
  · have h : ∀ k, k < 7 → 1 ≤ k → fN0 1 k = fN0 92 (42 + k) := by decide +kernel
    exact h k (by omega) k1
  · have e1 : p = 0 := by omega
    have e2 : q = 0 := by omega
    rw [e1, e2]
    decide
