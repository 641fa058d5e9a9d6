/-! the hour: a run that is parted, closed (class) -/
theorem mx_hu {rn ct : Nat → Int32} {run : Int32} {B : Nat → Bool} {R : Nat → Nat} {m n : Nat} (hB : ∀ l, l < n → (rn l = run ↔ B l = true)) (hR : ∀ l, R l < 2 ^ 31) (hct : ∀ l, l < n → B l = true → ct l = if bN m l = 1 then -1 else nI (R l)) : ∀ i, i ≤ n → ∀ j, huP B R m i = some j → mxN rn ct run i = some j
  | 0, _, j, h => by cases h
  | i + 1, hi, j, h => by
    have hbl := bN_lt m i
    by_cases c : B i = true ∧ bN m i = 0
    · have hrn := (hB i (by omega)).mpr c.1
      have hci : ct i = nI (R i) := by rw [hct i (by omega) c.1, if_neg (by omega)]
      cases c2 : huP B R m i with
      | none =>
        rw [hp_1 c c2] at h
        cases h
        cases c3 : mxN rn ct run i with
        | none => exact mx_1 hrn c3
        | some k =>
          have hk := mx_lt c3
          have hkB := (hB k (by omega)).mp hk.2
          have hck : ct k = -1 := by rw [hct k (by omega) hkB, if_pos (hp_no c2 k hk.1 hkB)]
          refine mx_2 hrn c3 ?_
          rw [hck, hci]
          apply Int32.lt_iff_toInt_lt.mpr
          rw [nI_toInt (hR i)]
          have : ((-1 : Int32)).toInt = -1 := by decide
          omega
      | some k =>
        have hm := mx_hu hB hR hct i (by omega) k c2
        have hk := hp_lt c2
        have hck : ct k = nI (R k) := by rw [hct k (by omega) hk.2.1, if_neg (by omega)]
        by_cases c3 : R k < R i
        · rw [hp_2 c c2 c3] at h
          cases h
          exact mx_2 hrn hm (by rw [hck, hci]; exact (nI_ltI (hR k) (hR i)).mpr c3)
        · rw [hp_3 c2 c3] at h
          cases h
          exact mx_3 hm (by rw [hck, hci]; exact fun q => c3 ((nI_ltI (hR _) (hR i)).mp q))
    · rw [hp_0 c] at h
      have hm := mx_hu hB hR hct i (by omega) j h
      by_cases cB : B i = true
      · have hs : bN m i = 1 := by
          have : ¬ bN m i = 0 := fun q => c ⟨cB, q⟩
          omega
        refine mx_3 hm ?_
        have hj := hp_lt h
        rw [hct i (by omega) cB, if_pos hs, hct j (by omega) hj.2.1, if_neg (by omega)]
        intro q
        have q := Int32.lt_iff_toInt_lt.mp q
        rw [nI_toInt (hR j)] at q
        have : ((-1 : Int32)).toInt = -1 := by decide
        omega
      · rw [mx_0 (fun q => cB ((hB i (by omega)).mp q))]
        exact hm
def cuR (g : Nat → Int32) (x y : Int32) : Nat → Int32 := upd (upd g 18 x) 15 y
theorem cu_15 (g : Nat → Int32) (x y : Int32) : cuR g x y 15 = y := upd_s _ _ _
theorem cu_18 (g : Nat → Int32) (x y : Int32) : cuR g x y 18 = x := (upd_n (by decide)).trans (upd_s _ _ _)
theorem cu_n {g : Nat → Int32} {x y : Int32} {k : Nat} (h1 : k ≠ 15) (h2 : k ≠ 18) : cuR g x y k = g k := (upd_n h1).trans (upd_n h2)
theorem cu_cu (g : Nat → Int32) (x y x2 y2 : Int32) : cuR (cuR g x y) x2 y2 = cuR g x2 y2 := by
  funext k
  by_cases h1 : k = 15
  · rw [h1, cu_15, cu_15]
  · by_cases h2 : k = 18
    · rw [h2, cu_18, cu_18]
    · rw [cu_n h1 h2, cu_n h1 h2, cu_n h1 h2]
abbrev huQ (p : Nat → Nat) (C al : Nat) : Nat → Nat := fun l => C * p l % al
/-- the row of a letter of the run, k pennies given -/
def huL (f : HI) (B : Nat → Bool) (p : Nat → Nat) (C al n k l : Nat) : Nat → Int32 := cuR (f (47 + l)) (if bN (huM B (huQ p C al) n k) l = 1 then -1 else nI (C * p l % al)) (f (47 + l) 15 + nI (C * p l / al) + nI (bN (huM B (huQ p C al) n k) l))
section P76
variable {f : HI} {B : Nat → Bool} {p : Nat → Nat} {C n e : Nat}
theorem al_hu (hB : ∀ l, l < n → (f (47 + l) 17 = nI e ↔ B l = true)) (hp : ∀ l, l < n → ptA (f 1 0) (f (47 + l) 2) (f (47 + l) 3) = nI (p l)) : ∀ i, i ≤ n → alI f (nI e) (f 1 0) i = nI (huA B p i)
  | 0, _ => rfl
  | i + 1, hi => by
    rw [alI, huA, al_hu hB hp i (by omega), hp i (by omega)]
    by_cases c : B i = true
    · rw [if_pos ((hB i (by omega)).mpr c), if_pos c, nI_add]
    · rw [if_neg (fun q => c ((hB i (by omega)).mp q)), if_neg c]
theorem rs_hu (hB : ∀ l, l < n → (f (47 + l) 17 = nI e ↔ B l = true)) (hp : ∀ l, l < n → ptA (f 1 0) (f (47 + l) 2) (f (47 + l) 3) = nI (p l)) (hp64 : ∀ l, p l ≤ 64) (hC9 : C ≤ 999) (h0 : 0 < huA B p n) (hal : huA B p n < 2 ^ 31) : ∀ i, i ≤ n → rsI f (nI e) (nI C) (nI (huA B p n)) (f 1 0) i = nI (C - huK B p C (huA B p n) i)
  | 0, _ => rfl
  | i + 1, hi => by
    have hk := hk_le (B := B) (p := p) (C := C) h0 (i + 1) hi
    have hcp := cp_b hp64 hC9 i
    rw [huK] at hk
    rw [rsI, huK, rs_hu hB hp hp64 hC9 h0 hal i (by omega), hp i (by omega)]
    by_cases c : B i = true
    · rw [if_pos c] at hk
      rw [if_pos ((hB i (by omega)).mpr c), if_pos c, pk_mul, pk_div (by omega) h0 hal, pk_sub (by omega)]
      exact congrArg nI (by omega)
    · rw [if_neg (fun q => c ((hB i (by omega)).mp q)), if_neg c]
theorem cu_hu {l : Nat} (hl : l < n) (hB : ∀ l, l < n → (f (47 + l) 17 = nI e ↔ B l = true)) (hp : ∀ l, l < n → ptA (f 1 0) (f (47 + l) 2) (f (47 + l) 3) = nI (p l)) (hp64 : ∀ l, p l ≤ 64) (hC9 : C ≤ 999) (h0 : 0 < huA B p n) (hal : huA B p n < 2 ^ 31) : mapL (cCu (nI e) (nI C) (nI (huA B p n)) (f 1 0)) f n (47 + l) = if B l = true then huL f B p C (huA B p n) n 0 l else f (47 + l) := by
  rw [ml_in hl]
  unfold cCu
  by_cases c : B l = true
  · have hcp := cp_b hp64 hC9 l
    rw [if_pos ((hB l hl).mpr c), if_pos c, hp l hl, pk_mul, pk_rem (by omega) h0 hal, pk_div (by omega) h0 hal]
    unfold huL
    rw [show huM B (huQ p C (huA B p n)) n 0 = 0 from rfl, if_neg (bN_zero l), bN_0.mpr (bN_zero l), nI_0, Int32.add_zero]
    rfl
  · rw [if_neg (fun q => c ((hB l hl).mp q)), if_neg c]
theorem it_hu (hB : ∀ l, l < n → (f (47 + l) 17 = nI e ↔ B l = true)) (hp : ∀ l, l < n → ptA (f 1 0) (f (47 + l) 2) (f (47 + l) 3) = nI (p l)) (hp64 : ∀ l, p l ≤ 64) (hC9 : C ≤ 999) (h0 : 0 < huA B p n) (hal : huA B p n < 2 ^ 31) : ∀ k, k ≤ C - huK B p C (huA B p n) n → (∀ l, l < n → itA (mapL (cCu (nI e) (nI C) (nI (huA B p n)) (f 1 0)) f n) n (nI e) k (47 + l) = if B l = true then huL f B p C (huA B p n) n k l else f (47 + l)) ∧ ∀ r, 47 + n ≤ r → itA (mapL (cCu (nI e) (nI C) (nI (huA B p n)) (f 1 0)) f n) n (nI e) k r = f r
  | 0, _ => ⟨fun l hl => cu_hu hl hB hp hp64 hC9 h0 hal, fun r hr => ml_hi hr⟩
  | k + 1, hk => by
    obtain ⟨h1, h2⟩ := it_hu hB hp hp64 hC9 h0 hal k (by omega)
    obtain ⟨b, hb⟩ := hp_ex (B := B) (R := huQ p C (huA B p n)) (n := n) (k := k) (Nat.lt_trans (show k < C - huK B p C (huA B p n) n by omega) (hk_rest h0))
    have hbl := hp_lt hb
    have hq : ∀ l, huQ p C (huA B p n) l < 2 ^ 31 := fun l => Nat.lt_trans (Nat.mod_lt _ h0) hal
    have hm := mx_hu (rn := fun j => itA (mapL (cCu (nI e) (nI C) (nI (huA B p n)) (f 1 0)) f n) n (nI e) k (47 + j) 17) (ct := fun j => itA (mapL (cCu (nI e) (nI C) (nI (huA B p n)) (f 1 0)) f n) n (nI e) k (47 + j) 18) (run := nI e) (B := B) (R := huQ p C (huA B p n)) (m := huM B (huQ p C (huA B p n)) n k) (n := n)
      (fun l hl => by
        show itA _ n (nI e) k (47 + l) 17 = nI e ↔ _
        rw [h1 l hl]
        by_cases c : B l = true
        · rw [if_pos c, ← hB l hl]
          unfold huL
          rw [cu_n (by decide) (by decide)]
        · rw [if_neg c]; exact hB l hl) hq
      (fun l hl c => by
        show itA _ n (nI e) k (47 + l) 18 = _
        rw [h1 l hl, if_pos c]
        exact cu_18 _ _ _) n (Nat.le_refl _) b hb
    have he : itA (mapL (cCu (nI e) (nI C) (nI (huA B p n)) (f 1 0)) f n) n (nI e) (k + 1) = up1 (itA (mapL (cCu (nI e) (nI C) (nI (huA B p n)) (f 1 0)) f n) n (nI e) k) (47 + b) (cuR (itA (mapL (cCu (nI e) (nI C) (nI (huA B p n)) (f 1 0)) f n) n (nI e) k (47 + b)) (-1) (itA (mapL (cCu (nI e) (nI C) (nI (huA B p n)) (f 1 0)) f n) n (nI e) k (47 + b) 15 + 1)) := by
      rw [itA, hm]
      rfl
    rw [he]
    refine ⟨fun l hl => ?_, fun r hr => by rw [up1_f (by omega)]; exact h2 r hr⟩
    have l1 := bN_lt (huM B (huQ p C (huA B p n)) n k) l
    by_cases c : l = b
    · rw [c, up1_s, h1 b hbl.1, if_pos hbl.2.1, if_pos hbl.2.1]
      unfold huL
      rw [cu_cu, cu_15, hm_s hb, if_pos (bN_or.mpr (Or.inr rfl)), bN_or.mpr (Or.inr rfl), hbl.2.2, nI_0, Int32.add_zero]
      rfl
    · rw [up1_f (by omega), h1 l hl]
      by_cases cB : B l = true
      · rw [if_pos cB, if_pos cB]
        unfold huL
        have e1 : bN (huM B (huQ p C (huA B p n)) n (k + 1)) l = bN (huM B (huQ p C (huA B p n)) n k) l := by
          rw [hm_s hb]
          have l2 := bN_lt (huM B (huQ p C (huA B p n)) n k ||| 2 ^ b) l
          by_cases c3 : bN (huM B (huQ p C (huA B p n)) n k) l = 1
          · rw [c3, bN_or.mpr (Or.inl c3)]
          · have : ¬ bN (huM B (huQ p C (huA B p n)) n k ||| 2 ^ b) l = 1 := fun q => (bN_or.mp q).elim c3 c
            omega
        rw [e1]
      · rw [if_neg cB, if_neg cB]
/-- what a letter bears of its run -/
def huD (B : Nat → Bool) (p : Nat → Nat) (C n l : Nat) (x : Int32) : Int32 := x + nI (C * p l / huA B p n) + nI (bN (huM B (huQ p C (huA B p n)) n (C - huK B p C (huA B p n) n)) l)
theorem pr_hu (hB : ∀ l, l < n → (f (47 + l) 17 = nI e ↔ B l = true)) (hp : ∀ l, l < n → ptA (f 1 0) (f (47 + l) 2) (f (47 + l) 3) = nI (p l)) (hp64 : ∀ l, p l ≤ 64) (hC9 : C ≤ 999) (h0 : 0 < huA B p n) (hal : huA B p n < 2 ^ 31) : ∃ s, prA f n (C - huK B p C (huA B p n) n) (nI e) (nI C) = s ∧ rsI f (nI e) (nI C) (alI f (nI e) (f 1 0) n) (f 1 0) n = nI (C - huK B p C (huA B p n) n) ∧ s 43 = upd (f 43) 9 (f 43 9 + nI C) ∧ (∀ r, r < 47 → r ≠ 43 → s r = f r) ∧ (∀ r, 47 + n ≤ r → s r = f r) ∧ (∀ l, l < n → ¬ B l = true → s (47 + l) = f (47 + l)) ∧ ∀ l, l < n → B l = true → ∃ x, s (47 + l) = upd (cuR (f (47 + l)) x (huD B p C n l (f (47 + l) 15))) 17 (-1) := by
  have hA := al_hu hB hp n (Nat.le_refl _)
  obtain ⟨h1, h2⟩ := it_hu hB hp hp64 hC9 h0 hal _ (Nat.le_refl _)
  refine ⟨_, rfl, by rw [hA]; exact rs_hu hB hp hp64 hC9 h0 hal n (Nat.le_refl _), ?_⟩
  have hz : prA f n (C - huK B p C (huA B p n) n) (nI e) (nI C) = enR (itA (mapL (cCu (nI e) (nI C) (nI (huA B p n)) (f 1 0)) f n) n (nI e) (C - huK B p C (huA B p n) n)) n (nI e) (nI C) := by
    unfold prA
    rw [hA]
    exact if_pos ((nI_leI (a := 1) (by decide) hal).mpr h0)
  rw [hz]
  have l43 : ∀ r, r < 47 → itA (mapL (cCu (nI e) (nI C) (nI (huA B p n)) (f 1 0)) f n) n (nI e) (C - huK B p C (huA B p n) n) r = f r := fun r hr => (it_lo _ _ _ _ hr).trans (ml_lo hr)
  refine ⟨?_, ?_, ?_, ?_, ?_⟩
  · unfold enR
    rw [up1_s, ml_lo (by decide), l43 43 (by decide)]
  · intro r hr h43
    unfold enR
    rw [up1_f h43, ml_lo hr, l43 r hr]
  · intro r hr
    unfold enR
    rw [up1_f (by omega), ml_hi hr, h2 r hr]
  · intro l hl c
    unfold enR
    rw [up1_f (by omega), ml_in hl, h1 l hl, if_neg c]
    exact if_neg (fun q => c ((hB l hl).mp q))
  · intro l hl c
    refine ⟨if bN (huM B (huQ p C (huA B p n)) n (C - huK B p C (huA B p n) n)) l = 1 then -1 else nI (C * p l % huA B p n), ?_⟩
    unfold enR
    rw [up1_f (by omega), ml_in hl, h1 l hl, if_pos c]
    exact if_pos (by
      unfold huL
      rw [cu_n (by decide) (by decide)]
      exact (hB l hl).mpr c)
theorem hf_hu (h0 : 0 < huA B p n) : ∃ s, huF f B p C n = s ∧ s 92 = upd (f 92) 39 (f 92 39 + nI C) ∧ (∀ r, r ≠ 92 → r ≠ 121 → s r = f r) ∧ ∀ l, s 121 l = if l < n ∧ B l = true then huD B p C n l (f 121 l) else f 121 l := by
  refine ⟨_, rfl, ?_⟩
  rw [show huF f B p C n = _ from if_neg (by omega)]
  refine ⟨up1_s _ _ _, fun r h1 h2 => by rw [up1_f h1, up1_f h2], fun l => ?_⟩
  rw [up1_f (by decide), up1_s, hw_v, hg_v]
  by_cases c : l < n ∧ B l = true
  · rw [if_pos c, if_pos c]
    rfl
  · rw [if_neg c, if_neg c]
    have : bN (huM B (fun l => C * p l % huA B p n) n (C - huK B p C (huA B p n) n)) l = 0 := bN_0.mpr (fun q => c (hm_b _ _ q))
    rw [this, nI_0, Int32.add_zero]
end P76
