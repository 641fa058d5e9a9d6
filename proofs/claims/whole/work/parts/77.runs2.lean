/-! the hour: all runs of it, on both sides -/
def rI (x : Nat) : Int32 := if x < 32 then nI x else -1
theorem rI_y {x : Nat} (h : x < 32) : rI x = nI x := if_pos h
theorem rI_n {x : Nat} (h : 32 ≤ x) : rI x = -1 := if_neg (by omega)
def huE (R : Nat → Nat) (e : Nat) : Nat → Bool := fun l => decide (R l = e)
theorem hE_i {R : Nat → Nat} {e l : Nat} : huE R e l = true ↔ R l = e := decide_eq_true_iff
def exB (R : Nat → Nat) (e : Nat) : Nat → Bool
  | 0 => false
  | i + 1 => exB R e i || decide (R i = e)
theorem ex_s {R : Nat → Nat} {e i : Nat} : exB R e (i + 1) = true ↔ exB R e i = true ∨ R i = e := by
  rw [exB, Bool.or_eq_true, decide_eq_true_iff]
theorem ex_i {R : Nat → Nat} {e l : Nat} (h : R l = e) : ∀ i, l < i → exB R e i = true
  | 0, q => absurd q (Nat.not_lt_zero _)
  | i + 1, q => by
    rw [ex_s]
    by_cases c : l = i
    · exact Or.inr (c ▸ h)
    · exact Or.inl (ex_i h i (by omega))
theorem ex_o {R : Nat → Nat} {e : Nat} : ∀ i, exB R e i = true → ∃ l, l < i ∧ R l = e
  | 0, q => by cases q
  | i + 1, q => by
    rcases ex_s.mp q with q | q
    · obtain ⟨l, h1, h2⟩ := ex_o i q
      exact ⟨l, by omega, h2⟩
    · exact ⟨i, Nat.lt_succ_self _, q⟩
def exC (R Cn : Nat → Nat) (i e : Nat) : Nat := if exB R e i = true then Cn (e / 2) else 0
def tcN (R Cn : Nat → Nat) (w i : Nat) : Nat := sumN (exC R Cn i) (2 * w)
theorem sum_c {G G' : Nat → Nat} : ∀ n, (∀ e, e < n → G' e = G e) → sumN G' n = sumN G n
  | 0, _ => rfl
  | n + 1, h => by rw [sumN, sumN, sum_c n (fun e q => h e (by omega)), h n (Nat.lt_succ_self _)]
theorem sum_u {G G' : Nat → Nat} {q c : Nat} : ∀ n, q < n → (∀ e, e < n → e ≠ q → G' e = G e) → G' q = G q + c → sumN G' n = sumN G n + c
  | 0, h, _, _ => absurd h (Nat.not_lt_zero _)
  | n + 1, h, h1, h2 => by
    rw [sumN, sumN]
    by_cases e : q = n
    · rw [sum_c n (fun e2 h3 => h1 e2 (by omega) (by omega)), ← e, h2]
      omega
    · rw [sum_u n (by omega) (fun e2 h3 => h1 e2 (by omega)) h2, h1 n (Nat.lt_succ_self _) (fun q2 => e q2.symm)]
      omega
theorem tc_0 {R Cn : Nat → Nat} {w : Nat} : tcN R Cn w 0 = 0 := by
  have z : ∀ n, sumN (exC R Cn 0) n = 0 := by
    intro n
    induction n with
    | zero => rfl
    | succ n ih => rw [sumN, ih]; rfl
  exact z _
theorem tc_k {R Cn : Nat → Nat} {w i : Nat} (h : ∀ e, e < 2 * w → (exB R e (i + 1) = true ↔ exB R e i = true)) : tcN R Cn w (i + 1) = tcN R Cn w i := sum_c _ (fun e q => hu_ite (h e q))
theorem tc_n {R Cn : Nat → Nat} {w i : Nat} (h1 : R i < 2 * w) (h2 : ¬ exB R (R i) i = true) : tcN R Cn w (i + 1) = tcN R Cn w i + Cn (R i / 2) := by
  refine sum_u (q := R i) _ h1 (fun e q c => hu_ite ⟨fun z => (ex_s.mp z).resolve_right (fun y => c y.symm), fun z => ex_s.mpr (Or.inl z)⟩) ?_
  show (if exB R (R i) (i + 1) = true then Cn (R i / 2) else 0) = (if exB R (R i) i = true then Cn (R i / 2) else 0) + Cn (R i / 2)
  rw [if_pos (ex_s.mpr (Or.inr rfl)), if_neg h2, Nat.zero_add]
/-- the class behind the letters before i -/
def RnC (f : HI) (R p Cn : Nat → Nat) (w n i : Nat) (x : HI) : Prop := x 43 = upd (f 43) 9 (f 43 9 + nI (tcN R Cn w i)) ∧ (∀ r, r < 47 → r ≠ 43 → x r = f r) ∧ (∀ r, 47 + n ≤ r → x r = f r) ∧ ∀ l, l < n → (R l < 2 * w ∧ exB R (R l) i = true → ∃ y, x (47 + l) = upd (cuR (f (47 + l)) y (huD (huE R (R l)) p (Cn (R l / 2)) n l (f (47 + l) 15))) 17 (-1)) ∧ (¬ (R l < 2 * w ∧ exB R (R l) i = true) → x (47 + l) = f (47 + l))
section P77
variable {f : HI} {W : Nat → Nat → Nat} {R p Cn : Nat → Nat} {w n : Nat}
theorem rc_keep {i : Nat} {x : HI} (h : ∀ e, e < 2 * w → (exB R e (i + 1) = true ↔ exB R e i = true)) (hx : RnC f R p Cn w n i x) : RnC f R p Cn w n (i + 1) x := by
  refine ⟨by rw [tc_k h]; exact hx.1, hx.2.1, hx.2.2.1, fun l hl => ⟨fun q => (hx.2.2.2 l hl).1 ⟨q.1, (h _ q.1).mp q.2⟩, fun q => (hx.2.2.2 l hl).2 (fun z => q ⟨z.1, (h _ z.1).mpr z.2⟩)⟩⟩
theorem cl_step (hn24 : n ≤ 24) (hw : w ≤ 16) (hR : ∀ l, l < n → R l < 2 * w ∨ 32 ≤ R l) (hrun : ∀ l, l < n → f (47 + l) 17 = rI (R l)) (hp : ∀ l, l < n → ptA (f 1 0) (f (47 + l) 2) (f (47 + l) 3) = nI (p l)) (hp64 : ∀ l, p l ≤ 64) (hp1 : ∀ l, 1 ≤ p l) (hCn : ∀ y, y < w → f 6 y = nI (Cn y) ∧ Cn y ≤ 999) {i : Nat} {x : HI} (hi : i < n) (hx : RnC f R p Cn w n i x) : ∃ y, ((x (47 + i) 17 = -1 ∧ y = x) ∨ (∃ e r, e < 32 ∧ r < 2 ^ 31 ∧ x (47 + i) 17 = nI e ∧ rsI x (nI e) (x 6 (e / 2)) (alI x (nI e) (x 1 0) n) (x 1 0) n = nI r ∧ y = prA x n r (nI e) (x 6 (e / 2)))) ∧ RnC f R p Cn w n (i + 1) y := by
  have hxi := hx.2.2.2 i hi
  rcases hR i hi with h1 | h1
  · by_cases c : exB R (R i) i = true
    · obtain ⟨y, hy⟩ := hxi.1 ⟨h1, c⟩
      refine ⟨x, Or.inl ⟨by rw [hy]; exact upd_s _ _ _, rfl⟩, rc_keep (fun e _ => ⟨fun q => ?_, fun q => ex_s.mpr (Or.inl q)⟩) hx⟩
      rcases ex_s.mp q with q | q
      · exact q
      · rw [← q]; exact c
    · have hxe := hxi.2 (fun q => c q.2)
      have hal := ha_le (B := huE R (R i)) hp64 n
      have h0 : 0 < huA (huE R (R i)) p n := by
        have := ha_ge (p := p) (B := huE R (R i)) (i := i) (hE_i.mpr rfl) (n - (i + 1))
        rw [show i + 1 + (n - (i + 1)) = n by omega] at this
        have := hp1 i
        omega
      have hCi := hCn (R i / 2) (by omega)
      have hx6 : x 6 (R i / 2) = nI (Cn (R i / 2)) := by rw [hx.2.1 6 (by decide) (by decide)]; exact hCi.1
      have hB : ∀ l, l < n → (x (47 + l) 17 = nI (R i) ↔ huE R (R i) l = true) := by
        intro l hl
        rw [hE_i]
        by_cases c2 : R l < 2 * w ∧ exB R (R l) i = true
        · obtain ⟨y, hy⟩ := (hx.2.2.2 l hl).1 c2
          rw [hy, upd_s]
          exact ⟨fun q => absurd q.symm (nI_nm (by omega)), fun q => absurd (q ▸ c2.2) c⟩
        · rw [(hx.2.2.2 l hl).2 c2, hrun l hl]
          rcases hR l hl with h2 | h2
          · rw [rI_y (by omega)]
            exact nI_eq (by omega) (by omega)
          · rw [rI_n h2]
            exact ⟨fun q => absurd q.symm (nI_nm (by omega)), fun q => absurd q (by omega)⟩
      have hpx : ∀ l, l < n → ptA (x 1 0) (x (47 + l) 2) (x (47 + l) 3) = nI (p l) := by
        intro l hl
        rw [hx.2.1 1 (by decide) (by decide), ← hp l hl]
        by_cases c2 : R l < 2 * w ∧ exB R (R l) i = true
        · obtain ⟨y, hy⟩ := (hx.2.2.2 l hl).1 c2
          rw [hy, upd_n (by decide), upd_n (by decide), cu_n (by decide) (by decide), cu_n (by decide) (by decide)]
        · rw [(hx.2.2.2 l hl).2 c2]
      obtain ⟨s, e1, e2, e3, e4, e5, e6, e7⟩ := pr_hu (f := x) (B := huE R (R i)) (p := p) (C := Cn (R i / 2)) (n := n) (e := R i) hB hpx hp64 hCi.2 h0 (by omega)
      refine ⟨s, Or.inr ⟨R i, Cn (R i / 2) - huK (huE R (R i)) p (Cn (R i / 2)) (huA (huE R (R i)) p n) n, by omega, by have := hCi.2; omega, by rw [hxe, hrun i hi, rI_y (by omega)], by rw [hx6]; exact e2, by rw [hx6]; exact e1.symm⟩, ?_, ?_, ?_, ?_⟩
      · rw [e3, hx.1, upd_s, upd_upd, tc_n h1 c, Int32.add_assoc, nI_add]
      · intro r hr h43
        rw [e4 r hr h43, hx.2.1 r hr h43]
      · intro r hr
        rw [e5 r hr, hx.2.2.1 r hr]
      · intro l hl
        by_cases c2 : R l = R i
        · have hxl := (hx.2.2.2 l hl).2 (fun q => c (c2 ▸ q.2))
          refine ⟨fun _ => ?_, fun q => absurd ⟨by omega, ex_s.mpr (Or.inr c2.symm)⟩ q⟩
          obtain ⟨y, hy⟩ := e7 l hl (hE_i.mpr c2)
          rw [hxl] at hy
          exact ⟨y, by rw [hy, c2]⟩
        · have hsl := e6 l hl (fun q => c2 (hE_i.mp q))
          have hex : exB R (R l) (i + 1) = true ↔ exB R (R l) i = true := ⟨fun q => (ex_s.mp q).resolve_right (fun z => c2 z.symm), fun q => ex_s.mpr (Or.inl q)⟩
          rw [hsl]
          exact ⟨fun q => (hx.2.2.2 l hl).1 ⟨q.1, hex.mp q.2⟩, fun q => (hx.2.2.2 l hl).2 (fun z => q ⟨z.1, hex.mpr z.2⟩)⟩
  · refine ⟨x, Or.inl ⟨by rw [hxi.2 (fun q => by omega), hrun i hi, rI_n h1], rfl⟩, rc_keep (fun e he => ⟨fun q => (ex_s.mp q).resolve_right (fun z => by omega), fun q => ex_s.mpr (Or.inl q)⟩) hx⟩
theorem cl_runs (hn24 : n ≤ 24) (hw : w ≤ 16) (hc : f 43 6 = nI n) (hR : ∀ l, l < n → R l < 2 * w ∨ 32 ≤ R l) (hrun : ∀ l, l < n → f (47 + l) 17 = rI (R l)) (hp : ∀ l, l < n → ptA (f 1 0) (f (47 + l) 2) (f (47 + l) 3) = nI (p l)) (hp64 : ∀ l, p l ≤ 64) (hp1 : ∀ l, 1 ≤ p l) (hCn : ∀ y, y < w → f 6 y = nI (Cn y) ∧ Cn y ≤ 999) : ∃ S : Nat → HI, S 0 = f ∧ (∀ i, i ≤ n → S i 43 6 = nI n) ∧ (∀ i, i < n → PrS S n i) ∧ RnC f R p Cn w n n (S n) := by
  have h0 : RnC f R p Cn w n 0 f := ⟨by rw [tc_0, nI_0, Int32.add_zero, upd_id], fun _ _ _ => rfl, fun _ _ => rfl, fun l _ => ⟨fun q => absurd q.2 (by show ¬ false = true; decide), fun _ => rfl⟩⟩
  obtain ⟨S, s0, s1, s2⟩ := sq_ex (P := fun i x => RnC f R p Cn w n i x) (R := fun i x y => (x (47 + i) 17 = -1 ∧ y = x) ∨ (∃ e r, e < 32 ∧ r < 2 ^ 31 ∧ x (47 + i) 17 = nI e ∧ rsI x (nI e) (x 6 (e / 2)) (alI x (nI e) (x 1 0) n) (x 1 0) n = nI r ∧ y = prA x n r (nI e) (x 6 (e / 2)))) n h0 (fun i x hi hx => cl_step hn24 hw hR hrun hp hp64 hp1 hCn hi hx)
  exact ⟨S, s0, fun i hi => by rw [(s2 i hi).1, upd_n (by decide)]; exact hc, s1, s2 n (Nat.le_refl _)⟩
/-- the reference behind the ends before e -/
def RnM (t : HI) (R p Cn : Nat → Nat) (n e : Nat) (x : HI) : Prop := x 92 = upd (t 92) 39 (t 92 39 + nI (sumN (exC R Cn n) e)) ∧ (∀ r, r ≠ 92 → r ≠ 121 → x r = t r) ∧ ∀ l, x 121 l = if l < n ∧ R l < e then huD (huE R (R l)) p (Cn (R l / 2)) n l (t 121 l) else t 121 l
theorem hf_136 {f : HI} {B : Nat → Bool} {C : Nat} {g : Nat → Int32} : huF (up1 f 136 g) B p C n = up1 (huF f B p C n) 136 g := by
  unfold huF
  by_cases c : huA B p n = 0
  · rw [if_pos c, if_pos c]
  · rw [if_neg c, if_neg c, up1_sw (a := 136) (b := 92) (by decide), up1_sw (a := 136) (b := 121) (by decide)]
    rfl
theorem ml_step {t : HI} (hn24 : n ≤ 24) (hw : w ≤ 16) (hR : ∀ l, l < n → R l < 2 * w ∨ 32 ≤ R l) (hp1 : ∀ l, 1 ≤ p l) {e : Nat} {x : HI} (hx : RnM t R p Cn n e x) : RnM t R p Cn n (e + 1) (huF x (huE R e) p (Cn (e / 2)) n) := by
  by_cases c : huA (huE R e) p n = 0
  · have no : ∀ l, l < n → ¬ R l = e := by
      intro l hl q
      have := ha_ge (p := p) (B := huE R e) (i := l) (hE_i.mpr q) (n - (l + 1))
      rw [show l + 1 + (n - (l + 1)) = n by omega, c] at this
      have := hp1 l
      omega
    rw [show huF x (huE R e) p (Cn (e / 2)) n = x from if_pos c]
    refine ⟨?_, hx.2.1, fun l => ?_⟩
    · rw [hx.1, sumN, show exC R Cn n e = 0 from if_neg (fun q => by obtain ⟨l, h1, h2⟩ := ex_o n q; exact no l h1 h2), Nat.add_zero]
    · rw [hx.2.2 l]
      exact hu_ite ⟨fun q => ⟨q.1, by omega⟩, fun q => ⟨q.1, by have := no l q.1; omega⟩⟩
  · obtain ⟨s, e1, e2, e3, e4⟩ := hf_hu (f := x) (B := huE R e) (p := p) (C := Cn (e / 2)) (n := n) (Nat.pos_of_ne_zero c)
    rw [e1]
    have hex : exB R e n = true := by
      cases q : exB R e n with
      | true => rfl
      | false =>
        have z : ∀ i, i ≤ n → huA (huE R e) p i = 0 := by
          intro i
          induction i with
          | zero => intro _; rfl
          | succ i ih =>
            intro hi
            rw [huA, if_neg (fun z => by rw [ex_i (hE_i.mp z) n (by omega)] at q; cases q)]
            exact ih (by omega)
        exact absurd (z n (Nat.le_refl _)) c
    refine ⟨?_, fun r h1 h2 => by rw [e3 r h1 h2, hx.2.1 r h1 h2], fun l => ?_⟩
    · rw [e2, hx.1, upd_s, upd_upd, sumN, show exC R Cn n e = Cn (e / 2) from if_pos hex, Int32.add_assoc, nI_add]
    · rw [e4 l, hx.2.2 l]
      by_cases c1 : l < n
      · by_cases c2 : R l = e
        · rw [if_pos ⟨c1, hE_i.mpr c2⟩, if_neg (fun q => by omega), if_pos ⟨c1, by omega⟩, c2]
        · rw [if_neg (fun q => c2 (hE_i.mp q.2))]
          exact hu_ite ⟨fun q => ⟨q.1, by omega⟩, fun q => ⟨q.1, by omega⟩⟩
      · rw [if_neg (fun q => c1 q.1), if_neg (fun q => c1 q.1), if_neg (fun q => c1 q.1)]
theorem ml_runs {t : HI} (hn24 : n ≤ 24) (hn : t 92 35 = nI n) (hM : LaM t W w) (hR : ∀ l, l < n → R l < 2 * w ∨ 32 ≤ R l) (hrun : ∀ l, l < n → (R l < 2 * w ∧ t 123 l = nI (R l / 2) ∧ t 116 l = nI (eP W (R l))) ∨ (32 ≤ R l ∧ t 123 l = -1)) (hk : t 92 42 = 0 ∨ t 92 42 = 1 ∨ t 92 42 = 2) (hp : ∀ l, l < n → ptA (t 92 42) (t 109 l) (t 110 l) = nI (p l)) (hp64 : ∀ l, p l ≤ 64) (hp1 : ∀ l, 1 ≤ p l) (hCn : ∀ y, y < w → t 99 y = nI (Cn y) ∧ Cn y ≤ 999) : ∃ S : Nat → HI, S 0 = t ∧ (∀ e, e ≤ 2 * w → RnM t R p Cn n e (S e)) ∧ ∀ e, e < 2 * w → C4m S W e := by
  have hw := hM.2.1
  have h0 : RnM t R p Cn n 0 t := ⟨by rw [sumN, nI_0, Int32.add_zero, upd_id], fun _ _ _ => rfl, fun l => (if_neg (fun q => absurd q.2 (Nat.not_lt_zero _))).symm⟩
  obtain ⟨S, s0, s1, s2⟩ := sq_ex (P := fun e x => RnM t R p Cn n e x) (R := fun e x y => y = huF x (huE R e) p (Cn (e / 2)) n) (2 * w) h0 (fun e x he hx => ⟨_, rfl, ml_step hn24 hw hR hp1 hx⟩)
  refine ⟨S, s0, s2, fun e he g => ?_⟩
  have hx := s2 e (by omega)
  rw [s1 e he]
  have hB : ∀ l, l < n → (((up1 (S e) 136 g) 123 l = nI (e / 2) ∧ (up1 (S e) 136 g) 116 l = nI (eP W e)) ↔ huE R e l = true) := by
    intro l hl
    show (S e 123 l = nI (e / 2) ∧ S e 116 l = nI (eP W e)) ↔ _
    rw [hE_i, hx.2.1 123 (by decide) (by decide), hx.2.1 116 (by decide) (by decide)]
    rcases hrun l hl with ⟨h1, h2, h3⟩ | ⟨h1, h2⟩
    · rw [h2, h3]
      have q1 := wy_P hM.2.2.2 h1
      have q2 := wy_P hM.2.2.2 he
      refine ⟨fun q => ?_, fun q => by rw [q]; exact ⟨rfl, rfl⟩⟩
      exact ot_u hM.2.2.2 he ((nI_eq (by omega) (by omega)).mp q.1) rfl ((nI_eq (by omega) (by omega)).mp q.2)
    · rw [h2]
      exact ⟨fun q => absurd q.1.symm (nI_nm (by omega)), fun q => absurd q (by omega)⟩
  have hC := hCn (e / 2) (by omega)
  have q42 : S e 92 42 = t 92 42 := by rw [hx.1, upd_n (by decide)]
  have h9 := mp_run (f := up1 (S e) 136 g) (B := huE R e) (p := p) (C := Cn (e / 2)) (n := n) (w0 := e / 2) (t0 := nI (eP W e)) hn24
    (show S e 92 35 = nI n by rw [hx.1, upd_n (by decide)]; exact hn) hB
    (show S e 92 42 = 0 ∨ S e 92 42 = 1 ∨ S e 92 42 = 2 by rw [q42]; exact hk)
    (fun l hl => show ptA (S e 92 42) (S e 109 l) (S e 110 l) = nI (p l) by rw [q42, hx.2.1 109 (by decide) (by decide), hx.2.1 110 (by decide) (by decide)]; exact hp l hl) hp64 (by omega)
    (show S e 99 (e / 2) = nI (Cn (e / 2)) by rw [hx.2.1 99 (by decide) (by decide)]; exact hC.1) hC.2
  rw [hf_136] at h9
  exact h9.mono (Nat.le_refl _) (fun v f' q => ⟨q.1, g, q.2⟩)
end P77
