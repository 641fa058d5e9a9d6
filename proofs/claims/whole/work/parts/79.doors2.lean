/-! the hour: letters at the doors, both sides -/
theorem and1_01 (x : Int32) : x &&& 1 = 0 ∨ x &&& 1 = 1 := by
  have h : (x &&& 1).toBitVec.toNat = x.toBitVec.toNat % 2 := by
    show (x.toBitVec &&& 1#32).toNat = _
    rw [BitVec.toNat_and]
    exact Nat.and_one_is_mod _
  rcases Nat.mod_two_eq_zero_or_one x.toBitVec.toNat with q | q
  · left
    apply Int32.toBitVec_inj.1
    apply BitVec.eq_of_toNat_eq
    rw [h, q]
    rfl
  · right
    apply Int32.toBitVec_inj.1
    apply BitVec.eq_of_toNat_eq
    rw [h, q]
    rfl
theorem co_k : ∀ i, i < 32 → Nat.testBit 254 i = !Nat.testBit 4294967041 i := by decide
theorem co_n {x : Int32} (h : x &&& (-255) = 0) : ∃ c, c < 256 ∧ c % 2 = 0 ∧ x = nI c := by
  have hx : x = nI x.toBitVec.toNat := Int32.toBitVec_inj.1 (by show x.toBitVec = BitVec.ofNat 32 x.toBitVec.toNat; simp)
  have h1 : x.toBitVec.toNat &&& 4294967041 = 0 := by
    have h2 := congrArg (fun z : Int32 => z.toBitVec.toNat) h
    have h3 : (x.toBitVec &&& (-255 : Int32).toBitVec).toNat = 0 := h2
    rw [BitVec.toNat_and] at h3
    exact h3
  have hlt : x.toBitVec.toNat < 2 ^ 32 := x.toBitVec.isLt
  generalize x.toBitVec.toNat = c at *
  have h4 : c &&& 254 = c := by
    apply Nat.eq_of_testBit_eq
    intro i
    rw [Nat.testBit_and]
    cases q : Nat.testBit c i with
    | false => rfl
    | true =>
      by_cases hi : i < 32
      · have h5 : Nat.testBit (c &&& 4294967041) i = false := by rw [h1]; exact Nat.zero_testBit i
        rw [Nat.testBit_and, q, Bool.true_and] at h5
        rw [co_k i hi, h5]
        rfl
      · have h6 : c < 2 ^ i := Nat.lt_of_lt_of_le hlt (Nat.pow_le_pow_right (by decide) (by omega))
        rw [Nat.testBit_lt_two_pow h6] at q
        cases q
  have h7 : c ≤ 254 := by rw [← h4]; exact Nat.and_le_right
  have h8 : c % 2 = 0 := by
    have h5 : Nat.testBit (c &&& 254) 0 = false := by rw [Nat.testBit_and, show Nat.testBit 254 0 = false from by decide, Bool.and_false]
    rw [h4, Nat.testBit_zero] at h5
    have := of_decide_eq_false h5
    omega
  exact ⟨c, by omega, h8, hx⟩
theorem tk_eq {ow wo pu k x : Int32} {wi : Nat} (hx : x &&& (-255) = 0) (hwi : k = 0 → wi ≤ 7) : tkP ow wo pu k (nI wi) ((x >>> (nI wi &&& 31)) &&& 1) ↔ tkMm ow wo pu k ((x >>> (nI wi &&& 31)) &&& 1) := by
  obtain ⟨c, hc, hc2, e⟩ := co_n hx
  have key : (k = 0 ∧ 0 < nI wi ∧ ¬ ((x >>> (nI wi &&& 31)) &&& 1) = 0) ↔ (k = 0 ∧ ((x >>> (nI wi &&& 31)) &&& 1) = 1) := by
    by_cases ck : k = 0
    · have h7 := hwi ck
      rw [e, bitN (by omega) (by omega)]
      have hb := bN_lt c wi
      constructor
      · rintro ⟨q, _, q3⟩
        refine ⟨q, ?_⟩
        have : ¬ bN c wi = 0 := fun z => q3 (by rw [z]; exact nI_0)
        rw [show bN c wi = 1 by omega]
        rfl
      · rintro ⟨q, q3⟩
        have h1 : bN c wi = 1 := (nI_eq (a := bN c wi) (b := 1) (by omega) (by decide)).mp q3
        refine ⟨q, ?_, fun z => ?_⟩
        · refine (nI_ltI (a := 0) (b := wi) (by decide) (by omega)).mpr (Nat.pos_of_ne_zero (fun z => ?_))
          rw [z] at h1
          unfold bN at h1
          omega
        · rw [h1] at z
          exact absurd z (by decide)
    · exact ⟨fun q => absurd q.1 ck, fun q => absurd q.1 ck⟩
  unfold tkMm
  show (ow = 0 ∨ ow ≤ wo ∧ ow ≤ pu ∧ ¬ _) ↔ (ow = 0 ∨ ow ≤ wo ∧ ow ≤ pu ∧ ¬ _)
  rw [key]
/-- what a letter owes, by the class's cells -/
def owS (s : HI) (D : Nat → Nat → Nat) (am h i a b : Nat) : Int32 := owA (s (47 + i) 5) (nI (fkN (fun l => s (47 + l) 5) (fun l => s (47 + l) 6) (fun l => ciN (s (47 + l) 7)) (s (47 + i) 6) (nI (ciN (s (47 + i) 7) / 168)) i)) (fun q => frA (s (19 + 5 * q)) (s (20 + 5 * q)) (ciN (s (18 + 5 * q) 3))) (fun q => chA (s (19 + 5 * q)) (s (20 + 5 * q)) (s (21 + 5 * q)) (dJ (D a b)) (s (47 + i) 2) (s (47 + i) 3) 0 (ciN (s (18 + 5 * q) 3))) (toA (fun q => s (22 + 5 * q) b) (fun q => s (18 + 5 * q) 4) (nI h) (nI (h / 24)) am)
def drS (D : Nat → Nat → Nat) (am h : Nat) (s : HI) (i : Nat) : HI := if s (47 + i) 8 = 0 ∧ s (47 + i) 9 = s (47 + i) 10 then (if s (47 + i) 13 = 0 then ofH s i (ciN (s (47 + i) 0)) (ciN (s (47 + i) 1)) (owS s D am h i (ciN (s (47 + i) 0)) (ciN (s (47 + i) 1))) else up1 s (47 + i) (upd (upd (s (47 + i)) 16 (s 43 7)) 8 3)) else s
def itS2 (D : Nat → Nat → Nat) (am h : Nat) (s : HI) : Nat → HI
  | 0 => s
  | i + 1 => drS D am h (itS2 D am h s i) i
def DrP (s s' : HI) (i : Nat) : Prop := (¬ (s (47 + i) 8 = 0 ∧ s (47 + i) 9 = s (47 + i) 10) ∧ s' = s) ∨ ((s (47 + i) 8 = 0 ∧ s (47 + i) 9 = s (47 + i) 10) ∧ ((¬ s (47 + i) 13 = 0 ∧ s' = up1 s (47 + i) (upd (upd (s (47 + i)) 16 (s 43 7)) 8 3)) ∨ (s (47 + i) 13 = 0 ∧ ∃ a b ow, a < 10 ∧ b < 10 ∧ s (47 + i) 0 = nI a ∧ s (47 + i) 1 = nI b ∧ Sp 4 30 [.ref 43, .ref (47 + i), .int (nI i)] s (Ret ow s) ∧ s' = ofH s i a b ow)))
def C2R (t t' : HI) (i : Nat) : Prop := (¬ (t 115 i = 0 ∧ t 116 i = t 117 i) ∧ t' = t) ∨ ((t 115 i = 0 ∧ t 116 i = t 117 i) ∧ ∀ g, Sp 5 170 [.ref 92, .int (nI i)] (up1 t 136 g) (fun v f' => v = none ∧ ∃ g2, f' = up1 t' 136 g2))
theorem c_up {t x : HI} {q i l r : Nat} {v : Int32} (h : l ≠ i) (hx : x r l = t r l) : up1 x q (upd (t q) i v) r l = t r l := by
  by_cases c : r = q
  · rw [c, up1_s, upd_n h]
  · rw [up1_f c]; exact hx
theorem c_ui {x : HI} {m : Nat → Int32} {G : Nat → Int32} {q i r : Nat} {v : Int32} (hx : x r i = m r) : up1 x q (upd G i v) r i = upd m q v r := by
  by_cases c : r = q
  · rw [c, up1_s, upd_s, upd_s]
  · rw [up1_f c, upd_n c]; exact hx
theorem c_ot {x : HI} {q r l : Nat} {G : Nat → Int32} (h : r ≠ q) : up1 x q G r l = x r l := by rw [up1_f h]
theorem lt_m {W : Nat → Nat → Nat} {w h0 : Nat} {g m m' : Nat → Int32} (h : LtB W w h0 g m ∧ Eh1 g m) (h1 : ∀ r, 107 ≤ r → r ≤ 123 → m' r = m r) (h2 : m' 137 = m 137) : LtB W w h0 g m' ∧ Eh1 g m' := ⟨lb_m h.1 (fun r a b => h1 r a (by omega)) h2, h.2.1, by rw [h1 123 (by decide) (by decide)]; exact h.2.2⟩
section P79
variable {W : Nat → Nat → Nat} {w : Nat} {D : Nat → Nat → Nat} {am n h : Nat} {s0 t0 s t : HI} {E : (Nat → Int32) → (Nat → Int32) → Prop}
theorem ow_cm (hn24 : n ≤ 24) (h9 : h ≤ 9000) (hI : InX E W w D am n h s0 t0 s t) {i a b : Nat} (hi : i < n) (ha : a < 10) (hb : b < 10) (qa : t 107 i = nI a) (qb : t 108 i = nI b) : Sp 4 30 [.ref 43, .ref (47 + i), .int (nI i)] s (Ret (owS s D am h i a b) s) ∧ ∀ g', Sp 4 169 [.ref 92, .int (nI i)] (up1 t 136 g') (fun v f' => v = some (.int (owS s D am h i a b)) ∧ ∃ g, f' = up1 (up1 t 136 g') 136 g) := by
  have hct := in_ct hI
  obtain ⟨hLC, hLM, hLI, hdist, hcost, hact, hkey, hk3⟩ := hct
  have hml := hI.2.2.2.2.1
  have hl := hI.2.2.2.2.2
  obtain ⟨a1, a2, a3, a4⟩ := hact
  have hQ : ∀ l, l < n → LtQ (s (47 + l)) (clm t l) := fun l q => (hl l q).1.1
  have hwr : ∀ l, l < n → s (47 + l) 7 = nI (ciN (s (47 + l) 7)) ∧ ciN (s (47 + l) 7) ≤ 9000 := by
    intro l q
    obtain ⟨a, b, sh, dr, wi, wr, z⟩ := (hl l q).1.2.1
    have e : s (47 + l) 7 = nI wr := (hQ l q).2.2.2.2.2.2.2.trans z.2.2.2.2.2.2.2.2.2.2.2.2.2.2.2.1
    have z9 := z.2.2.2.2.2.2.2.2.2.2.2.2.2.2.2.2
    rw [e, ciN_n (by omega)]
    exact ⟨rfl, by omega⟩
  have hcnt : ∀ q, q < am → ∃ c, c ≤ 8 ∧ s (18 + 5 * q) 3 = nI c ∧ ciN (s (18 + 5 * q) 3) = c ∧ t 101 q = nI c ∧ AcM t q c (s (19 + 5 * q)) (s (20 + 5 * q)) (s (21 + 5 * q)) := by
    intro q hq
    obtain ⟨_, _, c, c8, e1, e2, e3⟩ := a4 q hq
    exact ⟨c, c8, e1, by rw [e1, ciN_n (by omega)], e2, e3⟩
  refine ⟨?_, fun g' => ?_⟩
  · exact sp_owed (f := s) (n := n) (l := i) (a := a) (b := b) (h := h) (am := am) (kk := fun l => s (47 + l) 5) (ww := fun l => s (47 + l) 6) (wr := fun l => ciN (s (47 + l) 7)) (D := D) hi ha hb h9 a3
      ⟨hml.1.1, hn24, fun _ _ => ⟨rfl, rfl⟩⟩ hwr ((hQ i hi).1.trans qa) ((hQ i hi).2.1.trans qb) rfl rfl hml.1.2.1 a1 (fun _ _ => ⟨rfl, rfl⟩)
      (fun q hq => by obtain ⟨c, c8, e1, e2, e3, e4⟩ := hcnt q hq; exact ⟨c, c8, e1, by rw [e2], by rw [e2]⟩) hdist.1 hLI.2.1 hdist.2
  · exact mp_owes (f := up1 t 136 g') (n := n) (l := i) (a := a) (b := b) (h := h) (am := am) (kk := fun l => s (47 + l) 5) (ww := fun l => s (47 + l) 6) (wr := fun l => ciN (s (47 + l) 7)) (D := D) (W := W) (w := w) hi ha hb h9 a3
      ⟨hml.1.2.2.1, hn24, fun j hj => ⟨(hQ j hj).2.2.2.2.2.1.symm, (hQ j hj).2.2.2.2.2.2.1.symm⟩⟩ (fun j hj => ⟨(hQ j hj).2.2.2.2.2.2.2.symm.trans (hwr j hj).1, (hwr j hj).2⟩) qa qb (hQ i hi).2.2.1.symm (hQ i hi).2.2.2.1.symm hml.1.2.2.2 a2
      (fun q hq => ⟨((a4 q hq).1 b hb).symm, (a4 q hq).2.1.symm⟩)
      (fun q hq => by obtain ⟨c, c8, e1, e2, e3, e4⟩ := hcnt q hq; exact ⟨c, _, _, _, c8, e3, e4, by rw [e2], by rw [e2]⟩) hLM hLI
theorem ar_0 {t : HI} {i h : Nat} {g : Nat → Int32} : (up1 (up1 (up1 t 136 g) 122 (upd ((up1 t 136 g) 122) i (nI h))) 115 (upd ((up1 t 136 g) 115) i 3)) = up1 (up1 (up1 t 122 (upd (t 122) i (nI h))) 115 (upd (t 115) i 3)) 136 g := by
  show up1 (up1 (up1 t 136 g) 122 (upd (t 122) i (nI h))) 115 (upd (t 115) i 3) = _
  rw [up1_sw (a := 122) (b := 136) (by decide), up1_sw (a := 115) (b := 136) (by decide)]
theorem ar_1 {t : HI} {i h b : Nat} {ow : Int32} {g g2 : Nat → Int32} : up1 (up1 (up1 (up1 (up1 (up1 (up1 t 136 g) 120 (upd ((up1 t 136 g) 120) i ((((up1 t 136 g) 120) i) + ow))) 124 (upd ((up1 t 136 g) 124) b ((((up1 t 136 g) 124) b) - ow))) 92 (upd (upd ((up1 t 136 g) 92) 41 (((up1 t 136 g) 92 41) + 1)) 38 (((upd ((up1 t 136 g) 92) 41 (((up1 t 136 g) 92 41) + 1)) 38) + ow))) 122 (upd ((up1 t 136 g) 122) i (nI h))) 115 (upd ((up1 t 136 g) 115) i 2)) 136 g2 = up1 (up1 (up1 (up1 (up1 (up1 t 120 (upd (t 120) i (((t 120) i) + ow))) 124 (upd (t 124) b (((t 124) b) - ow))) 92 (upd (upd (t 92) 41 ((t 92 41) + 1)) 38 (((upd (t 92) 41 ((t 92 41) + 1)) 38) + ow))) 122 (upd (t 122) i (nI h))) 115 (upd (t 115) i 2)) 136 g2 := by
  show up1 (up1 (up1 (up1 (up1 (up1 (up1 t 136 g) 120 (upd (t 120) i (((t 120) i) + ow))) 124 (upd (t 124) b (((t 124) b) - ow))) 92 (upd (upd (t 92) 41 ((t 92 41) + 1)) 38 (((upd (t 92) 41 ((t 92 41) + 1)) 38) + ow))) 122 (upd (t 122) i (nI h))) 115 (upd (t 115) i 2)) 136 g2 = _
  rw [up1_sw (a := 120) (b := 136) (by decide), up1_sw (a := 124) (b := 136) (by decide), up1_sw (a := 92) (b := 136) (by decide), up1_sw (a := 122) (b := 136) (by decide), up1_sw (a := 115) (b := 136) (by decide), up1_up1]
theorem ar_2 {t : HI} {i a : Nat} {g g2 : Nat → Int32} : up1 (up1 (up1 (up1 (up1 t 136 g) 117 (upd ((up1 t 136 g) 117) i (nI a))) 92 (upd ((up1 t 136 g) 92) 40 (((up1 t 136 g) 92 40) + 1))) 119 (upd ((up1 t 136 g) 119) i 1)) 136 g2 = up1 (up1 (up1 (up1 t 117 (upd (t 117) i (nI a))) 92 (upd (t 92) 40 ((t 92 40) + 1))) 119 (upd (t 119) i 1)) 136 g2 := by
  show up1 (up1 (up1 (up1 (up1 t 136 g) 117 (upd (t 117) i (nI a))) 92 (upd (t 92) 40 ((t 92 40) + 1))) 119 (upd (t 119) i 1)) 136 g2 = _
  rw [up1_sw (a := 117) (b := 136) (by decide), up1_sw (a := 92) (b := 136) (by decide), up1_sw (a := 119) (b := 136) (by decide), up1_up1]
theorem dr_sim (hn24 : n ≤ 24) (h9 : h ≤ 9000) {i : Nat} (hi : i < n) (hI : InX Eh1 W w D am n h s0 t0 s t) : DrP s (drS D am h s i) i ∧ ∃ t', C2R t t' i ∧ InX Eh1 W w D am n h s0 t0 (drS D am h s i) t' := by
  have hml := hI.2.2.2.2.1
  have hl := hI.2.2.2.2.2
  obtain ⟨⟨hQ, hS, hD, hT⟩, hE⟩ := hl i hi
  have hQ0 := hQ; have hS0 := hS; have hD0 := hD; have hT0 := hT
  obtain ⟨d8, d9, d10, d13, d14, d15, d16⟩ := hD
  obtain ⟨a, b, sh, dr, wi, wr, qa, ha, qb, hb, hab, q3, q4, q5, q6, q7, q8, q9, qw, qw2, qw3, qr, qr2⟩ := hS
  have e0 : s (47 + i) 0 = nI a := hQ.1.trans qa
  have e1 : s (47 + i) 1 = nI b := hQ.2.1.trans qb
  have n43 : (43 : Nat) ≠ 47 + i := by omega
  have n45 : (45 : Nat) ≠ 47 + i := by omega
  by_cases c : s (47 + i) 8 = 0 ∧ s (47 + i) 9 = s (47 + i) 10
  · have cm : t 115 i = 0 ∧ t 116 i = t 117 i := ⟨d8.symm.trans c.1, d9.symm.trans (c.2.trans d10)⟩
    by_cases c2 : s (47 + i) 13 = 0
    · have hdr : drS D am h s i = ofH s i a b (owS s D am h i a b) := by
        unfold drS
        rw [if_pos c, if_pos c2, e0, e1, ciN_n (by omega), ciN_n (by omega)]
      obtain ⟨w1, w2⟩ := ow_cm hn24 h9 hI hi ha hb qa qb
      rw [hdr]
      generalize owS s D am h i a b = ow at w1 w2 ⊢
      refine ⟨Or.inr ⟨c, Or.inr ⟨c2, a, b, ow, ha, hb, e0, e1, w1, rfl⟩⟩, ?_⟩
      have hz : t 119 i = 0 := d13.symm.trans c2
      have hcx := in_co hI (10 * a + b) (by omega)
      have htk := tk_eq (ow := ow) (wo := t 111 i) (pu := t 124 b) (k := t 112 i) (wi := wi) hcx.2 qw3
      rw [← show t 113 i = nI wi from qw] at htk
      have hex : tkP ow (s (47 + i) 4) (s 45 b) (s (47 + i) 5) (s (47 + i) 6) ((s 46 (a * 10 + b) >>> (s (47 + i) 6 &&& 31)) &&& 1) ↔ tkMm ow (t 111 i) (t 124 b) (t 112 i) ((t 125 (10 * a + b) >>> (t 113 i &&& 31)) &&& 1) := by
        rw [← htk, hQ.2.2.2.2.1, hQ.2.2.2.2.2.1, hQ.2.2.2.2.2.2.1, hml.2.2 b hb, show a * 10 + b = 10 * a + b by omega, hcx.1]
      by_cases ct : tkP ow (s (47 + i) 4) (s 45 b) (s (47 + i) 5) (s (47 + i) 6) ((s 46 (a * 10 + b) >>> (s (47 + i) 6 &&& 31)) &&& 1)
      · rw [show ofH s i a b ow = _ from if_pos ct]
        refine ⟨(up1 (up1 (up1 (up1 (up1 t 120 (upd (t 120) i (((t 120) i) + ow))) 124 (upd (t 124) b (((t 124) b) - ow))) 92 (upd (upd (t 92) 41 ((t 92 41) + 1)) 38 (((upd (t 92) 41 ((t 92 41) + 1)) 38) + ow))) 122 (upd (t 122) i (nI h))) 115 (upd (t 115) i 2)), Or.inr ⟨cm, fun g => ?_⟩, fun r b1 b2 b3 b4 => ?_, frM_t hI.2.1 ⟨fun r b1 b2 b3 b4 => ?_, fun k b1 b2 => ?_⟩, hI.2.2.1, hI.2.2.2.1, ⟨⟨?_, ?_, hml.1.2.2.1, hml.1.2.2.2⟩, ⟨?_, ?_, ?_, ?_⟩, fun j hj => ?_⟩, fun l hl2 => ?_⟩
        · refine (mp_arrive1 (f := up1 t 136 g) (l := i) (a := a) (b := b) (h := h) (by omega) ha hb qa qb hml.1.2.2.2 hz ow (w2 g) (hex.mp ct)).mono (Nat.le_refl _) (fun v f' q => ⟨q.1, ?_⟩)
          obtain ⟨_, g2, q2⟩ := q
          exact ⟨g2, q2.trans ar_1⟩
        · rw [up1_f (by omega), up1_f b2, up1_f b3]
          exact hI.1 r b1 b2 b3 b4
        · rw [up1_f (by omega), up1_f (by omega), up1_f b1, up1_f (by omega), up1_f (by omega)]
        · show upd (upd (t 92) 41 _) 38 _ k = t 92 k
          rw [upd_n (by omega), upd_n (by omega)]
        · rw [up1_f n43]; exact hml.1.1
        · rw [up1_f n43]; exact hml.1.2.1
        · rw [up1_f n43]
          show s 43 8 + ow = t 92 38 + ow
          rw [hml.2.1.1]
        · rw [up1_f n43]; exact hml.2.1.2.1
        · rw [up1_f n43]; exact hml.2.1.2.2.1
        · rw [up1_f n43]
          show s 43 11 + 1 = t 92 41 + 1
          rw [hml.2.1.2.2.2]
        · rw [up1_f n45]
          show upd (s 45) b (s 45 b - ow) j = upd (t 124) b (t 124 b - ow) j
          by_cases cj : j = b
          · rw [cj, upd_s, upd_s, hml.2.2 b hb]
          · rw [upd_n cj, upd_n cj]; exact hml.2.2 j hj
        · by_cases cl : l = i
          · rw [cl, up1_s]
            have hm : ∀ r, r ≠ 92 → r ≠ 124 → clm (up1 (up1 (up1 (up1 (up1 t 120 (upd (t 120) i (((t 120) i) + ow))) 124 (upd (t 124) b (((t 124) b) - ow))) 92 (upd (upd (t 92) 41 ((t 92 41) + 1)) 38 (((upd (t 92) 41 ((t 92 41) + 1)) 38) + ow))) 122 (upd (t 122) i (nI h))) 115 (upd (t 115) i 2)) i r = upd (upd (upd (clm t i) 120 (t 120 i + ow)) 122 (nI h)) 115 2 r := fun r z1 z2 => c_ui (c_ui ((c_ot z1).trans ((c_ot z2).trans (c_ui rfl))))
            refine lt_m (m := upd (upd (upd (clm t i) 120 (t 120 i + ow)) 122 (nI h)) 115 2) ⟨⟨hQ0, hS0, ⟨rfl, d9, d10, d13, ?_, d15, hml.1.2.1⟩, hT0.1, fun q => absurd (show (2 : Int32) = 1 from q) (by decide), fun _ => ⟨h, wr, rfl, h9, qr, qr2⟩⟩, hE⟩ (fun r z1 z2 => hm r (by omega) (by omega)) (hm 137 (by decide) (by decide))
            show s (47 + i) 14 + ow = t 120 i + ow
            exact congrArg (fun z => z + ow) d14
          · rw [up1_f (by omega), up1_f (by omega), up1_f (by omega)]
            refine lt_m (hl l hl2) (fun r z1 z2 => c_up cl (c_up cl ((c_ot (by omega)).trans ((c_ot (by omega)).trans (c_up cl rfl))))) rfl
      · rw [show ofH s i a b ow = _ from if_neg ct]
        refine ⟨(up1 (up1 (up1 t 117 (upd (t 117) i (nI a))) 92 (upd (t 92) 40 ((t 92 40) + 1))) 119 (upd (t 119) i 1)), Or.inr ⟨cm, fun g => ?_⟩, fun r b1 b2 b3 b4 => ?_, frM_t hI.2.1 ⟨fun r b1 b2 b3 b4 => ?_, fun k b1 b2 => ?_⟩, hI.2.2.1, hI.2.2.2.1, ⟨⟨?_, ?_, hml.1.2.2.1, hml.1.2.2.2⟩, ⟨?_, ?_, ?_, ?_⟩, fun j hj => ?_⟩, fun l hl2 => ?_⟩
        · refine (mp_arrive2 (f := up1 t 136 g) (l := i) (a := a) (b := b) (h := h) (by omega) ha hb qa qb hml.1.2.2.2 hz ow (w2 g) (fun q => ct (hex.mpr q))).mono (Nat.le_refl _) (fun v f' q => ⟨q.1, ?_⟩)
          obtain ⟨_, g2, q2⟩ := q
          exact ⟨g2, q2.trans ar_2⟩
        · rw [up1_f (by omega), up1_f b2]
          exact hI.1 r b1 b2 b3 b4
        · rw [up1_f (by omega), up1_f b1, up1_f (by omega)]
        · show upd (t 92) 40 _ k = t 92 k
          rw [upd_n (by omega)]
        · rw [up1_f n43]; exact hml.1.1
        · rw [up1_f n43]; exact hml.1.2.1
        · rw [up1_f n43]; exact hml.2.1.1
        · rw [up1_f n43]; exact hml.2.1.2.1
        · rw [up1_f n43]
          show s 43 10 + 1 = t 92 40 + 1
          rw [hml.2.1.2.2.1]
        · rw [up1_f n43]; exact hml.2.1.2.2.2
        · rw [up1_f n45]; exact hml.2.2 j hj
        · by_cases cl : l = i
          · rw [cl, up1_s]
            have hm : ∀ r, r ≠ 92 → clm (up1 (up1 (up1 t 117 (upd (t 117) i (nI a))) 92 (upd (t 92) 40 ((t 92 40) + 1))) 119 (upd (t 119) i 1)) i r = upd (upd (clm t i) 117 (nI a)) 119 1 r := fun r z1 => c_ui ((c_ot z1).trans (c_ui rfl))
            obtain ⟨tn, go, t1, t2, t3, t4⟩ := hT0.1
            have n1 : ¬ t 115 i = 1 := fun q => by rw [cm.1] at q; exact absurd q (by decide)
            have n2 : ¬ t 115 i = 2 := fun q => by rw [cm.1] at q; exact absurd q (by decide)
            exact lt_m (m := upd (upd (clm t i) 117 (nI a)) 119 1) ⟨⟨hQ0, hS0, ⟨d8, d9, rfl, rfl, d14, d15, d16⟩, ⟨tn, a, t1, t2, rfl, ha⟩, fun q => absurd q n1, fun q => absurd q n2⟩, hE⟩ (fun r z1 z2 => hm r (by omega)) (hm 137 (by decide))
          · rw [up1_f (by omega), up1_f (by omega)]
            refine lt_m (hl l hl2) (fun r z1 z2 => c_up cl ((c_ot (by omega)).trans (c_up cl rfl))) rfl
    · have hdr : drS D am h s i = up1 s (47 + i) (upd (upd (s (47 + i)) 16 (s 43 7)) 8 3) := by
        unfold drS
        rw [if_pos c, if_neg c2]
      rw [hdr]
      have hz : ¬ t 119 i = 0 := fun q => c2 (d13.trans q)
      refine ⟨Or.inr ⟨c, Or.inl ⟨c2, rfl⟩⟩, (up1 (up1 t 122 (upd (t 122) i (nI h))) 115 (upd (t 115) i 3)), Or.inr ⟨cm, fun g => ?_⟩, fun r b1 b2 b3 b4 => ?_, frM_t hI.2.1 ⟨fun r b1 b2 b3 b4 => ?_, fun k b1 b2 => rfl⟩, hI.2.2.1, hI.2.2.2.1, ⟨⟨?_, ?_, hml.1.2.2.1, hml.1.2.2.2⟩, ⟨?_, ?_, ?_, ?_⟩, fun j hj => ?_⟩, fun l hl2 => ?_⟩
      · refine (mp_arrive0 (f := up1 t 136 g) (l := i) (h := h) (by omega) hml.1.2.2.2 hz).mono (Nat.le_refl _) (fun v f' q => ⟨q.1, g, ?_⟩)
        rw [q.2, ar_0]
      · rw [up1_f (by omega)]
        exact hI.1 r b1 b2 b3 b4
      · rw [up1_f (by omega), up1_f (by omega)]
      · rw [up1_f n43]; exact hml.1.1
      · rw [up1_f n43]; exact hml.1.2.1
      · rw [up1_f n43]; exact hml.2.1.1
      · rw [up1_f n43]; exact hml.2.1.2.1
      · rw [up1_f n43]; exact hml.2.1.2.2.1
      · rw [up1_f n43]; exact hml.2.1.2.2.2
      · rw [up1_f n45]; exact hml.2.2 j hj
      · by_cases cl : l = i
        · rw [cl, up1_s]
          have hm : ∀ r, clm (up1 (up1 t 122 (upd (t 122) i (nI h))) 115 (upd (t 115) i 3)) i r = upd (upd (clm t i) 122 (nI h)) 115 3 r := fun r => c_ui (c_ui rfl)
          exact lt_m (m := upd (upd (clm t i) 122 (nI h)) 115 3) ⟨⟨hQ0, hS0, ⟨rfl, d9, d10, d13, d14, d15, hml.1.2.1⟩, hT0.1, fun q => absurd (show (3 : Int32) = 1 from q) (by decide), fun q => absurd (show (3 : Int32) = 2 from q) (by decide)⟩, hE⟩ (fun r z1 z2 => hm r) (hm 137)
        · rw [up1_f (by omega)]
          refine lt_m (hl l hl2) (fun r z1 z2 => c_up cl (c_up cl rfl)) rfl
  · have hdr : drS D am h s i = s := if_neg c
    rw [hdr]
    exact ⟨Or.inl ⟨c, rfl⟩, t, Or.inl ⟨fun q => c ⟨d8.trans q.1, d9.trans (q.2.trans d10.symm)⟩, rfl⟩, hI⟩
theorem in_hc (hI : InX E W w D am n h s0 t0 s t) : HcM t W w n h := ⟨hI.2.2.2.2.1.1.2.2.1, hI.2.2.2.2.1.1.2.2.2, (in_ct hI).2.1⟩
theorem ph_2 (hn24 : n ≤ 24) (h9 : h ≤ 9000) (hI : InX Eh1 W w D am n h s0 t0 s t) : (∀ i, i ≤ n → itS2 D am h s i 43 6 = nI n) ∧ (∀ i, i < n → DrS (itS2 D am h s) i) ∧ ∃ T : Nat → HI, T 0 = t ∧ (∀ i, i < n → C2m T i) ∧ (∀ i, i ≤ n → HcM (T i) W w n h) ∧ InX Eh1 W w D am n h s0 t0 (itS2 D am h s n) (T n) := by
  obtain ⟨T, e0, e1, e2⟩ := sq_ex (P := fun i x => InX Eh1 W w D am n h s0 t0 (itS2 D am h s i) x) (R := fun i x y => C2R x y i) (a := t) n hI
    (fun i x hi hx => (dr_sim hn24 h9 hi hx).2)
  exact ⟨fun i hi => (e2 i hi).2.2.2.2.1.1.1, fun i hi => (dr_sim hn24 h9 hi (e2 i (by omega))).1, T, e0, e1, fun i hi => in_hc (e2 i hi), e2 n (Nat.le_refl _)⟩
end P79
