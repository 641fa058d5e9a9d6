/-! both sides of the heap, tied: the pieces, and what leaves them as they are -/
def CpT (f : HI) : Prop := ∃ n : Nat, n ≤ 160 ∧ f 11 1 = nI n ∧ f 92 10 = nI n ∧ ∀ j, j < n → f 12 j = f 100 j
def CpG (f : HI) (W : Nat → Nat → Nat) (w : Nat) (D : Nat → Nat → Nat) (am n h : Nat) : Prop := CtX f f W w D am ∧ CoX f f ∧ MlX f f n h ∧ n ≤ 24 ∧ h ≤ 9000 ∧ (∀ l, l < n → LtB W w h (f (47 + l)) (clm f l) ∧ Eh0 (f (47 + l)) (clm f l)) ∧ ∀ l, n ≤ l → l < 24 → f (47 + l) 13 = 0 ∧ f (47 + l) 14 = 0 ∧ f (47 + l) 15 = 0
def CpR (f : HI) : Prop := (∀ k, 1 ≤ k → k ≤ 6 → f 1 k = f 92 (42 + k)) ∧ (∃ wa : Nat, wa ≤ 200 ∧ f 92 43 = nI wa) ∧ ∃ gg : Nat, gg ≤ 9 ∧ f 92 46 = nI gg
def CpW (f : HI) : Prop := ∃ c : Nat, c ≤ 12 ∧ f 71 6 = nI c ∧ f 92 52 = nI c ∧ f 72 = f 126 ∧ f 73 = f 127 ∧ f 74 = f 128 ∧ ∀ i, i < c → (∃ t : Nat, t < 10 ∧ f 127 i = nI t) ∧ ∃ h : Nat, h ≤ 9000 ∧ f 128 i = nI h
def CpS (f : HI) : Prop := ∃ (n c : Nat) (DC DM : Nat → Nat → Nat), 1 ≤ n ∧ n ≤ 12 ∧ c ≤ 24 ∧ f 77 1 = nI n ∧ f 92 53 = nI n ∧ f 77 2 = nI c ∧ f 92 54 = nI c ∧ f 78 0 = 12 ∧ Mt 12 100000000 30 DC ∧ (∀ p q, p < 12 → q < 12 → f 79 (p * 12 + q) = nI (DC p q)) ∧ Mt n 268435456 30 DM ∧ (∀ p q, p < n → q < n → f 129 (12 * p + q) = nI (DM p q)) ∧ StR n DC DM
def CpM (f : HI) : Prop := ∃ wn c : Nat, wn ≤ 8 ∧ c ≤ 6 ∧ f 83 6 = nI wn ∧ f 92 61 = nI wn ∧ f 83 8 = nI c ∧ f 92 63 = nI c ∧ (f 84 = f 130 ∧ f 85 = f 131 ∧ f 86 = f 132 ∧ f 87 = f 133 ∧ f 89 = f 135) ∧ (∀ v, v < wn → f 88 v = f 134 v) ∧ (∀ v, v < wn → ∃ a b : Nat, a < 10 ∧ b < 10 ∧ f 130 v = nI a ∧ f 131 v = nI b) ∧ wB (f 132) (f 134) wn ∧ ∀ i, i < c → ¬ f 135 i = -1
def CpZ (f : HI) : Prop := CpT f ∧ (∃ W w D am n h, CpG f W w D am n h) ∧ CpR f ∧ CpW f ∧ CpS f ∧ CpM f
def AgT (f g : HI) : Prop := g 11 1 = f 11 1 ∧ g 92 10 = f 92 10 ∧ g 12 = f 12 ∧ g 100 = f 100
def AgG (f g : HI) : Prop := (∀ r, 2 ≤ r → r < 71 → r ≠ 10 → ¬ (11 ≤ r ∧ r ≤ 15) → g r = f r) ∧ g 1 0 = f 1 0 ∧ (∀ r, 93 ≤ r → r ≤ 99 → g r = f r) ∧ (∀ r, 105 ≤ r → r ≤ 125 → r ≠ 123 → g r = f r) ∧ g 137 = f 137 ∧ (∀ j, j < 5 → g 101 j = f 101 j) ∧ (∀ j, j < 40 → g 102 j = f 102 j ∧ g 103 j = f 103 j ∧ g 104 j = f 104 j) ∧ ∀ k, (k = 7 ∨ k = 8 ∨ k = 17 ∨ k = 35 ∨ (38 ≤ k ∧ k ≤ 42)) → g 92 k = f 92 k
def AgR (f g : HI) : Prop := (∀ k, 1 ≤ k → k ≤ 6 → g 1 k = f 1 k) ∧ ∀ k, 43 ≤ k → k ≤ 48 → g 92 k = f 92 k
def AgW (f g : HI) : Prop := g 71 6 = f 71 6 ∧ g 92 52 = f 92 52 ∧ (∀ r, 72 ≤ r → r ≤ 74 → g r = f r) ∧ ∀ r, 126 ≤ r → r ≤ 128 → g r = f r
def AgS (f g : HI) : Prop := (g 77 1 = f 77 1 ∧ g 77 2 = f 77 2) ∧ (g 92 53 = f 92 53 ∧ g 92 54 = f 92 54) ∧ g 78 0 = f 78 0 ∧ g 79 = f 79 ∧ g 129 = f 129
def AgM (f g : HI) : Prop := (g 83 6 = f 83 6 ∧ g 83 8 = f 83 8) ∧ (g 92 61 = f 92 61 ∧ g 92 63 = f 92 63) ∧ (∀ r, 84 ≤ r → r ≤ 87 → g r = f r) ∧ g 89 = f 89 ∧ (∀ r, 130 ≤ r → r ≤ 135 → g r = f r) ∧ ∀ wn : Nat, wn ≤ 8 → f 83 6 = nI wn → ∀ v, v < wn → g 88 v = f 88 v
def AgX (f g : HI) : Prop := AgT f g ∧ AgG f g ∧ AgR f g ∧ AgW f g ∧ AgS f g ∧ AgM f g
theorem cpT_ag {f g : HI} (h : AgT f g) (c : CpT f) : CpT g := by
  obtain ⟨a1, a2, a3, a4⟩ := h
  unfold CpT
  rw [a1, a2, a3, a4]
  exact c
theorem cpR_ag {f g : HI} (h : AgR f g) (c : CpR f) : CpR g := by
  refine ⟨fun k k1 k2 => ?_, ?_, ?_⟩
  · rw [h.1 k k1 k2, h.2 (42 + k) (by omega) (by omega)]; exact c.1 k k1 k2
  · rw [h.2 43 (by decide) (by decide)]; exact c.2.1
  · rw [h.2 46 (by decide) (by decide)]; exact c.2.2
theorem cpW_ag {f g : HI} (h : AgW f g) (c : CpW f) : CpW g := by
  obtain ⟨a1, a2, a3, a4⟩ := h
  unfold CpW
  rw [a1, a2, a3 72 (by decide) (by decide), a3 73 (by decide) (by decide), a3 74 (by decide) (by decide), a4 126 (by decide) (by decide), a4 127 (by decide) (by decide), a4 128 (by decide) (by decide)]
  exact c
theorem cpS_ag {f g : HI} (h : AgS f g) (c : CpS f) : CpS g := by
  obtain ⟨⟨a1, a2⟩, ⟨a3, a4⟩, a5, a6, a7⟩ := h
  unfold CpS
  rw [a1, a2, a3, a4, a5, a6, a7]
  exact c
theorem cpM_ag {f g : HI} (h : AgM f g) (c : CpM f) : CpM g := by
  obtain ⟨⟨a1, a2⟩, ⟨a3, a4⟩, a5, a6, a7, a8⟩ := h
  obtain ⟨wn, cc, c1, c2, c3, c4, c5, c6, ⟨c7, c8, c9, c10, c11⟩, c12, c13, c14, c15⟩ := c
  refine ⟨wn, cc, c1, c2, a1.trans c3, a3.trans c4, a2.trans c5, a4.trans c6, ?_, fun v hv => ?_, ?_, ?_, ?_⟩
  · rw [a5 84 (by decide) (by decide), a5 85 (by decide) (by decide), a5 86 (by decide) (by decide), a5 87 (by decide) (by decide), a6, a7 130 (by decide) (by decide), a7 131 (by decide) (by decide), a7 132 (by decide) (by decide), a7 133 (by decide) (by decide), a7 135 (by decide) (by decide)]
    exact ⟨c7, c8, c9, c10, c11⟩
  · rw [a8 wn c1 c3 v hv, a7 134 (by decide) (by decide)]; exact c12 v hv
  · rw [a7 130 (by decide) (by decide), a7 131 (by decide) (by decide)]; exact c13
  · rw [a7 132 (by decide) (by decide), a7 134 (by decide) (by decide)]; exact c14
  · rw [a7 135 (by decide) (by decide)]; exact c15
theorem cpG_ag {f g : HI} {W : Nat → Nat → Nat} {w : Nat} {D : Nat → Nat → Nat} {am n h : Nat} (a : AgG f g) (c : CpG f W w D am n h) : CpG g W w D am n h := by
  obtain ⟨a1, a2, a3, a4, a5, a6, a7, a8⟩ := a
  obtain ⟨hct, hco, ⟨m1, m2, m3⟩, hn, hh, hl, hu⟩ := c
  obtain ⟨t1, t2, t3, t4, t5, t6, t7, t8⟩ := hct
  have hrow : ∀ r, 2 ≤ r → r < 10 → g r = f r := fun r h1 h2 => a1 r h1 (by omega) (by omega) (by omega)
  refine ⟨⟨?_, ?_, ?_, ?_, ?_, ?_, ?_, ?_⟩, ?_, ⟨?_, ?_, ?_⟩, hn, hh, fun l q => ?_, fun l q1 q2 => ?_⟩
  · unfold LaC at t1 ⊢
    rw [hrow 2 (by decide) (by decide), hrow 7 (by decide) (by decide), hrow 5 (by decide) (by decide), hrow 8 (by decide) (by decide), hrow 9 (by decide) (by decide)]
    exact t1
  · unfold LaM at t2 ⊢
    rw [a8 7 (Or.inl rfl), a3 93 (by decide) (by decide), a3 94 (by decide) (by decide), a3 96 (by decide) (by decide), a3 97 (by decide) (by decide), a3 98 (by decide) (by decide)]
    exact t2
  · unfold LaI at t3 ⊢
    rw [a3 95 (by decide) (by decide)]
    exact t3
  · rw [hrow 3 (by decide) (by decide), hrow 4 (by decide) (by decide)]; exact t4
  · rw [hrow 6 (by decide) (by decide), a3 99 (by decide) (by decide)]; exact t5
  · obtain ⟨x1, x2, x3, x4⟩ := t6
    refine ⟨by rw [a1 16 (by decide) (by decide) (by decide) (by decide)]; exact x1, by rw [a8 17 (by decide)]; exact x2, x3, fun b hb => ?_⟩
    obtain ⟨y1, y2, cc, y3, y4, y5, y6⟩ := x4 b hb
    have hb5 : b < 5 := Nat.lt_of_lt_of_le hb x3
    rw [a1 (18 + 5 * b) (by omega) (by omega) (by omega) (by omega), a1 (19 + 5 * b) (by omega) (by omega) (by omega) (by omega), a1 (20 + 5 * b) (by omega) (by omega) (by omega) (by omega), a1 (21 + 5 * b) (by omega) (by omega) (by omega) (by omega), a1 (22 + 5 * b) (by omega) (by omega) (by omega) (by omega), a4 105 (by decide) (by decide) (by decide), a4 106 (by decide) (by decide) (by decide)]
    refine ⟨y1, y2, cc, y3, y4, by rw [a6 b hb5]; exact y5, fun i hi => ?_⟩
    obtain ⟨z1, z2, z3⟩ := a7 (8 * b + i) (by omega)
    rw [z1, z2, z3]
    exact y6 i hi
  · rw [a2, a8 42 (by decide)]; exact t7
  · rw [a8 42 (by decide)]; exact t8
  · unfold CoX at hco ⊢
    rw [a1 46 (by decide) (by decide) (by decide) (by decide), a4 125 (by decide) (by decide) (by decide)]
    exact hco
  · rw [a1 43 (by decide) (by decide) (by decide) (by decide), a8 35 (by decide), a8 8 (by decide)]; exact m1
  · rw [a1 43 (by decide) (by decide) (by decide) (by decide), a8 38 (by decide), a8 39 (by decide), a8 40 (by decide), a8 41 (by decide)]; exact m2
  · rw [a1 45 (by decide) (by decide) (by decide) (by decide), a4 124 (by decide) (by decide) (by decide)]; exact m3
  · rw [a1 (47 + l) (by omega) (by omega) (by omega) (by omega)]
    obtain ⟨q1, q2⟩ := hl l q
    exact ⟨lb_m q1 (fun r r1 r2 => by show g r l = f r l; rw [a4 r (by omega) (by omega) (by omega)]) (by show g 137 l = f 137 l; rw [a5]), q2⟩
  · rw [a1 (47 + l) (by omega) (by omega) (by omega) (by omega)]
    exact hu l q1 q2
theorem cp_ag {f g : HI} (h : AgX f g) (c : CpZ f) : CpZ g := by
  obtain ⟨h1, h2, h3, h4, h5, h6⟩ := h
  obtain ⟨c1, ⟨W, w, D, am, n, hh, c2⟩, c3, c4, c5, c6⟩ := c
  exact ⟨cpT_ag h1 c1, ⟨W, w, D, am, n, hh, cpG_ag h2 c2⟩, cpR_ag h3 c3, cpW_ag h4 c4, cpS_ag h5 c5, cpM_ag h6 c6⟩
/-- rows that nothing rests on -/
def scR (r : Nat) : Prop := r = 10 ∨ (13 ≤ r ∧ r ≤ 15) ∨ r = 75 ∨ r = 76 ∨ (80 ≤ r ∧ r ≤ 82) ∨ r = 90 ∨ r = 91 ∨ r = 123 ∨ r = 136 ∨ 138 ≤ r
theorem ag_sc {f : HI} {r : Nat} {g : Nat → Int32} (h : scR r) : AgX f (up1 f r g) := by
  unfold scR at h
  refine ⟨⟨?_, ?_, ?_, ?_⟩, ⟨fun q _ _ _ _ => ?_, ?_, fun q _ _ => ?_, fun q _ _ _ => ?_, ?_, fun j _ => ?_, fun j _ => ⟨?_, ?_, ?_⟩, fun k _ => ?_⟩, ⟨fun k _ _ => ?_, fun k _ _ => ?_⟩, ⟨?_, ?_, fun q _ _ => ?_, fun q _ _ => ?_⟩, ⟨⟨?_, ?_⟩, ⟨?_, ?_⟩, ?_, ?_, ?_⟩, ⟨⟨?_, ?_⟩, ⟨?_, ?_⟩, fun q _ _ => ?_, ?_, fun q _ _ => ?_, fun wn _ _ v _ => ?_⟩⟩ <;> rw [up1_f (by omega)]
theorem agx_t {f g h : HI} (a : AgX f g) (b : AgX g h) : AgX f h := by
  obtain ⟨⟨a1, a2, a3, a4⟩, ⟨b1, b2, b3, b4, b5, b6, b7, b8⟩, ⟨c1, c2⟩, ⟨d1, d2, d3, d4⟩, ⟨⟨e1, e2⟩, ⟨e3, e4⟩, e5, e6, e7⟩, ⟨⟨g1, g2⟩, ⟨g3, g4⟩, g5, g6, g7, g8⟩⟩ := a
  obtain ⟨⟨a1', a2', a3', a4'⟩, ⟨b1', b2', b3', b4', b5', b6', b7', b8'⟩, ⟨c1', c2'⟩, ⟨d1', d2', d3', d4'⟩, ⟨⟨e1', e2'⟩, ⟨e3', e4'⟩, e5', e6', e7'⟩, ⟨⟨g1', g2'⟩, ⟨g3', g4'⟩, g5', g6', g7', g8'⟩⟩ := b
  exact ⟨⟨a1'.trans a1, a2'.trans a2, a3'.trans a3, a4'.trans a4⟩, ⟨fun r x1 x2 x3 x4 => (b1' r x1 x2 x3 x4).trans (b1 r x1 x2 x3 x4), b2'.trans b2, fun r x1 x2 => (b3' r x1 x2).trans (b3 r x1 x2), fun r x1 x2 x3 => (b4' r x1 x2 x3).trans (b4 r x1 x2 x3), b5'.trans b5, fun j x => (b6' j x).trans (b6 j x), fun j x => ⟨(b7' j x).1.trans (b7 j x).1, (b7' j x).2.1.trans (b7 j x).2.1, (b7' j x).2.2.trans (b7 j x).2.2⟩, fun k x => (b8' k x).trans (b8 k x)⟩, ⟨fun k x1 x2 => (c1' k x1 x2).trans (c1 k x1 x2), fun k x1 x2 => (c2' k x1 x2).trans (c2 k x1 x2)⟩, ⟨d1'.trans d1, d2'.trans d2, fun r x1 x2 => (d3' r x1 x2).trans (d3 r x1 x2), fun r x1 x2 => (d4' r x1 x2).trans (d4 r x1 x2)⟩, ⟨⟨e1'.trans e1, e2'.trans e2⟩, ⟨e3'.trans e3, e4'.trans e4⟩, e5'.trans e5, e6'.trans e6, e7'.trans e7⟩, ⟨⟨g1'.trans g1, g2'.trans g2⟩, ⟨g3'.trans g3, g4'.trans g4⟩, fun r x1 x2 => (g5' r x1 x2).trans (g5 r x1 x2), g6'.trans g6, fun r x1 x2 => (g7' r x1 x2).trans (g7 r x1 x2), fun wn x1 x2 v x => (g8' wn x1 (g1.trans x2) v x).trans (g8 wn x1 x2 v x)⟩⟩
theorem cp_sc {f : HI} {r : Nat} {g : Nat → Int32} (h : scR r) (c : CpZ f) : CpZ (up1 f r g) := cp_ag (ag_sc h) c
/-- one call on both sides -/
def StP (c m : Nat) (as : List Value) (f : HI) : Prop := Sp 40 c (.ref 0 :: as) f (fun v f1 => ∃ r, v = some (.int r) ∧ Sp 40 m (.ref 92 :: as) f1 (fun v' f2 => v' = some (.int r) ∧ CpZ f2))
theorem st_mk {c m d d' : Nat} {as : List Value} {f : HI} {P : Int32 → HI → Prop} (hc : Sp d c (.ref 0 :: as) f (fun v f1 => ∃ r, v = some (.int r) ∧ P r f1)) (hm : ∀ r f1, P r f1 → Sp d' m (.ref 92 :: as) f1 (fun v f2 => v = some (.int r) ∧ CpZ f2)) (hd : d ≤ 40) (hd' : d' ≤ 40) : StP c m as f :=
  hc.mono hd (fun v f1 q => by
    obtain ⟨r, q1, q2⟩ := q
    exact ⟨r, q1, (hm r f1 q2).mono hd' (fun v f2 z => z)⟩)
theorem st_ret {c m d d' : Nat} {as : List Value} {f : HI} {r : Int32} (cp : CpZ f) (hc : Sp d c (.ref 0 :: as) f (Ret r f)) (hm : Sp d' m (.ref 92 :: as) f (Ret r f)) (hd : d ≤ 40) (hd' : d' ≤ 40) : StP c m as f :=
  st_mk (P := fun r' f1 => r' = r ∧ f1 = f) (hc.mono (Nat.le_refl _) (fun v f1 q => ⟨r, q.1, rfl, q.2⟩)) (fun r' f1 q => by
    rw [q.1, q.2]
    exact hm.mono (Nat.le_refl _) (fun v f2 z => ⟨z.1, by rw [z.2]; exact cp⟩)) hd hd'
theorem inN {x M : Int32} {n : Nat} (hM : M.toInt = n) (h : inR x 0 M) : ∃ j : Nat, j ≤ n ∧ x = nI j := nI_of2 hM (fun q => absurd h.1 (Int32.not_le.mpr q)) h.2
theorem inN1 {x M : Int32} {n : Nat} (hM : M.toInt = n) (h : inR x 1 M) : ∃ j : Nat, 1 ≤ j ∧ j ≤ n ∧ x = nI j := by
  have h0 : (0 : Int32) < x := Int32.lt_iff_toInt_lt.mpr (by
    have := Int32.le_iff_toInt_le.mp h.1
    have e1 : (1 : Int32).toInt = 1 := by decide
    have e0 : (0 : Int32).toInt = 0 := by decide
    omega)
  obtain ⟨j, h1, h2⟩ := nI_of2 hM (fun q => absurd h0 (Int32.not_lt.mpr (Int32.le_of_lt q))) h.2
  refine ⟨j, Nat.pos_of_ne_zero (fun e => ?_), h1, h2⟩
  rw [h2, e] at h0
  exact absurd h0 (by decide)
