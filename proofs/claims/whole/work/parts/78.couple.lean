/-! the hour: what ties the letters of both sides; coming in -/
def ciN (x : Int32) : Nat := x.toNatClampNeg
theorem ciN_n {n : Nat} (h : n < 2 ^ 31) : ciN (nI n) = n := nI_clamp h
abbrev clm (t : HI) (l : Nat) : Nat → Int32 := fun r => t r l
theorem cl_i (t : HI) (r i : Nat) (v : Int32) : clm (up1 t r (upd (t r) i v)) i = upd (clm t i) r v := by
  funext q
  show up1 t r (upd (t r) i v) q i = upd (clm t i) r v q
  by_cases c : q = r
  · rw [c, up1_s, upd_s, upd_s]
  · rw [up1_f c, upd_n c]
theorem cl_n {t : HI} {r i l : Nat} {v : Int32} (h : l ≠ i) : clm (up1 t r (upd (t r) i v)) l = clm t l := by
  funext q
  show up1 t r (upd (t r) i v) q l = t q l
  by_cases c : q = r
  · rw [c, up1_s, upd_n h]
  · rw [up1_f c]
theorem cl_x {t : HI} {r l : Nat} {g : Nat → Int32} {q : Nat} (h : q ≠ r) : clm (up1 t r g) l q = clm t l q := by
  show up1 t r g q l = t q l
  rw [up1_f h]
/-- what never changes of a letter -/
def LtS (h : Nat) (m : Nat → Int32) : Prop := ∃ a b sh dr wi wr : Nat, m 107 = nI a ∧ a < 10 ∧ m 108 = nI b ∧ b < 10 ∧ a ≠ b ∧ m 109 = nI sh ∧ 1 ≤ sh ∧ sh ≤ 9 ∧ m 110 = nI dr ∧ 1 ≤ dr ∧ dr ≤ 64 ∧ (m 112 = 0 ∨ m 112 = 1 ∨ m 112 = 2) ∧ m 113 = nI wi ∧ wi < 2400 ∧ (m 112 = 0 → wi ≤ 7) ∧ m 114 = nI wr ∧ wr ≤ h
def LtQ (g m : Nat → Int32) : Prop := g 0 = m 107 ∧ g 1 = m 108 ∧ g 2 = m 109 ∧ g 3 = m 110 ∧ g 4 = m 111 ∧ g 5 = m 112 ∧ g 6 = m 113 ∧ g 7 = m 114
def LtD (g m : Nat → Int32) : Prop := g 8 = m 115 ∧ g 9 = m 116 ∧ g 10 = m 117 ∧ g 13 = m 119 ∧ g 14 = m 120 ∧ g 15 = m 121 ∧ g 16 = m 122
def LtT (W : Nat → Nat → Nat) (w : Nat) (g m : Nat → Int32) : Prop := (∃ tn go : Nat, m 116 = nI tn ∧ tn < 10 ∧ m 117 = nI go ∧ go < 10) ∧ (m 115 = 1 → ∃ e, e < 2 * w ∧ m 137 = nI (e / 2) ∧ m 116 = nI (eP W e) ∧ g 11 = nI (eQ W e) ∧ g 12 = m 118) ∧ (m 115 = 2 → ∃ en wr : Nat, m 122 = nI en ∧ en ≤ 9000 ∧ m 114 = nI wr ∧ wr ≤ en)
def LtB (W : Nat → Nat → Nat) (w h : Nat) (g m : Nat → Int32) : Prop := LtQ g m ∧ LtS h m ∧ LtD g m ∧ LtT W w g m
theorem lb_m {W : Nat → Nat → Nat} {w h0 : Nat} {g m m' : Nat → Int32} (h : LtB W w h0 g m) (h1 : ∀ r, 107 ≤ r → r ≤ 122 → m' r = m r) (h2 : m' 137 = m 137) : LtB W w h0 g m' := by
  unfold LtB LtQ LtS LtD LtT at h ⊢
  rw [h2, h1 107 (by decide) (by decide), h1 108 (by decide) (by decide), h1 109 (by decide) (by decide), h1 110 (by decide) (by decide), h1 111 (by decide) (by decide), h1 112 (by decide) (by decide), h1 113 (by decide) (by decide), h1 114 (by decide) (by decide), h1 115 (by decide) (by decide), h1 116 (by decide) (by decide), h1 117 (by decide) (by decide), h1 118 (by decide) (by decide), h1 119 (by decide) (by decide), h1 120 (by decide) (by decide), h1 121 (by decide) (by decide), h1 122 (by decide) (by decide)]
  exact h
theorem lb_g {W : Nat → Nat → Nat} {w h0 : Nat} {g g' m : Nat → Int32} (h : LtB W w h0 g m) (h1 : ∀ k, k ≤ 16 → g' k = g k) : LtB W w h0 g' m := by
  unfold LtB LtQ LtD LtT at h ⊢
  rw [h1 0 (by decide), h1 1 (by decide), h1 2 (by decide), h1 3 (by decide), h1 4 (by decide), h1 5 (by decide), h1 6 (by decide), h1 7 (by decide), h1 8 (by decide), h1 9 (by decide), h1 10 (by decide), h1 11 (by decide), h1 12 (by decide), h1 13 (by decide), h1 14 (by decide), h1 15 (by decide), h1 16 (by decide)]
  exact h
theorem lb_up {W : Nat → Nat → Nat} {w h0 : Nat} {g m : Nat → Int32} (h : LtB W w h0 g m) : LtB W w (h0 + 1) g m := by
  obtain ⟨hQ, ⟨a, b, sh, dr, wi, wr, z⟩, hD, hT⟩ := h
  exact ⟨hQ, ⟨a, b, sh, dr, wi, wr, z.1, z.2.1, z.2.2.1, z.2.2.2.1, z.2.2.2.2.1, z.2.2.2.2.2.1, z.2.2.2.2.2.2.1, z.2.2.2.2.2.2.2.1, z.2.2.2.2.2.2.2.2.1, z.2.2.2.2.2.2.2.2.2.1, z.2.2.2.2.2.2.2.2.2.2.1, z.2.2.2.2.2.2.2.2.2.2.2.1, z.2.2.2.2.2.2.2.2.2.2.2.2.1, z.2.2.2.2.2.2.2.2.2.2.2.2.2.1, z.2.2.2.2.2.2.2.2.2.2.2.2.2.2.1, z.2.2.2.2.2.2.2.2.2.2.2.2.2.2.2.1, Nat.le_succ_of_le z.2.2.2.2.2.2.2.2.2.2.2.2.2.2.2.2⟩, hD, hT⟩
/-- the acts, the land and the rule of parts, tied -/
def ActX (s t : HI) (am : Nat) : Prop := s 16 1 = nI am ∧ t 92 17 = nI am ∧ am ≤ 5 ∧ ∀ a, a < am → (∀ b, b < 10 → s (22 + 5 * a) b = t 106 (10 * a + b)) ∧ s (18 + 5 * a) 4 = t 105 a ∧ ∃ c, c ≤ 8 ∧ s (18 + 5 * a) 3 = nI c ∧ t 101 a = nI c ∧ AcM t a c (s (19 + 5 * a)) (s (20 + 5 * a)) (s (21 + 5 * a))
def CtX (s t : HI) (W : Nat → Nat → Nat) (w : Nat) (D : Nat → Nat → Nat) (am : Nat) : Prop := LaC s W w ∧ LaM t W w ∧ LaI t W w D ∧ (s 3 0 = 10 ∧ ∀ p q, p < 10 → q < 10 → s 4 (p * 10 + q) = nI (D p q)) ∧ (∀ y, y < w → s 6 y = nI (W 6 y) ∧ t 99 y = nI (W 6 y) ∧ W 6 y ≤ 999) ∧ ActX s t am ∧ s 1 0 = t 92 42 ∧ (t 92 42 = 0 ∨ t 92 42 = 1 ∨ t 92 42 = 2)
theorem act_fr {s t s' t' : HI} {am : Nat} (h : ActX s t am) (hs : ∀ r, r < 43 → r ≠ 10 → s' r = s r) (ht : ∀ r, 93 ≤ r → r ≤ 106 → t' r = t r) (hk : t' 92 17 = t 92 17) : ActX s' t' am := by
  refine ⟨by rw [hs 16 (by decide) (by decide)]; exact h.1, by rw [hk]; exact h.2.1, h.2.2.1, fun a ha => ?_⟩
  have ha5 : a < 5 := Nat.lt_of_lt_of_le ha h.2.2.1
  obtain ⟨h1, h2, c, h3, h4, h5, h6⟩ := h.2.2.2 a ha
  refine ⟨fun b hb => by rw [hs _ (by omega) (by omega), ht 106 (by decide) (by decide)]; exact h1 b hb, by rw [hs _ (by omega) (by omega), ht 105 (by decide) (by decide)]; exact h2, c, h3, by rw [hs _ (by omega) (by omega)]; exact h4, by rw [ht 101 (by decide) (by decide)]; exact h5, ?_⟩
  rw [hs (19 + 5 * a) (by omega) (by omega), hs (20 + 5 * a) (by omega) (by omega), hs (21 + 5 * a) (by omega) (by omega)]
  unfold AcM at h6 ⊢
  rw [ht 102 (by decide) (by decide), ht 103 (by decide) (by decide), ht 104 (by decide) (by decide)]
  exact h6
theorem lac_fr {s s' : HI} {W : Nat → Nat → Nat} {w : Nat} (h : LaC s W w) (hs : ∀ r, r < 43 → r ≠ 10 → s' r = s r) : LaC s' W w := by
  unfold LaC at h ⊢
  rw [hs 2 (by decide) (by decide), hs 7 (by decide) (by decide), hs 5 (by decide) (by decide), hs 8 (by decide) (by decide), hs 9 (by decide) (by decide)]
  exact h
theorem lam_fr {t t' : HI} {W : Nat → Nat → Nat} {w : Nat} (h : LaM t W w) (ht : ∀ r, 93 ≤ r → r ≤ 106 → t' r = t r) (hk : t' 92 7 = t 92 7) : LaM t' W w := by
  unfold LaM at h ⊢
  rw [hk, ht 93 (by decide) (by decide), ht 94 (by decide) (by decide), ht 96 (by decide) (by decide), ht 97 (by decide) (by decide), ht 98 (by decide) (by decide)]
  exact h
theorem ctx_fr {s t s' t' : HI} {W : Nat → Nat → Nat} {w : Nat} {D : Nat → Nat → Nat} {am : Nat} (h : CtX s t W w D am) (hs : ∀ r, r < 43 → r ≠ 10 → s' r = s r) (ht : ∀ r, 93 ≤ r → r ≤ 106 → t' r = t r) (hk : t' 92 7 = t 92 7 ∧ t' 92 17 = t 92 17 ∧ t' 92 42 = t 92 42) : CtX s' t' W w D am := by
  refine ⟨lac_fr h.1 hs, lam_fr h.2.1 ht hk.1, ?_, ?_, ?_, act_fr h.2.2.2.2.2.1 hs ht hk.2.1, ?_, ?_⟩
  · have h3 := h.2.2.1
    unfold LaI at h3 ⊢
    rw [ht 95 (by decide) (by decide)]
    exact h3
  · rw [hs 3 (by decide) (by decide), hs 4 (by decide) (by decide)]
    exact h.2.2.2.1
  · rw [hs 6 (by decide) (by decide), ht 99 (by decide) (by decide)]
    exact h.2.2.2.2.1
  · rw [hs 1 (by decide) (by decide), hk.2.2]
    exact h.2.2.2.2.2.2.1
  · rw [hk.2.2]
    exact h.2.2.2.2.2.2.2
/-- frames: what an hour leaves as it is -/
def FrC (n : Nat) (s s' : HI) : Prop := ∀ r, r ≠ 10 → r ≠ 43 → r ≠ 45 → ¬ (47 ≤ r ∧ r < 47 + n) → s' r = s r
def FrM (t t' : HI) : Prop := (∀ r, r ≠ 92 → ¬ (115 ≤ r ∧ r ≤ 124) → r ≠ 136 → r ≠ 137 → t' r = t r) ∧ ∀ k, k ≠ 8 → ¬ (38 ≤ k ∧ k ≤ 41) → t' 92 k = t 92 k
theorem frC_t {n : Nat} {s s' s'' : HI} (h : FrC n s s') (h2 : FrC n s' s'') : FrC n s s'' := fun r a b c d => (h2 r a b c d).trans (h r a b c d)
theorem frM_t {t t' t'' : HI} (h : FrM t t') (h2 : FrM t' t'') : FrM t t'' := ⟨fun r a b c d => (h2.1 r a b c d).trans (h.1 r a b c d), fun k a b => (h2.2 k a b).trans (h.2 k a b)⟩
theorem ctx_fm {n : Nat} {s t s' t' : HI} {W : Nat → Nat → Nat} {w : Nat} {D : Nat → Nat → Nat} {am : Nat} (h : CtX s t W w D am) (hs : FrC n s s') (ht : FrM t t') : CtX s' t' W w D am := ctx_fr h (fun r h1 h2 => hs r h2 (by omega) (by omega) (by omega)) (fun r h1 h2 => ht.1 r (by omega) (by omega) (by omega) (by omega)) ⟨ht.2 7 (by decide) (by decide), ht.2 17 (by decide) (by decide), ht.2 42 (by decide) (by decide)⟩
/-- the numbers of the mail -/
def MlX (s t : HI) (n h : Nat) : Prop := (s 43 6 = nI n ∧ s 43 7 = nI h ∧ t 92 35 = nI n ∧ t 92 8 = nI h) ∧ (s 43 8 = t 92 38 ∧ s 43 9 = t 92 39 ∧ s 43 10 = t 92 40 ∧ s 43 11 = t 92 41) ∧ ∀ j, j < 10 → s 45 j = t 124 j
def CoX (s t : HI) : Prop := ∀ j, j < 100 → s 46 j = t 125 j ∧ t 125 j &&& (-255) = 0
/-- before the hour's end: E ties the runs -/
def InX (E : (Nat → Int32) → (Nat → Int32) → Prop) (W : Nat → Nat → Nat) (w : Nat) (D : Nat → Nat → Nat) (am n h : Nat) (s0 t0 s t : HI) : Prop := FrC n s0 s ∧ FrM t0 t ∧ CtX s0 t0 W w D am ∧ CoX s0 t0 ∧ MlX s t n h ∧ ∀ l, l < n → LtB W w h (s (47 + l)) (clm t l) ∧ E (s (47 + l)) (clm t l)
def Eh0 (g _m : Nat → Int32) : Prop := g 17 = -1
def Eh1 (g m : Nat → Int32) : Prop := g 17 = -1 ∧ m 123 = -1
def Eh3 (W : Nat → Nat → Nat) (w : Nat) (g m : Nat → Int32) : Prop := (g 17 = -1 ∧ m 123 = -1) ∨ ∃ e, e < 2 * w ∧ g 17 = nI e ∧ m 123 = nI (e / 2) ∧ m 116 = nI (eP W e)
section P78
variable {W : Nat → Nat → Nat} {w : Nat} {D : Nat → Nat → Nat} {am n h : Nat} {s0 t0 s t : HI} {E : (Nat → Int32) → (Nat → Int32) → Prop}
theorem in_ct (hI : InX E W w D am n h s0 t0 s t) : CtX s t W w D am := ctx_fm hI.2.2.1 hI.1 hI.2.1
theorem in_co (hI : InX E W w D am n h s0 t0 s t) : CoX s t := by
  intro j hj
  rw [hI.1 46 (by decide) (by decide) (by decide) (by omega), hI.2.1.1 125 (by decide) (by decide) (by decide) (by decide)]
  exact hI.2.2.2.1 j hj
theorem cin_y {h : Int32} {g : Nat → Int32} (c : g 8 = 1 ∧ g 12 = h) : cIn h g = upd (upd g 9 (g 11)) 8 0 := if_pos c
theorem cin_n {h : Int32} {g : Nat → Int32} (c : ¬ (g 8 = 1 ∧ g 12 = h)) : cIn h g = g := if_neg c
theorem cin_17 (h : Int32) (g : Nat → Int32) : cIn h g 17 = g 17 := by
  unfold cIn
  split
  · rw [upd_n (by decide), upd_n (by decide)]
  · rfl
/-- one letter comes in -/
theorem in_1 {g m : Nat → Int32} (hb : LtB W w h g m) : (¬ (m 115 = 1 ∧ m 118 = nI h) ∧ LtB W w h (cIn (nI h) g) (upd m 123 (-1))) ∨ ((m 115 = 1 ∧ m 118 = nI h) ∧ ∃ e, e < 2 * w ∧ m 137 = nI (e / 2) ∧ m 116 = nI (eP W e) ∧ (WyN W w → LtB W w h (cIn (nI h) g) (upd (upd (upd m 116 (nI (eQ W e))) 115 0) 123 (-1)))) := by
  obtain ⟨hQ, hS, hD, hT⟩ := hb
  obtain ⟨d8, d9, d10, d13, d14, d15, d16⟩ := hD
  by_cases c : m 115 = 1 ∧ m 118 = nI h
  · obtain ⟨e, he, k1, k2, k3, k4⟩ := hT.2.1 c.1
    refine Or.inr ⟨c, e, he, k1, k2, fun hW => ?_⟩
    rw [cin_y ⟨d8.trans c.1, k4.trans c.2⟩]
    obtain ⟨tn, go, t1, t2, t3, t4⟩ := hT.1
    refine ⟨hQ, hS, ⟨rfl, k3, d10, d13, d14, d15, d16⟩, ⟨eQ W e, go, rfl, wy_Q hW he, t3, t4⟩, fun q => ?_, fun q => ?_⟩
    · exact absurd (show (0 : Int32) = 1 from q) (by decide)
    · exact absurd (show (0 : Int32) = 2 from q) (by decide)
  · refine Or.inl ⟨c, ?_⟩
    rw [cin_n (fun q => by
      rw [d8] at q
      obtain ⟨e, he, k1, k2, k3, k4⟩ := hT.2.1 q.1
      exact c ⟨q.1, k4.symm.trans q.2⟩)]
    exact ⟨hQ, hS, ⟨d8, d9, d10, d13, d14, d15, d16⟩, hT⟩
theorem frM_1 {t : HI} {r : Nat} {g : Nat → Int32} (h : 115 ≤ r ∧ r ≤ 124 ∨ r = 136 ∨ r = 137) : FrM t (up1 t r g) := ⟨fun q a b c d => up1_f (by omega), fun k _ _ => by rw [up1_f (by omega)]⟩
theorem ph_1 (hn24 : n ≤ 24) (hI : InX Eh0 W w D am n h s0 t0 s t) : ∃ T : Nat → HI, T 0 = t ∧ (∀ i, i < n → C1m T W w h i) ∧ (∀ i, i ≤ n → HcM (T i) W w n h) ∧ InX Eh1 W w D am n h s0 t0 (mapL (cIn (nI h)) s n) (T n) := by
  have hct := in_ct hI
  have hW := hct.1.2.2.2.2
  obtain ⟨T, e0, e1, e2⟩ := sq_ex (P := fun i x => (∀ r, r ≠ 115 → r ≠ 116 → r ≠ 123 → x r = t r) ∧ ∀ l, l < n → (l < i → LtB W w h (cIn (nI h) (s (47 + l))) (clm x l) ∧ x 123 l = -1) ∧ (i ≤ l → LtB W w h (s (47 + l)) (clm x l)))
    (R := fun i x y => (¬ (x 115 i = 1 ∧ x 118 i = nI h) ∧ y = up1 x 123 (upd (x 123) i (-1))) ∨ ((x 115 i = 1 ∧ x 118 i = nI h) ∧ ∃ e, e < 2 * w ∧ x 137 i = nI (e / 2) ∧ x 116 i = nI (eP W e) ∧ y = up1 (up1 (up1 x 116 (upd (x 116) i (nI (eQ W e)))) 115 (upd (x 115) i 0)) 123 (upd (x 123) i (-1)))) (a := t) n
    ⟨fun _ _ _ _ => rfl, fun l hl => ⟨fun q => absurd q (Nat.not_lt_zero _), fun _ => (hI.2.2.2.2.2 l hl).1⟩⟩
    (fun i x hi hx => by
      have hbi := (hx.2 i hi).2 (Nat.le_refl _)
      rcases in_1 (h := h) hbi with ⟨c, hb⟩ | ⟨c, e, he, k1, k2, hb⟩
      · refine ⟨_, Or.inl ⟨c, rfl⟩, fun r a b d => by rw [up1_f d]; exact hx.1 r a b d, fun l hl => ?_⟩
        by_cases q : l = i
        · rw [q, cl_i]
          exact ⟨fun _ => ⟨hb, by rw [up1_s]; exact upd_s _ _ _⟩, fun z => by omega⟩
        · rw [cl_n q]
          exact ⟨fun z => ⟨((hx.2 l hl).1 (by omega)).1, by rw [up1_s, upd_n q]; exact ((hx.2 l hl).1 (by omega)).2⟩, fun z => (hx.2 l hl).2 (by omega)⟩
      · refine ⟨_, Or.inr ⟨c, e, he, k1, k2, rfl⟩, fun r a b d => by rw [up1_f d, up1_f a, up1_f b]; exact hx.1 r a b d, fun l hl => ?_⟩
        by_cases q : l = i
        · have z1 : clm (up1 (up1 (up1 x 116 (upd (x 116) i (nI (eQ W e)))) 115 (upd (x 115) i 0)) 123 (upd (x 123) i (-1))) i = upd (upd (upd (clm x i) 116 (nI (eQ W e))) 115 0) 123 (-1) := (cl_i (up1 (up1 x 116 (upd (x 116) i (nI (eQ W e)))) 115 (upd (x 115) i 0)) 123 i (-1)).trans (congrArg (fun z => upd z 123 (-1)) ((cl_i (up1 x 116 (upd (x 116) i (nI (eQ W e)))) 115 i 0).trans (congrArg (fun z => upd z 115 0) (cl_i x 116 i _))))
          rw [q, z1]
          exact ⟨fun _ => ⟨hb hW, by rw [up1_s]; exact upd_s _ _ _⟩, fun z => by omega⟩
        · have z1 : clm (up1 (up1 (up1 x 116 (upd (x 116) i (nI (eQ W e)))) 115 (upd (x 115) i 0)) 123 (upd (x 123) i (-1))) l = clm x l := (cl_n (t := up1 (up1 x 116 (upd (x 116) i (nI (eQ W e)))) 115 (upd (x 115) i 0)) (r := 123) q).trans ((cl_n (t := up1 x 116 (upd (x 116) i (nI (eQ W e)))) (r := 115) q).trans (cl_n q))
          rw [z1]
          exact ⟨fun z => ⟨((hx.2 l hl).1 (by omega)).1, by rw [up1_s, upd_n q]; exact ((hx.2 l hl).1 (by omega)).2⟩, fun z => (hx.2 l hl).2 (by omega)⟩)
  refine ⟨T, e0, fun i hi => e1 i hi, fun i hi => ?_, ?_⟩
  · have h1 := (e2 i hi).1
    refine ⟨by rw [h1 92 (by decide) (by decide) (by decide)]; exact hI.2.2.2.2.1.1.2.2.1, by rw [h1 92 (by decide) (by decide) (by decide)]; exact hI.2.2.2.2.1.1.2.2.2, lam_fr hct.2.1 (fun r a b => h1 r (by omega) (by omega) (by omega)) (by rw [h1 92 (by decide) (by decide) (by decide)])⟩
  · have h1 := (e2 n (Nat.le_refl _)).1
    have h2 := (e2 n (Nat.le_refl _)).2
    have fr : FrM t (T n) := ⟨fun r a b c d => h1 r (by omega) (by omega) (by omega), fun k _ _ => by rw [h1 92 (by decide) (by decide) (by decide)]⟩
    refine ⟨fun r a b c d => ?_, frM_t hI.2.1 fr, hI.2.2.1, hI.2.2.2.1, ?_, fun l hl => ?_⟩
    · rw [show mapL (cIn (nI h)) s n r = s r from if_neg d]
      exact hI.1 r a b c d
    · unfold MlX
      rw [ml_lo (show 43 < 47 by decide), ml_lo (show 45 < 47 by decide), h1 92 (by decide) (by decide) (by decide), h1 124 (by decide) (by decide) (by decide)]
      exact hI.2.2.2.2.1
    · rw [ml_in hl]
      exact ⟨((h2 l hl).1 hl).1, (cin_17 _ _).trans (hI.2.2.2.2.2 l hl).2, ((h2 l hl).1 hl).2⟩
end P78
