/-! calls on both sides: years, rows of prices, plans -/
section P94
variable {f : HI}
theorem nin {w M : Int32} {N : Nat} (hM : M.toInt = N) (h : w.toInt < 0 ∨ (N : Int) < w.toInt) : ¬ inR w 0 M := fun q => by
  have h1 := Int32.le_iff_toInt_le.mp q.1
  have h2 := Int32.le_iff_toInt_le.mp q.2
  rw [hM] at h2
  have e : (0 : Int32).toInt = 0 := by decide
  omega
theorem up3n {g : Nat → Int32} {a b c : Int32} {i j l : Nat} (hi : 65 ≤ i) (hj : 65 ≤ j) (hl : 65 ≤ l) : ∀ k, k < 65 → upd (upd (upd g i a) j b) l c k = g k := fun k hk => by rw [upd_n (by omega), upd_n (by omega), upd_n (by omega)]
theorem st_year (cp : CpZ f) (p w : Int32) : StP 110 203 [.int p, .int w] f := by
  obtain ⟨n, c, h1, h2, h3, h4, h5, h6, ⟨h7, h8, h9, h10, h11⟩, h12, r2, r3, r4, r5, r6⟩ := mk_of cp
  have eP : pS (f 86) (f 87) (fun w => f 88 (8 * 0 + w)) (f 1 6) p n = pS (f 132) (f 133) (f 134) (f 92 48) p n := by
    rw [h9, h10, r6]
    exact pS_congr (fun w hw => ⟨rfl, rfl, by rw [Nat.mul_zero, Nat.zero_add]; exact h12 w hw⟩)
  have eS : sS (f 86) (f 87) (fun w => f 88 (8 * 0 + w)) (f 1 6) p n = sS (f 132) (f 133) (f 134) (f 92 48) p n := by
    rw [h9, h10, r6]
    exact sS_congr (fun w hw => ⟨rfl, rfl, by rw [Nat.mul_zero, Nat.zero_add]; exact h12 w hw⟩)
  by_cases c1 : inR p 0 99
  · rcases tw_k w 3 (by decide) with q | ⟨k, hk, rfl⟩
    · refine st_mk (P := fun r f1 => r = -2147483648 ∧ ∃ a g, f1 = (up1 (up1 f 88 g) 83 (upd (f 83) 9 a)) ∧ ∀ v, v < n → g v = f 88 v) ((sp_yearYb f h1 h3 c1 q).mono (Nat.le_refl _) (fun u f1 z => ⟨_, z.1, rfl, z.2⟩)) (fun r f1 z => ?_) (d' := 3) (by decide) (by decide)
      obtain ⟨z1, a, g, z2, z3⟩ := z
      rw [z1, z2]
      exact (mp_yearX (up1 (up1 f 88 g) 83 (upd (f 83) 9 a)) (fun z => nin (by decide) q z.2)).mono (Nat.le_refl _) (fun u f2 z => ⟨z.1, by rw [z.2]; exact cp_ag (ag_yr h1 h3 z3) cp⟩)
    · match k, hk with
      | 0, _ =>
        refine st_mk (P := fun r f1 => r = (pS (f 132) (f 133) (f 134) (f 92 48) p n) ∧ ∃ a g, f1 = (up1 (up1 f 88 g) 83 (upd (f 83) 9 a)) ∧ ∀ v, v < n → g v = f 88 v) ((sp_year0b f h1 h3 c1).mono (Nat.le_refl _) (fun u f1 z => ⟨_, z.1, eP, z.2⟩)) (fun r f1 z => ?_) (d' := 3) (by decide) (by decide)
        obtain ⟨z1, a, g, z2, z3⟩ := z
        rw [z1, z2]
        refine (mp_year0 (up1 (up1 f 88 g) 83 (upd (f 83) 9 a)) h1 h4 c1).mono (Nat.le_refl _) (fun u f2 z => ⟨z.1, ?_⟩)
        obtain ⟨_, g2, x, y, zz, z4⟩ := z
        rw [z4]
        exact cp_ag (ag_m (up3n (by decide) (by decide) (by decide))) (cp_ag (ag_yr h1 h3 z3) cp)
      | 1, _ =>
        refine st_mk (P := fun r f1 => r = (sS (f 132) (f 133) (f 134) (f 92 48) p n) ∧ ∃ a g, f1 = (up1 (up1 f 88 g) 83 (upd (f 83) 9 a)) ∧ ∀ v, v < n → g v = f 88 v) ((sp_year1b f h1 h3 c1).mono (Nat.le_refl _) (fun u f1 z => ⟨_, z.1, eS, z.2⟩)) (fun r f1 z => ?_) (d' := 3) (by decide) (by decide)
        obtain ⟨z1, a, g, z2, z3⟩ := z
        rw [z1, z2]
        refine (mp_year1 (up1 (up1 f 88 g) 83 (upd (f 83) 9 a)) h1 h4 c1).mono (Nat.le_refl _) (fun u f2 z => ⟨z.1, ?_⟩)
        obtain ⟨_, g2, x, y, zz, z4⟩ := z
        rw [z4]
        exact cp_ag (ag_m (up3n (by decide) (by decide) (by decide))) (cp_ag (ag_yr h1 h3 z3) cp)
      | 2, _ =>
        refine st_mk (P := fun r f1 => r = ((pS (f 132) (f 133) (f 134) (f 92 48) p n) * p) ∧ ∃ a g, f1 = (up1 (up1 f 88 g) 83 (upd (f 83) 9 a)) ∧ ∀ v, v < n → g v = f 88 v) ((sp_year2b f h1 h3 c1).mono (Nat.le_refl _) (fun u f1 z => ⟨_, z.1, by rw [eP], z.2⟩)) (fun r f1 z => ?_) (d' := 3) (by decide) (by decide)
        obtain ⟨z1, a, g, z2, z3⟩ := z
        rw [z1, z2]
        refine (mp_year2 (up1 (up1 f 88 g) 83 (upd (f 83) 9 a)) h1 h4 c1).mono (Nat.le_refl _) (fun u f2 z => ⟨z.1, ?_⟩)
        obtain ⟨_, g2, x, y, zz, z4⟩ := z
        rw [z4]
        exact cp_ag (ag_m (up3n (by decide) (by decide) (by decide))) (cp_ag (ag_yr h1 h3 z3) cp)
      | 3, _ =>
        refine st_mk (P := fun r f1 => r = (lossA (f 92 44) (f 92 45) (pS (f 132) (f 133) (f 134) (f 92 48) p n) p) ∧ ∃ a g, f1 = (up1 (up1 f 88 g) 83 (upd (f 83) 9 a)) ∧ ∀ v, v < n → g v = f 88 v) ((sp_year3b f h1 h3 c1).mono (Nat.le_refl _) (fun u f1 z => ⟨_, z.1, by rw [eP, r2, r3], z.2⟩)) (fun r f1 z => ?_) (d' := 3) (by decide) (by decide)
        obtain ⟨z1, a, g, z2, z3⟩ := z
        rw [z1, z2]
        refine (mp_year3 (up1 (up1 f 88 g) 83 (upd (f 83) 9 a)) h1 h4 c1).mono (Nat.le_refl _) (fun u f2 z => ⟨z.1, ?_⟩)
        obtain ⟨_, g2, x, y, zz, z4⟩ := z
        rw [z4]
        exact cp_ag (ag_m (up3n (by decide) (by decide) (by decide))) (cp_ag (ag_yr h1 h3 z3) cp)
      | k + 4, hk => exact absurd hk (by omega)
  · exact st_ret cp (sp_yearX f c1) (mp_yearX f (fun z => c1 z.1)) (by decide) (by decide)
theorem st_even (cp : CpZ f) : StP 111 204 [] f := by
  obtain ⟨n, c, h1, h2, h3, h4, h5, h6, ⟨h7, h8, h9, h10, h11⟩, h12, r2, r3, r4, r5, r6⟩ := mk_of cp
  refine st_mk (P := fun r f1 => evR (f 86) (f 87) (f 88) (f 1 6) (f 1 2) (f 1 3) n r ∧ ∃ a g, f1 = (up1 (up1 f 83 (upd (f 83) 9 a)) 88 g) ∧ ∀ v, v < n → g v = f 88 v) ((sp_evenb f h1 h3).mono (Nat.le_refl _) (fun u f1 z => ?_)) (fun r f1 z => ?_) (d' := 3) (by decide) (by decide)
  · obtain ⟨⟨r, z1, z2⟩, z3⟩ := z
    exact ⟨r, z1, z2, z3⟩
  · obtain ⟨z1, a, g, z2, z3⟩ := z
    rw [z2]
    refine (mp_even (up1 (up1 f 83 (upd (f 83) 9 a)) 88 g) h1 h4).mono (Nat.le_refl _) (fun u f2 y => ?_)
    obtain ⟨⟨r', y1, y2⟩, g2, x, y, zz, y4⟩ := y
    rw [h9, h10, r6, r2, r3] at z1
    refine ⟨by rw [y1, evR_u (ev_T h12 z1) y2], ?_⟩
    rw [y4]
    exact cp_ag (ag_m (up3n (by decide) (by decide) (by decide))) (cp_ag (ag_yr2 h1 h3 z3) cp)
theorem st_under (cp : CpZ f) (a w : Int32) : StP 112 205 [.int a, .int w] f := by
  obtain ⟨n, c, h1, h2, h3, h4, h5, h6, ⟨h7, h8, h9, h10, h11⟩, h12, r2, r3, r4, r5, r6⟩ := mk_of cp
  obtain ⟨_, ⟨W, ww, D, am, nl, h0, hct, _⟩, _, _, _, wn', c', _, _, g3, _, _, _, _, _, h13, _⟩ := id cp
  have ewn : wn' = n := (nI_eq (a := wn') (b := n) (by omega) (by omega)).mp (g3.symm.trans h3)
  rw [ewn] at h13
  obtain ⟨x1, x2, x3, x4⟩ := hct.2.2.2.2.2.1
  have hAB : ∀ v, v < n → ciN (f 130 v) < 10 ∧ ciN (f 131 v) < 10 ∧ f 130 v = nI (ciN (f 130 v)) ∧ f 131 v = nI (ciN (f 131 v)) := by
    intro v hv
    obtain ⟨x, y, hx, hy, e1, e2⟩ := h13 v hv
    rw [e1, e2, ciN_n (by omega), ciN_n (by omega)]
    exact ⟨hx, hy, rfl, rfl⟩
  by_cases c1 : inR a 0 (nI am - 1)
  · by_cases c2 : inR w 0 1
    · obtain ⟨j, hj, rfl⟩ := inNm (by omega) c1
      obtain ⟨k, hk, rfl⟩ := inN (n := 1) (by decide) c2
      obtain ⟨_, _, cc, y1, y2, y3, y4⟩ := x4 j hj
      match k, hk with
      | 0, _ =>
        have hc := sp_under0 (f := f) (n := cc) (wn := n) (a := j) (A := fun v => ciN (f 130 v)) (B := fun v => ciN (f 131 v)) (D := D) (by omega) y2 y1 rfl rfl rfl hct.2.2.2.1.1 hct.2.2.1.2.1 hct.2.2.2.1.2 h1 h3 (fun v hv => by rw [h7, h8]; exact hAB v hv) (by rw [x1]; exact c1)
        rw [h9, h10, r6, (u_Tt (p := fun v => chA (f (19 + 5 * j)) (f (20 + 5 * j)) (f (21 + 5 * j)) (dJ (D (ciN (f 130 v)) (ciN (f 131 v)))) 1 8 0 cc) (P := f 132) (V := f 133) (s := f 92 48) h12).1] at hc
        exact st_g cp hc (mp_under0 (f := f) (n := cc) (wn := n) (a := j) (A := fun v => ciN (f 130 v)) (B := fun v => ciN (f 131 v)) (D := D) hct.2.1 hct.2.2.1 (by omega) y3 y1 y4 h1 h4 hAB (by rw [x2]; exact c1)) (by decide) (by decide)
      | 1, _ =>
        have hc := sp_under1 (f := f) (n := cc) (wn := n) (a := j) (A := fun v => ciN (f 130 v)) (B := fun v => ciN (f 131 v)) (D := D) (by omega) y2 y1 rfl rfl rfl hct.2.2.2.1.1 hct.2.2.1.2.1 hct.2.2.2.1.2 h1 h3 (fun v hv => by rw [h7, h8]; exact hAB v hv) (by rw [x1]; exact c1)
        rw [h9, h10, r6, (u_Tt (p := fun v => chA (f (19 + 5 * j)) (f (20 + 5 * j)) (f (21 + 5 * j)) (dJ (D (ciN (f 130 v)) (ciN (f 131 v)))) 1 8 0 cc) (P := f 132) (V := f 133) (s := f 92 48) h12).2] at hc
        exact st_g cp hc (mp_under1 (f := f) (n := cc) (wn := n) (a := j) (A := fun v => ciN (f 130 v)) (B := fun v => ciN (f 131 v)) (D := D) hct.2.1 hct.2.2.1 (by omega) y3 y1 y4 h1 h4 hAB (by rw [x2]; exact c1)) (by decide) (by decide)
      | k + 2, hk => exact absurd hk (by omega)
    · exact st_ret cp (sp_underX f (by rw [x1]; exact c1) c2) (mp_underX f (by rw [x2]; exact c1) c2) (by decide) (by decide)
  · exact st_ret cp (sp_underU f (by rw [x1]; exact c1)) (mp_underU f (by rw [x2]; exact c1)) (by decide) (by decide)
theorem pl_of (cp : CpZ f) : ∃ wn c : Nat, wn ≤ 8 ∧ c ≤ 6 ∧ f 83 6 = nI wn ∧ f 92 61 = nI wn ∧ f 83 8 = nI c ∧ f 92 63 = nI c ∧ (∀ n k, n ≤ 5 → 0 ≤ pL (f 86) (f 87) (f 1 6) (f 1 4) (f 89) (f 88) wn c n k) ∧ (∀ i, i < c → ¬ f 135 i = -1) ∧ ∀ n, pL (f 86) (f 87) (f 1 6) (f 1 4) (f 89) (f 88) wn c n = pL (f 132) (f 133) (f 92 48) (f 92 46) (f 135) (f 134) wn c n ∧ pD (f 86) (f 87) (f 1 6) (f 1 4) (f 1 2) (f 1 3) (f 89) (f 88) wn c n = pD (f 132) (f 133) (f 92 48) (f 92 46) (f 92 44) (f 92 45) (f 135) (f 134) wn c n ∧ pB (f 86) (f 87) (f 1 6) (f 1 4) (f 1 2) (f 1 3) (f 1 5) (f 89) (f 88) wn c n = pB (f 132) (f 133) (f 92 48) (f 92 46) (f 92 44) (f 92 45) (f 92 47) (f 135) (f 134) wn c n := by
  obtain ⟨_, _, ⟨r, _, gg, g1, g2⟩, _, _, wn, c, h1, h2, h3, h4, h5, h6, ⟨h7, h8, h9, h10, h11⟩, h12, h13, h14, h15⟩ := cp
  have r2 : f 1 2 = f 92 44 := r 2 (by decide) (by decide)
  have r3 : f 1 3 = f 92 45 := r 3 (by decide) (by decide)
  have r4 : f 1 4 = f 92 46 := r 4 (by decide) (by decide)
  have r5 : f 1 5 = f 92 47 := r 5 (by decide) (by decide)
  have r6 : f 1 6 = f 92 48 := r 6 (by decide) (by decide)
  refine ⟨wn, c, h1, h2, h3, h4, h5, h6, fun n k hn => ?_, h15, fun n => ?_⟩
  · rw [r4, g2]
    exact pL_nn g1 h1 hn (fun v hv => by rw [h9, h12 v hv]; exact h14 v hv) k
  · rw [h9, h10, h11, r2, r3, r4, r5, r6]
    exact pl_T h12
theorem ag_mp {r g R : Nat → Int32} (hr : ∀ k, k < 75 → r k = f 92 k) : AgX f (up1 (up1 (up1 f 92 r) 142 g) 143 R) := agx_t (ag_m (fun k hk => hr k (by omega))) (ag_sc s143)
theorem st_plan (cp : CpZ f) (a w : Int32) : StP 114 210 [.int a, .int w] f := by
  obtain ⟨wn, c, h1, h2, h3, h4, h5, h6, h7, h8, h9⟩ := pl_of cp
  by_cases c1 : inR a 1 5 ∧ inR w 0 1
  · obtain ⟨n, hn1, hn5, rfl⟩ := inN1 (n := 5) (by decide) c1.1
    obtain ⟨k, hk, rfl⟩ := inN (n := 1) (by decide) c1.2
    obtain ⟨e1, e2, e3⟩ := h9 n
    match k, hk with
    | 0, _ =>
      refine st_mk (P := fun r f1 => r = plA (-2147483648) (pL (f 132) (f 133) (f 92 48) (f 92 46) (f 135) (f 134) wn c n) (bst (pL (f 132) (f 133) (f 92 48) (f 92 46) (f 135) (f 134) wn c n) (pD (f 132) (f 133) (f 92 48) (f 92 46) (f 92 44) (f 92 45) (f 135) (f 134) wn c n) (pB (f 132) (f 133) (f 92 48) (f 92 46) (f 92 44) (f 92 45) (f 92 47) (f 135) (f 134) wn c n) (c ^ n)) ∧ ∃ a t bl bd tr be, f1 = (up1 (up1 (up1 (up1 f 83 (upd (upd (upd (f 83) 13 bd) 12 bl) 9 a)) 88 t) 90 tr) 91 be) ∧ ∀ v, v < wn → t v = f 88 v) ((sp_plan0b f h1 h3 h2 h5 hn1 hn5 (fun k => h7 n k hn5)).mono (Nat.le_refl _) (fun u f1 z => ⟨_, z.1, by rw [e1, e2, e3], z.2⟩)) (fun r f1 z => ?_) (d' := 5) (by decide) (by decide)
      obtain ⟨z1, a, t, bl, bd, tr, be, z2, z3⟩ := z
      rw [z1, z2]
      refine (mp_plan0 (up1 (up1 (up1 (up1 f 83 (upd (upd (upd (f 83) 13 bd) 12 bl) 9 a)) 88 t) 90 tr) 91 be) h1 h4 h2 h6 hn1 hn5 h8).mono (Nat.le_refl _) (fun u f2 z => ⟨z.1, ?_⟩)
      obtain ⟨_, r9, g, R, z4, z5⟩ := z
      rw [z4]
      exact cp_ag (ag_mp z5) (cp_ag (ag_pl h1 h3 z3) cp)
    | 1, _ =>
      refine st_mk (P := fun r f1 => r = plA (-2147483648) (pD (f 132) (f 133) (f 92 48) (f 92 46) (f 92 44) (f 92 45) (f 135) (f 134) wn c n) (bst (pL (f 132) (f 133) (f 92 48) (f 92 46) (f 135) (f 134) wn c n) (pD (f 132) (f 133) (f 92 48) (f 92 46) (f 92 44) (f 92 45) (f 135) (f 134) wn c n) (pB (f 132) (f 133) (f 92 48) (f 92 46) (f 92 44) (f 92 45) (f 92 47) (f 135) (f 134) wn c n) (c ^ n)) ∧ ∃ a t bl bd tr be, f1 = (up1 (up1 (up1 (up1 f 83 (upd (upd (upd (f 83) 13 bd) 12 bl) 9 a)) 88 t) 90 tr) 91 be) ∧ ∀ v, v < wn → t v = f 88 v) ((sp_plan1b f h1 h3 h2 h5 hn1 hn5 (fun k => h7 n k hn5)).mono (Nat.le_refl _) (fun u f1 z => ⟨_, z.1, by rw [e1, e2, e3], z.2⟩)) (fun r f1 z => ?_) (d' := 5) (by decide) (by decide)
      obtain ⟨z1, a, t, bl, bd, tr, be, z2, z3⟩ := z
      rw [z1, z2]
      refine (mp_plan1 (up1 (up1 (up1 (up1 f 83 (upd (upd (upd (f 83) 13 bd) 12 bl) 9 a)) 88 t) 90 tr) 91 be) h1 h4 h2 h6 hn1 hn5 h8).mono (Nat.le_refl _) (fun u f2 z => ⟨z.1, ?_⟩)
      obtain ⟨_, r9, g, R, z4, z5⟩ := z
      rw [z4]
      exact cp_ag (ag_mp z5) (cp_ag (ag_pl h1 h3 z3) cp)
    | k + 2, hk => exact absurd hk (by omega)
  · exact st_ret cp (sp_planX f c1) (mp_planX f c1) (by decide) (by decide)
theorem st_planned (cp : CpZ f) (a w : Int32) : StP 115 211 [.int a, .int w] f := by
  have h11 : f 89 = f 135 := by
    obtain ⟨_, _, _, _, _, _, _, _, h7, _⟩ := mk_of cp
    exact h7.2.2.2.2
  obtain ⟨wn, c, h1, h2, h3, h4, h5, h6, h7, h8, h9⟩ := pl_of cp
  by_cases c1 : inR a 1 5 ∧ inR w 0 (a - 1)
  · obtain ⟨n, hn1, hn5, rfl⟩ := inN1 (n := 5) (by decide) c1.1
    obtain ⟨i, hi, rfl⟩ := inNm (by omega) c1.2
    obtain ⟨e1, e2, e3⟩ := h9 n
    refine st_mk (P := fun r f1 => r = plA (-1) (fun b => dg (f 135) c n b i) (bst (pL (f 132) (f 133) (f 92 48) (f 92 46) (f 135) (f 134) wn c n) (pD (f 132) (f 133) (f 92 48) (f 92 46) (f 92 44) (f 92 45) (f 135) (f 134) wn c n) (pB (f 132) (f 133) (f 92 48) (f 92 46) (f 92 44) (f 92 45) (f 92 47) (f 135) (f 134) wn c n) (c ^ n)) ∧ ∃ a t bl bd tr be, f1 = (up1 (up1 (up1 (up1 f 83 (upd (upd (upd (f 83) 13 bd) 12 bl) 9 a)) 88 t) 90 tr) 91 be) ∧ ∀ v, v < wn → t v = f 88 v) ((sp_planned1b f h1 h3 h2 h5 hn1 hn5 (fun k => h7 n k hn5) hi).mono (Nat.le_refl _) (fun u f1 z => ⟨_, z.1, by rw [e1, e2, e3, h11], z.2⟩)) (fun r f1 z => ?_) (d' := 5) (by decide) (by decide)
    obtain ⟨z1, a, t, bl, bd, tr, be, z2, z3⟩ := z
    rw [z1, z2]
    refine (mp_planned1 (up1 (up1 (up1 (up1 f 83 (upd (upd (upd (f 83) 13 bd) 12 bl) 9 a)) 88 t) 90 tr) 91 be) h1 h4 h2 h6 hn1 hn5 h8 hi).mono (Nat.le_refl _) (fun u f2 z => ⟨z.1, ?_⟩)
    obtain ⟨_, r9, g, R, z4, z5⟩ := z
    rw [z4]
    exact cp_ag (ag_mp z5) (cp_ag (ag_pl h1 h3 z3) cp)
  · exact st_ret cp (sp_plannedX f c1) (mp_plannedX f c1) (by decide) (by decide)
theorem or_u {A B : Prop} {r r' x y : Int32} (h : A → ¬ B) (q : (A ∧ r = x) ∨ (B ∧ r = y)) (q' : (A ∧ r' = x) ∨ (B ∧ r' = y)) : r = r' := by
  rcases q with ⟨a, e⟩ | ⟨b, e⟩ <;> rcases q' with ⟨a', e'⟩ | ⟨b', e'⟩
  · rw [e, e']
  · exact absurd b' (h a)
  · exact absurd b (h a')
  · rw [e, e']
theorem up6n {g : Nat → Int32} {a b c x y z : Int32} : ∀ k, k < 65 → upd (upd (upd (upd (upd (upd g 75 a) 76 b) 77 c) 81 z) 80 y) 79 x k = g k := fun k hk => by rw [upd_n (by omega), upd_n (by omega), upd_n (by omega), upd_n (by omega), upd_n (by omega), upd_n (by omega)]
theorem st_judge (cp : CpZ f) (row : Int64) (a w : Int32) : StP 116 212 [.long row, .int a, .int w] f := by
  obtain ⟨n, c, h1, h2, h3, h4, h5, h6, ⟨h7, h8, h9, h10, h11⟩, h12, r2, r3, r4, r5, r6⟩ := mk_of cp
  by_cases c1 : inR a 1 5 ∧ inR w 0 2
  · obtain ⟨m, hm1, hm5, rfl⟩ := inN1 (n := 5) (by decide) c1.1
    obtain ⟨k, hk, rfl⟩ := inN (n := 2) (by decide) c1.2
    obtain ⟨e1, e2, e3⟩ := z_T (P := f 132) (V := f 133) (s := f 92 48) (g := f 92 46) (fx := f 92 44) (ea := f 92 45) (lim := f 92 47) (q := jq row) (T := f 88) (T' := f 134) h12 m
    match k, hk with
    | 0, _ =>
      refine st_mk (P := fun r f1 => (((∀ i, i < m → jq row i ≤ 99) ∧ r = (zL (f 132) (f 133) (f 92 48) (f 92 46) (jq row) (f 134) n m)) ∨ ((∃ i, i < m ∧ ¬ jq row i ≤ 99) ∧ r = -2147483648)) ∧ ∃ a g, f1 = (up1 (up1 f 83 (upd (f 83) 9 a)) 88 g) ∧ ∀ v, v < n → g v = f 88 v) ((sp_judge0b f h1 h3 hm1 hm5 row).mono (Nat.le_refl _) (fun u f1 z => ?_)) (fun r f1 z => ?_) (d' := 4) (by decide) (by decide)
      · obtain ⟨⟨r, z1, z2⟩, z3⟩ := z
        rw [h9, h10, r6, r4, e1] at z2
        exact ⟨r, z1, z2, z3⟩
      · obtain ⟨z1, a, g, z2, z3⟩ := z
        rw [z2]
        refine (mp_judge0 (up1 (up1 f 83 (upd (f 83) 9 a)) 88 g) h1 h4 hm1 hm5 row).mono (Nat.le_refl _) (fun u f2 y => ?_)
        obtain ⟨⟨r', y1, y2⟩, y3⟩ := y
        refine ⟨by rw [y1, or_u (fun p q => by obtain ⟨i, i1, i2⟩ := q; exact i2 (p i i1)) z1 y2], ?_⟩
        have cp1 := cp_ag (ag_yr2 (a := a) h1 h3 z3) cp
        rcases y3 with ⟨h, y4⟩ | ⟨g2, h, aa, b, cc, x, y, zz, y4⟩
        · rw [y4]
          exact cp_sc s143 cp1
        · rw [y4]
          exact cp_ag (ag_m (f := up1 (up1 (up1 f 83 (upd (f 83) 9 a)) 88 g) 143 h) up6n) (cp_sc s143 cp1)
    | 1, _ =>
      refine st_mk (P := fun r f1 => (((∀ i, i < m → jq row i ≤ 99) ∧ r = (zD (f 132) (f 133) (f 92 48) (f 92 46) (f 92 44) (f 92 45) (jq row) (f 134) n m)) ∨ ((∃ i, i < m ∧ ¬ jq row i ≤ 99) ∧ r = -2147483648)) ∧ ∃ a g, f1 = (up1 (up1 f 83 (upd (f 83) 9 a)) 88 g) ∧ ∀ v, v < n → g v = f 88 v) ((sp_judge1b f h1 h3 hm1 hm5 row).mono (Nat.le_refl _) (fun u f1 z => ?_)) (fun r f1 z => ?_) (d' := 4) (by decide) (by decide)
      · obtain ⟨⟨r, z1, z2⟩, z3⟩ := z
        rw [h9, h10, r6, r4, r2, r3, e2] at z2
        exact ⟨r, z1, z2, z3⟩
      · obtain ⟨z1, a, g, z2, z3⟩ := z
        rw [z2]
        refine (mp_judge1 (up1 (up1 f 83 (upd (f 83) 9 a)) 88 g) h1 h4 hm1 hm5 row).mono (Nat.le_refl _) (fun u f2 y => ?_)
        obtain ⟨⟨r', y1, y2⟩, y3⟩ := y
        refine ⟨by rw [y1, or_u (fun p q => by obtain ⟨i, i1, i2⟩ := q; exact i2 (p i i1)) z1 y2], ?_⟩
        have cp1 := cp_ag (ag_yr2 (a := a) h1 h3 z3) cp
        rcases y3 with ⟨h, y4⟩ | ⟨g2, h, aa, b, cc, x, y, zz, y4⟩
        · rw [y4]
          exact cp_sc s143 cp1
        · rw [y4]
          exact cp_ag (ag_m (f := up1 (up1 (up1 f 83 (upd (f 83) 9 a)) 88 g) 143 h) up6n) (cp_sc s143 cp1)
    | 2, _ =>
      refine st_mk (P := fun r f1 => (((∀ i, i < m → jq row i ≤ 99) ∧ r = (zB (f 132) (f 133) (f 92 48) (f 92 46) (f 92 44) (f 92 45) (f 92 47) (jq row) (f 134) n m)) ∨ ((∃ i, i < m ∧ ¬ jq row i ≤ 99) ∧ r = -2147483648)) ∧ ∃ a g, f1 = (up1 (up1 f 83 (upd (f 83) 9 a)) 88 g) ∧ ∀ v, v < n → g v = f 88 v) ((sp_judge2b f h1 h3 hm1 hm5 row).mono (Nat.le_refl _) (fun u f1 z => ?_)) (fun r f1 z => ?_) (d' := 4) (by decide) (by decide)
      · obtain ⟨⟨r, z1, z2⟩, z3⟩ := z
        rw [h9, h10, r6, r4, r2, r3, r5, e3] at z2
        exact ⟨r, z1, z2, z3⟩
      · obtain ⟨z1, a, g, z2, z3⟩ := z
        rw [z2]
        refine (mp_judge2 (up1 (up1 f 83 (upd (f 83) 9 a)) 88 g) h1 h4 hm1 hm5 row).mono (Nat.le_refl _) (fun u f2 y => ?_)
        obtain ⟨⟨r', y1, y2⟩, y3⟩ := y
        refine ⟨by rw [y1, or_u (fun p q => by obtain ⟨i, i1, i2⟩ := q; exact i2 (p i i1)) z1 y2], ?_⟩
        have cp1 := cp_ag (ag_yr2 (a := a) h1 h3 z3) cp
        rcases y3 with ⟨h, y4⟩ | ⟨g2, h, aa, b, cc, x, y, zz, y4⟩
        · rw [y4]
          exact cp_sc s143 cp1
        · rw [y4]
          exact cp_ag (ag_m (f := up1 (up1 (up1 f 83 (upd (f 83) 9 a)) 88 g) 143 h) up6n) (cp_sc s143 cp1)
    | k + 3, hk => exact absurd hk (by omega)
  · exact st_ret cp (sp_judgeX f row c1) (mp_judgeX f row c1) (by decide) (by decide)
end P94
