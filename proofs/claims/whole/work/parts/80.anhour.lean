/-! the hour: letters leave, both sides; the whole hour -/
def lvS (W : Nat → Nat → Nat) (w h : Nat) (s : HI) (i : Nat) : HI := if s (47 + i) 8 = 0 then up1 s (47 + i) (lvO W h (s (47 + i)) (bsE W w (ciN (s (47 + i) 9)) (ciN (s (47 + i) 10)) h)) else s
def itS3 (W : Nat → Nat → Nat) (w h : Nat) (s : HI) : Nat → HI
  | 0 => s
  | i + 1 => lvS W w h (itS3 W w h s i) i
def LvP (s s' : HI) (W : Nat → Nat → Nat) (w h i : Nat) : Prop := (¬ s (47 + i) 8 = 0 ∧ s' = s) ∨ (s (47 + i) 8 = 0 ∧ ∃ t o, t < 10 ∧ o < 10 ∧ s (47 + i) 9 = nI t ∧ s (47 + i) 10 = nI o ∧ s' = up1 s (47 + i) (lvO W h (s (47 + i)) (bsE W w t o h)))
def C3R (t t' : HI) (W : Nat → Nat → Nat) (w h i : Nat) : Prop := (¬ t 115 i = 0 ∧ t' = t) ∨ (t 115 i = 0 ∧ ∃ u o, u < 10 ∧ o < 10 ∧ t 116 i = nI u ∧ t 117 i = nI o ∧ t' = lvM W h t i (bsM W w u o h))
theorem lt_m3 {W : Nat → Nat → Nat} {w h0 : Nat} {g m m' : Nat → Int32} (h : LtB W w h0 g m ∧ Eh3 W w g m) (h1 : ∀ r, 107 ≤ r → r ≤ 123 → m' r = m r) (h2 : m' 137 = m 137) : LtB W w h0 g m' ∧ Eh3 W w g m' := by
  refine ⟨lb_m h.1 (fun r a b => h1 r a (by omega)) h2, ?_⟩
  unfold Eh3
  rw [h1 123 (by decide) (by decide), h1 116 (by decide) (by decide)]
  exact h.2
section P80
variable {W : Nat → Nat → Nat} {w : Nat} {D : Nat → Nat → Nat} {am n h : Nat} {s0 t0 s t : HI}
theorem lv_sim {i : Nat} (hi : i < n) (hI : InX (Eh3 W w) W w D am n h s0 t0 s t) : LvP s (lvS W w h s i) W w h i ∧ ∃ t', C3R t t' W w h i ∧ InX (Eh3 W w) W w D am n h s0 t0 (lvS W w h s i) t' := by
  have hml := hI.2.2.2.2.1
  have hl := hI.2.2.2.2.2
  obtain ⟨⟨hQ, hS, hD, hT⟩, hE⟩ := hl i hi
  have hT0 := hT
  obtain ⟨d8, d9, d10, d13, d14, d15, d16⟩ := hD
  obtain ⟨⟨tn, go, t1, t2, t3, t4⟩, _, _⟩ := hT
  have n43 : (43 : Nat) ≠ 47 + i := by omega
  have n45 : (45 : Nat) ≠ 47 + i := by omega
  have e9 : s (47 + i) 9 = nI tn := d9.trans t1
  have e10 : s (47 + i) 10 = nI go := d10.trans t3
  by_cases c : s (47 + i) 8 = 0
  · have cm : t 115 i = 0 := d8.symm.trans c
    have hz : lvS W w h s i = up1 s (47 + i) (lvO W h (s (47 + i)) (bsE W w tn go h)) := by
      unfold lvS
      rw [if_pos c, e9, e10, ciN_n (by omega), ciN_n (by omega)]
    rw [hz]
    refine ⟨Or.inr ⟨c, tn, go, t2, t4, e9, e10, rfl⟩, lvM W h t i (bsM W w tn go h), Or.inr ⟨cm, tn, go, t2, t4, t1, t3, rfl⟩, ?_⟩
    have stay : InX (Eh3 W w) W w D am n h s0 t0 (up1 s (47 + i) (s (47 + i))) t := by rw [up1_id]; exact hI
    cases hb : bsE W w tn go h with
    | none =>
      rw [show bsM W w tn go h = none by unfold bsM; rw [hb]; rfl]
      exact stay
    | some e =>
      rw [show bsM W w tn go h = some (e / 2) by unfold bsM; rw [hb]; rfl]
      obtain ⟨he, hP⟩ := bs_lt hb
      by_cases cl : lvN (W 3 (e / 2)) (W 4 (e / 2)) h = h
      · rw [show lvM W h t i (some (e / 2)) = _ from if_pos cl, show lvO W h (s (47 + i)) (some e) = _ from if_pos cl]
        generalize hy : e / 2 = y
        refine ⟨fun r b1 b2 b3 b4 => ?_, frM_t hI.2.1 ⟨fun r b1 b2 b3 b4 => ?_, fun k b1 b2 => rfl⟩, hI.2.2.1, hI.2.2.2.1, ⟨⟨?_, ?_, hml.1.2.2.1, hml.1.2.2.2⟩, ⟨?_, ?_, ?_, ?_⟩, fun j hj => ?_⟩, fun l hl2 => ?_⟩
        · rw [up1_f (by omega)]
          exact hI.1 r b1 b2 b3 b4
        · rw [up1_f (by omega), up1_f (by omega), up1_f b4, up1_f (by omega)]
        · rw [up1_f n43]; exact hml.1.1
        · rw [up1_f n43]; exact hml.1.2.1
        · rw [up1_f n43]; exact hml.2.1.1
        · rw [up1_f n43]; exact hml.2.1.2.1
        · rw [up1_f n43]; exact hml.2.1.2.2.1
        · rw [up1_f n43]; exact hml.2.1.2.2.2
        · rw [up1_f n45]; exact hml.2.2 j hj
        · by_cases cq : l = i
          · rw [cq, up1_s]
            have hm : ∀ r, clm (up1 (up1 (up1 (up1 t 123 (upd (t 123) i (nI y))) 137 (upd (t 137) i (nI y))) 118 (upd (t 118) i (nI (h + (W 2 y))))) 115 (upd (t 115) i 1)) i r = upd (upd (upd (upd (clm t i) 123 (nI y)) 137 (nI y)) 118 (nI (h + (W 2 y)))) 115 1 r := fun r => c_ui (c_ui (c_ui (c_ui rfl)))
            exact lt_m3 (m := upd (upd (upd (upd (clm t i) 123 (nI y)) 137 (nI y)) 118 (nI (h + (W 2 y)))) 115 1) ⟨⟨hQ, hS, ⟨rfl, d9, d10, d13, d14, d15, d16⟩, hT0.1, fun _ => ⟨e, he, (by show nI y = nI (e / 2); rw [hy]), (by show t 116 i = nI (eP W e); rw [hP]; exact t1), rfl, rfl⟩, fun q => absurd (show (1 : Int32) = 2 from q) (by decide)⟩, Or.inr ⟨e, he, rfl, (by show nI y = nI (e / 2); rw [hy]), (by show t 116 i = nI (eP W e); rw [hP]; exact t1)⟩⟩ (fun r z1 z2 => hm r) (hm 137)
          · rw [up1_f (by omega)]
            exact lt_m3 (hl l hl2) (fun r z1 z2 => c_up cq (c_up cq (c_up cq (c_up cq rfl)))) (c_up (t := t) (r := 137) cq (c_up cq (c_up cq (c_up cq rfl))))
      · rw [show lvM W h t i (some (e / 2)) = t from if_neg cl, show lvO W h (s (47 + i)) (some e) = s (47 + i) from if_neg cl]
        exact stay
  · have hz : lvS W w h s i = s := if_neg c
    rw [hz]
    exact ⟨Or.inl ⟨c, rfl⟩, t, Or.inl ⟨fun q => c (d8.trans q), rfl⟩, hI⟩
theorem ph_3 (hI : InX (Eh3 W w) W w D am n h s0 t0 s t) : (∀ i, i ≤ n → itS3 W w h s i 43 6 = nI n ∧ itS3 W w h s i 43 7 = nI h ∧ LaC (itS3 W w h s i) W w) ∧ (∀ i, i < n → LvS (itS3 W w h s) W w h i) ∧ ∃ T : Nat → HI, T 0 = t ∧ (∀ i, i < n → C3m T W w h i) ∧ (∀ i, i ≤ n → HcM (T i) W w n h) ∧ InX (Eh3 W w) W w D am n h s0 t0 (itS3 W w h s n) (T n) := by
  obtain ⟨T, e0, e1, e2⟩ := sq_ex (P := fun i x => InX (Eh3 W w) W w D am n h s0 t0 (itS3 W w h s i) x) (R := fun i x y => C3R x y W w h i) (a := t) n hI
    (fun i x hi hx => (lv_sim hi hx).2)
  exact ⟨fun i hi => ⟨(e2 i hi).2.2.2.2.1.1.1, (e2 i hi).2.2.2.2.1.1.2.1, (in_ct (e2 i hi)).1⟩, fun i hi => (lv_sim hi (e2 i (by omega))).1, T, e0, e1, fun i hi => in_hc (e2 i hi), e2 n (Nat.le_refl _)⟩
/-- the runs, by the class's cells -/
def rrS (s : HI) (l : Nat) : Nat := if s (47 + l) 17 = -1 then 999 else ciN (s (47 + l) 17)
def ppS (s : HI) (n l : Nat) : Nat := if l < n then ciN (ptA (s 1 0) (s (47 + l) 2) (s (47 + l) 3)) else 1
theorem rr_i (hw : w ≤ 16) (hI : InX (Eh3 W w) W w D am n h s0 t0 s t) {l : Nat} (hl : l < n) : (rrS s l < 2 * w ∧ s (47 + l) 17 = nI (rrS s l) ∧ t 123 l = nI (rrS s l / 2) ∧ t 116 l = nI (eP W (rrS s l))) ∨ (32 ≤ rrS s l ∧ s (47 + l) 17 = -1 ∧ t 123 l = -1) := by
  rcases (hI.2.2.2.2.2 l hl).2 with ⟨q1, q2⟩ | ⟨e, he, q1, q2, q3⟩
  · right
    unfold rrS
    rw [if_pos q1]
    exact ⟨by decide, q1, q2⟩
  · left
    have hr : rrS s l = e := by
      unfold rrS
      rw [q1, if_neg (nI_nm (by omega)), ciN_n (by omega)]
    rw [hr]
    exact ⟨he, q1, q2, q3⟩
theorem pt_n {ke : Int32} {sh dr : Nat} (h1 : 1 ≤ sh ∧ sh ≤ 9) (h2 : 1 ≤ dr ∧ dr ≤ 64) : ∃ p : Nat, ptA ke (nI sh) (nI dr) = nI p ∧ 1 ≤ p ∧ p ≤ 64 := by
  unfold ptA
  by_cases c : ke = 1
  · exact ⟨dr, if_pos c, h2.1, h2.2⟩
  · by_cases c2 : ke = 2
    · exact ⟨sh, by rw [if_neg c, if_pos c2], h1.1, by omega⟩
    · exact ⟨1, by rw [if_neg c, if_neg c2]; rfl, by decide, by decide⟩
theorem pp_e (hI : InX (Eh3 W w) W w D am n h s0 t0 s t) {l : Nat} (hl : l < n) : ptA (s 1 0) (s (47 + l) 2) (s (47 + l) 3) = nI (ppS s n l) ∧ 1 ≤ ppS s n l ∧ ppS s n l ≤ 64 := by
  obtain ⟨⟨hQ, hS, _, _⟩, _⟩ := hI.2.2.2.2.2 l hl
  obtain ⟨a, b, sh, dr, wi, wr, qa, ha, qb, hb, hab, q3, q4, q5, q6, q7, q8, _⟩ := hS
  obtain ⟨p, e, p1, p2⟩ := pt_n (ke := s 1 0) ⟨q4, q5⟩ ⟨q7, q8⟩
  have e2 : s (47 + l) 2 = nI sh := hQ.2.2.1.trans q3
  have e3 : s (47 + l) 3 = nI dr := hQ.2.2.2.1.trans q6
  unfold ppS
  rw [if_pos hl, e2, e3, e, ciN_n (by omega)]
  exact ⟨rfl, p1, p2⟩
theorem pp_bd (hI : InX (Eh3 W w) W w D am n h s0 t0 s t) (l : Nat) : 1 ≤ ppS s n l ∧ ppS s n l ≤ 64 := by
  by_cases c : l < n
  · exact (pp_e hI c).2
  · unfold ppS
    rw [if_neg c]
    exact ⟨by decide, by decide⟩
def hr3 (W : Nat → Nat → Nat) (w : Nat) (D : Nat → Nat → Nat) (am n h : Nat) (s : HI) : HI := itS3 W w h (itS2 D am h (mapL (cIn (nI h)) s n) n) n
/-- an hour of the class -/
def HrC (W : Nat → Nat → Nat) (w : Nat) (D : Nat → Nat → Nat) (am n h : Nat) (s s' : HI) : Prop := ∃ x, (∃ g, RnC (up1 (hr3 W w D am n h s) 10 g) (rrS (hr3 W w D am n h s)) (ppS (hr3 W w D am n h s) n) (W 6) w n n x) ∧ s' = up1 x 43 (upd (x 43) 7 (nI (h + 1)))
theorem eh_13 {g m : Nat → Int32} (q : Eh1 g m) : Eh3 W w g m := Or.inl q
theorem in_mono {E E' : (Nat → Int32) → (Nat → Int32) → Prop} (hE : ∀ g m, E g m → E' g m) (hI : InX E W w D am n h s0 t0 s t) : InX E' W w D am n h s0 t0 s t := ⟨hI.1, hI.2.1, hI.2.2.1, hI.2.2.2.1, hI.2.2.2.2.1, fun l q => ⟨(hI.2.2.2.2.2 l q).1, hE _ _ (hI.2.2.2.2.2 l q).2⟩⟩
theorem hr_c (hn24 : n ≤ 24) (h9 : h ≤ 9000) (hI : InX Eh0 W w D am n h s0 t0 s t) : Sp 8 27 [.ref 43] s (fun v s' => v = none ∧ HrC W w D am n h s s') := by
  obtain ⟨T1, a0, a1, a2, I1⟩ := ph_1 hn24 hI
  obtain ⟨b1, b2, T2, b0, b3, b4, I2⟩ := ph_2 hn24 h9 I1
  obtain ⟨c1, c2, T3, c0, c3, c4, I3⟩ := ph_3 (in_mono (fun g m => eh_13) I2)
  have hw := (in_ct hI).1.2.1
  have I3 : InX (Eh3 W w) W w D am n h s0 t0 (hr3 W w D am n h s) (T3 n) := I3
  have hCt := in_ct I3
  refine sp_passHour (f := s) (S2 := itS2 D am h (mapL (cIn (nI h)) s n)) (S3 := itS3 W w h (itS2 D am h (mapL (cIn (nI h)) s n) n)) (W := W) (w := w) (n := n) (h := h) (P := fun x => ∃ g, RnC (up1 (hr3 W w D am n h s) 10 g) (rrS (hr3 W w D am n h s)) (ppS (hr3 W w D am n h s) n) (W 6) w n n x) hn24 (by omega) hI.2.2.2.2.1.1.1 hI.2.2.2.2.1.1.2.1 rfl b1 b2 rfl c1 c2 (fun g => ?_)
  have q10 : ∀ l, up1 (hr3 W w D am n h s) 10 g (47 + l) = hr3 W w D am n h s (47 + l) := fun l => up1_f (by omega)
  obtain ⟨S, s1, s2, s3, s4⟩ := cl_runs (f := up1 (hr3 W w D am n h s) 10 g) (R := rrS (hr3 W w D am n h s)) (p := ppS (hr3 W w D am n h s) n) (Cn := W 6) (w := w) (n := n) hn24 hw (c1 n (Nat.le_refl _)).1
    (fun l hl => (rr_i hw I3 hl).elim (fun q => Or.inl q.1) (fun q => Or.inr q.1))
    (fun l hl => by
      rw [q10]
      rcases rr_i hw I3 hl with ⟨q1, q2, _⟩ | ⟨q1, q2, _⟩
      · exact q2.trans (rI_y (by omega)).symm
      · exact q2.trans (rI_n q1).symm)
    (fun l hl => by rw [q10]; exact (pp_e I3 hl).1) (fun l => (pp_bd I3 l).2) (fun l => (pp_bd I3 l).1)
    (fun y hy => ⟨(hCt.2.2.2.2.1 y hy).1, (hCt.2.2.2.2.1 y hy).2.2⟩)
  refine ⟨S, s1, s2, s3, ?_, g, s4⟩
  rw [s4.1, upd_n (by decide)]
  exact (c1 n (Nat.le_refl _)).2.1
theorem hr_m (hn24 : n ≤ 24) (h9 : h ≤ 9000) (hI : InX Eh0 W w D am n h s0 t0 s t) {s' : HI} (hh : HrC W w D am n h s s') : ∃ T1 T2 T3 T4 : Nat → HI, T1 0 = t ∧ (∀ e, e ≤ 2 * w → HcM (T4 e) W w n h) ∧ (∀ e, e < 2 * w → C4m T4 W e) ∧ (∀ i, i ≤ n → HcM (T3 i) W w n h) ∧ (∀ i, i < n → C3m T3 W w h i) ∧ T4 0 = T3 n ∧ (∀ i, i ≤ n → HcM (T2 i) W w n h) ∧ (∀ i, i < n → C2m T2 i) ∧ T3 0 = T2 n ∧ (∀ i, i ≤ n → HcM (T1 i) W w n h) ∧ (∀ i, i < n → C1m T1 W w h i) ∧ T2 0 = T1 n ∧ ∀ g, InX Eh0 W w D am n (h + 1) s0 t0 s' (up1 (up1 (T4 (2 * w)) 92 (upd (T4 (2 * w) 92) 8 (nI (h + 1)))) 136 g) := by
  obtain ⟨T1, a0, a1, a2, I1⟩ := ph_1 hn24 hI
  obtain ⟨b1, b2, T2, b0, b3, b4, I2⟩ := ph_2 hn24 h9 I1
  obtain ⟨c1, c2, T3, c0, c3, c4, I3⟩ := ph_3 (in_mono (fun g m => eh_13) I2)
  have hw := (in_ct hI).1.2.1
  have I3 : InX (Eh3 W w) W w D am n h s0 t0 (hr3 W w D am n h s) (T3 n) := I3
  have hCt := in_ct I3
  have hml := I3.2.2.2.2.1
  have hk := hCt.2.2.2.2.2.2.1
  obtain ⟨T4, d0, d1, d2⟩ := ml_runs (t := T3 n) (W := W) (R := rrS (hr3 W w D am n h s)) (p := ppS (hr3 W w D am n h s) n) (Cn := W 6) (w := w) (n := n) hn24 hml.1.2.2.1 hCt.2.1
    (fun l hl => (rr_i hw I3 hl).elim (fun q => Or.inl q.1) (fun q => Or.inr q.1))
    (fun l hl => (rr_i hw I3 hl).elim (fun q => Or.inl ⟨q.1, q.2.2.1, q.2.2.2⟩) (fun q => Or.inr ⟨q.1, q.2.2⟩)) hCt.2.2.2.2.2.2.2
    (fun l hl => by
      have z := (pp_e I3 hl).1
      have hQ := (I3.2.2.2.2.2 l hl).1.1
      rw [hk, hQ.2.2.1, hQ.2.2.2.1] at z
      exact z) (fun l => (pp_bd I3 l).2) (fun l => (pp_bd I3 l).1)
    (fun y hy => ⟨(hCt.2.2.2.2.1 y hy).2.1, (hCt.2.2.2.2.1 y hy).2.2⟩)
  obtain ⟨x, ⟨g0, hx⟩, es⟩ := hh
  refine ⟨T1, T2, T3, T4, a0, fun e he => ?_, d2, c4, c3, d0, b4, b3, c0, a2, a1, b0, fun g => ?_⟩
  · obtain ⟨q1, q2, q3⟩ := d1 e he
    refine ⟨by rw [q1, upd_n (by decide)]; exact hml.1.2.2.1, by rw [q1, upd_n (by decide)]; exact hml.1.2.2.2, lam_fr hCt.2.1 (fun r _ _ => q2 r (by omega) (by omega)) (by rw [q1, upd_n (by decide)])⟩
  · obtain ⟨q1, q2, q3⟩ := d1 (2 * w) (Nat.le_refl _)
    rw [es]
    have n43 : ∀ l, 47 + l ≠ 43 := fun l => by omega
    have x43 : ∀ k, k ≠ 9 → x 43 k = hr3 W w D am n h s 43 k := fun k hk => by rw [hx.1, upd_n hk]; rfl
    have t92 : ∀ k, k ≠ 39 → T4 (2 * w) 92 k = T3 n 92 k := fun k hk => by rw [q1, upd_n hk]
    refine ⟨fun r z1 z2 z3 z4 => ?_, frM_t I3.2.1 ⟨fun r z1 z2 z3 z4 => ?_, fun k z1 z2 => ?_⟩, hI.2.2.1, hI.2.2.2.1, ⟨⟨?_, ?_, ?_, ?_⟩, ⟨?_, ?_, ?_, ?_⟩, fun j hj => ?_⟩, fun l hl => ?_⟩
    · rw [up1_f z2]
      have : x r = up1 (hr3 W w D am n h s) 10 g0 r := by
        by_cases c : r < 47
        · exact hx.2.1 r c z2
        · exact hx.2.2.1 r (by omega)
      rw [this, up1_f z1]
      exact I3.1 r z1 z2 z3 z4
    · rw [up1_f z3, up1_f z1, q2 r z1 (by omega)]
    · show upd (T4 (2 * w) 92) 8 (nI (h + 1)) k = T3 n 92 k
      rw [upd_n z1, t92 k (by omega)]
    · rw [up1_s, upd_n (by decide), x43 6 (by decide)]; exact hml.1.1
    · rw [up1_s, upd_s]
    · show upd (T4 (2 * w) 92) 8 (nI (h + 1)) 35 = nI n
      rw [upd_n (by decide), t92 35 (by decide)]; exact hml.1.2.2.1
    · show upd (T4 (2 * w) 92) 8 (nI (h + 1)) 8 = nI (h + 1)
      exact upd_s _ _ _
    · show _ = upd (T4 (2 * w) 92) 8 (nI (h + 1)) 38
      rw [up1_s, upd_n (by decide), x43 8 (by decide), upd_n (by decide), t92 38 (by decide)]; exact hml.2.1.1
    · show _ = upd (T4 (2 * w) 92) 8 (nI (h + 1)) 39
      rw [up1_s, upd_n (by decide), hx.1, upd_s, upd_n (by decide), q1, upd_s]
      exact congrArg (fun z => z + nI (tcN (rrS (hr3 W w D am n h s)) (W 6) w n)) hml.2.1.2.1
    · show _ = upd (T4 (2 * w) 92) 8 (nI (h + 1)) 40
      rw [up1_s, upd_n (by decide), x43 10 (by decide), upd_n (by decide), t92 40 (by decide)]; exact hml.2.1.2.2.1
    · show _ = upd (T4 (2 * w) 92) 8 (nI (h + 1)) 41
      rw [up1_s, upd_n (by decide), x43 11 (by decide), upd_n (by decide), t92 41 (by decide)]; exact hml.2.1.2.2.2
    · rw [up1_f (by decide), hx.2.1 45 (by decide) (by decide)]
      show hr3 W w D am n h s 45 j = T4 (2 * w) 124 j
      rw [q2 124 (by decide) (by decide)]
      exact hml.2.2 j hj
    · rw [up1_f (n43 l)]
      have h121 : T4 (2 * w) 121 l = if l < n ∧ rrS (hr3 W w D am n h s) l < 2 * w then _ else _ := q3 l
      obtain ⟨⟨hQ, hS, hD, hT⟩, hE⟩ := I3.2.2.2.2.2 l hl
      obtain ⟨v8, v9, v10, v13, v14, v15, v16⟩ := hD
      have q10 : up1 (hr3 W w D am n h s) 10 g0 (47 + l) = hr3 W w D am n h s (47 + l) := up1_f (by omega)
      have hm : ∀ v, T4 (2 * w) 121 l = v → ∀ r, r ≠ 92 → r ≠ 136 → clm (up1 (up1 (T4 (2 * w)) 92 (upd (T4 (2 * w) 92) 8 (nI (h + 1)))) 136 g) l r = upd (clm (T3 n) l) 121 v r := by
        intro v hv r z1 z2
        refine (c_ot z2).trans ((c_ot z1).trans ?_)
        by_cases c : r = 121
        · rw [c, upd_s]; exact hv
        · rw [upd_n c, q2 r z1 c]
      rcases rr_i hw I3 hl with ⟨r1, r2, r3, r4⟩ | ⟨r1, r2, r3⟩
      · obtain ⟨y, hy⟩ := (hx.2.2.2 l hl).1 ⟨r1, ex_i rfl n hl⟩
        rw [hy, q10]
        rw [if_pos ⟨hl, r1⟩] at h121
        have v15' : hr3 W w D am n h s (47 + l) 15 = T3 n 121 l := v15
        rw [← v15'] at h121
        generalize huD (huE (rrS (hr3 W w D am n h s)) (rrS (hr3 W w D am n h s) l)) (ppS (hr3 W w D am n h s) n) (W 6 (rrS (hr3 W w D am n h s) l / 2)) n l (hr3 W w D am n h s (47 + l) 15) = v at h121 ⊢
        have hb : LtB W w h (upd (hr3 W w D am n h s (47 + l)) 15 v) (upd (clm (T3 n) l) 121 v) := ⟨hQ, hS, ⟨v8, v9, v10, v13, v14, rfl, v16⟩, hT⟩
        refine ⟨lb_up (lb_m (lb_g hb (fun k hk => ?_)) (fun r z1 z2 => hm v h121 r (by omega) (by omega)) (hm v h121 137 (by decide) (by decide))), upd_s _ _ _⟩
        rw [upd_n (by omega)]
        unfold cuR
        by_cases c : k = 15
        · rw [c, upd_s, upd_s]
        · rw [upd_n c, upd_n c, upd_n (by omega)]
      · rw [(hx.2.2.2 l hl).2 (fun q => by omega), q10]
        rw [if_neg (fun q => by omega)] at h121
        have hb : LtB W w h (hr3 W w D am n h s (47 + l)) (upd (clm (T3 n) l) 121 (T3 n 121 l)) := by
          rw [upd_id]
          exact ⟨hQ, hS, ⟨v8, v9, v10, v13, v14, v15, v16⟩, hT⟩
        exact ⟨lb_up (lb_m hb (fun r z1 z2 => hm _ h121 r (by omega) (by omega)) (hm _ h121 137 (by decide) (by decide))), r2⟩
theorem hr_ms (hn24 : n ≤ 24) (h9 : h ≤ 9000) (hI : InX Eh0 W w D am n h s0 t0 s t) {s' : HI} (hh : HrC W w D am n h s s') : Sp 6 174 [.ref 92] t (fun v t' => v = none ∧ InX Eh0 W w D am n (h + 1) s0 t0 s' t') := by
  obtain ⟨T1, T2, T3, T4, a0, g4, h4, g3, h3, j3, g2, h2, j2, g1, h1, j1, hf⟩ := hr_m hn24 h9 hI hh
  have z := mp_step (S1 := T1) (S2 := T2) (S3 := T3) (S4 := T4) (W := W) (w := w) (n := n) (h := h) hn24 (by omega) g4 h4 g3 h3 j3 g2 h2 j2 g1 h1 j1
  rw [a0] at z
  refine z.mono (Nat.le_refl _) (fun v f' q => ⟨q.1, ?_⟩)
  obtain ⟨_, g, e⟩ := q
  rw [e]
  exact hf g
theorem hr_ex (hn24 : n ≤ 24) (h9 : h ≤ 9000) (hI : InX Eh0 W w D am n h s0 t0 s t) {s' : HI} (hh : HrC W w D am n h s s') : ∃ t', InX Eh0 W w D am n (h + 1) s0 t0 s' t' := by
  obtain ⟨T1, T2, T3, T4, a0, g4, h4, g3, h3, j3, g2, h2, j2, g1, h1, j1, hf⟩ := hr_m hn24 h9 hI hh
  exact ⟨_, hf (fun _ => 0)⟩
end P80
