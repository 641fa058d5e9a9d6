/-! calls on both sides: ways, hours, letters -/
def upWy (W : Nat → Nat → Nat) (w a b ho ev fi mi co : Nat) : Nat → Nat → Nat := fun k i => if i = w then (if k = 0 then a else if k = 1 then b else if k = 2 then ho else if k = 3 then ev else if k = 4 then fi else if k = 5 then mi else co) else W k i
theorem uW_n {W : Nat → Nat → Nat} {w a b ho ev fi mi co k i : Nat} (h : i ≠ w) : upWy W w a b ho ev fi mi co k i = W k i := if_neg h
theorem uW_s {W : Nat → Nat → Nat} {w a b ho ev fi mi co k : Nat} : upWy W w a b ho ev fi mi co k w = (if k = 0 then a else if k = 1 then b else if k = 2 then ho else if k = 3 then ev else if k = 4 then fi else if k = 5 then mi else co) := if_pos rfl
theorem uW_e {W : Nat → Nat → Nat} {w a b ho ev fi mi co e : Nat} (h : e < 2 * w) : eP (upWy W w a b ho ev fi mi co) e = eP W e ∧ eQ (upWy W w a b ho ev fi mi co) e = eQ W e := by
  unfold eP eQ
  rw [uW_n (by omega), uW_n (by omega)]
  exact ⟨rfl, rfl⟩
theorem tg_j {W : Nat → Nat → Nat} {w a b ho ev fi mi co : Nat} {D : Nat → Nat → Nat} (hD : Mt 10 100000000 200 D) (ha : a < 10) (hb : b < 10) (hT : TgN W w D) : TgN (upWy W w a b ho ev fi mi co) (w + 1) (jnD D a b mi) := by
  refine ⟨fun i hi => ?_, fun r hr p q hp hq h => ?_⟩
  · by_cases c : i = w
    · rw [c, uW_s, uW_s, uW_s]
      show jnD D a b mi a b ≤ mi
      have h1 := hD.2.1 a ha
      have h2 := hD.2.1 b hb
      unfold jnD
      omega
    · rw [uW_n c, uW_n c, uW_n c]
      have := hT.1 i (by omega)
      unfold jnD
      omega
  · have old : ∀ i, i < w → r (W 0 i) ≤ r (W 1 i) + W 5 i ∧ r (W 1 i) ≤ r (W 0 i) + W 5 i := by
      intro i hi
      have := hr i (by omega)
      rw [uW_n (by omega), uW_n (by omega), uW_n (by omega)] at this
      exact this
    have new := hr w (Nat.lt_succ_self _)
    rw [uW_s, uW_s, uW_s] at new
    have new : r a ≤ r b + mi ∧ r b ≤ r a + mi := new
    have t := hT.2 r old
    unfold jnD at h ⊢
    have t1 := t p q hp hq
    have t2 := t p a hp ha
    have t3 := t b q hb hq
    have t4 := t p b hp hb
    have t5 := t a q ha hq
    omega
theorem lb_W {W W' : Nat → Nat → Nat} {w h : Nat} {g m : Nat → Int32} (hW : ∀ e, e < 2 * w → eP W' e = eP W e ∧ eQ W' e = eQ W e) (q : LtB W w h g m) : LtB W' (w + 1) h g m := by
  obtain ⟨hQ, hS, hD, h1, h2, h3⟩ := q
  refine ⟨hQ, hS, hD, h1, fun z => ?_, h3⟩
  obtain ⟨e, e1, e2, e3, e4, e5⟩ := h2 z
  exact ⟨e, by omega, e2, by rw [(hW e e1).1]; exact e3, by rw [(hW e e1).2]; exact e4, e5⟩
section P95
variable {f : HI}
theorem act_fr2 {s t s' t' : HI} {am : Nat} (h : ActX s t am) (hs : ∀ r, 16 ≤ r → r < 43 → s' r = s r) (ht : ∀ r, 101 ≤ r → r ≤ 106 → t' r = t r) (_ht2 : ∀ r, 101 ≤ r → r ≤ 106 → t' r = t r) (hk : t' 92 17 = t 92 17) (_hk2 : t' 92 17 = t 92 17) : ActX s' t' am := by
  obtain ⟨x1, x2, x3, x4⟩ := h
  refine ⟨by rw [hs 16 (by decide) (by decide)]; exact x1, hk.trans x2, x3, fun b hb => ?_⟩
  obtain ⟨y1, y2, cc, y3, y4, y5, y6⟩ := x4 b hb
  rw [hs (18 + 5 * b) (by omega) (by omega), hs (19 + 5 * b) (by omega) (by omega), hs (20 + 5 * b) (by omega) (by omega), hs (21 + 5 * b) (by omega) (by omega), hs (22 + 5 * b) (by omega) (by omega), ht 101 (by decide) (by decide), ht 105 (by decide) (by decide), ht 106 (by decide) (by decide)]
  refine ⟨y1, y2, cc, y3, y4, y5, ?_⟩
  unfold AcM at y6 ⊢
  rw [ht 102 (by decide) (by decide), ht 103 (by decide) (by decide), ht 104 (by decide) (by decide)]
  exact y6
theorem cpG_way {W : Nat → Nat → Nat} {w : Nat} {D : Nat → Nat → Nat} {am n h : Nat} (c : CpG f W w D am n h) (hw : w < 16) {a b mi ho ev fi co : Nat} (ha : a < 10) (hb : b < 10) (hab : a ≠ b) (hmi : 1 ≤ mi ∧ mi ≤ 200) (hho : 1 ≤ ho ∧ ho ≤ 40) (hev : 1 ≤ ev ∧ ev ≤ 24) (hfi : fi < ev) (hco : co ≤ 999) {dd : Nat → Int32} (hdd : ∀ p q, p < 10 → q < 10 → dd (p * 10 + q) = nI (jnD D a b mi p q)) : CpG (up1 (up1 (up1 (up1 (up1 (up1 (up1 (up1 (up1 (up1 (up1 (up1 (up1 (up1 (up1 f 2 (upd (f 2) 7 (nI (w + 1)))) 4 dd) 6 (upd (f 6) w (nI co))) 9 (upd (f 9) w (nI fi))) 8 (upd (f 8) w (nI ev))) 5 (upd (f 5) w (nI ho))) 7 (upd (upd (f 7) (2 * w) (nI a)) ((2 * w) + 1) (nI b))) 92 (upd (f 92) 7 (nI (w + 1)))) 99 (upd (f 99) w (nI co))) 98 (upd (f 98) w (nI fi))) 97 (upd (f 97) w (nI ev))) 96 (upd (f 96) w (nI ho))) 95 (upd (f 95) w (nI mi))) 94 (upd (f 94) w (nI b))) 93 (upd (f 93) w (nI a))) (upWy W w a b ho ev fi mi co) (w + 1) (jnD D a b mi) am n h := by
  obtain ⟨hct, hco2, ⟨m1, m2, m3⟩, hn, hh, hl, hu⟩ := c
  obtain ⟨⟨t1a, t1b, t1c, t1d, t1e⟩, ⟨t2a, t2b, t2c, t2d⟩, ⟨t3a, t3b, t3c⟩, t4, t5, t6, t7, t8⟩ := hct
  have hWy : WyN (upWy W w a b ho ev fi mi co) (w + 1) := by
    intro i hi
    by_cases q : i = w
    · rw [q, uW_s, uW_s, uW_s, uW_s, uW_s]
      exact ⟨ha, hb, hab, hho.1, hho.2, hfi, hev.2⟩
    · rw [uW_n q, uW_n q, uW_n q, uW_n q, uW_n q]
      exact t1e i (by omega)
  refine ⟨⟨⟨rfl, by omega, fun e he => ?_, fun i hi => ⟨?_, ?_, ?_⟩, hWy⟩, ⟨rfl, by omega, fun i hi => ⟨?_, ?_, ?_, ?_, ?_⟩, hWy⟩, ⟨fun i hi => ?_, jn_mt t3b ha hb hab hmi.1 hmi.2, tg_j t3b ha hb t3c⟩, ⟨t4.1, hdd⟩, fun y hy => ?_, act_fr2 t6 (fun r r1 r2 => (by rw [up1_f (by omega), up1_f (by omega), up1_f (by omega), up1_f (by omega), up1_f (by omega), up1_f (by omega), up1_f (by omega), up1_f (by omega), up1_f (by omega), up1_f (by omega), up1_f (by omega), up1_f (by omega), up1_f (by omega), up1_f (by omega), up1_f (by omega)])) (fun r r1 r2 => (by rw [up1_f (by omega), up1_f (by omega), up1_f (by omega), up1_f (by omega), up1_f (by omega), up1_f (by omega), up1_f (by omega), up1_f (by omega), up1_f (by omega), up1_f (by omega), up1_f (by omega), up1_f (by omega), up1_f (by omega), up1_f (by omega), up1_f (by omega)])) (fun r r1 r2 => (by rw [up1_f (by omega), up1_f (by omega), up1_f (by omega), up1_f (by omega), up1_f (by omega), up1_f (by omega), up1_f (by omega), up1_f (by omega), up1_f (by omega), up1_f (by omega), up1_f (by omega), up1_f (by omega), up1_f (by omega), up1_f (by omega), up1_f (by omega)])) rfl rfl, t7, t8⟩, hco2, ⟨m1, m2, m3⟩, hn, hh, fun l q => ?_, fun l q1 q2 => ?_⟩
  · show upd (upd (f 7) (2 * w) (nI a)) (2 * w + 1) (nI b) e = nI (eP (upWy W w a b ho ev fi mi co) e)
    by_cases q : e = 2 * w + 1
    · rw [q, upd_s, eP_1, uW_s]; rfl
    · rw [upd_n q]
      by_cases q2 : e = 2 * w
      · rw [q2, upd_s, eP_0, uW_s]; rfl
      · rw [upd_n q2, (uW_e (show e < 2 * w by omega)).1]
        exact t1c e (by omega)
  · show upd (f 5) w (nI ho) i = nI ((upWy W w a b ho ev fi mi co) 2 i)
    by_cases q : i = w
    · rw [q, upd_s, uW_s]; rfl
    · rw [upd_n q, uW_n q]; exact (t1d i (by omega)).1
  · show upd (f 8) w (nI ev) i = nI ((upWy W w a b ho ev fi mi co) 3 i)
    by_cases q : i = w
    · rw [q, upd_s, uW_s]; rfl
    · rw [upd_n q, uW_n q]; exact (t1d i (by omega)).2.1
  · show upd (f 9) w (nI fi) i = nI ((upWy W w a b ho ev fi mi co) 4 i)
    by_cases q : i = w
    · rw [q, upd_s, uW_s]; rfl
    · rw [upd_n q, uW_n q]; exact (t1d i (by omega)).2.2
  · show upd (f 93) w (nI a) i = nI ((upWy W w a b ho ev fi mi co) 0 i)
    by_cases q : i = w
    · rw [q, upd_s, uW_s]; rfl
    · rw [upd_n q, uW_n q]; exact (t2c i (by omega)).1
  · show upd (f 94) w (nI b) i = nI ((upWy W w a b ho ev fi mi co) 1 i)
    by_cases q : i = w
    · rw [q, upd_s, uW_s]; rfl
    · rw [upd_n q, uW_n q]; exact (t2c i (by omega)).2.1
  · show upd (f 96) w (nI ho) i = nI ((upWy W w a b ho ev fi mi co) 2 i)
    by_cases q : i = w
    · rw [q, upd_s, uW_s]; rfl
    · rw [upd_n q, uW_n q]; exact (t2c i (by omega)).2.2.1
  · show upd (f 97) w (nI ev) i = nI ((upWy W w a b ho ev fi mi co) 3 i)
    by_cases q : i = w
    · rw [q, upd_s, uW_s]; rfl
    · rw [upd_n q, uW_n q]; exact (t2c i (by omega)).2.2.2.1
  · show upd (f 98) w (nI fi) i = nI ((upWy W w a b ho ev fi mi co) 4 i)
    by_cases q : i = w
    · rw [q, upd_s, uW_s]; rfl
    · rw [upd_n q, uW_n q]; exact (t2c i (by omega)).2.2.2.2
  · show upd (f 95) w (nI mi) i = nI ((upWy W w a b ho ev fi mi co) 5 i) ∧ 1 ≤ (upWy W w a b ho ev fi mi co) 5 i ∧ (upWy W w a b ho ev fi mi co) 5 i ≤ 200
    by_cases q : i = w
    · rw [q, upd_s, uW_s]; exact ⟨rfl, hmi⟩
    · rw [upd_n q, uW_n q]; exact t3a i (by omega)
  · show upd (f 6) w (nI co) y = nI ((upWy W w a b ho ev fi mi co) 6 y) ∧ upd (f 99) w (nI co) y = nI ((upWy W w a b ho ev fi mi co) 6 y) ∧ (upWy W w a b ho ev fi mi co) 6 y ≤ 999
    by_cases q : y = w
    · rw [q, upd_s, upd_s, uW_s]; exact ⟨rfl, rfl, hco⟩
    · rw [upd_n q, upd_n q, uW_n q]; exact t5 y (by omega)
  · rw [show (up1 (up1 (up1 (up1 (up1 (up1 (up1 (up1 (up1 (up1 (up1 (up1 (up1 (up1 (up1 f 2 (upd (f 2) 7 (nI (w + 1)))) 4 dd) 6 (upd (f 6) w (nI co))) 9 (upd (f 9) w (nI fi))) 8 (upd (f 8) w (nI ev))) 5 (upd (f 5) w (nI ho))) 7 (upd (upd (f 7) (2 * w) (nI a)) ((2 * w) + 1) (nI b))) 92 (upd (f 92) 7 (nI (w + 1)))) 99 (upd (f 99) w (nI co))) 98 (upd (f 98) w (nI fi))) 97 (upd (f 97) w (nI ev))) 96 (upd (f 96) w (nI ho))) 95 (upd (f 95) w (nI mi))) 94 (upd (f 94) w (nI b))) 93 (upd (f 93) w (nI a))) (47 + l) = f (47 + l) from (by rw [up1_f (by omega), up1_f (by omega), up1_f (by omega), up1_f (by omega), up1_f (by omega), up1_f (by omega), up1_f (by omega), up1_f (by omega), up1_f (by omega), up1_f (by omega), up1_f (by omega), up1_f (by omega), up1_f (by omega), up1_f (by omega), up1_f (by omega)])]
    obtain ⟨q1, q2⟩ := hl l q
    exact ⟨lb_m (lb_W (fun e he => uW_e he) q1) (fun r r1 r2 => by show (up1 (up1 (up1 (up1 (up1 (up1 (up1 (up1 (up1 (up1 (up1 (up1 (up1 (up1 (up1 f 2 (upd (f 2) 7 (nI (w + 1)))) 4 dd) 6 (upd (f 6) w (nI co))) 9 (upd (f 9) w (nI fi))) 8 (upd (f 8) w (nI ev))) 5 (upd (f 5) w (nI ho))) 7 (upd (upd (f 7) (2 * w) (nI a)) ((2 * w) + 1) (nI b))) 92 (upd (f 92) 7 (nI (w + 1)))) 99 (upd (f 99) w (nI co))) 98 (upd (f 98) w (nI fi))) 97 (upd (f 97) w (nI ev))) 96 (upd (f 96) w (nI ho))) 95 (upd (f 95) w (nI mi))) 94 (upd (f 94) w (nI b))) 93 (upd (f 93) w (nI a))) r l = f r l; rw [show (up1 (up1 (up1 (up1 (up1 (up1 (up1 (up1 (up1 (up1 (up1 (up1 (up1 (up1 (up1 f 2 (upd (f 2) 7 (nI (w + 1)))) 4 dd) 6 (upd (f 6) w (nI co))) 9 (upd (f 9) w (nI fi))) 8 (upd (f 8) w (nI ev))) 5 (upd (f 5) w (nI ho))) 7 (upd (upd (f 7) (2 * w) (nI a)) ((2 * w) + 1) (nI b))) 92 (upd (f 92) 7 (nI (w + 1)))) 99 (upd (f 99) w (nI co))) 98 (upd (f 98) w (nI fi))) 97 (upd (f 97) w (nI ev))) 96 (upd (f 96) w (nI ho))) 95 (upd (f 95) w (nI mi))) 94 (upd (f 94) w (nI b))) 93 (upd (f 93) w (nI a))) r = f r from (by rw [up1_f (by omega), up1_f (by omega), up1_f (by omega), up1_f (by omega), up1_f (by omega), up1_f (by omega), up1_f (by omega), up1_f (by omega), up1_f (by omega), up1_f (by omega), up1_f (by omega), up1_f (by omega), up1_f (by omega), up1_f (by omega), up1_f (by omega)])]) rfl, q2⟩
  · rw [show (up1 (up1 (up1 (up1 (up1 (up1 (up1 (up1 (up1 (up1 (up1 (up1 (up1 (up1 (up1 f 2 (upd (f 2) 7 (nI (w + 1)))) 4 dd) 6 (upd (f 6) w (nI co))) 9 (upd (f 9) w (nI fi))) 8 (upd (f 8) w (nI ev))) 5 (upd (f 5) w (nI ho))) 7 (upd (upd (f 7) (2 * w) (nI a)) ((2 * w) + 1) (nI b))) 92 (upd (f 92) 7 (nI (w + 1)))) 99 (upd (f 99) w (nI co))) 98 (upd (f 98) w (nI fi))) 97 (upd (f 97) w (nI ev))) 96 (upd (f 96) w (nI ho))) 95 (upd (f 95) w (nI mi))) 94 (upd (f 94) w (nI b))) 93 (upd (f 93) w (nI a))) (47 + l) = f (47 + l) from (by rw [up1_f (by omega), up1_f (by omega), up1_f (by omega), up1_f (by omega), up1_f (by omega), up1_f (by omega), up1_f (by omega), up1_f (by omega), up1_f (by omega), up1_f (by omega), up1_f (by omega), up1_f (by omega), up1_f (by omega), up1_f (by omega), up1_f (by omega)])]
    exact hu l q1 q2
theorem cp_way (cp : CpZ f) {W : Nat → Nat → Nat} {w : Nat} {D : Nat → Nat → Nat} {am n h : Nat} (c : CpG f W w D am n h) (hw : w < 16) {a b mi ho ev fi co : Nat} (ha : a < 10) (hb : b < 10) (hab : a ≠ b) (hmi : 1 ≤ mi ∧ mi ≤ 200) (hho : 1 ≤ ho ∧ ho ≤ 40) (hev : 1 ≤ ev ∧ ev ≤ 24) (hfi : fi < ev) (hco : co ≤ 999) {dd : Nat → Int32} (hdd : ∀ p q, p < 10 → q < 10 → dd (p * 10 + q) = nI (jnD D a b mi p q)) : CpZ (up1 (up1 (up1 (up1 (up1 (up1 (up1 (up1 (up1 (up1 (up1 (up1 (up1 (up1 (up1 f 2 (upd (f 2) 7 (nI (w + 1)))) 4 dd) 6 (upd (f 6) w (nI co))) 9 (upd (f 9) w (nI fi))) 8 (upd (f 8) w (nI ev))) 5 (upd (f 5) w (nI ho))) 7 (upd (upd (f 7) (2 * w) (nI a)) ((2 * w) + 1) (nI b))) 92 (upd (f 92) 7 (nI (w + 1)))) 99 (upd (f 99) w (nI co))) 98 (upd (f 98) w (nI fi))) 97 (upd (f 97) w (nI ev))) 96 (upd (f 96) w (nI ho))) 95 (upd (f 95) w (nI mi))) 94 (upd (f 94) w (nI b))) 93 (upd (f 93) w (nI a))) := ⟨(cpT_ag (f := f) ⟨rfl, rfl, rfl, rfl⟩ cp.1), (by
    exact ⟨_, _, _, _, _, _, cpG_way c hw ha hb hab hmi hho hev hfi hco hdd⟩), (cpR_ag (f := f) ⟨fun k hk1 hk2 => rfl, fun k hk1 hk2 => upd_n (by omega)⟩ cp.2.2.1), (cpW_ag (f := f) ⟨rfl, rfl, fun _ _ _ => (by rw [up1_f (by omega), up1_f (by omega), up1_f (by omega), up1_f (by omega), up1_f (by omega), up1_f (by omega), up1_f (by omega), up1_f (by omega), up1_f (by omega), up1_f (by omega), up1_f (by omega), up1_f (by omega), up1_f (by omega), up1_f (by omega), up1_f (by omega)]), fun _ _ _ => (by rw [up1_f (by omega), up1_f (by omega), up1_f (by omega), up1_f (by omega), up1_f (by omega), up1_f (by omega), up1_f (by omega), up1_f (by omega), up1_f (by omega), up1_f (by omega), up1_f (by omega), up1_f (by omega), up1_f (by omega), up1_f (by omega), up1_f (by omega)])⟩ cp.2.2.2.1), (cpS_ag (f := f) ⟨⟨rfl, rfl⟩, ⟨rfl, rfl⟩, rfl, rfl, rfl⟩ cp.2.2.2.2.1), (cpM_ag (f := f) ⟨⟨rfl, rfl⟩, ⟨rfl, rfl⟩, fun _ _ _ => (by rw [up1_f (by omega), up1_f (by omega), up1_f (by omega), up1_f (by omega), up1_f (by omega), up1_f (by omega), up1_f (by omega), up1_f (by omega), up1_f (by omega), up1_f (by omega), up1_f (by omega), up1_f (by omega), up1_f (by omega), up1_f (by omega), up1_f (by omega)]), rfl, fun _ _ _ => (by rw [up1_f (by omega), up1_f (by omega), up1_f (by omega), up1_f (by omega), up1_f (by omega), up1_f (by omega), up1_f (by omega), up1_f (by omega), up1_f (by omega), up1_f (by omega), up1_f (by omega), up1_f (by omega), up1_f (by omega), up1_f (by omega), up1_f (by omega)]), fun _ _ _ _ _ => rfl⟩ cp.2.2.2.2.2)⟩
theorem st_way (cp : CpZ f) (a b mi ho ev fi co : Int32) : StP 82 134 [.int a, .int b, .int mi, .int ho, .int ev, .int fi, .int co] f := by
  obtain ⟨_, ⟨W, w, D, am, n, h0, hG⟩, _⟩ := id cp
  have hct := hG.1
  by_cases c1 : inR a 0 9 ∧ inR b 0 9
  · by_cases c2 : wayR a b mi ho ev fi co
    · obtain ⟨q1, q2, q3, q4, q5, q6⟩ := c2
      obtain ⟨a, ha, rfl⟩ := inN (n := 9) (by decide) c1.1
      obtain ⟨b, hb, rfl⟩ := inN (n := 9) (by decide) c1.2
      obtain ⟨mi, hmi1, hmi2, rfl⟩ := inN1 (n := 200) (by decide) q2
      obtain ⟨ho, hho1, hho2, rfl⟩ := inN1 (n := 40) (by decide) q3
      obtain ⟨ev, hev1, hev2, rfl⟩ := inN1 (n := 24) (by decide) q4
      obtain ⟨fi, hfi, rfl⟩ := inNm hev2 q5
      obtain ⟨co, hco, rfl⟩ := inN (n := 999) (by decide) q6
      have hab : a ≠ b := fun e => q1 (by rw [e])
      have ha : a < 10 := by omega
      have hb : b < 10 := by omega
      by_cases hw : ∃ e, e < 2 * w ∧ eP W e = a ∧ eQ W e = b
      · exact st_ret cp (sp_way3 hct.1 ha hb hab ⟨hmi1, hmi2⟩ ⟨hho1, hho2⟩ ⟨hev1, hev2⟩ hfi hco hw) (mp_way3 hct.2.1 ha hb hab ⟨hmi1, hmi2⟩ ⟨hho1, hho2⟩ ⟨hev1, hev2⟩ hfi hco hw) (by decide) (by decide)
      · have hw2 : ∀ e, e < 2 * w → ¬ (eP W e = a ∧ eQ W e = b) := fun e he z => hw ⟨e, he, z⟩
        by_cases h16 : w = 16
        · exact st_ret cp (sp_way4 hct.1 ha hb hab ⟨hmi1, hmi2⟩ ⟨hho1, hho2⟩ ⟨hev1, hev2⟩ hfi hco hw2 h16) (mp_way4 hct.2.1 ha hb hab ⟨hmi1, hmi2⟩ ⟨hho1, hho2⟩ ⟨hev1, hev2⟩ hfi hco hw2 h16) (by decide) (by decide)
        · have hw16 : w < 16 := by have := hct.1.2.1; omega
          refine st_mk (P := fun r f1 => r = nI w ∧ ∃ dd, f1 = (up1 (up1 (up1 (up1 (up1 (up1 (up1 f 2 (upd (f 2) 7 (nI (w + 1)))) 4 dd) 6 (upd (f 6) w (nI co))) 9 (upd (f 9) w (nI fi))) 8 (upd (f 8) w (nI ev))) 5 (upd (f 5) w (nI ho))) 7 (upd (upd (f 7) (2 * w) (nI a)) ((2 * w) + 1) (nI b))) ∧ ∀ p q, p < 10 → q < 10 → dd (p * 10 + q) = nI (jnD D a b mi p q)) ((sp_way5 hct.1 hw16 ha hb hab ⟨hmi1, hmi2⟩ ⟨hho1, hho2⟩ ⟨hev1, hev2⟩ hfi hco hct.2.2.2.1.1 hct.2.2.1.2.1 hct.2.2.2.1.2 hw2).mono (Nat.le_refl _) (fun u f1 z => ?_)) (fun r f1 z => ?_) (d' := 3) (by decide) (by decide)
          · obtain ⟨dd, z1, z2, z3⟩ := z
            exact ⟨_, z1, rfl, dd, z2, z3⟩
          · obtain ⟨z1, dd, z2, z3⟩ := z
            rw [z1, z2]
            refine (mp_way5 (f := (up1 (up1 (up1 (up1 (up1 (up1 (up1 f 2 (upd (f 2) 7 (nI (w + 1)))) 4 dd) 6 (upd (f 6) w (nI co))) 9 (upd (f 9) w (nI fi))) 8 (upd (f 8) w (nI ev))) 5 (upd (f 5) w (nI ho))) 7 (upd (upd (f 7) (2 * w) (nI a)) ((2 * w) + 1) (nI b)))) (W := W) (w := w) hct.2.1 ha hb hab ⟨hmi1, hmi2⟩ ⟨hho1, hho2⟩ ⟨hev1, hev2⟩ hfi hco hw16 hw2).mono (Nat.le_refl _) (fun u f2 y => ⟨y.1, ?_⟩)
            rw [y.2]
            exact cp_way cp hG hw16 ha hb hab ⟨hmi1, hmi2⟩ ⟨hho1, hho2⟩ ⟨hev1, hev2⟩ hfi hco z3
    · exact st_ret cp (sp_way2 f a b mi ho ev fi co c1 c2) (mp_way2 f a b mi ho ev fi co c1 c2) (by decide) (by decide)
  · exact st_ret cp (sp_way1 f a b mi ho ev fi co c1) (mp_way1 f a b mi ho ev fi co c1) (by decide) (by decide)
theorem frC_r (n : Nat) (s : HI) : FrC n s s := fun _ _ _ _ _ => rfl
theorem frM_r (t : HI) : FrM t t := ⟨fun _ _ _ _ _ => rfl, fun _ _ _ => rfl⟩
theorem ag_hr {n : Nat} {f1 f2 : HI} (hn : n ≤ 24) (h1 : FrC n f f1) (h2 : FrM f1 f2) : AgT f f2 ∧ AgR f f2 ∧ AgW f f2 ∧ AgS f f2 ∧ AgM f f2 := by
  have hr : ∀ r, r ≠ 10 → r ≠ 43 → r ≠ 45 → ¬ (47 ≤ r ∧ r < 71) → r ≠ 92 → ¬ (115 ≤ r ∧ r ≤ 124) → r ≠ 136 → r ≠ 137 → f2 r = f r := fun r a b c d e g i j => (h2.1 r e g i j).trans (h1 r a b c (by omega))
  have hk : ∀ k, k ≠ 8 → ¬ (38 ≤ k ∧ k ≤ 41) → f2 92 k = f 92 k := fun k a b => (h2.2 k a b).trans (congrFun (h1 92 (by decide) (by decide) (by decide) (by omega)) k)
  have hl : ∀ r, r < 43 → r ≠ 10 → f2 r = f r := fun r a b => hr r b (by omega) (by omega) (by omega) (by omega) (by omega) (by omega) (by omega)
  have hm : ∀ r, 71 ≤ r → r < 92 → f2 r = f r := fun r a b => hr r (by omega) (by omega) (by omega) (by omega) (by omega) (by omega) (by omega) (by omega)
  have hu : ∀ r, 93 ≤ r → r < 115 ∨ (125 ≤ r ∧ r < 136) → f2 r = f r := fun r a b => hr r (by omega) (by omega) (by omega) (by omega) (by omega) (by omega) (by omega) (by omega)
  refine ⟨⟨?_, hk 10 (by decide) (by decide), hl 12 (by decide) (by decide), hu 100 (by decide) (by decide)⟩, ⟨fun k _ _ => ?_, fun k k1 k2 => hk k (by omega) (by omega)⟩, ⟨?_, hk 52 (by decide) (by decide), fun r r1 r2 => hm r (by omega) (by omega), fun r r1 r2 => hu r (by omega) (by omega)⟩, ⟨⟨?_, ?_⟩, ⟨hk 53 (by decide) (by decide), hk 54 (by decide) (by decide)⟩, ?_, hm 79 (by decide) (by decide), hu 129 (by decide) (by decide)⟩, ⟨⟨?_, ?_⟩, ⟨hk 61 (by decide) (by decide), hk 63 (by decide) (by decide)⟩, fun r r1 r2 => hm r (by omega) (by omega), hm 89 (by decide) (by decide), fun r r1 r2 => hu r (by omega) (by omega), fun _ _ _ v _ => ?_⟩⟩
  · rw [hl 11 (by decide) (by decide)]
  · rw [hl 1 (by decide) (by decide)]
  · rw [hm 71 (by decide) (by decide)]
  · rw [hm 77 (by decide) (by decide)]
  · rw [hm 77 (by decide) (by decide)]
  · rw [hm 78 (by decide) (by decide)]
  · rw [hm 83 (by decide) (by decide)]
  · rw [hm 83 (by decide) (by decide)]
  · rw [hm 88 (by decide) (by decide)]
theorem in_of {W : Nat → Nat → Nat} {w : Nat} {D : Nat → Nat → Nat} {am n h : Nat} (c : CpG f W w D am n h) {f1 : HI} (hf : FrC n f f1) : InX Eh0 W w D am n h f f1 f f1 := by
  obtain ⟨hct, hco2, ⟨m1, m2, m3⟩, hn, hh, hl, hu⟩ := c
  have hm : ∀ r, 92 ≤ r → f1 r = f r := fun r a => hf r (by omega) (by omega) (by omega) (by omega)
  refine ⟨frC_r n f, frM_r f1, ctx_fr hct (fun _ _ _ => rfl) (fun r a b => hm r (by omega)) ⟨by rw [hm 92 (by decide)], by rw [hm 92 (by decide)], by rw [hm 92 (by decide)]⟩, ?_, ⟨?_, ?_, ?_⟩, fun l q => ?_⟩
  · unfold CoX
    rw [hm 125 (by decide)]
    exact hco2
  · rw [hm 92 (by decide)]; exact m1
  · rw [hm 92 (by decide)]; exact m2
  · rw [hm 124 (by decide)]; exact m3
  · obtain ⟨q1, q2⟩ := hl l q
    exact ⟨lb_m q1 (fun r r1 r2 => by show f1 r l = f r l; rw [hm r (by omega)]) (by show f1 137 l = f 137 l; rw [hm 137 (by decide)]), q2⟩
theorem cpG_hr {W : Nat → Nat → Nat} {w : Nat} {D : Nat → Nat → Nat} {am n h h2 : Nat} (c : CpG f W w D am n h) (h9 : h2 ≤ 9000) {f1 f2 : HI} (hf : FrC n f f1) (hI : InX Eh0 W w D am n h2 f f1 f1 f2) : CpG f2 W w D am n h2 := by
  obtain ⟨i1, i2, i3, i4, ⟨i5, i6, i7⟩, i8⟩ := hI
  have hn := c.2.2.2.1
  have hm : ∀ r, r < 92 → f2 r = f1 r := fun r a => i2.1 r (by omega) (by omega) (by omega) (by omega)
  refine ⟨ctx_fr i3 (fun r a b => (hm r (by omega)).trans (hf r b (by omega) (by omega) (by omega))) (fun r a b => i2.1 r (by omega) (by omega) (by omega) (by omega)) ⟨i2.2 7 (by decide) (by decide), i2.2 17 (by decide) (by decide), i2.2 42 (by decide) (by decide)⟩, ?_, ⟨?_, ?_, ?_⟩, hn, h9, fun l q => ?_, fun l q1 q2 => ?_⟩
  · unfold CoX
    rw [hm 46 (by decide), hf 46 (by decide) (by decide) (by decide) (by omega), i2.1 125 (by decide) (by decide) (by decide) (by decide)]
    exact i4
  · rw [hm 43 (by decide)]; exact i5
  · rw [hm 43 (by decide)]; exact i6
  · rw [hm 45 (by decide)]; exact i7
  · rw [hm (47 + l) (by omega)]
    exact i8 l q
  · rw [hm (47 + l) (by omega), hf (47 + l) (by omega) (by omega) (by omega) (by omega)]
    exact c.2.2.2.2.2.2 l q1 q2
theorem st_hours (cp : CpZ f) (a : Int32) : StP 95 175 [.int a] f := by
  obtain ⟨_, ⟨W, w, D, am, n, h, hG⟩, _⟩ := id cp
  have hn := hG.2.2.2.1
  have h9 := hG.2.2.2.2.1
  have m := hG.2.2.1.1
  by_cases c1 : inR a 1 60
  · obtain ⟨N, hN1, hN, rfl⟩ := inN1 (n := 60) (by decide) c1
    by_cases c2 : 9000 < h + N
    · exact st_ret cp (sp_hours2 hN1 hN c2 h9 m.2.1) (mp_hours2 hN1 hN c2 h9 m.2.2.2) (by decide) (by decide)
    · have hhN : h + N ≤ 9000 := by omega
      refine st_mk (P := fun r f1 => r = nI (h + N) ∧ ∃ G : Nat → HI, G 0 = f ∧ G N = f1 ∧ (∀ j, j < N → HrC W w D am n (h + j) (G j) (G (j + 1))) ∧ FrC n f f1) ((sp_hours3 (f := f) (N := N) (h := h) (I := fun i f1 => ∃ G : Nat → HI, G 0 = f ∧ G i = f1 ∧ (∀ j, j < i → HrC W w D am n (h + j) (G j) (G (j + 1))) ∧ ∃ t, InX Eh0 W w D am n (h + i) f f f1 t) hN1 hN hhN ⟨fun _ => f, rfl, rfl, fun j hj => absurd hj (Nat.not_lt_zero _), f, in_of hG (frC_r n f)⟩ (fun i f1 hi hI => ?_) (fun i f1 hi hI => ?_)).mono (Nat.le_refl _) (fun u f1 z => ?_)) (fun r f1 z => ?_) (d' := 7) (by decide) (by decide)
      · obtain ⟨G, _, _, _, t, hI⟩ := hI
        exact hI.2.2.2.2.1.1.2.1
      · obtain ⟨G, g0, g1, g2, t, hI⟩ := hI
        refine (hr_c hn (by omega) hI).mono (Nat.le_refl _) (fun v f' q => ⟨q.1, ?_⟩)
        obtain ⟨t', hI'⟩ := hr_ex hn (by omega) hI q.2
        refine ⟨fun j => if j ≤ i then G j else f', by show (if 0 ≤ i then G 0 else f') = f; rw [if_pos (Nat.zero_le _)]; exact g0, by show (if i + 1 ≤ i then G (i + 1) else f') = f'; rw [if_neg (by omega)], fun j hj => ?_, t', hI'⟩
        show HrC W w D am n (h + j) (if j ≤ i then G j else f') (if j + 1 ≤ i then G (j + 1) else f')
        rw [if_pos (by omega)]
        by_cases c : j = i
        · rw [if_neg (by omega), c, g1]; exact q.2
        · rw [if_pos (by omega)]; exact g2 j (by omega)
      · obtain ⟨z1, G, g0, g1, g2, t, hI⟩ := z
        exact ⟨_, z1, rfl, G, g0, g1, g2, hI.1⟩
      · obtain ⟨z1, G, g0, g1, g2, hf⟩ := z
        rw [z1]
        have hI0 := in_of hG hf
        refine (mp_hours3 (f := f1) (N := N) (h := h) (I := fun i t => InX Eh0 W w D am n (h + i) f f1 (G i) t) hN1 hN hhN (by rw [g0]; exact hI0) (fun i t hi hI => hI.2.2.2.2.1.1.2.2.2) (fun i t hi hI => hr_ms hn (by omega) hI (g2 i hi))).mono (Nat.le_refl _) (fun u f2 y => ⟨y.1, ?_⟩)
        have hI := y.2
        rw [g1] at hI
        obtain ⟨a1, a2, a3, a4, a5⟩ := ag_hr hn hf hI.2.1
        exact ⟨cpT_ag a1 cp.1, ⟨W, w, D, am, n, h + N, cpG_hr hG hhN hf hI⟩, cpR_ag a2 cp.2.2.1, cpW_ag a3 cp.2.2.2.1, cpS_ag a4 cp.2.2.2.2.1, cpM_ag a5 cp.2.2.2.2.2⟩
  · exact st_ret cp (sp_hours1 f c1) (mp_hours1 f c1) (by decide) (by decide)
end P95
