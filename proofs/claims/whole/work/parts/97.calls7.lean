/-! calls on both sides: an act comes in force -/
theorem cpy8 {g g' : Nat → Int32} {c : Nat} (h : c < 8) : va_cpy g g' 0 0 8 c = g c := by
  unfold va_cpy
  rw [if_pos ⟨Nat.zero_le _, by omega⟩, Nat.zero_add, Nat.sub_zero]
theorem loN_1 : ∀ j, j < 6 → (nI j = 1 ∨ nI j = 2) → (0 : Int32) < loN j := by decide +kernel
theorem ps_ok {T : Nat → Int32} {n : Nat} : ∀ (m i q : Nat), pp T n i ≤ n → (psF T n m i q).1 = none → (psF T n m i q).2 ≤ i + m ∧ ∀ j, i ≤ j → j < (psF T n m i q).2 → (cC T n j).1 = 1 ∨ (cC T n j).1 = 2 → ¬ (cC T n j).2.1 < 1
  | 0, i, q, _, h => by cases h
  | m + 1, i, q, hp, h => by
    cases e : clR T n (pp T n i) with
    | inl s =>
      rw [ps_l e] at h
      cases h
    | inr r =>
      obtain ⟨k, a, b, p'⟩ := r
      obtain ⟨o1, j, o2, o3, o4, _⟩ := clR_ok hp e
      have new : (cC T n i).1 = 1 ∨ (cC T n i).1 = 2 → ¬ (cC T n i).2.1 < 1 := by
        rw [cC_s e]
        show k = 1 ∨ k = 2 → ¬ a < 1
        intro z
        rw [o3] at z
        have l1 := loN_1 j o2 z
        have l2 := o4.1
        intro z2
        have l1 := Int32.lt_iff_toInt_lt.mp l1
        have l2 := Int32.le_iff_toInt_le.mp l2
        have l3 := Int32.lt_iff_toInt_lt.mp z2
        have e1 : (1 : Int32).toInt = 1 := by decide
        have e0 : (0 : Int32).toInt = 0 := by decide
        omega
      rw [ps_r e] at h ⊢
      by_cases c1 : n ≤ tkS T n p'
      · rw [if_pos c1]
        refine ⟨by show i + 1 ≤ _; omega, fun x x1 x2 => ?_⟩
        have x2 : x < i + 1 := x2
        rw [show x = i by omega]
        exact new
      · rw [if_neg c1] at h ⊢
        by_cases c2 : ¬ T (tkS T n p') = 59
        · rw [if_pos c2] at h
          cases h
        · rw [if_neg c2] at h ⊢
          have hp2 : pp T n (i + 1) ≤ n := by
            rw [pp_s e]
            exact (tk_b (T := T) o1).2.2.1
          obtain ⟨r1, r2⟩ := ps_ok m (i + 1) _ hp2 h
          refine ⟨by omega, fun x x1 x2 => ?_⟩
          by_cases c : x = i
          · rw [c]; exact new
          · exact r2 x (by omega) x2
section P97
variable {f : HI}
theorem ag_fo {am : Nat} (ham : am < 5) {f2 : HI} (hr : ∀ r, r ≠ 10 → r ≠ 11 → ¬ (13 ≤ r ∧ r ≤ 16) → ¬ (18 + 5 * am ≤ r ∧ r ≤ 22 + 5 * am) → r ≠ 92 → ¬ (101 ≤ r ∧ r ≤ 106) → r ≠ 136 → f2 r = f r) (hk : ∀ k, ¬ (65 ≤ k ∧ k ≤ 68) → k ≠ 17 → k ≠ 10 → f2 92 k = f 92 k) : AgR f f2 ∧ AgW f f2 ∧ AgS f f2 ∧ AgM f f2 := by
  have hl : ∀ r, r < 10 → f2 r = f r := fun r a => hr r (by omega) (by omega) (by omega) (by omega) (by omega) (by omega) (by omega)
  have hm : ∀ r, 71 ≤ r → r < 92 → f2 r = f r := fun r a b => hr r (by omega) (by omega) (by omega) (by omega) (by omega) (by omega) (by omega)
  have hu : ∀ r, 107 ≤ r → r ≠ 136 → f2 r = f r := fun r a b => hr r (by omega) (by omega) (by omega) (by omega) (by omega) (by omega) b
  refine ⟨⟨fun k _ _ => ?_, fun k k1 k2 => hk k (by omega) (by omega) (by omega)⟩, ⟨?_, hk 52 (by decide) (by decide) (by decide), fun r r1 r2 => hm r (by omega) (by omega), fun r r1 r2 => hu r (by omega) (by omega)⟩, ⟨⟨?_, ?_⟩, ⟨hk 53 (by decide) (by decide) (by decide), hk 54 (by decide) (by decide) (by decide)⟩, ?_, hm 79 (by decide) (by decide), hu 129 (by decide) (by decide)⟩, ⟨⟨?_, ?_⟩, ⟨hk 61 (by decide) (by decide) (by decide), hk 63 (by decide) (by decide) (by decide)⟩, fun r r1 r2 => hm r (by omega) (by omega), hm 89 (by decide) (by decide), fun r r1 r2 => hu r (by omega) (by omega), fun _ _ _ v _ => ?_⟩⟩
  · rw [hl 1 (by decide)]
  · rw [hm 71 (by decide) (by decide)]
  · rw [hm 77 (by decide) (by decide)]
  · rw [hm 77 (by decide) (by decide)]
  · rw [hm 78 (by decide) (by decide)]
  · rw [hm 83 (by decide) (by decide)]
  · rw [hm 83 (by decide) (by decide)]
  · rw [hm 88 (by decide) (by decide)]
theorem cp_force (cp : CpZ f) {W : Nat → Nat → Nat} {w : Nat} {D : Nat → Nat → Nat} {am n h cnt : Nat} (c : CpG f W w D am n h) (ham : am < 5) (hcnt : cnt ≤ 8) {f2 : HI}
  (hr : ∀ r, r ≠ 10 → r ≠ 11 → ¬ (13 ≤ r ∧ r ≤ 16) → ¬ (18 + 5 * am ≤ r ∧ r ≤ 22 + 5 * am) → r ≠ 92 → ¬ (101 ≤ r ∧ r ≤ 106) → r ≠ 136 → f2 r = f r)
  (hk : ∀ k, ¬ (65 ≤ k ∧ k ≤ 68) → k ≠ 17 → k ≠ 10 → f2 92 k = f 92 k) (h11 : f2 11 1 = nI 0) (h10 : f2 92 10 = nI 0) (h16 : f2 16 1 = nI (am + 1)) (h17 : f2 92 17 = nI (am + 1))
  (o1 : ∀ j, j < am → f2 101 j = f 101 j ∧ f2 105 j = f 105 j) (o2 : ∀ j, j < 8 * am → f2 102 j = f 102 j ∧ f2 103 j = f 103 j ∧ f2 104 j = f 104 j) (o3 : ∀ j, j < 10 * am → f2 106 j = f 106 j)
  (w1 : ∀ b, b < 10 → f2 (22 + 5 * am) b = f2 106 (10 * am + b)) (w2 : f2 (18 + 5 * am) 4 = f2 105 am) (w3 : f2 (18 + 5 * am) 3 = nI cnt) (w4 : f2 101 am = nI cnt) (w5 : AcM f2 am cnt (f2 (19 + 5 * am)) (f2 (20 + 5 * am)) (f2 (21 + 5 * am))) : CpZ f2 := by
  obtain ⟨g2, g3, g4, g5⟩ := ag_fo ham hr hk
  refine ⟨⟨0, Nat.zero_le _, h11, h10, fun j hj => absurd hj (Nat.not_lt_zero _)⟩, ⟨W, w, D, am + 1, n, h, ?_⟩, cpR_ag g2 cp.2.2.1, cpW_ag g3 cp.2.2.2.1, cpS_ag g4 cp.2.2.2.2.1, cpM_ag g5 cp.2.2.2.2.2⟩
  obtain ⟨⟨t1, t2, t3, t4, t5, t6, t7, t8⟩, hco, ⟨m1, m2, m3⟩, hn, hh, hl, hu⟩ := c
  have h0 : ∀ r, r < 10 → f2 r = f r := fun r a => hr r (by omega) (by omega) (by omega) (by omega) (by omega) (by omega) (by omega)
  have hm : ∀ r, 43 ≤ r → r < 92 → f2 r = f r := fun r a b => hr r (by omega) (by omega) (by omega) (by omega) (by omega) (by omega) (by omega)
  have hx : ∀ r, 93 ≤ r → r < 101 → f2 r = f r := fun r a b => hr r (by omega) (by omega) (by omega) (by omega) (by omega) (by omega) (by omega)
  have hy : ∀ r, 107 ≤ r → r ≠ 136 → f2 r = f r := fun r a b => hr r (by omega) (by omega) (by omega) (by omega) (by omega) (by omega) b
  refine ⟨⟨?_, ?_, ?_, ?_, ?_, ⟨h16, h17, ham, fun b hb => ?_⟩, ?_, ?_⟩, ?_, ⟨?_, ?_, ?_⟩, hn, hh, fun l q => ?_, fun l q1 q2 => ?_⟩
  · unfold LaC at t1 ⊢
    rw [h0 2 (by decide), h0 7 (by decide), h0 5 (by decide), h0 8 (by decide), h0 9 (by decide)]
    exact t1
  · unfold LaM at t2 ⊢
    rw [hk 7 (by decide) (by decide) (by decide), hx 93 (by decide) (by decide), hx 94 (by decide) (by decide), hx 96 (by decide) (by decide), hx 97 (by decide) (by decide), hx 98 (by decide) (by decide)]
    exact t2
  · unfold LaI at t3 ⊢
    rw [hx 95 (by decide) (by decide)]
    exact t3
  · rw [h0 3 (by decide), h0 4 (by decide)]; exact t4
  · rw [h0 6 (by decide), hx 99 (by decide) (by decide)]; exact t5
  · by_cases e : b = am
    · rw [e]
      exact ⟨w1, w2, cnt, hcnt, w3, w4, w5⟩
    · have hb : b < am := by omega
      obtain ⟨y1, y2, cc, y3, y4, y5, y6⟩ := t6.2.2.2 b hb
      have hq : ∀ r, 18 + 5 * b ≤ r → r ≤ 22 + 5 * b → f2 r = f r := fun r r1 r2 => hr r (by omega) (by omega) (by omega) (by omega) (by omega) (by omega) (by omega)
      rw [hq (18 + 5 * b) (by omega) (by omega), hq (19 + 5 * b) (by omega) (by omega), hq (20 + 5 * b) (by omega) (by omega), hq (21 + 5 * b) (by omega) (by omega), hq (22 + 5 * b) (by omega) (by omega)]
      refine ⟨fun x hx => by rw [o3 _ (by omega)]; exact y1 x hx, by rw [(o1 b hb).2]; exact y2, cc, y3, y4, by rw [(o1 b hb).1]; exact y5, fun i hi => ?_⟩
      obtain ⟨z1, z2, z3⟩ := o2 (8 * b + i) (by omega)
      rw [z1, z2, z3]
      exact y6 i hi
  · rw [h0 1 (by decide), hk 42 (by decide) (by decide) (by decide)]; exact t7
  · rw [hk 42 (by decide) (by decide) (by decide)]; exact t8
  · unfold CoX at hco ⊢
    rw [hm 46 (by decide) (by decide), hy 125 (by decide) (by decide)]
    exact hco
  · rw [hm 43 (by decide) (by decide), hk 35 (by decide) (by decide) (by decide), hk 8 (by decide) (by decide) (by decide)]; exact m1
  · rw [hm 43 (by decide) (by decide), hk 38 (by decide) (by decide) (by decide), hk 39 (by decide) (by decide) (by decide), hk 40 (by decide) (by decide) (by decide), hk 41 (by decide) (by decide) (by decide)]; exact m2
  · rw [hm 45 (by decide) (by decide), hy 124 (by decide) (by decide)]; exact m3
  · rw [hm (47 + l) (by omega) (by omega)]
    obtain ⟨q1, q2⟩ := hl l q
    exact ⟨lb_m q1 (fun r r1 r2 => by show f2 r l = f r l; rw [hy r (by omega) (by omega)]) (by show f2 137 l = f 137 l; rw [hy 137 (by decide) (by decide)]), q2⟩
  · rw [hm (47 + l) (by omega) (by omega)]
    exact hu l q1 q2
theorem st_fo0 (cp : CpZ f) {day : Int32} (hd : inR day 0 1000) {W : Nat → Nat → Nat} {w : Nat} {D : Nat → Nat → Nat} {n h p : Nat} (hG : CpG f W w D 0 n h) (hp : p ≤ 160) (t1 : f 11 1 = nI p) (t2 : f 92 10 = nI p) (t3 : ∀ j, j < p → f 12 j = f 100 j) (hf : (psF (f 12) p 8 0 0).1 = none) : StP 89 152 [.int day] f := by
  have hct := hG.1
  obtain ⟨x1, x2, x3, x4⟩ := hct.2.2.2.2.2.1
  have h9 := hG.2.2.2.2.1
  obtain ⟨⟨m1, m2, m3, m4⟩, _, m9⟩ := hG.2.2.1
  obtain ⟨k8, kok⟩ := ps_ok (T := f 12) (n := p) 8 0 0 (Nat.zero_le _) hf
  have k8 : (psF (f 12) p 8 0 0).2 ≤ 8 := by omega
  refine st_mk (P := fun r f1 => r = nI 0 ∧ ∃ g K N P sc kk, f1 = (up1 (up1 (up1 (up1 (up1 (up1 (up1 (up1 (up1 (up1 (up1 f 15 P) 14 N) 13 K) 11 (upd g 1 0)) 18 (upd (upd ((up1 (up1 (up1 (up1 f 15 P) 14 N) 13 K) 11 (upd g 1 0)) 18) 4 day) 3 (nI (psF (f 12) p 8 0 0).2))) 21 (va_cpy ((up1 (up1 (up1 (up1 f 15 P) 14 N) 13 K) 11 (upd g 1 0)) 15) ((up1 (up1 (up1 (up1 f 15 P) 14 N) 13 K) 11 (upd g 1 0)) 21) 0 0 8)) 20 (va_cpy ((up1 (up1 (up1 (up1 f 15 P) 14 N) 13 K) 11 (upd g 1 0)) 14) ((up1 (up1 (up1 (up1 f 15 P) 14 N) 13 K) 11 (upd g 1 0)) 20) 0 0 8)) 19 (va_cpy ((up1 (up1 (up1 (up1 f 15 P) 14 N) 13 K) 11 (upd g 1 0)) 13) ((up1 (up1 (up1 (up1 f 15 P) 14 N) 13 K) 11 (upd g 1 0)) 19) 0 0 8)) 16 (upd (f 16) 1 (nI (0 + 1)))) 10 sc) 22 kk) ∧ (∀ t, t < 10 → kk t = dI (arN W w 0 h t)) ∧ RwC (f 12) p (psF (f 12) p 8 0 0).2 K N P) ((sp_force4_0 (T := f 12) hp (fun _ _ => rfl) t1 hd hf hct.1 (by omega) m2 x1).mono (Nat.le_refl _) (fun u f1 q => ?_)) (fun r f1 q => ?_) (d' := 5) (by decide) (by decide)
  · obtain ⟨g, K, N, P, sc, kk, q1, q2, q3, _, _, q4⟩ := q
    exact ⟨_, q1, rfl, g, K, N, P, sc, kk, q2, q3, q4⟩
  · obtain ⟨q1, g, K, N, P, sc, kk, e1, q3, q4⟩ := q
    have h1 : ∀ r, r ≠ 10 → r ≠ 11 → ¬ (13 ≤ r ∧ r ≤ 16) → ¬ (18 ≤ r ∧ r ≤ 22) → f1 r = f r := fun r a1 a2 a3 a4 => by rw [e1, up1_f (by omega), up1_f (by omega), up1_f (by omega), up1_f (by omega), up1_f (by omega), up1_f (by omega), up1_f (by omega), up1_f (by omega), up1_f (by omega), up1_f (by omega), up1_f (by omega)]
    have hi : ∀ r, 92 ≤ r → f1 r = f r := fun r a => h1 r (by omega) (by omega) (by omega) (by omega)
    rw [q1]
    refine (mp_force4 (f := f1) (T := f 12) (n := p) (m := 0) (W := W) (w := w) (h := h) hp (fun j hj => by rw [hi 100 (by decide)]; exact (t3 j hj).symm) (by rw [hi 92 (by decide)]; exact t2) hd hf ?_ (by omega) (by decide) (by rw [hi 92 (by decide)]; exact m4) (by rw [hi 92 (by decide)]; exact x2)).mono (Nat.le_refl _) (fun u f2 z => ?_)
    · have z := hct.2.1
      unfold LaM at z ⊢
      rw [hi 92 (by decide), hi 93 (by decide), hi 94 (by decide), hi 96 (by decide), hi 97 (by decide), hi 98 (by decide)]
      exact z
    · obtain ⟨g', A, K', M', P', kk', rr, z1, e2, z3, z4, z5, z6, z7, z8, z9⟩ := z
      refine ⟨z1, ?_⟩
      have h2 : ∀ r, r ≠ 92 → ¬ (101 ≤ r ∧ r ≤ 106) → r ≠ 136 → f2 r = f1 r := fun r a1 a2 a3 => by rw [e2, up1_f (by omega), up1_f (by omega), up1_f (by omega), up1_f (by omega), up1_f (by omega), up1_f (by omega), up1_f (by omega), up1_f (by omega), up1_f (by omega)]
      have b92 : f2 92 = upd (upd g' 17 (nI (0 + 1))) 10 0 := by rw [e2]; rfl
      have b101 : f2 101 = A := by rw [e2]; rfl
      have b102 : f2 102 = K' := by rw [e2]; rfl
      have b103 : f2 103 = M' := by rw [e2]; rfl
      have b104 : f2 104 = P' := by rw [e2]; rfl
      have b105 : f2 105 = upd (f 105) 0 day := by rw [e2, ← hi 105 (by decide)]; rfl
      have b106 : f2 106 = kk' := by rw [e2]; rfl
      have a18 : f2 18 = upd (upd (f 18) 4 day) 3 (nI (psF (f 12) p 8 0 0).2) := by rw [h2 18 (by decide) (by decide) (by decide), e1]; rfl
      have a19 : ∀ c, c < 8 → f2 19 c = K c := fun c hc => by rw [h2 19 (by decide) (by decide) (by decide), e1]; exact cpy8 hc
      have a20 : ∀ c, c < 8 → f2 20 c = N c := fun c hc => by rw [h2 20 (by decide) (by decide) (by decide), e1]; exact cpy8 hc
      have a21 : ∀ c, c < 8 → f2 21 c = P c := fun c hc => by rw [h2 21 (by decide) (by decide) (by decide), e1]; exact cpy8 hc
      have a22 : f2 22 = kk := by rw [h2 22 (by decide) (by decide) (by decide), e1]; rfl
      refine cp_force cp hG (by decide) k8 (fun r a1 a2 a3 a4 a5 a6 a7 => (h2 r a5 a6 a7).trans (h1 r a1 a2 a3 (by omega))) (fun k c1 c2 c3 => ?_) ?_ ?_ ?_ ?_ (fun j hj => ⟨?_, ?_⟩) (fun j hj => ?_) (fun j hj => ?_) (fun b hb => ?_) ?_ ?_ ?_ (fun c hc => ?_)
      · rw [b92, upd_n c3, upd_n c2, z3 k (by omega) (by omega) (by omega) (by omega), hi 92 (by decide)]
      · rw [h2 11 (by decide) (by decide) (by decide), e1]; rfl
      · rw [b92]; rfl
      · rw [h2 16 (by decide) (by decide) (by decide), e1]; rfl
      · rw [b92]; rfl
      · rw [b101, z5 j hj, hi 101 (by decide)]
      · rw [b105, upd_n (by omega)]
      · rw [b102, b103, b104, ← hi 102 (by decide), ← hi 103 (by decide), ← hi 104 (by decide)]; exact z6 j hj
      · rw [b106, z9 j hj, hi 106 (by decide)]
      · show f2 22 b = _
        rw [a22, b106, q3 b hb]
        exact (z8 b hb).symm
      · show f2 18 4 = _
        rw [a18, b105, upd_s, upd_n (by decide), upd_s]
      · show f2 18 3 = _
        rw [a18, upd_s]
      · rw [b101]; exact z4
      · have hc8 : c < 8 := by omega
        obtain ⟨y1, y2, y3⟩ := q4 c hc
        obtain ⟨v1, v2, v3⟩ := z7 c hc
        have e19 : f2 19 c = (cC (f 12) p c).1 := (a19 c hc8).trans y1
        have e20 : f2 20 c = (cC (f 12) p c).2.1 := (a20 c hc8).trans y2
        have e21 : f2 21 c = (cC (f 12) p c).2.2.1 := (a21 c hc8).trans y3
        show f2 102 (8 * 0 + c) = f2 19 c ∧ (f2 19 c = 0 ∨ f2 19 c = 1 → f2 103 (8 * 0 + c) = f2 20 c ∧ f2 104 (8 * 0 + c) = f2 21 c) ∧ (¬ f2 19 c = 0 → ¬ f2 19 c = 1 → f2 104 (8 * 0 + c) = f2 20 c) ∧ (f2 19 c = 1 ∨ f2 19 c = 2 → ¬ f2 20 c < 1)
        rw [e19, e20, e21, b102, b103, b104]
        exact ⟨v1, v2, v3, kok c (Nat.zero_le _) hc⟩
theorem st_fo1 (cp : CpZ f) {day : Int32} (hd : inR day 0 1000) {W : Nat → Nat → Nat} {w : Nat} {D : Nat → Nat → Nat} {n h p : Nat} (hG : CpG f W w D 1 n h) (hp : p ≤ 160) (t1 : f 11 1 = nI p) (t2 : f 92 10 = nI p) (t3 : ∀ j, j < p → f 12 j = f 100 j) (hf : (psF (f 12) p 8 0 0).1 = none) : StP 89 152 [.int day] f := by
  have hct := hG.1
  obtain ⟨x1, x2, x3, x4⟩ := hct.2.2.2.2.2.1
  have h9 := hG.2.2.2.2.1
  obtain ⟨⟨m1, m2, m3, m4⟩, _, m9⟩ := hG.2.2.1
  obtain ⟨k8, kok⟩ := ps_ok (T := f 12) (n := p) 8 0 0 (Nat.zero_le _) hf
  have k8 : (psF (f 12) p 8 0 0).2 ≤ 8 := by omega
  refine st_mk (P := fun r f1 => r = nI 1 ∧ ∃ g K N P sc kk, f1 = (up1 (up1 (up1 (up1 (up1 (up1 (up1 (up1 (up1 (up1 (up1 f 15 P) 14 N) 13 K) 11 (upd g 1 0)) 23 (upd (upd ((up1 (up1 (up1 (up1 f 15 P) 14 N) 13 K) 11 (upd g 1 0)) 23) 4 day) 3 (nI (psF (f 12) p 8 0 0).2))) 26 (va_cpy ((up1 (up1 (up1 (up1 f 15 P) 14 N) 13 K) 11 (upd g 1 0)) 15) ((up1 (up1 (up1 (up1 f 15 P) 14 N) 13 K) 11 (upd g 1 0)) 26) 0 0 8)) 25 (va_cpy ((up1 (up1 (up1 (up1 f 15 P) 14 N) 13 K) 11 (upd g 1 0)) 14) ((up1 (up1 (up1 (up1 f 15 P) 14 N) 13 K) 11 (upd g 1 0)) 25) 0 0 8)) 24 (va_cpy ((up1 (up1 (up1 (up1 f 15 P) 14 N) 13 K) 11 (upd g 1 0)) 13) ((up1 (up1 (up1 (up1 f 15 P) 14 N) 13 K) 11 (upd g 1 0)) 24) 0 0 8)) 16 (upd (f 16) 1 (nI (1 + 1)))) 10 sc) 27 kk) ∧ (∀ t, t < 10 → kk t = dI (arN W w 0 h t)) ∧ RwC (f 12) p (psF (f 12) p 8 0 0).2 K N P) ((sp_force4_1 (T := f 12) hp (fun _ _ => rfl) t1 hd hf hct.1 (by omega) m2 x1).mono (Nat.le_refl _) (fun u f1 q => ?_)) (fun r f1 q => ?_) (d' := 5) (by decide) (by decide)
  · obtain ⟨g, K, N, P, sc, kk, q1, q2, q3, _, _, q4⟩ := q
    exact ⟨_, q1, rfl, g, K, N, P, sc, kk, q2, q3, q4⟩
  · obtain ⟨q1, g, K, N, P, sc, kk, e1, q3, q4⟩ := q
    have h1 : ∀ r, r ≠ 10 → r ≠ 11 → ¬ (13 ≤ r ∧ r ≤ 16) → ¬ (23 ≤ r ∧ r ≤ 27) → f1 r = f r := fun r a1 a2 a3 a4 => by rw [e1, up1_f (by omega), up1_f (by omega), up1_f (by omega), up1_f (by omega), up1_f (by omega), up1_f (by omega), up1_f (by omega), up1_f (by omega), up1_f (by omega), up1_f (by omega), up1_f (by omega)]
    have hi : ∀ r, 92 ≤ r → f1 r = f r := fun r a => h1 r (by omega) (by omega) (by omega) (by omega)
    rw [q1]
    refine (mp_force4 (f := f1) (T := f 12) (n := p) (m := 1) (W := W) (w := w) (h := h) hp (fun j hj => by rw [hi 100 (by decide)]; exact (t3 j hj).symm) (by rw [hi 92 (by decide)]; exact t2) hd hf ?_ (by omega) (by decide) (by rw [hi 92 (by decide)]; exact m4) (by rw [hi 92 (by decide)]; exact x2)).mono (Nat.le_refl _) (fun u f2 z => ?_)
    · have z := hct.2.1
      unfold LaM at z ⊢
      rw [hi 92 (by decide), hi 93 (by decide), hi 94 (by decide), hi 96 (by decide), hi 97 (by decide), hi 98 (by decide)]
      exact z
    · obtain ⟨g', A, K', M', P', kk', rr, z1, e2, z3, z4, z5, z6, z7, z8, z9⟩ := z
      refine ⟨z1, ?_⟩
      have h2 : ∀ r, r ≠ 92 → ¬ (101 ≤ r ∧ r ≤ 106) → r ≠ 136 → f2 r = f1 r := fun r a1 a2 a3 => by rw [e2, up1_f (by omega), up1_f (by omega), up1_f (by omega), up1_f (by omega), up1_f (by omega), up1_f (by omega), up1_f (by omega), up1_f (by omega), up1_f (by omega)]
      have b92 : f2 92 = upd (upd g' 17 (nI (1 + 1))) 10 0 := by rw [e2]; rfl
      have b101 : f2 101 = A := by rw [e2]; rfl
      have b102 : f2 102 = K' := by rw [e2]; rfl
      have b103 : f2 103 = M' := by rw [e2]; rfl
      have b104 : f2 104 = P' := by rw [e2]; rfl
      have b105 : f2 105 = upd (f 105) 1 day := by rw [e2, ← hi 105 (by decide)]; rfl
      have b106 : f2 106 = kk' := by rw [e2]; rfl
      have a18 : f2 23 = upd (upd (f 23) 4 day) 3 (nI (psF (f 12) p 8 0 0).2) := by rw [h2 23 (by decide) (by decide) (by decide), e1]; rfl
      have a19 : ∀ c, c < 8 → f2 24 c = K c := fun c hc => by rw [h2 24 (by decide) (by decide) (by decide), e1]; exact cpy8 hc
      have a20 : ∀ c, c < 8 → f2 25 c = N c := fun c hc => by rw [h2 25 (by decide) (by decide) (by decide), e1]; exact cpy8 hc
      have a21 : ∀ c, c < 8 → f2 26 c = P c := fun c hc => by rw [h2 26 (by decide) (by decide) (by decide), e1]; exact cpy8 hc
      have a22 : f2 27 = kk := by rw [h2 27 (by decide) (by decide) (by decide), e1]; rfl
      refine cp_force cp hG (by decide) k8 (fun r a1 a2 a3 a4 a5 a6 a7 => (h2 r a5 a6 a7).trans (h1 r a1 a2 a3 (by omega))) (fun k c1 c2 c3 => ?_) ?_ ?_ ?_ ?_ (fun j hj => ⟨?_, ?_⟩) (fun j hj => ?_) (fun j hj => ?_) (fun b hb => ?_) ?_ ?_ ?_ (fun c hc => ?_)
      · rw [b92, upd_n c3, upd_n c2, z3 k (by omega) (by omega) (by omega) (by omega), hi 92 (by decide)]
      · rw [h2 11 (by decide) (by decide) (by decide), e1]; rfl
      · rw [b92]; rfl
      · rw [h2 16 (by decide) (by decide) (by decide), e1]; rfl
      · rw [b92]; rfl
      · rw [b101, z5 j hj, hi 101 (by decide)]
      · rw [b105, upd_n (by omega)]
      · rw [b102, b103, b104, ← hi 102 (by decide), ← hi 103 (by decide), ← hi 104 (by decide)]; exact z6 j hj
      · rw [b106, z9 j hj, hi 106 (by decide)]
      · show f2 27 b = _
        rw [a22, b106, q3 b hb]
        exact (z8 b hb).symm
      · show f2 23 4 = _
        rw [a18, b105, upd_s, upd_n (by decide), upd_s]
      · show f2 23 3 = _
        rw [a18, upd_s]
      · rw [b101]; exact z4
      · have hc8 : c < 8 := by omega
        obtain ⟨y1, y2, y3⟩ := q4 c hc
        obtain ⟨v1, v2, v3⟩ := z7 c hc
        have e19 : f2 24 c = (cC (f 12) p c).1 := (a19 c hc8).trans y1
        have e20 : f2 25 c = (cC (f 12) p c).2.1 := (a20 c hc8).trans y2
        have e21 : f2 26 c = (cC (f 12) p c).2.2.1 := (a21 c hc8).trans y3
        show f2 102 (8 * 1 + c) = f2 24 c ∧ (f2 24 c = 0 ∨ f2 24 c = 1 → f2 103 (8 * 1 + c) = f2 25 c ∧ f2 104 (8 * 1 + c) = f2 26 c) ∧ (¬ f2 24 c = 0 → ¬ f2 24 c = 1 → f2 104 (8 * 1 + c) = f2 25 c) ∧ (f2 24 c = 1 ∨ f2 24 c = 2 → ¬ f2 25 c < 1)
        rw [e19, e20, e21, b102, b103, b104]
        exact ⟨v1, v2, v3, kok c (Nat.zero_le _) hc⟩
theorem st_fo2 (cp : CpZ f) {day : Int32} (hd : inR day 0 1000) {W : Nat → Nat → Nat} {w : Nat} {D : Nat → Nat → Nat} {n h p : Nat} (hG : CpG f W w D 2 n h) (hp : p ≤ 160) (t1 : f 11 1 = nI p) (t2 : f 92 10 = nI p) (t3 : ∀ j, j < p → f 12 j = f 100 j) (hf : (psF (f 12) p 8 0 0).1 = none) : StP 89 152 [.int day] f := by
  have hct := hG.1
  obtain ⟨x1, x2, x3, x4⟩ := hct.2.2.2.2.2.1
  have h9 := hG.2.2.2.2.1
  obtain ⟨⟨m1, m2, m3, m4⟩, _, m9⟩ := hG.2.2.1
  obtain ⟨k8, kok⟩ := ps_ok (T := f 12) (n := p) 8 0 0 (Nat.zero_le _) hf
  have k8 : (psF (f 12) p 8 0 0).2 ≤ 8 := by omega
  refine st_mk (P := fun r f1 => r = nI 2 ∧ ∃ g K N P sc kk, f1 = (up1 (up1 (up1 (up1 (up1 (up1 (up1 (up1 (up1 (up1 (up1 f 15 P) 14 N) 13 K) 11 (upd g 1 0)) 28 (upd (upd ((up1 (up1 (up1 (up1 f 15 P) 14 N) 13 K) 11 (upd g 1 0)) 28) 4 day) 3 (nI (psF (f 12) p 8 0 0).2))) 31 (va_cpy ((up1 (up1 (up1 (up1 f 15 P) 14 N) 13 K) 11 (upd g 1 0)) 15) ((up1 (up1 (up1 (up1 f 15 P) 14 N) 13 K) 11 (upd g 1 0)) 31) 0 0 8)) 30 (va_cpy ((up1 (up1 (up1 (up1 f 15 P) 14 N) 13 K) 11 (upd g 1 0)) 14) ((up1 (up1 (up1 (up1 f 15 P) 14 N) 13 K) 11 (upd g 1 0)) 30) 0 0 8)) 29 (va_cpy ((up1 (up1 (up1 (up1 f 15 P) 14 N) 13 K) 11 (upd g 1 0)) 13) ((up1 (up1 (up1 (up1 f 15 P) 14 N) 13 K) 11 (upd g 1 0)) 29) 0 0 8)) 16 (upd (f 16) 1 (nI (2 + 1)))) 10 sc) 32 kk) ∧ (∀ t, t < 10 → kk t = dI (arN W w 0 h t)) ∧ RwC (f 12) p (psF (f 12) p 8 0 0).2 K N P) ((sp_force4_2 (T := f 12) hp (fun _ _ => rfl) t1 hd hf hct.1 (by omega) m2 x1).mono (Nat.le_refl _) (fun u f1 q => ?_)) (fun r f1 q => ?_) (d' := 5) (by decide) (by decide)
  · obtain ⟨g, K, N, P, sc, kk, q1, q2, q3, _, _, q4⟩ := q
    exact ⟨_, q1, rfl, g, K, N, P, sc, kk, q2, q3, q4⟩
  · obtain ⟨q1, g, K, N, P, sc, kk, e1, q3, q4⟩ := q
    have h1 : ∀ r, r ≠ 10 → r ≠ 11 → ¬ (13 ≤ r ∧ r ≤ 16) → ¬ (28 ≤ r ∧ r ≤ 32) → f1 r = f r := fun r a1 a2 a3 a4 => by rw [e1, up1_f (by omega), up1_f (by omega), up1_f (by omega), up1_f (by omega), up1_f (by omega), up1_f (by omega), up1_f (by omega), up1_f (by omega), up1_f (by omega), up1_f (by omega), up1_f (by omega)]
    have hi : ∀ r, 92 ≤ r → f1 r = f r := fun r a => h1 r (by omega) (by omega) (by omega) (by omega)
    rw [q1]
    refine (mp_force4 (f := f1) (T := f 12) (n := p) (m := 2) (W := W) (w := w) (h := h) hp (fun j hj => by rw [hi 100 (by decide)]; exact (t3 j hj).symm) (by rw [hi 92 (by decide)]; exact t2) hd hf ?_ (by omega) (by decide) (by rw [hi 92 (by decide)]; exact m4) (by rw [hi 92 (by decide)]; exact x2)).mono (Nat.le_refl _) (fun u f2 z => ?_)
    · have z := hct.2.1
      unfold LaM at z ⊢
      rw [hi 92 (by decide), hi 93 (by decide), hi 94 (by decide), hi 96 (by decide), hi 97 (by decide), hi 98 (by decide)]
      exact z
    · obtain ⟨g', A, K', M', P', kk', rr, z1, e2, z3, z4, z5, z6, z7, z8, z9⟩ := z
      refine ⟨z1, ?_⟩
      have h2 : ∀ r, r ≠ 92 → ¬ (101 ≤ r ∧ r ≤ 106) → r ≠ 136 → f2 r = f1 r := fun r a1 a2 a3 => by rw [e2, up1_f (by omega), up1_f (by omega), up1_f (by omega), up1_f (by omega), up1_f (by omega), up1_f (by omega), up1_f (by omega), up1_f (by omega), up1_f (by omega)]
      have b92 : f2 92 = upd (upd g' 17 (nI (2 + 1))) 10 0 := by rw [e2]; rfl
      have b101 : f2 101 = A := by rw [e2]; rfl
      have b102 : f2 102 = K' := by rw [e2]; rfl
      have b103 : f2 103 = M' := by rw [e2]; rfl
      have b104 : f2 104 = P' := by rw [e2]; rfl
      have b105 : f2 105 = upd (f 105) 2 day := by rw [e2, ← hi 105 (by decide)]; rfl
      have b106 : f2 106 = kk' := by rw [e2]; rfl
      have a18 : f2 28 = upd (upd (f 28) 4 day) 3 (nI (psF (f 12) p 8 0 0).2) := by rw [h2 28 (by decide) (by decide) (by decide), e1]; rfl
      have a19 : ∀ c, c < 8 → f2 29 c = K c := fun c hc => by rw [h2 29 (by decide) (by decide) (by decide), e1]; exact cpy8 hc
      have a20 : ∀ c, c < 8 → f2 30 c = N c := fun c hc => by rw [h2 30 (by decide) (by decide) (by decide), e1]; exact cpy8 hc
      have a21 : ∀ c, c < 8 → f2 31 c = P c := fun c hc => by rw [h2 31 (by decide) (by decide) (by decide), e1]; exact cpy8 hc
      have a22 : f2 32 = kk := by rw [h2 32 (by decide) (by decide) (by decide), e1]; rfl
      refine cp_force cp hG (by decide) k8 (fun r a1 a2 a3 a4 a5 a6 a7 => (h2 r a5 a6 a7).trans (h1 r a1 a2 a3 (by omega))) (fun k c1 c2 c3 => ?_) ?_ ?_ ?_ ?_ (fun j hj => ⟨?_, ?_⟩) (fun j hj => ?_) (fun j hj => ?_) (fun b hb => ?_) ?_ ?_ ?_ (fun c hc => ?_)
      · rw [b92, upd_n c3, upd_n c2, z3 k (by omega) (by omega) (by omega) (by omega), hi 92 (by decide)]
      · rw [h2 11 (by decide) (by decide) (by decide), e1]; rfl
      · rw [b92]; rfl
      · rw [h2 16 (by decide) (by decide) (by decide), e1]; rfl
      · rw [b92]; rfl
      · rw [b101, z5 j hj, hi 101 (by decide)]
      · rw [b105, upd_n (by omega)]
      · rw [b102, b103, b104, ← hi 102 (by decide), ← hi 103 (by decide), ← hi 104 (by decide)]; exact z6 j hj
      · rw [b106, z9 j hj, hi 106 (by decide)]
      · show f2 32 b = _
        rw [a22, b106, q3 b hb]
        exact (z8 b hb).symm
      · show f2 28 4 = _
        rw [a18, b105, upd_s, upd_n (by decide), upd_s]
      · show f2 28 3 = _
        rw [a18, upd_s]
      · rw [b101]; exact z4
      · have hc8 : c < 8 := by omega
        obtain ⟨y1, y2, y3⟩ := q4 c hc
        obtain ⟨v1, v2, v3⟩ := z7 c hc
        have e19 : f2 29 c = (cC (f 12) p c).1 := (a19 c hc8).trans y1
        have e20 : f2 30 c = (cC (f 12) p c).2.1 := (a20 c hc8).trans y2
        have e21 : f2 31 c = (cC (f 12) p c).2.2.1 := (a21 c hc8).trans y3
        show f2 102 (8 * 2 + c) = f2 29 c ∧ (f2 29 c = 0 ∨ f2 29 c = 1 → f2 103 (8 * 2 + c) = f2 30 c ∧ f2 104 (8 * 2 + c) = f2 31 c) ∧ (¬ f2 29 c = 0 → ¬ f2 29 c = 1 → f2 104 (8 * 2 + c) = f2 30 c) ∧ (f2 29 c = 1 ∨ f2 29 c = 2 → ¬ f2 30 c < 1)
        rw [e19, e20, e21, b102, b103, b104]
        exact ⟨v1, v2, v3, kok c (Nat.zero_le _) hc⟩
theorem st_fo3 (cp : CpZ f) {day : Int32} (hd : inR day 0 1000) {W : Nat → Nat → Nat} {w : Nat} {D : Nat → Nat → Nat} {n h p : Nat} (hG : CpG f W w D 3 n h) (hp : p ≤ 160) (t1 : f 11 1 = nI p) (t2 : f 92 10 = nI p) (t3 : ∀ j, j < p → f 12 j = f 100 j) (hf : (psF (f 12) p 8 0 0).1 = none) : StP 89 152 [.int day] f := by
  have hct := hG.1
  obtain ⟨x1, x2, x3, x4⟩ := hct.2.2.2.2.2.1
  have h9 := hG.2.2.2.2.1
  obtain ⟨⟨m1, m2, m3, m4⟩, _, m9⟩ := hG.2.2.1
  obtain ⟨k8, kok⟩ := ps_ok (T := f 12) (n := p) 8 0 0 (Nat.zero_le _) hf
  have k8 : (psF (f 12) p 8 0 0).2 ≤ 8 := by omega
  refine st_mk (P := fun r f1 => r = nI 3 ∧ ∃ g K N P sc kk, f1 = (up1 (up1 (up1 (up1 (up1 (up1 (up1 (up1 (up1 (up1 (up1 f 15 P) 14 N) 13 K) 11 (upd g 1 0)) 33 (upd (upd ((up1 (up1 (up1 (up1 f 15 P) 14 N) 13 K) 11 (upd g 1 0)) 33) 4 day) 3 (nI (psF (f 12) p 8 0 0).2))) 36 (va_cpy ((up1 (up1 (up1 (up1 f 15 P) 14 N) 13 K) 11 (upd g 1 0)) 15) ((up1 (up1 (up1 (up1 f 15 P) 14 N) 13 K) 11 (upd g 1 0)) 36) 0 0 8)) 35 (va_cpy ((up1 (up1 (up1 (up1 f 15 P) 14 N) 13 K) 11 (upd g 1 0)) 14) ((up1 (up1 (up1 (up1 f 15 P) 14 N) 13 K) 11 (upd g 1 0)) 35) 0 0 8)) 34 (va_cpy ((up1 (up1 (up1 (up1 f 15 P) 14 N) 13 K) 11 (upd g 1 0)) 13) ((up1 (up1 (up1 (up1 f 15 P) 14 N) 13 K) 11 (upd g 1 0)) 34) 0 0 8)) 16 (upd (f 16) 1 (nI (3 + 1)))) 10 sc) 37 kk) ∧ (∀ t, t < 10 → kk t = dI (arN W w 0 h t)) ∧ RwC (f 12) p (psF (f 12) p 8 0 0).2 K N P) ((sp_force4_3 (T := f 12) hp (fun _ _ => rfl) t1 hd hf hct.1 (by omega) m2 x1).mono (Nat.le_refl _) (fun u f1 q => ?_)) (fun r f1 q => ?_) (d' := 5) (by decide) (by decide)
  · obtain ⟨g, K, N, P, sc, kk, q1, q2, q3, _, _, q4⟩ := q
    exact ⟨_, q1, rfl, g, K, N, P, sc, kk, q2, q3, q4⟩
  · obtain ⟨q1, g, K, N, P, sc, kk, e1, q3, q4⟩ := q
    have h1 : ∀ r, r ≠ 10 → r ≠ 11 → ¬ (13 ≤ r ∧ r ≤ 16) → ¬ (33 ≤ r ∧ r ≤ 37) → f1 r = f r := fun r a1 a2 a3 a4 => by rw [e1, up1_f (by omega), up1_f (by omega), up1_f (by omega), up1_f (by omega), up1_f (by omega), up1_f (by omega), up1_f (by omega), up1_f (by omega), up1_f (by omega), up1_f (by omega), up1_f (by omega)]
    have hi : ∀ r, 92 ≤ r → f1 r = f r := fun r a => h1 r (by omega) (by omega) (by omega) (by omega)
    rw [q1]
    refine (mp_force4 (f := f1) (T := f 12) (n := p) (m := 3) (W := W) (w := w) (h := h) hp (fun j hj => by rw [hi 100 (by decide)]; exact (t3 j hj).symm) (by rw [hi 92 (by decide)]; exact t2) hd hf ?_ (by omega) (by decide) (by rw [hi 92 (by decide)]; exact m4) (by rw [hi 92 (by decide)]; exact x2)).mono (Nat.le_refl _) (fun u f2 z => ?_)
    · have z := hct.2.1
      unfold LaM at z ⊢
      rw [hi 92 (by decide), hi 93 (by decide), hi 94 (by decide), hi 96 (by decide), hi 97 (by decide), hi 98 (by decide)]
      exact z
    · obtain ⟨g', A, K', M', P', kk', rr, z1, e2, z3, z4, z5, z6, z7, z8, z9⟩ := z
      refine ⟨z1, ?_⟩
      have h2 : ∀ r, r ≠ 92 → ¬ (101 ≤ r ∧ r ≤ 106) → r ≠ 136 → f2 r = f1 r := fun r a1 a2 a3 => by rw [e2, up1_f (by omega), up1_f (by omega), up1_f (by omega), up1_f (by omega), up1_f (by omega), up1_f (by omega), up1_f (by omega), up1_f (by omega), up1_f (by omega)]
      have b92 : f2 92 = upd (upd g' 17 (nI (3 + 1))) 10 0 := by rw [e2]; rfl
      have b101 : f2 101 = A := by rw [e2]; rfl
      have b102 : f2 102 = K' := by rw [e2]; rfl
      have b103 : f2 103 = M' := by rw [e2]; rfl
      have b104 : f2 104 = P' := by rw [e2]; rfl
      have b105 : f2 105 = upd (f 105) 3 day := by rw [e2, ← hi 105 (by decide)]; rfl
      have b106 : f2 106 = kk' := by rw [e2]; rfl
      have a18 : f2 33 = upd (upd (f 33) 4 day) 3 (nI (psF (f 12) p 8 0 0).2) := by rw [h2 33 (by decide) (by decide) (by decide), e1]; rfl
      have a19 : ∀ c, c < 8 → f2 34 c = K c := fun c hc => by rw [h2 34 (by decide) (by decide) (by decide), e1]; exact cpy8 hc
      have a20 : ∀ c, c < 8 → f2 35 c = N c := fun c hc => by rw [h2 35 (by decide) (by decide) (by decide), e1]; exact cpy8 hc
      have a21 : ∀ c, c < 8 → f2 36 c = P c := fun c hc => by rw [h2 36 (by decide) (by decide) (by decide), e1]; exact cpy8 hc
      have a22 : f2 37 = kk := by rw [h2 37 (by decide) (by decide) (by decide), e1]; rfl
      refine cp_force cp hG (by decide) k8 (fun r a1 a2 a3 a4 a5 a6 a7 => (h2 r a5 a6 a7).trans (h1 r a1 a2 a3 (by omega))) (fun k c1 c2 c3 => ?_) ?_ ?_ ?_ ?_ (fun j hj => ⟨?_, ?_⟩) (fun j hj => ?_) (fun j hj => ?_) (fun b hb => ?_) ?_ ?_ ?_ (fun c hc => ?_)
      · rw [b92, upd_n c3, upd_n c2, z3 k (by omega) (by omega) (by omega) (by omega), hi 92 (by decide)]
      · rw [h2 11 (by decide) (by decide) (by decide), e1]; rfl
      · rw [b92]; rfl
      · rw [h2 16 (by decide) (by decide) (by decide), e1]; rfl
      · rw [b92]; rfl
      · rw [b101, z5 j hj, hi 101 (by decide)]
      · rw [b105, upd_n (by omega)]
      · rw [b102, b103, b104, ← hi 102 (by decide), ← hi 103 (by decide), ← hi 104 (by decide)]; exact z6 j hj
      · rw [b106, z9 j hj, hi 106 (by decide)]
      · show f2 37 b = _
        rw [a22, b106, q3 b hb]
        exact (z8 b hb).symm
      · show f2 33 4 = _
        rw [a18, b105, upd_s, upd_n (by decide), upd_s]
      · show f2 33 3 = _
        rw [a18, upd_s]
      · rw [b101]; exact z4
      · have hc8 : c < 8 := by omega
        obtain ⟨y1, y2, y3⟩ := q4 c hc
        obtain ⟨v1, v2, v3⟩ := z7 c hc
        have e19 : f2 34 c = (cC (f 12) p c).1 := (a19 c hc8).trans y1
        have e20 : f2 35 c = (cC (f 12) p c).2.1 := (a20 c hc8).trans y2
        have e21 : f2 36 c = (cC (f 12) p c).2.2.1 := (a21 c hc8).trans y3
        show f2 102 (8 * 3 + c) = f2 34 c ∧ (f2 34 c = 0 ∨ f2 34 c = 1 → f2 103 (8 * 3 + c) = f2 35 c ∧ f2 104 (8 * 3 + c) = f2 36 c) ∧ (¬ f2 34 c = 0 → ¬ f2 34 c = 1 → f2 104 (8 * 3 + c) = f2 35 c) ∧ (f2 34 c = 1 ∨ f2 34 c = 2 → ¬ f2 35 c < 1)
        rw [e19, e20, e21, b102, b103, b104]
        exact ⟨v1, v2, v3, kok c (Nat.zero_le _) hc⟩
theorem st_fo4 (cp : CpZ f) {day : Int32} (hd : inR day 0 1000) {W : Nat → Nat → Nat} {w : Nat} {D : Nat → Nat → Nat} {n h p : Nat} (hG : CpG f W w D 4 n h) (hp : p ≤ 160) (t1 : f 11 1 = nI p) (t2 : f 92 10 = nI p) (t3 : ∀ j, j < p → f 12 j = f 100 j) (hf : (psF (f 12) p 8 0 0).1 = none) : StP 89 152 [.int day] f := by
  have hct := hG.1
  obtain ⟨x1, x2, x3, x4⟩ := hct.2.2.2.2.2.1
  have h9 := hG.2.2.2.2.1
  obtain ⟨⟨m1, m2, m3, m4⟩, _, m9⟩ := hG.2.2.1
  obtain ⟨k8, kok⟩ := ps_ok (T := f 12) (n := p) 8 0 0 (Nat.zero_le _) hf
  have k8 : (psF (f 12) p 8 0 0).2 ≤ 8 := by omega
  refine st_mk (P := fun r f1 => r = nI 4 ∧ ∃ g K N P sc kk, f1 = (up1 (up1 (up1 (up1 (up1 (up1 (up1 (up1 (up1 (up1 (up1 f 15 P) 14 N) 13 K) 11 (upd g 1 0)) 38 (upd (upd ((up1 (up1 (up1 (up1 f 15 P) 14 N) 13 K) 11 (upd g 1 0)) 38) 4 day) 3 (nI (psF (f 12) p 8 0 0).2))) 41 (va_cpy ((up1 (up1 (up1 (up1 f 15 P) 14 N) 13 K) 11 (upd g 1 0)) 15) ((up1 (up1 (up1 (up1 f 15 P) 14 N) 13 K) 11 (upd g 1 0)) 41) 0 0 8)) 40 (va_cpy ((up1 (up1 (up1 (up1 f 15 P) 14 N) 13 K) 11 (upd g 1 0)) 14) ((up1 (up1 (up1 (up1 f 15 P) 14 N) 13 K) 11 (upd g 1 0)) 40) 0 0 8)) 39 (va_cpy ((up1 (up1 (up1 (up1 f 15 P) 14 N) 13 K) 11 (upd g 1 0)) 13) ((up1 (up1 (up1 (up1 f 15 P) 14 N) 13 K) 11 (upd g 1 0)) 39) 0 0 8)) 16 (upd (f 16) 1 (nI (4 + 1)))) 10 sc) 42 kk) ∧ (∀ t, t < 10 → kk t = dI (arN W w 0 h t)) ∧ RwC (f 12) p (psF (f 12) p 8 0 0).2 K N P) ((sp_force4_4 (T := f 12) hp (fun _ _ => rfl) t1 hd hf hct.1 (by omega) m2 x1).mono (Nat.le_refl _) (fun u f1 q => ?_)) (fun r f1 q => ?_) (d' := 5) (by decide) (by decide)
  · obtain ⟨g, K, N, P, sc, kk, q1, q2, q3, _, _, q4⟩ := q
    exact ⟨_, q1, rfl, g, K, N, P, sc, kk, q2, q3, q4⟩
  · obtain ⟨q1, g, K, N, P, sc, kk, e1, q3, q4⟩ := q
    have h1 : ∀ r, r ≠ 10 → r ≠ 11 → ¬ (13 ≤ r ∧ r ≤ 16) → ¬ (38 ≤ r ∧ r ≤ 42) → f1 r = f r := fun r a1 a2 a3 a4 => by rw [e1, up1_f (by omega), up1_f (by omega), up1_f (by omega), up1_f (by omega), up1_f (by omega), up1_f (by omega), up1_f (by omega), up1_f (by omega), up1_f (by omega), up1_f (by omega), up1_f (by omega)]
    have hi : ∀ r, 92 ≤ r → f1 r = f r := fun r a => h1 r (by omega) (by omega) (by omega) (by omega)
    rw [q1]
    refine (mp_force4 (f := f1) (T := f 12) (n := p) (m := 4) (W := W) (w := w) (h := h) hp (fun j hj => by rw [hi 100 (by decide)]; exact (t3 j hj).symm) (by rw [hi 92 (by decide)]; exact t2) hd hf ?_ (by omega) (by decide) (by rw [hi 92 (by decide)]; exact m4) (by rw [hi 92 (by decide)]; exact x2)).mono (Nat.le_refl _) (fun u f2 z => ?_)
    · have z := hct.2.1
      unfold LaM at z ⊢
      rw [hi 92 (by decide), hi 93 (by decide), hi 94 (by decide), hi 96 (by decide), hi 97 (by decide), hi 98 (by decide)]
      exact z
    · obtain ⟨g', A, K', M', P', kk', rr, z1, e2, z3, z4, z5, z6, z7, z8, z9⟩ := z
      refine ⟨z1, ?_⟩
      have h2 : ∀ r, r ≠ 92 → ¬ (101 ≤ r ∧ r ≤ 106) → r ≠ 136 → f2 r = f1 r := fun r a1 a2 a3 => by rw [e2, up1_f (by omega), up1_f (by omega), up1_f (by omega), up1_f (by omega), up1_f (by omega), up1_f (by omega), up1_f (by omega), up1_f (by omega), up1_f (by omega)]
      have b92 : f2 92 = upd (upd g' 17 (nI (4 + 1))) 10 0 := by rw [e2]; rfl
      have b101 : f2 101 = A := by rw [e2]; rfl
      have b102 : f2 102 = K' := by rw [e2]; rfl
      have b103 : f2 103 = M' := by rw [e2]; rfl
      have b104 : f2 104 = P' := by rw [e2]; rfl
      have b105 : f2 105 = upd (f 105) 4 day := by rw [e2, ← hi 105 (by decide)]; rfl
      have b106 : f2 106 = kk' := by rw [e2]; rfl
      have a18 : f2 38 = upd (upd (f 38) 4 day) 3 (nI (psF (f 12) p 8 0 0).2) := by rw [h2 38 (by decide) (by decide) (by decide), e1]; rfl
      have a19 : ∀ c, c < 8 → f2 39 c = K c := fun c hc => by rw [h2 39 (by decide) (by decide) (by decide), e1]; exact cpy8 hc
      have a20 : ∀ c, c < 8 → f2 40 c = N c := fun c hc => by rw [h2 40 (by decide) (by decide) (by decide), e1]; exact cpy8 hc
      have a21 : ∀ c, c < 8 → f2 41 c = P c := fun c hc => by rw [h2 41 (by decide) (by decide) (by decide), e1]; exact cpy8 hc
      have a22 : f2 42 = kk := by rw [h2 42 (by decide) (by decide) (by decide), e1]; rfl
      refine cp_force cp hG (by decide) k8 (fun r a1 a2 a3 a4 a5 a6 a7 => (h2 r a5 a6 a7).trans (h1 r a1 a2 a3 (by omega))) (fun k c1 c2 c3 => ?_) ?_ ?_ ?_ ?_ (fun j hj => ⟨?_, ?_⟩) (fun j hj => ?_) (fun j hj => ?_) (fun b hb => ?_) ?_ ?_ ?_ (fun c hc => ?_)
      · rw [b92, upd_n c3, upd_n c2, z3 k (by omega) (by omega) (by omega) (by omega), hi 92 (by decide)]
      · rw [h2 11 (by decide) (by decide) (by decide), e1]; rfl
      · rw [b92]; rfl
      · rw [h2 16 (by decide) (by decide) (by decide), e1]; rfl
      · rw [b92]; rfl
      · rw [b101, z5 j hj, hi 101 (by decide)]
      · rw [b105, upd_n (by omega)]
      · rw [b102, b103, b104, ← hi 102 (by decide), ← hi 103 (by decide), ← hi 104 (by decide)]; exact z6 j hj
      · rw [b106, z9 j hj, hi 106 (by decide)]
      · show f2 42 b = _
        rw [a22, b106, q3 b hb]
        exact (z8 b hb).symm
      · show f2 38 4 = _
        rw [a18, b105, upd_s, upd_n (by decide), upd_s]
      · show f2 38 3 = _
        rw [a18, upd_s]
      · rw [b101]; exact z4
      · have hc8 : c < 8 := by omega
        obtain ⟨y1, y2, y3⟩ := q4 c hc
        obtain ⟨v1, v2, v3⟩ := z7 c hc
        have e19 : f2 39 c = (cC (f 12) p c).1 := (a19 c hc8).trans y1
        have e20 : f2 40 c = (cC (f 12) p c).2.1 := (a20 c hc8).trans y2
        have e21 : f2 41 c = (cC (f 12) p c).2.2.1 := (a21 c hc8).trans y3
        show f2 102 (8 * 4 + c) = f2 39 c ∧ (f2 39 c = 0 ∨ f2 39 c = 1 → f2 103 (8 * 4 + c) = f2 40 c ∧ f2 104 (8 * 4 + c) = f2 41 c) ∧ (¬ f2 39 c = 0 → ¬ f2 39 c = 1 → f2 104 (8 * 4 + c) = f2 40 c) ∧ (f2 39 c = 1 ∨ f2 39 c = 2 → ¬ f2 40 c < 1)
        rw [e19, e20, e21, b102, b103, b104]
        exact ⟨v1, v2, v3, kok c (Nat.zero_le _) hc⟩
theorem st_force (cp : CpZ f) (day : Int32) : StP 89 152 [.int day] f := by
  obtain ⟨⟨p, hp, t1, t2, t3⟩, ⟨W, w, D, am, n, h, hG⟩, _⟩ := id cp
  obtain ⟨x1, x2, x3, _⟩ := hG.1.2.2.2.2.2.1
  by_cases hd : inR day 0 1000
  · have both : ∀ (r : Int32), Sp 9 89 [.ref 0, .int day] f (fun v f' => ∃ g K N P, v = some (.int r) ∧ f' = (up1 (up1 (up1 (up1 f 15 P) 14 N) 13 K) 11 g) ∧ g 1 = nI p) → (∀ f1 : HI, f1 92 = f 92 → f1 100 = f 100 → Sp 5 152 [.ref 92, .int day] f1 (fun v f' => ∃ g A K M P, v = some (.int r) ∧ f' = (up1 (up1 (up1 (up1 (up1 f1 104 P) 103 M) 102 K) 101 A) 92 g) ∧ (∀ k, k ≠ 65 → k ≠ 66 → k ≠ 67 → k ≠ 68 → g k = f1 92 k) ∧ (∀ j, j < 5 → A j = f1 101 j) ∧ ∀ j, j < 40 → K j = f1 102 j ∧ M j = f1 103 j ∧ P j = f1 104 j)) → StP 89 152 [.int day] f := by
      intro r hc hm
      refine st_mk (P := fun r' f1 => r' = r ∧ ∃ g K N P, f1 = (up1 (up1 (up1 (up1 f 15 P) 14 N) 13 K) 11 g) ∧ g 1 = f 11 1) (hc.mono (Nat.le_refl _) (fun u f1 q => ?_)) (fun r' f1 q => ?_) (d' := 5) (by decide) (by decide)
      · obtain ⟨g, K, N, P, q1, q2, q3⟩ := q
        exact ⟨_, q1, rfl, g, K, N, P, q2, q3.trans t1.symm⟩
      · obtain ⟨q1, g, K, N, P, q2, q3⟩ := q
        have cp1 := cp_ag (ag_fc (P := P) (N := N) (K := K) q3) cp
        rw [← q2] at cp1
        rw [q1]
        refine (hm f1 (by rw [q2]; rfl) (by rw [q2]; rfl)).mono (Nat.le_refl _) (fun u f2 z => ?_)
        obtain ⟨g', A', K', M', P', z1, z2, z3, z4, z5⟩ := z
        exact ⟨z1, by rw [z2]; exact cp_ag (ag_fm z3 z4 z5) cp1⟩
    by_cases hf : (psF (f 12) p 8 0 0).1 = none
    · by_cases h5 : am = 5
      · exact both (-5) (sp_force3 (T := f 12) hp (fun _ _ => rfl) t1 hd hf (by rw [x1, h5]; rfl)) (fun f1 e1 e2 => mp_force3 (f := f1) (T := f 12) (m := am) hp (fun j hj => by rw [e2]; exact (t3 j hj).symm) (by rw [e1]; exact t2) hd hf (by rw [e1]; exact x2) h5)
      · match am, x3, hG, h5 with
        | 0, _, hG, _ => exact st_fo0 cp hd hG hp t1 t2 t3 hf
        | 1, _, hG, _ => exact st_fo1 cp hd hG hp t1 t2 t3 hf
        | 2, _, hG, _ => exact st_fo2 cp hd hG hp t1 t2 t3 hf
        | 3, _, hG, _ => exact st_fo3 cp hd hG hp t1 t2 t3 hf
        | 4, _, hG, _ => exact st_fo4 cp hd hG hp t1 t2 t3 hf
        | 5, _, _, h5 => exact absurd rfl h5
        | k + 6, h, _, _ => exact absurd h (by omega)
    · exact both (-4) (sp_force2 (T := f 12) hp (fun _ _ => rfl) t1 hd hf) (fun f1 e1 e2 => mp_force2 (f := f1) (T := f 12) hp (fun j hj => by rw [e2]; exact (t3 j hj).symm) (by rw [e1]; exact t2) hd hf)
  · exact st_ret cp (sp_force1 f hd) (mp_force1 f hd) (by decide) (by decide)
end P97
