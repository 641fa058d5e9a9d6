/-! calls on both sides: letters -/
section P96
variable {f : HI}
theorem ag_lt {f2 : HI} (hr : ∀ r, r ≠ 43 → r ≠ 45 → ¬ (47 ≤ r ∧ r < 71) → r ≠ 92 → ¬ (107 ≤ r ∧ r ≤ 124) → f2 r = f r) (hk : ∀ k, k ≠ 35 → k ≠ 38 → f2 92 k = f 92 k) : AgT f f2 ∧ AgR f f2 ∧ AgW f f2 ∧ AgS f f2 ∧ AgM f f2 := by
  have hl : ∀ r, r < 43 → f2 r = f r := fun r a => hr r (by omega) (by omega) (by omega) (by omega) (by omega)
  have hm : ∀ r, 71 ≤ r → r < 92 → f2 r = f r := fun r a b => hr r (by omega) (by omega) (by omega) (by omega) (by omega)
  have hu : ∀ r, 93 ≤ r → r < 107 ∨ 125 ≤ r → f2 r = f r := fun r a b => hr r (by omega) (by omega) (by omega) (by omega) (by omega)
  refine ⟨⟨?_, hk 10 (by decide) (by decide), hl 12 (by decide), hu 100 (by decide) (by decide)⟩, ⟨fun k _ _ => ?_, fun k k1 k2 => hk k (by omega) (by omega)⟩, ⟨?_, hk 52 (by decide) (by decide), fun r r1 r2 => hm r (by omega) (by omega), fun r r1 r2 => hu r (by omega) (by omega)⟩, ⟨⟨?_, ?_⟩, ⟨hk 53 (by decide) (by decide), hk 54 (by decide) (by decide)⟩, ?_, hm 79 (by decide) (by decide), hu 129 (by decide) (by decide)⟩, ⟨⟨?_, ?_⟩, ⟨hk 61 (by decide) (by decide), hk 63 (by decide) (by decide)⟩, fun r r1 r2 => hm r (by omega) (by omega), hm 89 (by decide) (by decide), fun r r1 r2 => hu r (by omega) (by omega), fun _ _ _ v _ => ?_⟩⟩
  · rw [hl 11 (by decide)]
  · rw [hl 1 (by decide)]
  · rw [hm 71 (by decide) (by decide)]
  · rw [hm 77 (by decide) (by decide)]
  · rw [hm 77 (by decide) (by decide)]
  · rw [hm 78 (by decide) (by decide)]
  · rw [hm 83 (by decide) (by decide)]
  · rw [hm 83 (by decide) (by decide)]
  · rw [hm 88 (by decide) (by decide)]
theorem lt_r1 {n : Nat} {f1 : HI} {g45 g43 gn : Nat → Int32} (e1 : f1 = up1 (up1 (up1 f 45 g45) 43 g43) (47 + n) gn) : ∀ r, r ≠ 43 → r ≠ 45 → r ≠ 47 + n → f1 r = f r := by
  intro r a b c
  rw [e1, up1_f c, up1_f a, up1_f b]
theorem cp_letter (cp : CpZ f) {W : Nat → Nat → Nat} {w : Nat} {D : Nat → Nat → Nat} {am n h : Nat} (c : CpG f W w D am n h) (hn : n < 24) {a b : Nat} {sh dr wo k wi pr : Int32} (ha : a < 10) (hb : b < 10) (hab : a ≠ b) (hR : ltR sh dr wo k wi) (hk3 : k = 0 ∨ k = 1 ∨ k = 2) (hwi : ∃ x : Nat, wi = nI x ∧ x < 2400 ∧ (k = 0 → x ≤ 7)) {f1 f2 : HI} (e1 : f1 = (up1 (up1 (up1 f 45 (upd (f 45) a ((f 45) a - pr))) 43 (upd (upd (f 43) 6 (nI (n + 1))) 8 ((f 43) 8 + pr))) (47 + n) (upd (upd (upd (upd (upd (upd (upd (upd (upd (upd (upd (upd (upd (upd (f (47 + n)) 6 wi) 5 k) 4 wo) 3 dr) 2 sh) 17 (-1)) 16 (-1)) 10 (nI b)) 9 (nI a)) 8 0) 7 (nI h)) 1 (nI b)) 0 (nI a)) 14 ((upd (upd (upd (upd (upd (upd (upd (upd (f (47 + n)) 17 (-1)) 16 (-1)) 10 (nI b)) 9 (nI a)) 8 0) 7 (nI h)) 1 (nI b)) 0 (nI a)) 14 + pr)))) (e2 : f2 = (up1 (up1 (up1 (up1 (up1 (up1 (up1 (up1 (up1 (up1 (up1 (up1 (up1 (up1 (up1 (up1 (up1 (up1 f1 124 (upd (f1 124) a (((f1 124) a) - pr))) 120 (upd (upd (f1 120) n 0) n (((upd (f1 120) n 0) n) + pr))) 122 (upd (f1 122) n (-1))) 121 (upd (f1 121) n 0)) 119 (upd (f1 119) n 0)) 118 (upd (f1 118) n (-1))) 117 (upd (f1 117) n (nI b))) 116 (upd (f1 116) n (nI a))) 115 (upd (f1 115) n 0)) 114 (upd (f1 114) n (nI h))) 113 (upd (f1 113) n wi)) 112 (upd (f1 112) n k)) 111 (upd (f1 111) n wo)) 110 (upd (f1 110) n dr)) 109 (upd (f1 109) n sh)) 108 (upd (f1 108) n (nI b))) 107 (upd (f1 107) n (nI a))) 92 (upd (upd (f1 92) 35 (nI (n + 1))) 38 (((upd (f1 92) 35 (nI (n + 1))) 38) + pr)))) : CpZ f2 := by
  have h1 := lt_r1 e1
  have c43 : f2 43 = upd (upd (f 43) 6 (nI (n + 1))) 8 (f 43 8 + pr) := by
    rw [e2]
    show f1 43 = _
    rw [e1, up1_f (by omega)]
    rfl
  have c45 : f2 45 = upd (f 45) a (f 45 a - pr) := by
    rw [e2]
    show f1 45 = _
    rw [e1, up1_f (by omega)]
    rfl
  have cn : f2 (47 + n) = (upd (upd (upd (upd (upd (upd (upd (upd (upd (upd (upd (upd (upd (upd (f (47 + n)) 6 wi) 5 k) 4 wo) 3 dr) 2 sh) 17 (-1)) 16 (-1)) 10 (nI b)) 9 (nI a)) 8 0) 7 (nI h)) 1 (nI b)) 0 (nI a)) 14 ((upd (upd (upd (upd (upd (upd (upd (upd (f (47 + n)) 17 (-1)) 16 (-1)) 10 (nI b)) 9 (nI a)) 8 0) 7 (nI h)) 1 (nI b)) 0 (nI a)) 14 + pr)) := by
    rw [e2, up1_f (by omega), up1_f (by omega), up1_f (by omega), up1_f (by omega), up1_f (by omega), up1_f (by omega), up1_f (by omega), up1_f (by omega), up1_f (by omega), up1_f (by omega), up1_f (by omega), up1_f (by omega), up1_f (by omega), up1_f (by omega), up1_f (by omega), up1_f (by omega), up1_f (by omega), up1_f (by omega), e1]
    exact up1_s _ _ _
  have c92 : f2 92 = upd (upd (f 92) 35 (nI (n + 1))) 38 (upd (f 92) 35 (nI (n + 1)) 38 + pr) := by
    rw [e2, ← h1 92 (by decide) (by decide) (by omega)]
    rfl
  have q124 : f2 124 = upd (f 124) a (f 124 a - pr) := by
    rw [e2, ← h1 124 (by decide) (by decide) (by omega)]
    rfl
  have q107 : f2 107 = upd (f 107) n (nI a) := by
    rw [e2, ← h1 107 (by decide) (by decide) (by omega)]
    rfl
  have q108 : f2 108 = upd (f 108) n (nI b) := by
    rw [e2, ← h1 108 (by decide) (by decide) (by omega)]
    rfl
  have q109 : f2 109 = upd (f 109) n (sh) := by
    rw [e2, ← h1 109 (by decide) (by decide) (by omega)]
    rfl
  have q110 : f2 110 = upd (f 110) n (dr) := by
    rw [e2, ← h1 110 (by decide) (by decide) (by omega)]
    rfl
  have q111 : f2 111 = upd (f 111) n (wo) := by
    rw [e2, ← h1 111 (by decide) (by decide) (by omega)]
    rfl
  have q112 : f2 112 = upd (f 112) n (k) := by
    rw [e2, ← h1 112 (by decide) (by decide) (by omega)]
    rfl
  have q113 : f2 113 = upd (f 113) n (wi) := by
    rw [e2, ← h1 113 (by decide) (by decide) (by omega)]
    rfl
  have q114 : f2 114 = upd (f 114) n (nI h) := by
    rw [e2, ← h1 114 (by decide) (by decide) (by omega)]
    rfl
  have q115 : f2 115 = upd (f 115) n (0) := by
    rw [e2, ← h1 115 (by decide) (by decide) (by omega)]
    rfl
  have q116 : f2 116 = upd (f 116) n (nI a) := by
    rw [e2, ← h1 116 (by decide) (by decide) (by omega)]
    rfl
  have q117 : f2 117 = upd (f 117) n (nI b) := by
    rw [e2, ← h1 117 (by decide) (by decide) (by omega)]
    rfl
  have q118 : f2 118 = upd (f 118) n (-1) := by
    rw [e2, ← h1 118 (by decide) (by decide) (by omega)]
    rfl
  have q119 : f2 119 = upd (f 119) n (0) := by
    rw [e2, ← h1 119 (by decide) (by decide) (by omega)]
    rfl
  have q120 : f2 120 = upd (upd (f 120) n 0) n (upd (f 120) n 0 n + pr) := by
    rw [e2, ← h1 120 (by decide) (by decide) (by omega)]
    rfl
  have q121 : f2 121 = upd (f 121) n (0) := by
    rw [e2, ← h1 121 (by decide) (by decide) (by omega)]
    rfl
  have q122 : f2 122 = upd (f 122) n (-1) := by
    rw [e2, ← h1 122 (by decide) (by decide) (by omega)]
    rfl
  have hr : ∀ r, r ≠ 43 → r ≠ 45 → r ≠ 47 + n → r ≠ 92 → ¬ (107 ≤ r ∧ r ≤ 122) → r ≠ 124 → f2 r = f r := by
    intro r a1 a2 a3 a4 a5 a6
    rw [e2, up1_f (by omega), up1_f (by omega), up1_f (by omega), up1_f (by omega), up1_f (by omega), up1_f (by omega), up1_f (by omega), up1_f (by omega), up1_f (by omega), up1_f (by omega), up1_f (by omega), up1_f (by omega), up1_f (by omega), up1_f (by omega), up1_f (by omega), up1_f (by omega), up1_f (by omega), up1_f (by omega)]
    exact h1 r a1 a2 a3
  have hk : ∀ k, k ≠ 35 → k ≠ 38 → f2 92 k = f 92 k := fun k a1 a2 => by rw [c92, upd_n a2, upd_n a1]
  obtain ⟨g1, g2, g3, g4, g5⟩ := ag_lt (f := f) (f2 := f2) (fun r a1 a2 a3 a4 a5 => hr r a1 a2 (by omega) a4 (by omega) (by omega)) hk
  refine ⟨cpT_ag g1 cp.1, ⟨W, w, D, am, n + 1, h, ?_⟩, cpR_ag g2 cp.2.2.1, cpW_ag g3 cp.2.2.2.1, cpS_ag g4 cp.2.2.2.2.1, cpM_ag g5 cp.2.2.2.2.2⟩
  obtain ⟨hct, hco, ⟨⟨m1, m2, m3, m4⟩, ⟨m5, m6, m7, m8⟩, m9⟩, _, hh, hl, hu⟩ := c
  obtain ⟨u1, u2, u3⟩ := hu n (Nat.le_refl _) hn
  refine ⟨ctx_fr hct (fun r a1 a2 => hr r (by omega) (by omega) (by omega) (by omega) (by omega) (by omega)) (fun r a1 a2 => hr r (by omega) (by omega) (by omega) (by omega) (by omega) (by omega)) ⟨hk 7 (by decide) (by decide), hk 17 (by decide) (by decide), hk 42 (by decide) (by decide)⟩, ?_, ⟨⟨?_, ?_, ?_, ?_⟩, ⟨?_, ?_, ?_, ?_⟩, fun j hj => ?_⟩, hn, hh, fun l hln => ?_, fun l l1 l2 => ?_⟩
  · unfold CoX at hco ⊢
    rw [hr 46 (by decide) (by decide) (by omega) (by decide) (by decide) (by decide), hr 125 (by decide) (by decide) (by omega) (by decide) (by decide) (by decide)]
    exact hco
  · rw [c43]; rfl
  · rw [c43]; exact m2
  · rw [c92]; rfl
  · rw [c92]; exact m4
  · rw [c43, c92]
    show f 43 8 + pr = f 92 38 + pr
    rw [m5]
  · rw [c43, c92]; exact m6
  · rw [c43, c92]; exact m7
  · rw [c43, c92]; exact m8
  · rw [c45, q124, m9 a ha]
    by_cases e : j = a
    · rw [e, upd_s, upd_s]
    · rw [upd_n e, upd_n e]; exact m9 j hj
  · by_cases q : l = n
    · rw [q, cn]
      refine ⟨⟨⟨?_, ?_, ?_, ?_, ?_, ?_, ?_, ?_⟩, ?_, ⟨?_, ?_, ?_, ?_, ?_, ?_, ?_⟩, ⟨⟨a, b, ?_, ha, ?_, hb⟩, fun z => ?_, fun z => ?_⟩⟩, rfl⟩
      · show _ = f2 107 n
        rw [q107, upd_s]; rfl
      · show _ = f2 108 n
        rw [q108, upd_s]; rfl
      · show _ = f2 109 n
        rw [q109, upd_s]; rfl
      · show _ = f2 110 n
        rw [q110, upd_s]; rfl
      · show _ = f2 111 n
        rw [q111, upd_s]; rfl
      · show _ = f2 112 n
        rw [q112, upd_s]; rfl
      · show _ = f2 113 n
        rw [q113, upd_s]; rfl
      · show _ = f2 114 n
        rw [q114, upd_s]; rfl
      · obtain ⟨⟨r1, r2⟩, r3, r4, r5, r6⟩ := hR
        obtain ⟨x, rfl, hx, hx7⟩ := hwi
        obtain ⟨s, s1, s2, rfl⟩ := inN1 (n := 9) (by decide) r1
        obtain ⟨d, d1, d2, rfl⟩ := inN1 (n := 64) (by decide) r2
        refine ⟨a, b, s, d, x, h, ?_, ha, ?_, hb, hab, ?_, s1, s2, ?_, d1, d2, ?_, ?_, hx, ?_, ?_, Nat.le_refl _⟩
        · show f2 107 n = _
          rw [q107]; exact upd_s _ _ _
        · show f2 108 n = _
          rw [q108]; exact upd_s _ _ _
        · show f2 109 n = _
          rw [q109]; exact upd_s _ _ _
        · show f2 110 n = _
          rw [q110]; exact upd_s _ _ _
        · show f2 112 n = 0 ∨ f2 112 n = 1 ∨ f2 112 n = 2
          rw [q112, upd_s]; exact hk3
        · show f2 113 n = _
          rw [q113]; exact upd_s _ _ _
        · show f2 112 n = 0 → _
          rw [q112, upd_s]; exact hx7
        · show f2 114 n = _
          rw [q114]; exact upd_s _ _ _
      · show _ = f2 115 n
        rw [q115, upd_s]; rfl
      · show _ = f2 116 n
        rw [q116, upd_s]; rfl
      · show _ = f2 117 n
        rw [q117, upd_s]; rfl
      · show _ = f2 119 n
        rw [q119, upd_s]
        exact u1
      · show _ = f2 120 n
        show f (47 + n) 14 + pr = _
        rw [u2, q120, upd_s, upd_s]
      · show _ = f2 121 n
        rw [q121, upd_s]
        exact u3
      · show _ = f2 122 n
        rw [q122, upd_s]; rfl
      · show f2 116 n = _
        rw [q116]; exact upd_s _ _ _
      · show f2 117 n = _
        rw [q117]; exact upd_s _ _ _
      · have z : f2 115 n = 1 := z
        rw [q115, upd_s] at z
        exact absurd z (by decide)
      · have z : f2 115 n = 2 := z
        rw [q115, upd_s] at z
        exact absurd z (by decide)
    · rw [hr (47 + l) (by omega) (by omega) (by omega) (by omega) (by omega) (by omega)]
      obtain ⟨z1, z2⟩ := hl l (by omega)
      refine ⟨lb_m z1 ?_ (by show f2 137 l = f 137 l; rw [hr 137 (by decide) (by decide) (by omega) (by decide) (by decide) (by decide)]), z2⟩
      · intro r r1 r2
        show f2 r l = f r l
        have hq : r = 107 ∨ r = 108 ∨ r = 109 ∨ r = 110 ∨ r = 111 ∨ r = 112 ∨ r = 113 ∨ r = 114 ∨ r = 115 ∨ r = 116 ∨ r = 117 ∨ r = 118 ∨ r = 119 ∨ r = 120 ∨ r = 121 ∨ r = 122 := by omega
        rcases hq with c | c | c | c | c | c | c | c | c | c | c | c | c | c | c | c
        · rw [c, q107]; exact upd_n q
        · rw [c, q108]; exact upd_n q
        · rw [c, q109]; exact upd_n q
        · rw [c, q110]; exact upd_n q
        · rw [c, q111]; exact upd_n q
        · rw [c, q112]; exact upd_n q
        · rw [c, q113]; exact upd_n q
        · rw [c, q114]; exact upd_n q
        · rw [c, q115]; exact upd_n q
        · rw [c, q116]; exact upd_n q
        · rw [c, q117]; exact upd_n q
        · rw [c, q118]; exact upd_n q
        · rw [c, q119]; exact upd_n q
        · rw [c, q120]; exact (upd_n q).trans (upd_n q)
        · rw [c, q121]; exact upd_n q
        · rw [c, q122]; exact upd_n q
  · rw [hr (47 + l) (by omega) (by omega) (by omega) (by omega) (by omega) (by omega)]
    exact hu l (by omega) l2
theorem st_letter (cp : CpZ f) (a b sh dr wo k wi : Int32) : StP 94 167 [.int a, .int b, .int sh, .int dr, .int wo, .int k, .int wi] f := by
  obtain ⟨_, ⟨W, w, D, am, n, h, hG⟩, _⟩ := id cp
  have hct := hG.1
  obtain ⟨x1, x2, x3, x4⟩ := hct.2.2.2.2.2.1
  obtain ⟨⟨m1, m2, m3, m4⟩, _, m9⟩ := hG.2.2.1
  have hn := hG.2.2.2.1
  have h9 := hG.2.2.2.2.1
  by_cases c1 : twoT a b ∧ (k = 2 → inR wi 0 5)
  · by_cases c2 : ltR sh dr wo k wi
    · obtain ⟨⟨t1, t2, t3⟩, hm⟩ := c1
      obtain ⟨a, ha, rfl⟩ := inN (n := 9) (by decide) t1
      obtain ⟨b, hb, rfl⟩ := inN (n := 9) (by decide) t2
      have hab : a ≠ b := fun e => t3 (by rw [e])
      have ha : a < 10 := by omega
      have hb : b < 10 := by omega
      have hk3 : k = 0 ∨ k = 1 ∨ k = 2 := by
        obtain ⟨j, hj, e⟩ := inN (n := 2) (by decide) c2.2.2.1
        rw [e]
        match j, hj with
        | 0, _ => exact Or.inl rfl
        | 1, _ => exact Or.inr (Or.inl rfl)
        | 2, _ => exact Or.inr (Or.inr rfl)
      by_cases h24 : n = 24
      · rcases hk3 with rfl | rfl | rfl
        · exact st_ret cp (sp_letter3_0 ha hb hab c2 hm m1 h24) (mp_letter3_0 ha hb hab c2 hm m3 h24) (by decide) (by decide)
        · exact st_ret cp (sp_letter3_1 ha hb hab c2 hm m1 h24) (mp_letter3_1 ha hb hab c2 hm m3 h24) (by decide) (by decide)
        · exact st_ret cp (sp_letter3_2 ha hb hab c2 hm m1 h24) (mp_letter3_2 ha hb hab c2 hm m3 h24) (by decide) (by decide)
      · have hn24 : n < 24 := by omega
        rcases hk3 with rfl | rfl | rfl
        · refine st_mk (P := fun r f1 => r = nI n ∧ f1 = (up1 (up1 (up1 f 45 (upd (f 45) a ((f 45) a - 0))) 43 (upd (upd (f 43) 6 (nI (n + 1))) 8 ((f 43) 8 + 0))) (47 + n) (upd (upd (upd (upd (upd (upd (upd (upd (upd (upd (upd (upd (upd (upd (f (47 + n)) 6 wi) 5 0) 4 wo) 3 dr) 2 sh) 17 (-1)) 16 (-1)) 10 (nI b)) 9 (nI a)) 8 0) 7 (nI h)) 1 (nI b)) 0 (nI a)) 14 ((upd (upd (upd (upd (upd (upd (upd (upd (f (47 + n)) 17 (-1)) 16 (-1)) 10 (nI b)) 9 (nI a)) 8 0) 7 (nI h)) 1 (nI b)) 0 (nI a)) 14 + 0)))) ((sp_letter5_0 ha hb hab c2 hm m1 hn24 m2).mono (Nat.le_refl _) (fun u f1 q => ⟨_, q.1, rfl, q.2⟩)) (fun r f1 q => ?_) (d' := 4) (by decide) (by decide)
          rw [q.1]
          have h1 := lt_r1 q.2
          refine (mp_letter5_0 (f := f1) (h := h) ha hb hab c2 hm (by rw [h1 92 (by decide) (by decide) (by omega)]; exact m3) hn24 (by rw [h1 92 (by decide) (by decide) (by omega)]; exact m4)).mono (Nat.le_refl _) (fun u f2 z => ⟨z.1, ?_⟩)
          exact cp_letter cp hG hn24 ha hb hab c2 (by decide) (by
            obtain ⟨x, hx, e⟩ := inN (n := 7) (by decide) (c2.2.2.2.1 rfl)
            exact ⟨x, e, by omega, fun _ => hx⟩) q.2 z.2
        · have hchC : ∀ q, q < am → ∃ c, c ≤ 8 ∧ f (18 + 5 * q) 3 = nI c ∧ chA (f (19 + 5 * q)) (f (20 + 5 * q)) (f (21 + 5 * q)) (dJ (D a b)) sh dr 1 c = (fun q => chA (f (19 + 5 * q)) (f (20 + 5 * q)) (f (21 + 5 * q)) (dJ (D a b)) sh dr 1 (ciN (f (18 + 5 * q) 3))) q := by
            intro q hq
            obtain ⟨_, _, cc, y1, y2, y3, y4⟩ := x4 q hq
            exact ⟨cc, y1, y2, by show chA (f (19 + 5 * q)) (f (20 + 5 * q)) (f (21 + 5 * q)) (dJ (D a b)) sh dr 1 cc = chA (f (19 + 5 * q)) (f (20 + 5 * q)) (f (21 + 5 * q)) (dJ (D a b)) sh dr 1 (ciN (f (18 + 5 * q) 3)); rw [y2, ciN_n (by omega)]⟩
          have hchM : ∀ q, q < am → ∃ c K N P, c ≤ 8 ∧ f 101 q = nI c ∧ AcM f q c K N P ∧ chA K N P (dJ (D a b)) sh dr 1 c = (fun q => chA (f (19 + 5 * q)) (f (20 + 5 * q)) (f (21 + 5 * q)) (dJ (D a b)) sh dr 1 (ciN (f (18 + 5 * q) 3))) q := by
            intro q hq
            obtain ⟨_, _, cc, y1, y2, y3, y4⟩ := x4 q hq
            exact ⟨cc, _, _, _, y1, y3, y4, by show chA (f (19 + 5 * q)) (f (20 + 5 * q)) (f (21 + 5 * q)) (dJ (D a b)) sh dr 1 cc = chA (f (19 + 5 * q)) (f (20 + 5 * q)) (f (21 + 5 * q)) (dJ (D a b)) sh dr 1 (ciN (f (18 + 5 * q) 3)); rw [y2, ciN_n (by omega)]⟩
          have hkdM : ∀ i, i < am → f 106 (10 * i + a) = (fun i => f (22 + 5 * i) a) i ∧ f 105 i = (fun i => f (18 + 5 * i) 4) i := fun i hi => ⟨((x4 i hi).1 a ha).symm, (x4 i hi).2.1.symm⟩
          have e45 : f 45 a = f 124 a := m9 a ha
          by_cases hno : caO (fun q => chA (f (19 + 5 * q)) (f (20 + 5 * q)) (f (21 + 5 * q)) (dJ (D a b)) sh dr 1 (ciN (f (18 + 5 * q) 3))) (toA (fun i => f (22 + 5 * i) a) (fun i => f (18 + 5 * i) 4) (nI h) (nI (h / 24)) am) = -1 ∨ ¬ caO (fun q => chA (f (19 + 5 * q)) (f (20 + 5 * q)) (f (21 + 5 * q)) (dJ (D a b)) sh dr 1 (ciN (f (18 + 5 * q) 3))) (toA (fun i => f (22 + 5 * i) a) (fun i => f (18 + 5 * i) 4) (nI h) (nI (h / 24)) am) ≤ f 45 a
          · exact st_g (d := 5) (d' := 4) cp (sp_letter4 ha hb hab c2 hm (CH := (fun q => chA (f (19 + 5 * q)) (f (20 + 5 * q)) (f (21 + 5 * q)) (dJ (D a b)) sh dr 1 (ciN (f (18 + 5 * q) 3)))) x1 x3 (fun _ _ => ⟨rfl, rfl⟩) hchC hct.2.2.2.1.1 hct.2.2.1.2.1 hct.2.2.2.1.2 h9 m2 m1 hn24 hno) ((mp_letter4 ha hb hab c2 hm (CH := (fun q => chA (f (19 + 5 * q)) (f (20 + 5 * q)) (f (21 + 5 * q)) (dJ (D a b)) sh dr 1 (ciN (f (18 + 5 * q) 3)))) hct.2.1 hct.2.2.1 x2 x3 hkdM hchM h9 m4 m3 hn24 (by rw [← e45]; exact hno)).mono (Nat.le_refl _) (fun v f2 z => by
              obtain ⟨z1, g, z2⟩ := z
              exact ⟨g, z1, z2⟩)) (by decide) (by decide)
          · have hyes : ¬ caO (fun q => chA (f (19 + 5 * q)) (f (20 + 5 * q)) (f (21 + 5 * q)) (dJ (D a b)) sh dr 1 (ciN (f (18 + 5 * q) 3))) (toA (fun i => f (22 + 5 * i) a) (fun i => f (18 + 5 * i) 4) (nI h) (nI (h / 24)) am) = -1 ∧ caO (fun q => chA (f (19 + 5 * q)) (f (20 + 5 * q)) (f (21 + 5 * q)) (dJ (D a b)) sh dr 1 (ciN (f (18 + 5 * q) 3))) (toA (fun i => f (22 + 5 * i) a) (fun i => f (18 + 5 * i) 4) (nI h) (nI (h / 24)) am) ≤ f 45 a := ⟨fun e => hno (Or.inl e), Decidable.byContradiction (fun e => hno (Or.inr e))⟩
            refine st_mk (P := fun r f1 => r = nI n ∧ f1 = (up1 (up1 (up1 f 45 (upd (f 45) a ((f 45) a - (caO (fun q => chA (f (19 + 5 * q)) (f (20 + 5 * q)) (f (21 + 5 * q)) (dJ (D a b)) sh dr 1 (ciN (f (18 + 5 * q) 3))) (toA (fun i => f (22 + 5 * i) a) (fun i => f (18 + 5 * i) 4) (nI h) (nI (h / 24)) am))))) 43 (upd (upd (f 43) 6 (nI (n + 1))) 8 ((f 43) 8 + (caO (fun q => chA (f (19 + 5 * q)) (f (20 + 5 * q)) (f (21 + 5 * q)) (dJ (D a b)) sh dr 1 (ciN (f (18 + 5 * q) 3))) (toA (fun i => f (22 + 5 * i) a) (fun i => f (18 + 5 * i) 4) (nI h) (nI (h / 24)) am))))) (47 + n) (upd (upd (upd (upd (upd (upd (upd (upd (upd (upd (upd (upd (upd (upd (f (47 + n)) 6 wi) 5 1) 4 wo) 3 dr) 2 sh) 17 (-1)) 16 (-1)) 10 (nI b)) 9 (nI a)) 8 0) 7 (nI h)) 1 (nI b)) 0 (nI a)) 14 ((upd (upd (upd (upd (upd (upd (upd (upd (f (47 + n)) 17 (-1)) 16 (-1)) 10 (nI b)) 9 (nI a)) 8 0) 7 (nI h)) 1 (nI b)) 0 (nI a)) 14 + (caO (fun q => chA (f (19 + 5 * q)) (f (20 + 5 * q)) (f (21 + 5 * q)) (dJ (D a b)) sh dr 1 (ciN (f (18 + 5 * q) 3))) (toA (fun i => f (22 + 5 * i) a) (fun i => f (18 + 5 * i) 4) (nI h) (nI (h / 24)) am)))))) ((sp_letter5_1 ha hb hab c2 hm (CH := (fun q => chA (f (19 + 5 * q)) (f (20 + 5 * q)) (f (21 + 5 * q)) (dJ (D a b)) sh dr 1 (ciN (f (18 + 5 * q) 3)))) m1 hn24 x1 x3 (fun _ _ => ⟨rfl, rfl⟩) hchC hct.2.2.2.1.1 hct.2.2.1.2.1 hct.2.2.2.1.2 h9 m2 hyes).mono (Nat.le_refl _) (fun u f1 q => ⟨_, q.1, rfl, q.2⟩)) (fun r f1 q => ?_) (d' := 4) (by decide) (by decide)
            rw [q.1]
            have h1 := lt_r1 q.2
            have r1 : ∀ r, 92 ≤ r → f1 r = f r := fun r hr => h1 r (by omega) (by omega) (by omega)
            refine (mp_letter5_1 (f := f1) (h := h) ha hb hab c2 hm (CH := (fun q => chA (f (19 + 5 * q)) (f (20 + 5 * q)) (f (21 + 5 * q)) (dJ (D a b)) sh dr 1 (ciN (f (18 + 5 * q) 3)))) (Kn := fun i => f (22 + 5 * i) a) (Dy := fun i => f (18 + 5 * i) 4) (D := D) (am := am) (W := W) (w := w) (by rw [r1 92 (by decide)]; exact m3) hn24 ?_ ?_ (by rw [r1 92 (by decide)]; exact x2) x3 (by rw [r1 106 (by decide), r1 105 (by decide)]; exact hkdM) ?_ h9 (by rw [r1 92 (by decide)]; exact m4) (by rw [r1 124 (by decide), ← e45]; exact hyes)).mono (Nat.le_refl _) (fun u f2 z => ?_)
            · have z := hct.2.1
              unfold LaM at z ⊢
              rw [r1 92 (by decide), r1 93 (by decide), r1 94 (by decide), r1 96 (by decide), r1 97 (by decide), r1 98 (by decide)]
              exact z
            · have z := hct.2.2.1
              unfold LaI at z ⊢
              rw [r1 95 (by decide)]
              exact z
            · intro q hq
              obtain ⟨c, K, N, P, y1, y2, y3, y4⟩ := hchM q hq
              refine ⟨c, K, N, P, y1, by rw [r1 101 (by decide)]; exact y2, ?_, y4⟩
              unfold AcM at y3 ⊢
              rw [r1 102 (by decide), r1 103 (by decide), r1 104 (by decide)]
              exact y3
            · obtain ⟨z1, g2, pr, z2, z3⟩ := z
              refine ⟨z1, ?_⟩
              rw [z2]
              rw [z3]
              exact cp_sc s136 (cp_letter cp hG hn24 ha hb hab c2 (by decide) (by
                obtain ⟨x, hx, e⟩ := inN (n := 2399) (by decide) (c2.2.2.2.2 rfl)
                exact ⟨x, e, by omega, fun z => absurd z (by decide)⟩) q.2 rfl)
        · refine st_mk (P := fun r f1 => r = nI n ∧ f1 = (up1 (up1 (up1 f 45 (upd (f 45) a ((f 45) a - 0))) 43 (upd (upd (f 43) 6 (nI (n + 1))) 8 ((f 43) 8 + 0))) (47 + n) (upd (upd (upd (upd (upd (upd (upd (upd (upd (upd (upd (upd (upd (upd (f (47 + n)) 6 wi) 5 2) 4 wo) 3 dr) 2 sh) 17 (-1)) 16 (-1)) 10 (nI b)) 9 (nI a)) 8 0) 7 (nI h)) 1 (nI b)) 0 (nI a)) 14 ((upd (upd (upd (upd (upd (upd (upd (upd (f (47 + n)) 17 (-1)) 16 (-1)) 10 (nI b)) 9 (nI a)) 8 0) 7 (nI h)) 1 (nI b)) 0 (nI a)) 14 + 0)))) ((sp_letter5_2 ha hb hab c2 hm m1 hn24 m2).mono (Nat.le_refl _) (fun u f1 q => ⟨_, q.1, rfl, q.2⟩)) (fun r f1 q => ?_) (d' := 4) (by decide) (by decide)
          rw [q.1]
          have h1 := lt_r1 q.2
          refine (mp_letter5_2 (f := f1) (h := h) ha hb hab c2 hm (by rw [h1 92 (by decide) (by decide) (by omega)]; exact m3) hn24 (by rw [h1 92 (by decide) (by decide) (by omega)]; exact m4)).mono (Nat.le_refl _) (fun u f2 z => ⟨z.1, ?_⟩)
          exact cp_letter cp hG hn24 ha hb hab c2 (by decide) (by
            obtain ⟨x, hx, e⟩ := inN (n := 5) (by decide) (hm rfl)
            exact ⟨x, e, by omega, fun z => absurd z (by decide)⟩) q.2 z.2
    · exact st_ret cp (sp_letter2 f c1 c2) (mp_letter2 f c1 c2) (by decide) (by decide)
  · exact st_ret cp (sp_letter1 f c1) (mp_letter1 f c1) (by decide) (by decide)
end P96
