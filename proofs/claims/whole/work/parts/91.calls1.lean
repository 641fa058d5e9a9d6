/-! calls on both sides: land, acts, mail asked, stamps -/
def AgG0 (f g : HI) : Prop := (∀ r, 2 ≤ r → r < 71 → r ≠ 10 → ¬ (11 ≤ r ∧ r ≤ 15) → r ≠ 45 → r ≠ 46 → g r = f r) ∧ g 1 0 = f 1 0 ∧ (∀ r, 93 ≤ r → r ≤ 99 → g r = f r) ∧ (∀ r, 105 ≤ r → r ≤ 125 → r ≠ 123 → r ≠ 124 → r ≠ 125 → g r = f r) ∧ g 137 = f 137 ∧ (∀ j, j < 5 → g 101 j = f 101 j) ∧ (∀ j, j < 40 → g 102 j = f 102 j ∧ g 103 j = f 103 j ∧ g 104 j = f 104 j) ∧ ∀ k, (k = 7 ∨ k = 8 ∨ k = 17 ∨ k = 35 ∨ (38 ≤ k ∧ k ≤ 42)) → g 92 k = f 92 k
theorem cpG_ag0 {f g : HI} {W : Nat → Nat → Nat} {w : Nat} {D : Nat → Nat → Nat} {am n h : Nat} (a : AgG0 f g) (co : CoX g g) (pu : ∀ j, j < 10 → g 45 j = g 124 j) (c : CpG f W w D am n h) : CpG g W w D am n h := by
  obtain ⟨a1, a2, a3, a4, a5, a6, a7, a8⟩ := a
  obtain ⟨hct, hco, ⟨m1, m2, m3⟩, hn, hh, hl, hu⟩ := c
  obtain ⟨t1, t2, t3, t4, t5, t6, t7, t8⟩ := hct
  have hrow : ∀ r, 2 ≤ r → r < 10 → g r = f r := fun r h1 h2 => a1 r h1 (by omega) (by omega) (by omega) (by omega) (by omega)
  refine ⟨⟨?_, ?_, ?_, ?_, ?_, ?_, ?_, ?_⟩, ?_, ⟨?_, ?_, ?_⟩, hn, hh, fun l q => ?_, fun l q1 q2 => ?_⟩
  · unfold LaC at t1 ⊢
    rw [hrow 2 (by decide) (by decide), hrow 7 (by decide) (by decide), hrow 5 (by decide) (by decide), hrow 8 (by decide) (by decide), hrow 9 (by decide) (by decide)]
    exact t1
  · unfold LaM at t2 ⊢
    rw [a8 7 (Or.inl rfl), a3 93 (by decide) (by decide), a3 94 (by decide) (by decide), a3 96 (by decide) (by decide), a3 97 (by decide) (by decide), a3 98 (by decide) (by decide)]
    exact t2
  · unfold LaI at t3 ⊢
    rw [a3 95 (by decide) (by decide)]
    exact t3
  · rw [hrow 3 (by decide) (by decide), hrow 4 (by decide) (by decide)]; exact t4
  · rw [hrow 6 (by decide) (by decide), a3 99 (by decide) (by decide)]; exact t5
  · obtain ⟨x1, x2, x3, x4⟩ := t6
    refine ⟨by rw [a1 16 (by decide) (by decide) (by decide) (by decide) (by decide) (by decide)]; exact x1, by rw [a8 17 (by decide)]; exact x2, x3, fun b hb => ?_⟩
    obtain ⟨y1, y2, cc, y3, y4, y5, y6⟩ := x4 b hb
    have hb5 : b < 5 := Nat.lt_of_lt_of_le hb x3
    rw [a1 (18 + 5 * b) (by omega) (by omega) (by omega) (by omega) (by omega) (by omega), a1 (19 + 5 * b) (by omega) (by omega) (by omega) (by omega) (by omega) (by omega), a1 (20 + 5 * b) (by omega) (by omega) (by omega) (by omega) (by omega) (by omega), a1 (21 + 5 * b) (by omega) (by omega) (by omega) (by omega) (by omega) (by omega), a1 (22 + 5 * b) (by omega) (by omega) (by omega) (by omega) (by omega) (by omega), a4 105 (by decide) (by decide) (by decide) (by decide) (by decide), a4 106 (by decide) (by decide) (by decide) (by decide) (by decide)]
    refine ⟨y1, y2, cc, y3, y4, by rw [a6 b hb5]; exact y5, fun i hi => ?_⟩
    obtain ⟨z1, z2, z3⟩ := a7 (8 * b + i) (by omega)
    rw [z1, z2, z3]
    exact y6 i hi
  · rw [a2, a8 42 (by decide)]; exact t7
  · rw [a8 42 (by decide)]; exact t8
  · exact co
  · rw [a1 43 (by decide) (by decide) (by decide) (by decide) (by decide) (by decide), a8 35 (by decide), a8 8 (by decide)]; exact m1
  · rw [a1 43 (by decide) (by decide) (by decide) (by decide) (by decide) (by decide), a8 38 (by decide), a8 39 (by decide), a8 40 (by decide), a8 41 (by decide)]; exact m2
  · exact pu
  · rw [a1 (47 + l) (by omega) (by omega) (by omega) (by omega) (by omega) (by omega)]
    obtain ⟨q1, q2⟩ := hl l q
    exact ⟨lb_m q1 (fun r r1 r2 => by show g r l = f r l; rw [a4 r (by omega) (by omega) (by omega) (by omega) (by omega)]) (by show g 137 l = f 137 l; rw [a5]), q2⟩
  · rw [a1 (47 + l) (by omega) (by omega) (by omega) (by omega) (by omega) (by omega)]
    exact hu l q1 q2
theorem s10 : scR 10 := Or.inl rfl
theorem s136 : scR 136 := by unfold scR; omega
/-- the class uses nothing, the reference its row 136 -/
theorem st_g {c m d d' : Nat} {as : List Value} {f : HI} {r : Int32} (cp : CpZ f) (hc : Sp d c (.ref 0 :: as) f (Ret r f)) (hm : Sp d' m (.ref 92 :: as) f (fun v f' => ∃ g, v = some (.int r) ∧ f' = up1 f 136 g)) (hd : d ≤ 40) (hd' : d' ≤ 40) : StP c m as f :=
  st_mk (P := fun r' f1 => r' = r ∧ f1 = f) (hc.mono (Nat.le_refl _) (fun v f1 q => ⟨r, q.1, rfl, q.2⟩)) (fun r' f1 q => by
    rw [q.1, q.2]
    exact hm.mono (Nat.le_refl _) (fun v f2 z => by
      obtain ⟨g, z1, z2⟩ := z
      exact ⟨z1, by rw [z2]; exact cp_sc s136 cp⟩)) hd hd'
theorem st_10 {c m d d' : Nat} {as : List Value} {f : HI} {r : Int32} (cp : CpZ f) (hc : Sp d c (.ref 0 :: as) f (fun v f' => ∃ g, v = some (.int r) ∧ f' = up1 f 10 g)) (hm : ∀ g, Sp d' m (.ref 92 :: as) (up1 f 10 g) (fun v f' => ∃ g', v = some (.int r) ∧ f' = up1 (up1 f 10 g) 136 g')) (hd : d ≤ 40) (hd' : d' ≤ 40) : StP c m as f :=
  st_mk (P := fun r' f1 => r' = r ∧ ∃ g, f1 = up1 f 10 g) (hc.mono (Nat.le_refl _) (fun v f1 q => by
    obtain ⟨g, q1, q2⟩ := q
    exact ⟨r, q1, rfl, g, q2⟩)) (fun r' f1 q => by
    obtain ⟨q1, g, q2⟩ := q
    rw [q1, q2]
    exact (hm g).mono (Nat.le_refl _) (fun v f2 z => by
      obtain ⟨g', z1, z2⟩ := z
      exact ⟨z1, by rw [z2]; exact cp_sc s136 (cp_sc s10 cp)⟩)) hd hd'
theorem inNm {x : Int32} {n : Nat} (hn : n ≤ 24) (h : inR x 0 (nI n - 1)) : ∃ j : Nat, j < n ∧ x = nI j := by
  by_cases c : n = 0
  · rw [c] at h
    exact absurd (Int32.le_trans h.1 h.2) (by decide)
  · have e : nI n - 1 = nI (n - 1) := pk_sub (a := n) (b := 1) (by omega)
    rw [e] at h
    obtain ⟨j, h1, h2⟩ := inN (nI_toInt (by omega)) h
    exact ⟨j, by omega, h2⟩
theorem tw_k (w : Int32) (N : Nat) (hN : N < 100) : (w.toInt < 0 ∨ (N : Int) < w.toInt) ∨ ∃ k : Nat, k ≤ N ∧ w = nI k := by
  by_cases c : w.toInt < 0 ∨ (N : Int) < w.toInt
  · exact Or.inl c
  · right
    refine ⟨w.toInt.toNat, by omega, ?_⟩
    apply Int32.toInt_inj.mp
    rw [nI_toInt (by omega)]
    omega
section P91
variable {f : HI}
theorem st_far (cp : CpZ f) (a b : Int32) : StP 83 136 [.int a, .int b] f := by
  obtain ⟨_, ⟨W, w, D, am, n, h, hct, _⟩, _⟩ := id cp
  by_cases c : inR a 0 9 ∧ inR b 0 9
  · obtain ⟨i, hi, rfl⟩ := inN (n := 9) (by decide) c.1
    obtain ⟨j, hj, rfl⟩ := inN (n := 9) (by decide) c.2
    exact st_g cp (sp_far2 (by omega) (by omega) hct.2.2.2.1.1 hct.2.2.1.2.1 hct.2.2.2.1.2) (mp_far2 (by omega) (by omega) hct.2.1 hct.2.2.1) (by decide) (by decide)
  · exact st_ret cp (sp_far1 f c) (mp_far1 f c) (by decide) (by decide)
theorem st_due (cp : CpZ f) (a b h : Int32) : StP 84 140 [.int a, .int b, .int h] f := by
  obtain ⟨_, ⟨W, w, D, am, n, h0, hct, _⟩, _⟩ := id cp
  by_cases c : inR a 0 9 ∧ inR b 0 9
  · by_cases c2 : inR h 0 20000
    · obtain ⟨i, hi, rfl⟩ := inN (n := 9) (by decide) c.1
      obtain ⟨j, hj, rfl⟩ := inN (n := 9) (by decide) c.2
      obtain ⟨k, hk, rfl⟩ := inN (n := 20000) (by decide) c2
      exact st_10 cp (sp_due3 (by omega) (by omega) hk hct.1) (fun g => mp_due3 (f := up1 f 10 g) (by omega) (by omega) hk hct.2.1) (by decide) (by decide)
    · exact st_ret cp (sp_due2 f c c2) (mp_due2 f c c2) (by decide) (by decide)
  · exact st_ret cp (sp_due1 f c) (mp_due1 f c) (by decide) (by decide)
theorem st_next (cp : CpZ f) (a b h : Int32) : StP 85 142 [.int a, .int b, .int h] f := by
  obtain ⟨_, ⟨W, w, D, am, n, h0, hct, _⟩, _⟩ := id cp
  by_cases c : inR a 0 9 ∧ inR b 0 9
  · by_cases c2 : inR h 0 20000
    · obtain ⟨i, hi, rfl⟩ := inN (n := 9) (by decide) c.1
      obtain ⟨j, hj, rfl⟩ := inN (n := 9) (by decide) c.2
      obtain ⟨k, hk, rfl⟩ := inN (n := 20000) (by decide) c2
      exact st_10 cp (sp_next3 (by omega) (by omega) hk hct.1) (fun g => mp_next3 (f := up1 f 10 g) (by omega) (by omega) hk hct.2.1) (by decide) (by decide)
    · exact st_ret cp (sp_next2 f c c2) (mp_next2 f c c2) (by decide) (by decide)
  · exact st_ret cp (sp_next1 f c) (mp_next1 f c) (by decide) (by decide)
theorem st_knows (cp : CpZ f) (t a : Int32) : StP 90 154 [.int t, .int a] f := by
  obtain ⟨_, ⟨W, w, D, am, n, h0, hct, _⟩, _⟩ := id cp
  obtain ⟨x1, x2, x3, x4⟩ := hct.2.2.2.2.2.1
  by_cases c : inR t 0 9 ∧ inR a 0 (nI am - 1)
  · obtain ⟨i, hi, rfl⟩ := inN (n := 9) (by decide) c.1
    obtain ⟨j, hj, rfl⟩ := inNm (by omega) c.2
    refine st_ret (d' := 3) cp (sp_knows1 f (by omega) (by omega) (by rw [x1]; exact c.2) c.1) ?_ (by decide) (by decide)
    rw [(x4 j hj).1 i (by omega)]
    exact mp_knows1 f (by omega) (by omega) (by rw [x2]; exact c.2) c.1
  · exact st_ret cp (sp_knows2 f (by rw [x1]; exact c)) (mp_knows2 f (by rw [x2]; exact c)) (by decide) (by decide)
theorem st_act (cp : CpZ f) (t h d : Int32) : StP 91 156 [.int t, .int h, .int d] f := by
  obtain ⟨_, ⟨W, w, D, am, n, h0, hct, _⟩, _⟩ := id cp
  obtain ⟨x1, x2, x3, x4⟩ := hct.2.2.2.2.2.1
  by_cases c : inR t 0 9
  · by_cases c2 : inR h 0 20000 ∧ inR d 0 1000
    · obtain ⟨i, hi, rfl⟩ := inN (n := 9) (by decide) c
      refine st_ret (d' := 3) cp (sp_act1 f h d (by omega) x1 x3 c c2.1 c2.2) ?_ (by decide) (by decide)
      rw [toA_c (Kn' := fun q => f 106 (10 * q + i)) (Dy' := f 105) (fun q hq => ⟨(x4 q hq).1 i (by omega), (x4 q hq).2.1⟩)]
      exact mp_act1 f h d (by omega) x2 x3 c c2.1 c2.2
    · exact st_ret cp (sp_act3 f c c2) (mp_act3 f c c2) (by decide) (by decide)
  · exact st_ret cp (sp_act2 f c) (mp_act2 f c) (by decide) (by decide)
theorem st_postage (cp : CpZ f) (a x s d p : Int32) : StP 92 160 [.int a, .int x, .int s, .int d, .int p] f := by
  obtain ⟨_, ⟨W, w, D, am, n, h0, hct, _⟩, _⟩ := id cp
  obtain ⟨x1, x2, x3, x4⟩ := hct.2.2.2.2.2.1
  by_cases c : inR a 0 (nI am - 1)
  · by_cases c2 : inR x 0 5000 ∧ inR s 1 9 ∧ inR d 1 64
    · obtain ⟨j, hj, rfl⟩ := inNm (by omega) c
      obtain ⟨_, _, cc, y1, y2, y3, y4⟩ := x4 j hj
      exact st_ret cp (sp_postage1 f x s d p (by omega) y2 y1 (by rw [x1]; exact c) c2.1 c2.2) (mp_postage1 (by omega) y3 y1 y4 (by rw [x2]; exact c) c2.1 c2.2.1 c2.2.2) (by decide) (by decide)
    · exact st_ret cp (sp_postage3 f (by rw [x1]; exact c) c2) (mp_postage3 f (by rw [x2]; exact c) c2) (by decide) (by decide)
  · exact st_ret cp (sp_postage2 f (by rw [x1]; exact c)) (mp_postage2 f (by rw [x2]; exact c)) (by decide) (by decide)
theorem st_why (cp : CpZ f) (a x : Int32) : StP 93 161 [.int a, .int x] f := by
  obtain ⟨_, ⟨W, w, D, am, n, h0, hct, _⟩, _⟩ := id cp
  obtain ⟨x1, x2, x3, x4⟩ := hct.2.2.2.2.2.1
  by_cases c : inR a 0 (nI am - 1)
  · by_cases c2 : inR x 0 5000
    · obtain ⟨j, hj, rfl⟩ := inNm (by omega) c
      obtain ⟨_, _, cc, y1, y2, y3, y4⟩ := x4 j hj
      exact st_ret cp (sp_why1 f x (by omega) y2 y1 (by rw [x1]; exact c) c2) (mp_why1 (by omega) y3 y1 y4 (by rw [x2]; exact c) c2) (by decide) (by decide)
    · exact st_ret cp (sp_why3 f (by rw [x1]; exact c) c2) (mp_why3 f (by rw [x2]; exact c) c2) (by decide) (by decide)
  · exact st_ret cp (sp_whyU f (by rw [x1]; exact c)) (mp_whyU f (by rw [x2]; exact c)) (by decide) (by decide)
theorem st_at (cp : CpZ f) (a k : Int32) : StP 96 176 [.int a, .int k] f := by
  obtain ⟨_, ⟨W, w, D, am, n, h0, hct, _, ⟨⟨m1, _, m3, _⟩, _⟩, hn, _, hl, _⟩, _⟩ := id cp
  by_cases c : inR a 0 (nI n - 1)
  · obtain ⟨l, hln, rfl⟩ := inNm hn c
    have cC : inR (nI l) 0 (f 43 6 - 1) := by rw [m1]; exact c
    have cM : inR (nI l) 0 (f 92 35 - 1) := by rw [m3]; exact c
    have h24 : l < 24 := by omega
    obtain ⟨⟨hQ, _, ⟨d8, d9, d10, d13, d14, d15, d16⟩, _⟩, _⟩ := hl l hln
    have d8 : f (47 + l) 8 = f 115 l := d8
    have d9 : f (47 + l) 9 = f 116 l := d9
    have d13 : f (47 + l) 13 = f 119 l := d13
    have d14 : f (47 + l) 14 = f 120 l := d14
    have d15 : f (47 + l) 15 = f 121 l := d15
    have d16 : f (47 + l) 16 = f 122 l := d16
    have d7 : f (47 + l) 7 = f 114 l := hQ.2.2.2.2.2.2.2
    rcases tw_k k 6 (by decide) with q | ⟨j, hj, rfl⟩
    · exact st_ret cp (sp_atX f h24 cC q) (mp_atX f cM q) (by decide) (by decide)
    · match j, hj with
      | 0, _ => exact st_ret cp (sp_at0 f h24 cC) (by rw [d8]; exact mp_at0 f h24 cM) (by decide) (by decide)
      | 1, _ => exact st_ret cp (sp_at1 f h24 cC) (by rw [d9]; exact mp_at1 f h24 cM) (by decide) (by decide)
      | 2, _ => exact st_ret cp (sp_at2 f h24 cC) (by rw [d13]; exact mp_at2 f h24 cM) (by decide) (by decide)
      | 3, _ => exact st_ret cp (sp_at3 f h24 cC) (by rw [d14]; exact mp_at3 f h24 cM) (by decide) (by decide)
      | 4, _ => exact st_ret cp (sp_at4 f h24 cC) (by rw [d15]; exact mp_at4 f h24 cM) (by decide) (by decide)
      | 5, _ => exact st_ret cp (sp_at5 f h24 cC) (by rw [d7]; exact mp_at5 f h24 cM) (by decide) (by decide)
      | 6, _ => exact st_ret cp (sp_at6 f h24 cC) (by rw [d16]; exact mp_at6 f h24 cM) (by decide) (by decide)
      | j + 7, hj => exact absurd hj (by omega)
  · exact st_ret cp (sp_atU f (by rw [m1]; exact c)) (mp_atU f (by rw [m3]; exact c)) (by decide) (by decide)
theorem st_count (cp : CpZ f) (k : Int32) : StP 117 213 [.int k] f := by
  obtain ⟨⟨nt, _, t1, t2, _⟩, ⟨W, w, D, am, n, h0, hct, _, ⟨⟨m1, m2, m3, m4⟩, ⟨m5, m6, m7, m8⟩, _⟩, _⟩, _, _, ⟨ns, cs, DC, DM, _, _, _, s1, s2, s3, s4, _⟩, ⟨wn, cm, _, _, r1, r2, r3, r4, _⟩⟩ := id cp
  obtain ⟨x1, x2, _⟩ := hct.2.2.2.2.2.1
  rcases tw_k k 11 (by decide) with q | ⟨j, hj, rfl⟩
  · exact st_ret cp (sp_countX f q) (mp_countX f q) (by decide) (by decide)
  · match j, hj with
    | 0, _ => exact st_ret cp (sp_count0 f) (by rw [m2, ← m4]; exact mp_count0 f) (by decide) (by decide)
    | 1, _ => exact st_ret cp (sp_count1 f) (by rw [hct.1.1, ← hct.2.1.1]; exact mp_count1 f) (by decide) (by decide)
    | 2, _ => exact st_ret cp (sp_count2 f) (by rw [x1, ← x2]; exact mp_count2 f) (by decide) (by decide)
    | 3, _ => exact st_ret cp (sp_count3 f) (by rw [m1, ← m3]; exact mp_count3 f) (by decide) (by decide)
    | 4, _ => exact st_ret cp (sp_count4 f) (by rw [t1, ← t2]; exact mp_count4 f) (by decide) (by decide)
    | 5, _ => exact st_ret cp (sp_count5 f) (by rw [m5]; exact mp_count5 f) (by decide) (by decide)
    | 6, _ => exact st_ret cp (sp_count6 f) (by rw [m6]; exact mp_count6 f) (by decide) (by decide)
    | 7, _ => exact st_ret cp (sp_count7 f) (by rw [m7]; exact mp_count7 f) (by decide) (by decide)
    | 8, _ => exact st_ret cp (sp_count8 f) (by rw [m8]; exact mp_count8 f) (by decide) (by decide)
    | 9, _ => exact st_ret cp (sp_count9 f) (by rw [r1, ← r2]; exact mp_count9 f) (by decide) (by decide)
    | 10, _ => exact st_ret cp (sp_count10 f) (by rw [r3, ← r4]; exact mp_count10 f) (by decide) (by decide)
    | 11, _ => exact st_ret cp (sp_count11 f) (by rw [s3, ← s4]; exact mp_count11 f) (by decide) (by decide)
    | j + 12, hj => exact absurd hj (by omega)
theorem ltC_of {W : Nat → Nat → Nat} {w : Nat} {D : Nat → Nat → Nat} {am n h : Nat} (c : CpG f W w D am n h) : LtC f n (fun l => f 112 l) (fun l => f 113 l) := ⟨c.2.2.1.1.1, c.2.2.2.1, fun l hl => ⟨(c.2.2.2.2.2.1 l hl).1.1.2.2.2.2.2.1, (c.2.2.2.2.2.1 l hl).1.1.2.2.2.2.2.2.1⟩⟩
theorem ltM_of {W : Nat → Nat → Nat} {w : Nat} {D : Nat → Nat → Nat} {am n h : Nat} (c : CpG f W w D am n h) : LtM f n (fun l => f 112 l) (fun l => f 113 l) := ⟨c.2.2.1.1.2.2.1, c.2.2.2.1, fun _ _ => ⟨rfl, rfl⟩⟩
theorem wr_of {W : Nat → Nat → Nat} {w : Nat} {D : Nat → Nat → Nat} {am n h : Nat} (c : CpG f W w D am n h) : ∀ l, l < n → f 114 l = nI (ciN (f 114 l)) ∧ ciN (f 114 l) ≤ h ∧ f (47 + l) 7 = f 114 l := by
  intro l hl
  obtain ⟨a, b, sh, dr, wi, wr, z⟩ := (c.2.2.2.2.2.1 l hl).1.2.1
  have e : f 114 l = nI wr := z.2.2.2.2.2.2.2.2.2.2.2.2.2.2.2.1
  have z9 := z.2.2.2.2.2.2.2.2.2.2.2.2.2.2.2.2
  have h9 := c.2.2.2.2.1
  refine ⟨by rw [e, ciN_n (by omega)], by rw [e, ciN_n (by omega)]; exact z9, (c.2.2.2.2.2.1 l hl).1.1.2.2.2.2.2.2.2⟩
theorem st_alike (cp : CpZ f) (st : Int32) : StP 103 185 [.int st] f := by
  obtain ⟨_, ⟨W, w, D, am, n, h0, hG⟩, _⟩ := id cp
  by_cases c : inR st 0 2399
  · exact st_ret cp (sp_alike2 (ltC_of hG) c) (mp_alike2 (ltM_of hG) c) (by decide) (by decide)
  · exact st_ret cp (sp_alike1 f c) (mp_alike1 f c) (by decide) (by decide)
theorem st_more (cp : CpZ f) (m wk : Int32) : StP 102 183 [.int m, .int wk] f := by
  obtain ⟨_, ⟨W, w, D, am, n, h0, hG⟩, _⟩ := id cp
  obtain ⟨x1, x2, x3, x4⟩ := hG.1.2.2.2.2.2.1
  have hwr := wr_of hG
  have h9 := hG.2.2.2.2.1
  by_cases c : inR m 0 5
  · by_cases c2 : inR wk 0 60
    · obtain ⟨k, hk, rfl⟩ := inN (n := 60) (by decide) c2
      have hcnt : ∀ q, q < am → ∃ cc, cc ≤ 8 ∧ f (18 + 5 * q) 3 = nI cc ∧ ciN (f (18 + 5 * q) 3) = cc ∧ f 101 q = nI cc ∧ AcM f q cc (f (19 + 5 * q)) (f (20 + 5 * q)) (f (21 + 5 * q)) := by
        intro q hq
        obtain ⟨_, _, cc, y1, y2, y3, y4⟩ := x4 q hq
        exact ⟨cc, y1, y2, by rw [y2, ciN_n (by omega)], y3, y4⟩
      exact st_ret cp (sp_more3 (f := f) (n := n) (kk := fun l => f 112 l) (ww := fun l => f 113 l) (ltC_of hG) (wr := fun l => ciN (f 114 l)) (fun i hi => ⟨(hwr i hi).2.2.trans (hwr i hi).1, by have := (hwr i hi).2.1; omega⟩) (h := nI h0) (am := am) (Kn := fun q => f (22 + 5 * q) 0) (Dy := fun q => f (18 + 5 * q) 4) (FR := fun q => frA (f (19 + 5 * q)) (f (20 + 5 * q)) (ciN (f (18 + 5 * q) 3))) c hk hG.2.2.1.1.2.1 x1 x3 (fun _ _ => ⟨rfl, rfl⟩) (fun q hq => by obtain ⟨cc, y1, y2, y3, _⟩ := hcnt q hq; exact ⟨cc, y1, y2, by rw [y3]⟩))
        (mp_more3 (f := f) (n := n) (kk := fun l => f 112 l) (ww := fun l => f 113 l) (ltM_of hG) (wr := fun l => ciN (f 114 l)) (fun i hi => ⟨(hwr i hi).1, by have := (hwr i hi).2.1; omega⟩) (h := nI h0) (am := am) (Kn := fun q => f (22 + 5 * q) 0) (Dy := fun q => f (18 + 5 * q) 4) (FR := fun q => frA (f (19 + 5 * q)) (f (20 + 5 * q)) (ciN (f (18 + 5 * q) 3))) c hk hG.2.2.1.1.2.2.2 x2 x3 (fun q hq => ⟨((x4 q hq).1 0 (by decide)).symm, (x4 q hq).2.1.symm⟩) (fun q hq => by obtain ⟨cc, y1, y2, y3, y4, y5⟩ := hcnt q hq; exact ⟨cc, _, _, f (21 + 5 * q), y1, y4, y5, by rw [y3]⟩)) (by decide) (by decide)
    · exact st_ret cp (sp_more2 f c c2) (mp_more2 f c c2) (by decide) (by decide)
  · exact st_ret cp (sp_more1 f c) (mp_more1 f c) (by decide) (by decide)
theorem st_cannot (cp : CpZ f) (a : Int32) : StP 101 182 [.int a] f := by
  obtain ⟨_, ⟨W, w, D, am, n, h0, hG⟩, _, ⟨c9, w1, w2, w3, w4, w5, w6, w7⟩, _⟩ := id cp
  have hwr := wr_of hG
  have h9 := hG.2.2.2.2.1
  have m1 := hG.2.2.1.1.1
  have m3 := hG.2.2.1.1.2.2.1
  have hn := hG.2.2.2.1
  by_cases c : inR a 0 (nI n - 1)
  · obtain ⟨l, hln, rfl⟩ := inNm hn c
    have cC : inR (nI l) 0 (f 43 6 - 1) := by rw [m1]; exact c
    have cM : inR (nI l) 0 (f 92 35 - 1) := by rw [m3]; exact c
    obtain ⟨⟨hQ, ⟨fr, b, sh, dr, wi, wr, qa, ha, _⟩, _⟩, _⟩ := hG.2.2.2.2.2.1 l hln
    have qa : f 107 l = nI fr := qa
    have e5 : f (47 + l) 5 = f 112 l := hQ.2.2.2.2.2.1
    have e6 : f (47 + l) 6 = f 113 l := hQ.2.2.2.2.2.2.1
    have e0 : f (47 + l) 0 = f 107 l := hQ.1
    obtain ⟨z1, z2, z3⟩ := hwr l hln
    by_cases ck : f 112 l = 2
    · have ht : ∀ i, i < c9 → f 127 i = nI (ciN (f 127 i)) ∧ f 128 i = nI (ciN (f 128 i)) ∧ ciN (f 127 i) < 10 ∧ ciN (f 128 i) ≤ 9000 := by
        intro i hi
        obtain ⟨⟨t, t1, t2⟩, hh, t3, t4⟩ := w7 i hi
        rw [t2, t4, ciN_n (by omega), ciN_n (by omega)]
        exact ⟨rfl, rfl, t1, t3⟩
      refine st_10 cp (sp_cannot3 (f := f) (W := W) (w := w) (c := c9) (l := l) (fr := fr) (wr := ciN (f 114 l)) (wh := f 126) (pl := fun i => ciN (f 127 i)) (tm := fun i => ciN (f 128 i)) (wl := f 113 l) hG.1.1 (by omega) ha (by omega) w2 w1 (fun i hi => by rw [w4, w5, w6]; exact ⟨rfl, (ht i hi).1, (ht i hi).2.1, (ht i hi).2.2⟩) (e0.trans qa) e6 (z3.trans z1) cC (e5.trans ck)) (fun g => mp_cannot3 (f := up1 f 10 g) (W := W) (w := w) (c := c9) (l := l) (fr := fr) (wr := ciN (f 114 l)) (wh := f 126) (pl := fun i => ciN (f 127 i)) (tm := fun i => ciN (f 128 i)) (wl := f 113 l) hG.1.2.1 (by omega) ha (by omega) w3 w1 (fun i hi => ⟨rfl, (ht i hi).1, (ht i hi).2.1, (ht i hi).2.2⟩) qa rfl z1 cM ck) (by decide) (by decide)
    · exact st_ret cp (sp_cannot2 f (by omega) cC (by rw [e5]; exact ck)) (mp_cannot2 f (by omega) cM ck) (by decide) (by decide)
  · exact st_ret cp (sp_cannot1 f (by rw [m1]; exact c)) (mp_cannot1 f (by rw [m3]; exact c)) (by decide) (by decide)
theorem ag_w {f f' : HI} (h : FrW f f') : AgX f f' := by
  obtain ⟨h1, h2⟩ := h
  refine ⟨⟨?_, ?_, ?_, ?_⟩, ⟨fun q _ _ _ _ => ?_, ?_, fun q _ _ => ?_, fun q _ _ _ => ?_, ?_, fun j _ => ?_, fun j _ => ⟨?_, ?_, ?_⟩, fun k _ => ?_⟩, ⟨fun k _ _ => ?_, fun k _ _ => ?_⟩, ⟨h2 6 (by decide), ?_, fun q _ _ => ?_, fun q _ _ => ?_⟩, ⟨⟨?_, ?_⟩, ⟨?_, ?_⟩, ?_, ?_, ?_⟩, ⟨⟨?_, ?_⟩, ⟨?_, ?_⟩, fun q _ _ => ?_, ?_, fun q _ _ => ?_, fun wn _ _ v _ => ?_⟩⟩ <;> rw [h1 _ (by omega) (by omega) (by omega) (by omega)]
theorem st_forged (cp : CpZ f) (st : Int32) : StP 104 190 [.int st] f := by
  obtain ⟨_, ⟨W, w, D, am, n, h0, hG⟩, ⟨r1, ⟨wa, r2, r3⟩, _⟩, _⟩ := id cp
  have hwr := wr_of hG
  have h9 := hG.2.2.2.2.1
  have hn := hG.2.2.2.1
  by_cases c : inR st 0 2399
  · have hall : ∀ i, i < n → f 107 i = nI (ciN (f 107 i)) ∧ ciN (f 107 i) < 10 ∧ f 108 i = nI (ciN (f 108 i)) ∧ ciN (f 108 i) < 10 ∧ ciN (f 107 i) ≠ ciN (f 108 i) ∧ (f 115 i = 2 → f 122 i = nI (ciN (f 122 i)) ∧ ciN (f 122 i) ≤ 9000 ∧ ciN (f 114 i) ≤ ciN (f 122 i)) := by
      intro i hi
      obtain ⟨⟨_, ⟨a, b, sh, dr, wi, wr, qa, ha, qb, hb, hab, _⟩, _, hT⟩, _⟩ := hG.2.2.2.2.2.1 i hi
      have qa : f 107 i = nI a := qa
      have qb : f 108 i = nI b := qb
      refine ⟨by rw [qa, ciN_n (by omega)], by rw [qa, ciN_n (by omega)]; exact ha, by rw [qb, ciN_n (by omega)], by rw [qb, ciN_n (by omega)]; exact hb, by rw [qa, qb, ciN_n (by omega), ciN_n (by omega)]; exact hab, fun q => ?_⟩
      obtain ⟨en, wr2, z1, z2, z3, z4⟩ := hT.2.2 q
      have z1 : f 122 i = nI en := z1
      have z3 : f 114 i = nI wr2 := z3
      rw [z1, z3, ciN_n (by omega), ciN_n (by omega)]
      exact ⟨rfl, z2, z4⟩
    have hFC : LfC f n wa (fun i => ciN (f 108 i)) (fun i => ciN (f 107 i)) (fun i => ciN (f 122 i)) (fun i => ciN (f 114 i)) (fun i => f 115 i) := ⟨hG.2.2.1.1.1, hn, (r1 1 (by decide) (by decide)).trans r3, r2, fun i hi => by
      obtain ⟨⟨hQ, _, hD, _⟩, _⟩ := hG.2.2.2.2.2.1 i hi
      obtain ⟨y1, y2, y3, y4, y5, y6⟩ := hall i hi
      obtain ⟨z1, z2, z3⟩ := hwr i hi
      exact ⟨hQ.1.trans y1, y2, hQ.2.1.trans y3, y4, z3.trans z1, Nat.le_trans z2 h9, hD.1, fun q => ⟨hD.2.2.2.2.2.2.trans (y6 q).1, (y6 q).2.1⟩⟩⟩
    refine st_mk (P := fun r f1 => FrW f f1 ∧ FoP (NeD W w (fun i => ciN (f 108 i)) (fun i => ciN (f 107 i)) (fun i => ciN (f 122 i)) (fun i => ciN (f 114 i)) (fun i => f 115 i) wa (akN (fun l => f 112 l) (fun l => f 113 l) st n) n) (akN (fun l => f 112 l) (fun l => f 113 l) st n) n r) (sp_forged2 hG.1.1 hFC (ltC_of hG) st c) (fun r f1 q => ?_) (d' := 7) (by decide) (by decide)
    obtain ⟨q1, q2⟩ := q
    have cp1 := cp_ag (ag_w q1) cp
    have hr : ∀ r, 77 ≤ r → r < 80 ∨ 83 ≤ r → f1 r = f r := fun r a b => q1.1 r (by omega) (by omega) (by omega) (by omega)
    have hFM : LfM f1 n wa (fun i => ciN (f 108 i)) (fun i => ciN (f 107 i)) (fun i => ciN (f 122 i)) (fun i => ciN (f 114 i)) (fun i => f 115 i) := by
      unfold LfM
      rw [hr 92 (by decide) (by decide), hr 107 (by decide) (by decide), hr 108 (by decide) (by decide), hr 114 (by decide) (by decide), hr 115 (by decide) (by decide), hr 122 (by decide) (by decide)]
      refine ⟨hG.2.2.1.1.2.2.1, hn, r3, r2, fun i hi => ?_⟩
      obtain ⟨y1, y2, y3, y4, y5, y6⟩ := hall i hi
      obtain ⟨z1, z2, z3⟩ := hwr i hi
      exact ⟨y1, y2, y3, y4, z1, Nat.le_trans z2 h9, rfl, y6, y5⟩
    have hLM : LaM f1 W w := by
      have z := hG.1.2.1
      unfold LaM at z ⊢
      rw [hr 92 (by decide) (by decide), hr 93 (by decide) (by decide), hr 94 (by decide) (by decide), hr 96 (by decide) (by decide), hr 97 (by decide) (by decide), hr 98 (by decide) (by decide)]
      exact z
    have hLt : LtM f1 n (fun l => f 112 l) (fun l => f 113 l) := by
      have z := ltM_of hG
      unfold LtM at z ⊢
      rw [hr 92 (by decide) (by decide), hr 112 (by decide) (by decide), hr 113 (by decide) (by decide)]
      exact z
    refine (mp_forged2 hLM hFM hLt c).mono (Nat.le_refl _) (fun v f2 z => ?_)
    obtain ⟨r', gb, gq, gc, g, z1, z2, z3⟩ := z
    refine ⟨by rw [z1, fo_eq q2 z3], ?_⟩
    rw [z2]
    exact cp_sc s136 (cp_sc (by unfold scR; omega) (cp_sc (by unfold scR; omega) (cp_sc (by unfold scR; omega) cp1)))
  · exact st_ret cp (sp_forged1 f c) (mp_forged1 f c) (by decide) (by decide)
end P91
