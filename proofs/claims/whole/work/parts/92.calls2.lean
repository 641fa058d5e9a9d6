/-! calls on both sides: text, rules, purses, members, doors, wants, prices -/
def AgG1 (f g : HI) : Prop := (∀ r, 2 ≤ r → r < 71 → r ≠ 10 → ¬ (11 ≤ r ∧ r ≤ 15) → g r = f r) ∧ (∀ r, 93 ≤ r → r ≤ 99 → g r = f r) ∧ (∀ r, 105 ≤ r → r ≤ 125 → r ≠ 123 → g r = f r) ∧ g 137 = f 137 ∧ (∀ j, j < 5 → g 101 j = f 101 j) ∧ (∀ j, j < 40 → g 102 j = f 102 j ∧ g 103 j = f 103 j ∧ g 104 j = f 104 j) ∧ ∀ k, (k = 7 ∨ k = 8 ∨ k = 17 ∨ k = 35 ∨ (38 ≤ k ∧ k ≤ 41)) → g 92 k = f 92 k
theorem cpG_ag1 {f g : HI} {W : Nat → Nat → Nat} {w : Nat} {D : Nat → Nat → Nat} {am n h : Nat} (a : AgG1 f g) (key : g 1 0 = g 92 42 ∧ (g 92 42 = 0 ∨ g 92 42 = 1 ∨ g 92 42 = 2)) (c : CpG f W w D am n h) : CpG g W w D am n h := by
  obtain ⟨a1, a3, a4, a5, a6, a7, a8⟩ := a
  obtain ⟨hct, hco, ⟨m1, m2, m3⟩, hn, hh, hl, hu⟩ := c
  obtain ⟨t1, t2, t3, t4, t5, t6, t7, t8⟩ := hct
  have hrow : ∀ r, 2 ≤ r → r < 10 → g r = f r := fun r h1 h2 => a1 r h1 (by omega) (by omega) (by omega)
  refine ⟨⟨?_, ?_, ?_, ?_, ?_, ?_, ?_, ?_⟩, ?_, ⟨?_, ?_, ?_⟩, hn, hh, fun l q => ?_, fun l q1 q2 => ?_⟩
  · unfold LaC at t1 ⊢
    rw [hrow 2 (by decide) (by decide), hrow 7 (by decide) (by decide), hrow 5 (by decide) (by decide), hrow 8 (by decide) (by decide), hrow 9 (by decide) (by decide)]
    exact t1
  · unfold LaM at t2 ⊢
    rw [a8 7 (Or.inl rfl), a3 93 (by decide) (by decide), a3 94 (by decide) (by decide), a3 96 (by decide) (by decide), a3 97 (by decide) (by decide), a3 98 (by decide) (by decide)]
    exact t2
  · unfold LaI at t3 ⊢
    rw [a3 95 (by decide) (by decide)]
    exact t3
  · rw [hrow 3 (by decide) (by decide), hrow 4 (by decide) (by decide)]; exact t4
  · rw [hrow 6 (by decide) (by decide), a3 99 (by decide) (by decide)]; exact t5
  · obtain ⟨x1, x2, x3, x4⟩ := t6
    refine ⟨by rw [a1 16 (by decide) (by decide) (by decide) (by decide)]; exact x1, by rw [a8 17 (by decide)]; exact x2, x3, fun b hb => ?_⟩
    obtain ⟨y1, y2, cc, y3, y4, y5, y6⟩ := x4 b hb
    have hb5 : b < 5 := Nat.lt_of_lt_of_le hb x3
    rw [a1 (18 + 5 * b) (by omega) (by omega) (by omega) (by omega), a1 (19 + 5 * b) (by omega) (by omega) (by omega) (by omega), a1 (20 + 5 * b) (by omega) (by omega) (by omega) (by omega), a1 (21 + 5 * b) (by omega) (by omega) (by omega) (by omega), a1 (22 + 5 * b) (by omega) (by omega) (by omega) (by omega), a4 105 (by decide) (by decide) (by decide), a4 106 (by decide) (by decide) (by decide)]
    refine ⟨y1, y2, cc, y3, y4, by rw [a6 b hb5]; exact y5, fun i hi => ?_⟩
    obtain ⟨z1, z2, z3⟩ := a7 (8 * b + i) (by omega)
    rw [z1, z2, z3]
    exact y6 i hi
  · exact key.1
  · exact key.2
  · unfold CoX at hco ⊢
    rw [a1 46 (by decide) (by decide) (by decide) (by decide), a4 125 (by decide) (by decide) (by decide)]
    exact hco
  · rw [a1 43 (by decide) (by decide) (by decide) (by decide), a8 35 (by decide), a8 8 (by decide)]; exact m1
  · rw [a1 43 (by decide) (by decide) (by decide) (by decide), a8 38 (by decide), a8 39 (by decide), a8 40 (by decide), a8 41 (by decide)]; exact m2
  · rw [a1 45 (by decide) (by decide) (by decide) (by decide), a4 124 (by decide) (by decide) (by decide)]; exact m3
  · rw [a1 (47 + l) (by omega) (by omega) (by omega) (by omega)]
    obtain ⟨q1, q2⟩ := hl l q
    exact ⟨lb_m q1 (fun r r1 r2 => by show g r l = f r l; rw [a4 r (by omega) (by omega) (by omega)]) (by show g 137 l = f 137 l; rw [a5]), q2⟩
  · rw [a1 (47 + l) (by omega) (by omega) (by omega) (by omega)]
    exact hu l q1 q2
section P92
variable {f : HI}
theorem cp_purse (cp : CpZ f) {i j : Nat} {v : Int32} : CpZ (up1 (up1 f 45 (upd (f 45) (j) v)) 124 (upd (f 124) (j) v)) := ⟨(cpT_ag (f := f) ⟨rfl, rfl, rfl, rfl⟩ cp.1), (by
    obtain ⟨W, w, D, am, n, h, c⟩ := cp.2.1
    exact ⟨W, w, D, am, n, h, cpG_ag0 (f := f) ⟨fun _ _ _ _ _ _ _ => (by rw [up1_f (by omega), up1_f (by omega)]), rfl, fun _ _ _ => (by rw [up1_f (by omega), up1_f (by omega)]), fun _ _ _ _ _ _ => (by rw [up1_f (by omega), up1_f (by omega)]), rfl, fun _ _ => rfl, fun _ _ => ⟨rfl, rfl, rfl⟩, fun k hk => rfl⟩ c.2.1 (fun q hq => by
      show upd (f 45) (j) v q = upd (f 124) (j) v q
      by_cases e : q = (j)
      · (rw [e, upd_s, upd_s])
      · (rw [upd_n e, upd_n e]; exact c.2.2.1.2.2 q hq)) c⟩), (cpR_ag (f := f) ⟨fun k hk1 hk2 => rfl, fun k hk1 hk2 => rfl⟩ cp.2.2.1), (cpW_ag (f := f) ⟨rfl, rfl, fun _ _ _ => (by rw [up1_f (by omega), up1_f (by omega)]), fun _ _ _ => (by rw [up1_f (by omega), up1_f (by omega)])⟩ cp.2.2.2.1), (cpS_ag (f := f) ⟨⟨rfl, rfl⟩, ⟨rfl, rfl⟩, rfl, rfl, rfl⟩ cp.2.2.2.2.1), (cpM_ag (f := f) ⟨⟨rfl, rfl⟩, ⟨rfl, rfl⟩, fun _ _ _ => (by rw [up1_f (by omega), up1_f (by omega)]), rfl, fun _ _ _ => (by rw [up1_f (by omega), up1_f (by omega)]), fun _ _ _ _ _ => rfl⟩ cp.2.2.2.2.2)⟩
theorem st_purse (cp : CpZ f) (a v : Int32) : StP 97 177 [.int a, .int v] f := by
  by_cases c1 : inR a 0 9
  · by_cases c2 : inR v 0 30000
    · obtain ⟨j, hj, e⟩ := inN (n := 9) (by decide) c1
      have hj : j < 10 := by omega
      have hrow : f 45 j = f 124 j := by
        obtain ⟨W, w, D, am, n, h, c⟩ := cp.2.1
        exact c.2.2.1.2.2 j hj
      refine st_mk (P := fun r f1 => r = f 45 j ∧ f1 = up2 f 45 j v) ((sp_purse3 f a v c1 c2 hj e).mono (Nat.le_refl _) (fun u f1 q => ⟨_, q.1, rfl, q.2⟩)) (fun r f1 q => ?_) (d' := 3) (by decide) (by decide)
      rw [q.1, q.2]
      refine (mp_purse3 (up2 f 45 j v) a v c1 c2 hj e).mono (Nat.le_refl _) (fun u f2 z => ⟨by rw [z.1, hrow]; rfl, ?_⟩)
      rw [z.2, up2_eq1, up2_eq1]
      exact cp_purse (i := 0) (j := j) cp
    · exact st_ret cp (sp_purse2 f a v c1 c2) (mp_purse2 f a v c1 c2) (by decide) (by decide)
  · exact st_ret cp (sp_purse1 f a v c1) (mp_purse1 f a v c1) (by decide) (by decide)
theorem cp_code (cp : CpZ f) {i j : Nat} {v : Int32} (c2 : v &&& (-255) = 0) : CpZ (up1 (up1 f 46 (upd (f 46) (10 * i + j) v)) 125 (upd (f 125) (10 * i + j) v)) := ⟨(cpT_ag (f := f) ⟨rfl, rfl, rfl, rfl⟩ cp.1), (by
    obtain ⟨W, w, D, am, n, h, c⟩ := cp.2.1
    exact ⟨W, w, D, am, n, h, cpG_ag0 (f := f) ⟨fun _ _ _ _ _ _ _ => (by rw [up1_f (by omega), up1_f (by omega)]), rfl, fun _ _ _ => (by rw [up1_f (by omega), up1_f (by omega)]), fun _ _ _ _ _ _ => (by rw [up1_f (by omega), up1_f (by omega)]), rfl, fun _ _ => rfl, fun _ _ => ⟨rfl, rfl, rfl⟩, fun k hk => rfl⟩ (fun q hq => by
      show upd (f 46) (10 * i + j) v q = upd (f 125) (10 * i + j) v q ∧ upd (f 125) (10 * i + j) v q &&& (-255) = 0
      by_cases e : q = (10 * i + j)
      · (rw [e, upd_s, upd_s]; exact ⟨rfl, c2⟩)
      · (rw [upd_n e, upd_n e]; exact c.2.1 q hq)) c.2.2.1.2.2 c⟩), (cpR_ag (f := f) ⟨fun k hk1 hk2 => rfl, fun k hk1 hk2 => rfl⟩ cp.2.2.1), (cpW_ag (f := f) ⟨rfl, rfl, fun _ _ _ => (by rw [up1_f (by omega), up1_f (by omega)]), fun _ _ _ => (by rw [up1_f (by omega), up1_f (by omega)])⟩ cp.2.2.2.1), (cpS_ag (f := f) ⟨⟨rfl, rfl⟩, ⟨rfl, rfl⟩, rfl, rfl, rfl⟩ cp.2.2.2.2.1), (cpM_ag (f := f) ⟨⟨rfl, rfl⟩, ⟨rfl, rfl⟩, fun _ _ _ => (by rw [up1_f (by omega), up1_f (by omega)]), rfl, fun _ _ _ => (by rw [up1_f (by omega), up1_f (by omega)]), fun _ _ _ _ _ => rfl⟩ cp.2.2.2.2.2)⟩
theorem st_code (cp : CpZ f) (a b v : Int32) : StP 98 178 [.int a, .int b, .int v] f := by
  by_cases c1 : twoT a b
  · by_cases c2 : v &&& (-255) = 0
    · obtain ⟨i, hi, e1⟩ := inN (n := 9) (by decide) c1.1
      obtain ⟨j, hj, e2⟩ := inN (n := 9) (by decide) c1.2.1
      have hi : i < 10 := by omega
      have hj : j < 10 := by omega
      have hrow : f 46 (10 * i + j) = f 125 (10 * i + j) := by
        obtain ⟨W, w, D, am, n, h, c⟩ := cp.2.1
        exact (c.2.1 _ (by omega)).1
      refine st_mk (P := fun r f1 => r = f 46 (10 * i + j) ∧ f1 = up2 f 46 (10 * i + j) v) ((sp_code3 f a b v c1 c2 hi e1 hj e2).mono (Nat.le_refl _) (fun u f1 q => ⟨_, q.1, rfl, q.2⟩)) (fun r f1 q => ?_) (d' := 4) (by decide) (by decide)
      rw [q.1, q.2]
      refine (mp_code3 (up2 f 46 (10 * i + j) v) a b v c1 c2 hi e1 hj e2).mono (Nat.le_refl _) (fun u f2 z => ⟨by rw [z.1, hrow]; rfl, ?_⟩)
      rw [z.2, up2_eq1, up2_eq1]
      exact cp_code (i := i) (j := j) cp c2
    · exact st_ret cp (sp_code2 f a b v c1 c2) (mp_code2 f a b v c1 c2) (by decide) (by decide)
  · exact st_ret cp (sp_code1 f a b v c1) (mp_code1 f a b v c1) (by decide) (by decide)
theorem cp_write (cp : CpZ f) {t t2 : Nat → Int32} {x : Nat} (hx : x ≤ 160) (ht : ∀ j, j < x → t j = t2 j) : CpZ (up1 (up1 (up1 (up1 f 12 t) 11 (upd (f 11) 1 (nI x))) 100 t2) 92 (upd (f 92) 10 (nI x))) := ⟨⟨x, hx, rfl, rfl, ht⟩, (by obtain ⟨W, w, D, am, n, h, c⟩ := cp.2.1; exact ⟨W, w, D, am, n, h, cpG_ag (f := f) ⟨fun _ _ _ _ _ => (by rw [up1_f (by omega), up1_f (by omega), up1_f (by omega), up1_f (by omega)]), rfl, fun _ _ _ => (by rw [up1_f (by omega), up1_f (by omega), up1_f (by omega), up1_f (by omega)]), fun _ _ _ _ => (by rw [up1_f (by omega), up1_f (by omega), up1_f (by omega), up1_f (by omega)]), rfl, fun _ _ => rfl, fun _ _ => ⟨rfl, rfl, rfl⟩, fun k hk => upd_n (by omega)⟩ c⟩), (cpR_ag (f := f) ⟨fun k hk1 hk2 => rfl, fun k hk1 hk2 => upd_n (by omega)⟩ cp.2.2.1), (cpW_ag (f := f) ⟨rfl, rfl, fun _ _ _ => (by rw [up1_f (by omega), up1_f (by omega), up1_f (by omega), up1_f (by omega)]), fun _ _ _ => (by rw [up1_f (by omega), up1_f (by omega), up1_f (by omega), up1_f (by omega)])⟩ cp.2.2.2.1), (cpS_ag (f := f) ⟨⟨rfl, rfl⟩, ⟨rfl, rfl⟩, rfl, rfl, rfl⟩ cp.2.2.2.2.1), (cpM_ag (f := f) ⟨⟨rfl, rfl⟩, ⟨rfl, rfl⟩, fun _ _ _ => (by rw [up1_f (by omega), up1_f (by omega), up1_f (by omega), up1_f (by omega)]), rfl, fun _ _ _ => (by rw [up1_f (by omega), up1_f (by omega), up1_f (by omega), up1_f (by omega)]), fun _ _ _ _ _ => rfl⟩ cp.2.2.2.2.2)⟩
theorem st_write (cp : CpZ f) (x : Int64) (a : Int32) : StP 86 143 [.long x, .int a] f := by
  obtain ⟨p, hp, t1, t2, t3⟩ := cp.1
  by_cases c1 : inR a 1 8
  · obtain ⟨n, hn1, hn8, rfl⟩ := inN1 (n := 8) (by decide) c1
    by_cases c2 : p + n ≤ 160
    · refine st_mk (P := fun r f1 => r = nI (p + n) ∧ ∃ t, f1 = up1 (up1 f 12 t) 11 (upd (f 11) 1 (nI (p + n))) ∧ (∀ j, j < p → t j = f 12 j) ∧ ∀ j, j < n → t (p + j) = byI x j) ((sp_write3 x hn1 hn8 c2 t1).mono (Nat.le_refl _) (fun u f1 q => ?_)) (fun r f1 q => ?_) (d' := 2) (by decide) (by decide)
      · obtain ⟨t, g, q1, q2, q3, q4, q5⟩ := q
        exact ⟨_, q1, rfl, t, by rw [q2, q3], q4, q5⟩
      · obtain ⟨q1, t, q2, q3, q4⟩ := q
        rw [q1, q2]
        refine (mp_write3 (f := up1 (up1 f 12 t) 11 (upd (f 11) 1 (nI (p + n)))) x hn1 hn8 c2 t2).mono (Nat.le_refl _) (fun u f2 z => ?_)
        obtain ⟨t2, g2, z1, z2, z3, z4, z5⟩ := z
        refine ⟨z1, ?_⟩
        rw [z2, z3]
        refine cp_write cp c2 (fun j hj => ?_)
        by_cases c : j < p
        · rw [q3 j c, z4 j c]; exact t3 j c
        · obtain ⟨i, rfl⟩ : ∃ i, j = p + i := ⟨j - p, by omega⟩
          rw [q4 i (by omega), z5 i (by omega)]
    · exact st_ret cp (sp_write2 x hn1 hn8 c2 hp t1) (mp_write2 x hn1 hn8 c2 hp t2) (by decide) (by decide)
  · exact st_ret cp (sp_write1 f x c1) (mp_write1 f x c1) (by decide) (by decide)
theorem cp_erase (cp : CpZ f) : CpZ (up1 (up1 f 11 (upd (f 11) 1 0)) 92 (upd (f 92) 10 0)) := ⟨⟨0, Nat.zero_le _, rfl, rfl, fun j hj => absurd hj (Nat.not_lt_zero _)⟩, (by obtain ⟨W, w, D, am, n, h, c⟩ := cp.2.1; exact ⟨W, w, D, am, n, h, cpG_ag (f := f) ⟨fun _ _ _ _ _ => (by rw [up1_f (by omega), up1_f (by omega)]), rfl, fun _ _ _ => (by rw [up1_f (by omega), up1_f (by omega)]), fun _ _ _ _ => (by rw [up1_f (by omega), up1_f (by omega)]), rfl, fun _ _ => rfl, fun _ _ => ⟨rfl, rfl, rfl⟩, fun k hk => upd_n (by omega)⟩ c⟩), (cpR_ag (f := f) ⟨fun k hk1 hk2 => rfl, fun k hk1 hk2 => upd_n (by omega)⟩ cp.2.2.1), (cpW_ag (f := f) ⟨rfl, rfl, fun _ _ _ => (by rw [up1_f (by omega), up1_f (by omega)]), fun _ _ _ => (by rw [up1_f (by omega), up1_f (by omega)])⟩ cp.2.2.2.1), (cpS_ag (f := f) ⟨⟨rfl, rfl⟩, ⟨rfl, rfl⟩, rfl, rfl, rfl⟩ cp.2.2.2.2.1), (cpM_ag (f := f) ⟨⟨rfl, rfl⟩, ⟨rfl, rfl⟩, fun _ _ _ => (by rw [up1_f (by omega), up1_f (by omega)]), rfl, fun _ _ _ => (by rw [up1_f (by omega), up1_f (by omega)]), fun _ _ _ _ _ => rfl⟩ cp.2.2.2.2.2)⟩
theorem st_erase (cp : CpZ f) : StP 87 144 [] f := by
  obtain ⟨p, hp, t1, t2, t3⟩ := cp.1
  refine st_mk (P := fun r f1 => r = f 11 1 ∧ f1 = up2 f 11 1 0) ((sp_erase f).mono (Nat.le_refl _) (fun u f1 q => ⟨_, q.1, rfl, q.2⟩)) (fun r f1 q => ?_) (d' := 1) (by decide) (by decide)
  rw [q.1, q.2]
  refine (mp_erase (up2 f 11 1 0)).mono (Nat.le_refl _) (fun u f2 z => ⟨by rw [z.1, t1]; exact congrArg (fun y => some (Value.int y)) t2, ?_⟩)
  rw [z.2, up2_eq1, up2_eq1]
  exact cp_erase cp
theorem ag_fc {P N K g : Nat → Int32} (h : g 1 = f 11 1) : AgX f (up1 (up1 (up1 (up1 f 15 P) 14 N) 13 K) 11 g) := ⟨⟨h, rfl, rfl, rfl⟩, ⟨fun _ _ _ _ _ => (by rw [up1_f (by omega), up1_f (by omega), up1_f (by omega), up1_f (by omega)]), rfl, fun _ _ _ => (by rw [up1_f (by omega), up1_f (by omega), up1_f (by omega), up1_f (by omega)]), fun _ _ _ _ => (by rw [up1_f (by omega), up1_f (by omega), up1_f (by omega), up1_f (by omega)]), rfl, fun _ _ => rfl, fun _ _ => ⟨rfl, rfl, rfl⟩, fun k hk => rfl⟩, ⟨fun k hk1 hk2 => rfl, fun k hk1 hk2 => rfl⟩, ⟨rfl, rfl, fun _ _ _ => (by rw [up1_f (by omega), up1_f (by omega), up1_f (by omega), up1_f (by omega)]), fun _ _ _ => (by rw [up1_f (by omega), up1_f (by omega), up1_f (by omega), up1_f (by omega)])⟩, ⟨⟨rfl, rfl⟩, ⟨rfl, rfl⟩, rfl, rfl, rfl⟩, ⟨⟨rfl, rfl⟩, ⟨rfl, rfl⟩, fun _ _ _ => (by rw [up1_f (by omega), up1_f (by omega), up1_f (by omega), up1_f (by omega)]), rfl, fun _ _ _ => (by rw [up1_f (by omega), up1_f (by omega), up1_f (by omega), up1_f (by omega)]), fun _ _ _ _ _ => rfl⟩⟩
theorem ag_fm {P M K A g : Nat → Int32} (hg : ∀ k, k ≠ 65 → k ≠ 66 → k ≠ 67 → k ≠ 68 → g k = f 92 k) (hA : ∀ j, j < 5 → A j = f 101 j) (hK : ∀ j, j < 40 → K j = f 102 j ∧ M j = f 103 j ∧ P j = f 104 j) : AgX f (up1 (up1 (up1 (up1 (up1 f 104 P) 103 M) 102 K) 101 A) 92 g) := ⟨⟨rfl, hg 10 (by decide) (by decide) (by decide) (by decide), rfl, rfl⟩, ⟨fun _ _ _ _ _ => (by rw [up1_f (by omega), up1_f (by omega), up1_f (by omega), up1_f (by omega), up1_f (by omega)]), rfl, fun _ _ _ => (by rw [up1_f (by omega), up1_f (by omega), up1_f (by omega), up1_f (by omega), up1_f (by omega)]), fun _ _ _ _ => (by rw [up1_f (by omega), up1_f (by omega), up1_f (by omega), up1_f (by omega), up1_f (by omega)]), rfl, hA, hK, fun k hk => hg k (by omega) (by omega) (by omega) (by omega)⟩, ⟨fun _ _ _ => rfl, fun k hk1 hk2 => hg k (by omega) (by omega) (by omega) (by omega)⟩, ⟨rfl, hg 52 (by decide) (by decide) (by decide) (by decide), fun _ _ _ => (by rw [up1_f (by omega), up1_f (by omega), up1_f (by omega), up1_f (by omega), up1_f (by omega)]), fun _ _ _ => (by rw [up1_f (by omega), up1_f (by omega), up1_f (by omega), up1_f (by omega), up1_f (by omega)])⟩, ⟨⟨rfl, rfl⟩, ⟨hg 53 (by decide) (by decide) (by decide) (by decide), hg 54 (by decide) (by decide) (by decide) (by decide)⟩, rfl, rfl, rfl⟩, ⟨⟨rfl, rfl⟩, ⟨hg 61 (by decide) (by decide) (by decide) (by decide), hg 63 (by decide) (by decide) (by decide) (by decide)⟩, fun _ _ _ => (by rw [up1_f (by omega), up1_f (by omega), up1_f (by omega), up1_f (by omega), up1_f (by omega)]), rfl, fun _ _ _ => (by rw [up1_f (by omega), up1_f (by omega), up1_f (by omega), up1_f (by omega), up1_f (by omega)]), fun _ _ _ _ _ => rfl⟩⟩
theorem sp_fault {f : HI} {T : Nat → Int32} {n : Nat} (hn1 : n ≤ 160) (hT : ∀ j, j < n → f 12 j = T j) (hg1 : f 11 1 = nI n) : Sp 9 88 [.ref 0] f (fun v f' => ∃ g K N P, v = some (.int (obI (psF T n 8 0 0).1)) ∧ f' = (up1 (up1 (up1 (up1 f 15 P) 14 N) 13 K) 11 g) ∧ g 1 = nI n) := by
  show wq 9 88 (fun v f' => ∃ g K N P, v = some (.int (obI (psF T n 8 0 0).1)) ∧ f' = (up1 (up1 (up1 (up1 f 15 P) 14 N) 13 K) 11 g) ∧ g 1 = nI n) 0 [(0, .ref 0)] [] f
  refine wq_run2 (pc' := 4) (L' := [(0, .ref 0)]) (S' := [.ref 11]) (f' := f) rfl ?_
  refine wq_call (sp_firstFault hn1 hT hg1) (Nat.le_of_ble_eq_true rfl) (pc' := 7) (L' := [(0, .ref 0)]) (S' := []) rfl (Nat.le_of_ble_eq_true rfl) rfl rfl (Nat.le_of_ble_eq_true rfl) (Nat.le_of_ble_eq_true rfl) ?_
  rintro v f9 ⟨g9, K9, N9, P9, e0, ef, hg9, hq9⟩
  subst e0
  subst ef
  exact wq_ret rfl ⟨g9, K9, N9, P9, rfl, rfl, hg9⟩
theorem st_fault (cp : CpZ f) : StP 88 151 [] f := by
  obtain ⟨p, hp, t1, t2, t3⟩ := cp.1
  refine st_mk (P := fun r f1 => r = obI (psF (f 12) p 8 0 0).1 ∧ ∃ g K N P, f1 = (up1 (up1 (up1 (up1 f 15 P) 14 N) 13 K) 11 g) ∧ g 1 = f 11 1) ((sp_fault (f := f) (T := f 12) hp (fun _ _ => rfl) t1).mono (Nat.le_refl _) (fun u f1 q => ?_)) (fun r f1 q => ?_) (d' := 4) (by decide) (by decide)
  · obtain ⟨g, K, N, P, q1, q2, q3⟩ := q
    exact ⟨_, q1, rfl, g, K, N, P, q2, q3.trans t1.symm⟩
  · obtain ⟨q1, g, K, N, P, q2, q3⟩ := q
    have cp1 := cp_ag (ag_fc (P := P) (N := N) (K := K) q3) cp
    rw [← q2] at cp1
    have r92 : f1 92 = f 92 := by rw [q2]; rfl
    have r100 : f1 100 = f 100 := by rw [q2]; rfl
    rw [q1]
    refine (mp_fault (f := f1) (T := f 12) (n := p) hp (fun j hj => by rw [r100]; exact (t3 j hj).symm) (by rw [r92]; exact t2)).mono (Nat.le_refl _) (fun u f2 z => ?_)
    obtain ⟨g', A', K', M', P', z1, z2, z3, z4, z5, _⟩ := z
    exact ⟨z1, by rw [z2]; exact cp_ag (ag_fm z3 z4 z5) cp1⟩
theorem cp_set0 (cp : CpZ f) {v : Int32} {g : Nat → Int32} (h1 : inR v 0 2) (hv : g 42 = v) (hg : ∀ k, k ≠ 42 → g k = f 92 k) : CpZ (up1 (up1 f 1 (upd (f 1) 0 v)) 92 g) := ⟨(cpT_ag (f := f) ⟨rfl, (hg 10 (by omega)), rfl, rfl⟩ cp.1), (by
    obtain ⟨W, w, D, am, n, h, c⟩ := cp.2.1
    exact ⟨W, w, D, am, n, h, cpG_ag1 (f := f) ⟨fun _ _ _ _ _ => (by rw [up1_f (by omega), up1_f (by omega)]), fun _ _ _ => (by rw [up1_f (by omega), up1_f (by omega)]), fun _ _ _ _ => (by rw [up1_f (by omega), up1_f (by omega)]), rfl, fun _ _ => rfl, fun _ _ => ⟨rfl, rfl, rfl⟩, fun k hk => hg k (by omega)⟩ ⟨(show v = g 42 from hv.symm), by
      show g 42 = 0 ∨ g 42 = 1 ∨ g 42 = 2
      rw [hv]
      obtain ⟨j, hj, e⟩ := inN (n := 2) (by decide) h1
      rw [e]
      match j, hj with
      | 0, _ => exact Or.inl rfl
      | 1, _ => exact Or.inr (Or.inl rfl)
      | 2, _ => exact Or.inr (Or.inr rfl)⟩ c⟩), (cpR_ag (f := f) ⟨fun k hk1 hk2 => upd_n (by omega), fun k hk1 hk2 => hg k (by omega)⟩ cp.2.2.1), (cpW_ag (f := f) ⟨rfl, (hg 52 (by omega)), fun _ _ _ => (by rw [up1_f (by omega), up1_f (by omega)]), fun _ _ _ => (by rw [up1_f (by omega), up1_f (by omega)])⟩ cp.2.2.2.1), (cpS_ag (f := f) ⟨⟨rfl, rfl⟩, ⟨(hg 53 (by omega)), (hg 54 (by omega))⟩, rfl, rfl, rfl⟩ cp.2.2.2.2.1), (cpM_ag (f := f) ⟨⟨rfl, rfl⟩, ⟨(hg 61 (by omega)), (hg 63 (by omega))⟩, fun _ _ _ => (by rw [up1_f (by omega), up1_f (by omega)]), rfl, fun _ _ _ => (by rw [up1_f (by omega), up1_f (by omega)]), fun _ _ _ _ _ => rfl⟩ cp.2.2.2.2.2)⟩
theorem cp_set1 (cp : CpZ f) {v : Int32} {g : Nat → Int32} (h1 : inR v 0 200) (hv : g 43 = v) (hg : ∀ k, k ≠ 43 → g k = f 92 k) : CpZ (up1 (up1 f 1 (upd (f 1) 1 v)) 92 g) := ⟨(cpT_ag (f := f) ⟨rfl, (hg 10 (by omega)), rfl, rfl⟩ cp.1), (by
    obtain ⟨W, w, D, am, n, h, c⟩ := cp.2.1
    exact ⟨W, w, D, am, n, h, cpG_ag (f := f) ⟨fun _ _ _ _ _ => (by rw [up1_f (by omega), up1_f (by omega)]), rfl, fun _ _ _ => (by rw [up1_f (by omega), up1_f (by omega)]), fun _ _ _ _ => (by rw [up1_f (by omega), up1_f (by omega)]), rfl, fun _ _ => rfl, fun _ _ => ⟨rfl, rfl, rfl⟩, fun k hk => hg k (by omega)⟩ c⟩), (by
    obtain ⟨r1, ⟨wa, r2, r3⟩, gg, r4, r5⟩ := cp.2.2.1
    refine ⟨fun q q1 q2 => ?_, ?_, ?_⟩
    · show upd (f 1) 1 v q = g (42 + q)
      by_cases e : q = 1
      · rw [e, upd_s]; exact hv.symm
      · rw [upd_n e, hg (42 + q) (by omega)]; exact r1 q q1 q2
    · obtain ⟨j, hj, e⟩ := inN (n := 200) (by decide) h1
      exact ⟨j, hj, hv.trans e⟩
    · exact ⟨gg, r4, (hg 46 (by decide)).trans r5⟩), (cpW_ag (f := f) ⟨rfl, (hg 52 (by omega)), fun _ _ _ => (by rw [up1_f (by omega), up1_f (by omega)]), fun _ _ _ => (by rw [up1_f (by omega), up1_f (by omega)])⟩ cp.2.2.2.1), (cpS_ag (f := f) ⟨⟨rfl, rfl⟩, ⟨(hg 53 (by omega)), (hg 54 (by omega))⟩, rfl, rfl, rfl⟩ cp.2.2.2.2.1), (cpM_ag (f := f) ⟨⟨rfl, rfl⟩, ⟨(hg 61 (by omega)), (hg 63 (by omega))⟩, fun _ _ _ => (by rw [up1_f (by omega), up1_f (by omega)]), rfl, fun _ _ _ => (by rw [up1_f (by omega), up1_f (by omega)]), fun _ _ _ _ _ => rfl⟩ cp.2.2.2.2.2)⟩
theorem cp_set2 (cp : CpZ f) {v : Int32} {g : Nat → Int32} (h1 : inR v 0 100000) (hv : g 44 = v) (hg : ∀ k, k ≠ 44 → g k = f 92 k) : CpZ (up1 (up1 f 1 (upd (f 1) 2 v)) 92 g) := ⟨(cpT_ag (f := f) ⟨rfl, (hg 10 (by omega)), rfl, rfl⟩ cp.1), (by
    obtain ⟨W, w, D, am, n, h, c⟩ := cp.2.1
    exact ⟨W, w, D, am, n, h, cpG_ag (f := f) ⟨fun _ _ _ _ _ => (by rw [up1_f (by omega), up1_f (by omega)]), rfl, fun _ _ _ => (by rw [up1_f (by omega), up1_f (by omega)]), fun _ _ _ _ => (by rw [up1_f (by omega), up1_f (by omega)]), rfl, fun _ _ => rfl, fun _ _ => ⟨rfl, rfl, rfl⟩, fun k hk => hg k (by omega)⟩ c⟩), (by
    obtain ⟨r1, ⟨wa, r2, r3⟩, gg, r4, r5⟩ := cp.2.2.1
    refine ⟨fun q q1 q2 => ?_, ?_, ?_⟩
    · show upd (f 1) 2 v q = g (42 + q)
      by_cases e : q = 2
      · rw [e, upd_s]; exact hv.symm
      · rw [upd_n e, hg (42 + q) (by omega)]; exact r1 q q1 q2
    · exact ⟨wa, r2, (hg 43 (by decide)).trans r3⟩
    · exact ⟨gg, r4, (hg 46 (by decide)).trans r5⟩), (cpW_ag (f := f) ⟨rfl, (hg 52 (by omega)), fun _ _ _ => (by rw [up1_f (by omega), up1_f (by omega)]), fun _ _ _ => (by rw [up1_f (by omega), up1_f (by omega)])⟩ cp.2.2.2.1), (cpS_ag (f := f) ⟨⟨rfl, rfl⟩, ⟨(hg 53 (by omega)), (hg 54 (by omega))⟩, rfl, rfl, rfl⟩ cp.2.2.2.2.1), (cpM_ag (f := f) ⟨⟨rfl, rfl⟩, ⟨(hg 61 (by omega)), (hg 63 (by omega))⟩, fun _ _ _ => (by rw [up1_f (by omega), up1_f (by omega)]), rfl, fun _ _ _ => (by rw [up1_f (by omega), up1_f (by omega)]), fun _ _ _ _ _ => rfl⟩ cp.2.2.2.2.2)⟩
theorem cp_set3 (cp : CpZ f) {v : Int32} {g : Nat → Int32} (h1 : inR v 0 99) (hv : g 45 = v) (hg : ∀ k, k ≠ 45 → g k = f 92 k) : CpZ (up1 (up1 f 1 (upd (f 1) 3 v)) 92 g) := ⟨(cpT_ag (f := f) ⟨rfl, (hg 10 (by omega)), rfl, rfl⟩ cp.1), (by
    obtain ⟨W, w, D, am, n, h, c⟩ := cp.2.1
    exact ⟨W, w, D, am, n, h, cpG_ag (f := f) ⟨fun _ _ _ _ _ => (by rw [up1_f (by omega), up1_f (by omega)]), rfl, fun _ _ _ => (by rw [up1_f (by omega), up1_f (by omega)]), fun _ _ _ _ => (by rw [up1_f (by omega), up1_f (by omega)]), rfl, fun _ _ => rfl, fun _ _ => ⟨rfl, rfl, rfl⟩, fun k hk => hg k (by omega)⟩ c⟩), (by
    obtain ⟨r1, ⟨wa, r2, r3⟩, gg, r4, r5⟩ := cp.2.2.1
    refine ⟨fun q q1 q2 => ?_, ?_, ?_⟩
    · show upd (f 1) 3 v q = g (42 + q)
      by_cases e : q = 3
      · rw [e, upd_s]; exact hv.symm
      · rw [upd_n e, hg (42 + q) (by omega)]; exact r1 q q1 q2
    · exact ⟨wa, r2, (hg 43 (by decide)).trans r3⟩
    · exact ⟨gg, r4, (hg 46 (by decide)).trans r5⟩), (cpW_ag (f := f) ⟨rfl, (hg 52 (by omega)), fun _ _ _ => (by rw [up1_f (by omega), up1_f (by omega)]), fun _ _ _ => (by rw [up1_f (by omega), up1_f (by omega)])⟩ cp.2.2.2.1), (cpS_ag (f := f) ⟨⟨rfl, rfl⟩, ⟨(hg 53 (by omega)), (hg 54 (by omega))⟩, rfl, rfl, rfl⟩ cp.2.2.2.2.1), (cpM_ag (f := f) ⟨⟨rfl, rfl⟩, ⟨(hg 61 (by omega)), (hg 63 (by omega))⟩, fun _ _ _ => (by rw [up1_f (by omega), up1_f (by omega)]), rfl, fun _ _ _ => (by rw [up1_f (by omega), up1_f (by omega)]), fun _ _ _ _ _ => rfl⟩ cp.2.2.2.2.2)⟩
theorem cp_set4 (cp : CpZ f) {v : Int32} {g : Nat → Int32} (h1 : inR v 0 9) (hv : g 46 = v) (hg : ∀ k, k ≠ 46 → g k = f 92 k) : CpZ (up1 (up1 f 1 (upd (f 1) 4 v)) 92 g) := ⟨(cpT_ag (f := f) ⟨rfl, (hg 10 (by omega)), rfl, rfl⟩ cp.1), (by
    obtain ⟨W, w, D, am, n, h, c⟩ := cp.2.1
    exact ⟨W, w, D, am, n, h, cpG_ag (f := f) ⟨fun _ _ _ _ _ => (by rw [up1_f (by omega), up1_f (by omega)]), rfl, fun _ _ _ => (by rw [up1_f (by omega), up1_f (by omega)]), fun _ _ _ _ => (by rw [up1_f (by omega), up1_f (by omega)]), rfl, fun _ _ => rfl, fun _ _ => ⟨rfl, rfl, rfl⟩, fun k hk => hg k (by omega)⟩ c⟩), (by
    obtain ⟨r1, ⟨wa, r2, r3⟩, gg, r4, r5⟩ := cp.2.2.1
    refine ⟨fun q q1 q2 => ?_, ?_, ?_⟩
    · show upd (f 1) 4 v q = g (42 + q)
      by_cases e : q = 4
      · rw [e, upd_s]; exact hv.symm
      · rw [upd_n e, hg (42 + q) (by omega)]; exact r1 q q1 q2
    · exact ⟨wa, r2, (hg 43 (by decide)).trans r3⟩
    · obtain ⟨j, hj, e⟩ := inN (n := 9) (by decide) h1
      exact ⟨j, hj, hv.trans e⟩), (cpW_ag (f := f) ⟨rfl, (hg 52 (by omega)), fun _ _ _ => (by rw [up1_f (by omega), up1_f (by omega)]), fun _ _ _ => (by rw [up1_f (by omega), up1_f (by omega)])⟩ cp.2.2.2.1), (cpS_ag (f := f) ⟨⟨rfl, rfl⟩, ⟨(hg 53 (by omega)), (hg 54 (by omega))⟩, rfl, rfl, rfl⟩ cp.2.2.2.2.1), (cpM_ag (f := f) ⟨⟨rfl, rfl⟩, ⟨(hg 61 (by omega)), (hg 63 (by omega))⟩, fun _ _ _ => (by rw [up1_f (by omega), up1_f (by omega)]), rfl, fun _ _ _ => (by rw [up1_f (by omega), up1_f (by omega)]), fun _ _ _ _ _ => rfl⟩ cp.2.2.2.2.2)⟩
theorem cp_set5 (cp : CpZ f) {v : Int32} {g : Nat → Int32} (h1 : inR v (-1000000) 1000000) (hv : g 47 = v) (hg : ∀ k, k ≠ 47 → g k = f 92 k) : CpZ (up1 (up1 f 1 (upd (f 1) 5 v)) 92 g) := ⟨(cpT_ag (f := f) ⟨rfl, (hg 10 (by omega)), rfl, rfl⟩ cp.1), (by
    obtain ⟨W, w, D, am, n, h, c⟩ := cp.2.1
    exact ⟨W, w, D, am, n, h, cpG_ag (f := f) ⟨fun _ _ _ _ _ => (by rw [up1_f (by omega), up1_f (by omega)]), rfl, fun _ _ _ => (by rw [up1_f (by omega), up1_f (by omega)]), fun _ _ _ _ => (by rw [up1_f (by omega), up1_f (by omega)]), rfl, fun _ _ => rfl, fun _ _ => ⟨rfl, rfl, rfl⟩, fun k hk => hg k (by omega)⟩ c⟩), (by
    obtain ⟨r1, ⟨wa, r2, r3⟩, gg, r4, r5⟩ := cp.2.2.1
    refine ⟨fun q q1 q2 => ?_, ?_, ?_⟩
    · show upd (f 1) 5 v q = g (42 + q)
      by_cases e : q = 5
      · rw [e, upd_s]; exact hv.symm
      · rw [upd_n e, hg (42 + q) (by omega)]; exact r1 q q1 q2
    · exact ⟨wa, r2, (hg 43 (by decide)).trans r3⟩
    · exact ⟨gg, r4, (hg 46 (by decide)).trans r5⟩), (cpW_ag (f := f) ⟨rfl, (hg 52 (by omega)), fun _ _ _ => (by rw [up1_f (by omega), up1_f (by omega)]), fun _ _ _ => (by rw [up1_f (by omega), up1_f (by omega)])⟩ cp.2.2.2.1), (cpS_ag (f := f) ⟨⟨rfl, rfl⟩, ⟨(hg 53 (by omega)), (hg 54 (by omega))⟩, rfl, rfl, rfl⟩ cp.2.2.2.2.1), (cpM_ag (f := f) ⟨⟨rfl, rfl⟩, ⟨(hg 61 (by omega)), (hg 63 (by omega))⟩, fun _ _ _ => (by rw [up1_f (by omega), up1_f (by omega)]), rfl, fun _ _ _ => (by rw [up1_f (by omega), up1_f (by omega)]), fun _ _ _ _ _ => rfl⟩ cp.2.2.2.2.2)⟩
theorem cp_set6 (cp : CpZ f) {v : Int32} {g : Nat → Int32} (h1 : inR v (-1) 99) (hv : g 48 = v) (hg : ∀ k, k ≠ 48 → g k = f 92 k) : CpZ (up1 (up1 f 1 (upd (f 1) 6 v)) 92 g) := ⟨(cpT_ag (f := f) ⟨rfl, (hg 10 (by omega)), rfl, rfl⟩ cp.1), (by
    obtain ⟨W, w, D, am, n, h, c⟩ := cp.2.1
    exact ⟨W, w, D, am, n, h, cpG_ag (f := f) ⟨fun _ _ _ _ _ => (by rw [up1_f (by omega), up1_f (by omega)]), rfl, fun _ _ _ => (by rw [up1_f (by omega), up1_f (by omega)]), fun _ _ _ _ => (by rw [up1_f (by omega), up1_f (by omega)]), rfl, fun _ _ => rfl, fun _ _ => ⟨rfl, rfl, rfl⟩, fun k hk => hg k (by omega)⟩ c⟩), (by
    obtain ⟨r1, ⟨wa, r2, r3⟩, gg, r4, r5⟩ := cp.2.2.1
    refine ⟨fun q q1 q2 => ?_, ?_, ?_⟩
    · show upd (f 1) 6 v q = g (42 + q)
      by_cases e : q = 6
      · rw [e, upd_s]; exact hv.symm
      · rw [upd_n e, hg (42 + q) (by omega)]; exact r1 q q1 q2
    · exact ⟨wa, r2, (hg 43 (by decide)).trans r3⟩
    · exact ⟨gg, r4, (hg 46 (by decide)).trans r5⟩), (cpW_ag (f := f) ⟨rfl, (hg 52 (by omega)), fun _ _ _ => (by rw [up1_f (by omega), up1_f (by omega)]), fun _ _ _ => (by rw [up1_f (by omega), up1_f (by omega)])⟩ cp.2.2.2.1), (cpS_ag (f := f) ⟨⟨rfl, rfl⟩, ⟨(hg 53 (by omega)), (hg 54 (by omega))⟩, rfl, rfl, rfl⟩ cp.2.2.2.2.1), (cpM_ag (f := f) ⟨⟨rfl, rfl⟩, ⟨(hg 61 (by omega)), (hg 63 (by omega))⟩, fun _ _ _ => (by rw [up1_f (by omega), up1_f (by omega)]), rfl, fun _ _ _ => (by rw [up1_f (by omega), up1_f (by omega)]), fun _ _ _ _ _ => rfl⟩ cp.2.2.2.2.2)⟩
theorem st_set (cp : CpZ f) (a v : Int32) : StP 99 179 [.int a, .int v] f := by
  by_cases c : inR a 0 6
  · obtain ⟨k, hk, rfl⟩ := inN (n := 6) (by decide) c
    match k, hk with
    | 0, _ =>
      by_cases c1 : inR v 0 2
      · refine st_mk (P := fun r f1 => r = 1 ∧ f1 = up2 f 1 0 v) ((sp_set0 f v c1).mono (Nat.le_refl _) (fun u f1 q => ⟨_, q.1, rfl, q.2⟩)) (fun r f1 q => ?_) (d' := 2) (by decide) (by decide)
        rw [q.1, q.2]
        refine (mp_set0 (up2 f 1 0 v) v c1).mono (Nat.le_refl _) (fun u f2 z => ⟨z.1, ?_⟩)
        obtain ⟨_, g, z2, z3, z4⟩ := z
        rw [z2, up2_eq1]
        exact cp_set0 cp c1 z3 z4
      · exact st_ret cp (sp_set0n f v c1) (mp_set0n f v c1) (by decide) (by decide)
    | 1, _ =>
      by_cases c1 : inR v 0 200
      · refine st_mk (P := fun r f1 => r = 1 ∧ f1 = up2 f 1 1 v) ((sp_set1 f v c1).mono (Nat.le_refl _) (fun u f1 q => ⟨_, q.1, rfl, q.2⟩)) (fun r f1 q => ?_) (d' := 2) (by decide) (by decide)
        rw [q.1, q.2]
        refine (mp_set1 (up2 f 1 1 v) v c1).mono (Nat.le_refl _) (fun u f2 z => ⟨z.1, ?_⟩)
        obtain ⟨_, g, z2, z3, z4⟩ := z
        rw [z2, up2_eq1]
        exact cp_set1 cp c1 z3 z4
      · exact st_ret cp (sp_set1n f v c1) (mp_set1n f v c1) (by decide) (by decide)
    | 2, _ =>
      by_cases c1 : inR v 0 100000
      · refine st_mk (P := fun r f1 => r = 1 ∧ f1 = up2 f 1 2 v) ((sp_set2 f v c1).mono (Nat.le_refl _) (fun u f1 q => ⟨_, q.1, rfl, q.2⟩)) (fun r f1 q => ?_) (d' := 2) (by decide) (by decide)
        rw [q.1, q.2]
        refine (mp_set2 (up2 f 1 2 v) v c1).mono (Nat.le_refl _) (fun u f2 z => ⟨z.1, ?_⟩)
        obtain ⟨_, g, z2, z3, z4⟩ := z
        rw [z2, up2_eq1]
        exact cp_set2 cp c1 z3 z4
      · exact st_ret cp (sp_set2n f v c1) (mp_set2n f v c1) (by decide) (by decide)
    | 3, _ =>
      by_cases c1 : inR v 0 99
      · refine st_mk (P := fun r f1 => r = 1 ∧ f1 = up2 f 1 3 v) ((sp_set3 f v c1).mono (Nat.le_refl _) (fun u f1 q => ⟨_, q.1, rfl, q.2⟩)) (fun r f1 q => ?_) (d' := 2) (by decide) (by decide)
        rw [q.1, q.2]
        refine (mp_set3 (up2 f 1 3 v) v c1).mono (Nat.le_refl _) (fun u f2 z => ⟨z.1, ?_⟩)
        obtain ⟨_, g, z2, z3, z4⟩ := z
        rw [z2, up2_eq1]
        exact cp_set3 cp c1 z3 z4
      · exact st_ret cp (sp_set3n f v c1) (mp_set3n f v c1) (by decide) (by decide)
    | 4, _ =>
      by_cases c1 : inR v 0 9
      · refine st_mk (P := fun r f1 => r = 1 ∧ f1 = up2 f 1 4 v) ((sp_set4 f v c1).mono (Nat.le_refl _) (fun u f1 q => ⟨_, q.1, rfl, q.2⟩)) (fun r f1 q => ?_) (d' := 2) (by decide) (by decide)
        rw [q.1, q.2]
        refine (mp_set4 (up2 f 1 4 v) v c1).mono (Nat.le_refl _) (fun u f2 z => ⟨z.1, ?_⟩)
        obtain ⟨_, g, z2, z3, z4⟩ := z
        rw [z2, up2_eq1]
        exact cp_set4 cp c1 z3 z4
      · exact st_ret cp (sp_set4n f v c1) (mp_set4n f v c1) (by decide) (by decide)
    | 5, _ =>
      by_cases c1 : inR v (-1000000) 1000000
      · refine st_mk (P := fun r f1 => r = 1 ∧ f1 = up2 f 1 5 v) ((sp_set5 f v c1).mono (Nat.le_refl _) (fun u f1 q => ⟨_, q.1, rfl, q.2⟩)) (fun r f1 q => ?_) (d' := 2) (by decide) (by decide)
        rw [q.1, q.2]
        refine (mp_set5 (up2 f 1 5 v) v c1).mono (Nat.le_refl _) (fun u f2 z => ⟨z.1, ?_⟩)
        obtain ⟨_, g, z2, z3, z4⟩ := z
        rw [z2, up2_eq1]
        exact cp_set5 cp c1 z3 z4
      · exact st_ret cp (sp_set5n f v c1) (mp_set5n f v c1) (by decide) (by decide)
    | 6, _ =>
      by_cases c1 : inR v (-1) 99
      · refine st_mk (P := fun r f1 => r = 1 ∧ f1 = up2 f 1 6 v) ((sp_set6 f v c1).mono (Nat.le_refl _) (fun u f1 q => ⟨_, q.1, rfl, q.2⟩)) (fun r f1 q => ?_) (d' := 2) (by decide) (by decide)
        rw [q.1, q.2]
        refine (mp_set6 (up2 f 1 6 v) v c1).mono (Nat.le_refl _) (fun u f2 z => ⟨z.1, ?_⟩)
        obtain ⟨_, g, z2, z3, z4⟩ := z
        rw [z2, up2_eq1]
        exact cp_set6 cp c1 z3 z4
      · exact st_ret cp (sp_set6n f v c1) (mp_set6n f v c1) (by decide) (by decide)
    | k + 7, hk => exact absurd hk (by omega)
  · exact st_ret cp (sp_setX f a v c) (mp_setX f a v c) (by decide) (by decide)
theorem cp_met (cp : CpZ f) {c : Nat} {m t h : Int32} (hc : f 71 6 = nI c) (hc12 : c < 12) (ht : ∃ x : Nat, x < 10 ∧ t = nI x) (hh : ∃ y : Nat, y ≤ 9000 ∧ h = nI y) : CpZ (up1 (up1 (up1 (up1 (up1 (up1 (up1 (up1 f 71 (upd (f 71) 6 (nI (c + 1)))) 74 (upd (f 74) c h)) 73 (upd (f 73) c t)) 72 (upd (f 72) c m)) 92 (upd (f 92) 52 (nI (c + 1)))) 128 (upd (f 128) c h)) 127 (upd (f 127) c t)) 126 (upd (f 126) c m)) := ⟨(cpT_ag (f := f) ⟨rfl, rfl, rfl, rfl⟩ cp.1), (by obtain ⟨W, w, D, am, n, h, c⟩ := cp.2.1; exact ⟨W, w, D, am, n, h, cpG_ag (f := f) ⟨fun _ _ _ _ _ => (by rw [up1_f (by omega), up1_f (by omega), up1_f (by omega), up1_f (by omega), up1_f (by omega), up1_f (by omega), up1_f (by omega), up1_f (by omega)]), rfl, fun _ _ _ => (by rw [up1_f (by omega), up1_f (by omega), up1_f (by omega), up1_f (by omega), up1_f (by omega), up1_f (by omega), up1_f (by omega), up1_f (by omega)]), fun _ _ _ _ => (by rw [up1_f (by omega), up1_f (by omega), up1_f (by omega), up1_f (by omega), up1_f (by omega), up1_f (by omega), up1_f (by omega), up1_f (by omega)]), rfl, fun _ _ => rfl, fun _ _ => ⟨rfl, rfl, rfl⟩, fun k hk => upd_n (by omega)⟩ c⟩), (cpR_ag (f := f) ⟨fun k hk1 hk2 => rfl, fun k hk1 hk2 => upd_n (by omega)⟩ cp.2.2.1), (by
    obtain ⟨c9, w1, w2, w3, w4, w5, w6, w7⟩ := cp.2.2.2.1
    have e : c9 = c := (nI_eq (a := c9) (b := c) (by omega) (by omega)).mp (w2.symm.trans hc)
    refine ⟨c + 1, by omega, rfl, rfl, ?_, ?_, ?_, fun i hi => ?_⟩
    · show upd (f 72) c m = upd (f 126) c m
      rw [w4]
    · show upd (f 73) c t = upd (f 127) c t
      rw [w5]
    · show upd (f 74) c h = upd (f 128) c h
      rw [w6]
    · show (∃ x, x < 10 ∧ upd (f 127) c t i = nI x) ∧ ∃ y, y ≤ 9000 ∧ upd (f 128) c h i = nI y
      by_cases q : i = c
      · rw [q, upd_s, upd_s]; exact ⟨ht, hh⟩
      · rw [upd_n q, upd_n q]; exact w7 i (by omega)), (cpS_ag (f := f) ⟨⟨rfl, rfl⟩, ⟨rfl, rfl⟩, rfl, rfl, rfl⟩ cp.2.2.2.2.1), (cpM_ag (f := f) ⟨⟨rfl, rfl⟩, ⟨rfl, rfl⟩, fun _ _ _ => (by rw [up1_f (by omega), up1_f (by omega), up1_f (by omega), up1_f (by omega), up1_f (by omega), up1_f (by omega), up1_f (by omega), up1_f (by omega)]), rfl, fun _ _ _ => (by rw [up1_f (by omega), up1_f (by omega), up1_f (by omega), up1_f (by omega), up1_f (by omega), up1_f (by omega), up1_f (by omega), up1_f (by omega)]), fun _ _ _ _ _ => rfl⟩ cp.2.2.2.2.2)⟩
theorem st_met (cp : CpZ f) (m t h : Int32) : StP 100 180 [.int m, .int t, .int h] f := by
  obtain ⟨c, w1, w2, w3, _⟩ := id cp.2.2.2.1
  by_cases c1 : inR m 0 5 ∧ inR t 0 9
  · by_cases c2 : inR h 0 9000
    · by_cases c3 : c = 12
      · exact st_ret cp (sp_met3 f c1 c2 w2 c3) (mp_met3 f c1 c2 w3 c3) (by decide) (by decide)
      · have hc : c < 12 := by omega
        obtain ⟨x, hx, ex⟩ := inN (n := 9) (by decide) c1.2
        obtain ⟨y, hy, ey⟩ := inN (n := 9000) (by decide) c2
        refine st_mk (P := fun r f1 => r = nI (c + 1) ∧ f1 = (up1 (up1 (up1 (up1 f 71 (upd (f 71) 6 (nI (c + 1)))) 74 (upd (f 74) c h)) 73 (upd (f 73) c t)) 72 (upd (f 72) c m))) ((sp_met4 f c1 c2 w2 hc).mono (Nat.le_refl _) (fun u f1 q => ⟨_, q.1, rfl, q.2⟩)) (fun r f1 q => ?_) (d' := 3) (by decide) (by decide)
        rw [q.1, q.2]
        refine (mp_met4 (up1 (up1 (up1 (up1 f 71 (upd (f 71) 6 (nI (c + 1)))) 74 (upd (f 74) c h)) 73 (upd (f 73) c t)) 72 (upd (f 72) c m)) c1 c2 (c := c) w3 hc).mono (Nat.le_refl _) (fun u f2 z => ⟨z.1, ?_⟩)
        rw [z.2]
        exact cp_met cp w2 hc ⟨x, by omega, ex⟩ ⟨y, hy, ey⟩
    · exact st_ret cp (sp_met2 f c1 c2) (mp_met2 f c1 c2) (by decide) (by decide)
  · exact st_ret cp (sp_met1 f c1) (mp_met1 f c1) (by decide) (by decide)
end P92
