/-! calls on both sides: doors, walks, wants, prices, years, plans -/
theorem sp_underX (f : HI) {a w : Int32} (h1 : inR a 0 (f 16 1 - 1)) (h2 : ¬ inR w 0 1) : Sp 3 112 [.ref 0, .int a, .int w] f (Ret (-3) f) := by
  show wq 3 112 (Ret (-3) f) 0 [(0, .ref 0), (1, .int a), (2, .int w)] [] f
  refine wq_run2 (pc' := 2) (L' := [(0, .ref 0), (1, .int a), (2, .int w)]) (S' := [.int a, .ref 0]) (f' := f) rfl ?_
  refine wq_callI (r := (b2i (inR a 0 ((f 16 1) - 1)))) (sp_isAct f a) (Nat.le_of_ble_eq_true rfl) (pc' := 5) (L' := [(0, .ref 0), (1, .int a), (2, .int w)]) (S' := []) rfl (Nat.le_of_ble_eq_true rfl) rfl rfl (Nat.le_of_ble_eq_true rfl) (Nat.le_of_ble_eq_true rfl) ?_
  refine wq_if (c := (b2i (inR a 0 ((f 16 1) - 1))) = 0) (p1 := 8) (L1 := [(0, .ref 0), (1, .int a), (2, .int w)]) (S1 := []) (p2 := 11) (L2 := [(0, .ref 0), (1, .int a), (2, .int w)]) (S2 := []) rfl (fun q => absurd q (b2i_n0.mpr h1)) (fun _ => ?_)
  refine wq_run3 (pc' := 14) (L' := [(0, .ref 0), (1, .int a), (2, .int w)]) (S' := [.int 1, .int 0, .int w]) (f' := f) rfl ?_
  refine wq_callI (r := (b2i (inR w 0 1))) (sp_within f w 0 1) (Nat.le_of_ble_eq_true rfl) (pc' := 17) (L' := [(0, .ref 0), (1, .int a), (2, .int w)]) (S' := []) rfl (Nat.le_of_ble_eq_true rfl) rfl rfl (Nat.le_of_ble_eq_true rfl) (Nat.le_of_ble_eq_true rfl) ?_
  refine wq_if (c := (b2i (inR w 0 1)) = 0) (p1 := 20) (L1 := [(0, .ref 0), (1, .int a), (2, .int w)]) (S1 := []) (p2 := 23) (L2 := [(0, .ref 0), (1, .int a), (2, .int w)]) (S2 := []) rfl (fun _ => ?_) (fun q => absurd (b2i_0.mpr h2) q)
  refine wq_run1 (pc' := 22) (L' := [(0, .ref 0), (1, .int a), (2, .int w)]) (S' := [.int (-3)]) (f' := f) rfl ?_
  exact wq_ret rfl ⟨rfl, rfl⟩
theorem mp_underX (f : HI) {a w : Int32} (h1 : inR a 0 (f 92 17 - 1)) (h2 : ¬ inR w 0 1) : Sp 3 205 [.ref 92, .int a, .int w] f (Ret (-3) f) := by
  show wq 3 205 (Ret (-3) f) 0 [(0, .ref 92), (1, .int a), (2, .int w)] [] f
  refine wq_run2 (pc' := 2) (L' := [(0, .ref 92), (1, .int a), (2, .int w)]) (S' := [.int a, .ref 92]) (f' := f) rfl ?_
  refine wq_callI (r := (b2i (inR a 0 ((f 92 17) - 1)))) (mp_isAct f a) (Nat.le_of_ble_eq_true rfl) (pc' := 5) (L' := [(0, .ref 92), (1, .int a), (2, .int w)]) (S' := []) rfl (Nat.le_of_ble_eq_true rfl) rfl rfl (Nat.le_of_ble_eq_true rfl) (Nat.le_of_ble_eq_true rfl) ?_
  refine wq_if (c := (b2i (inR a 0 ((f 92 17) - 1))) = 0) (p1 := 8) (L1 := [(0, .ref 92), (1, .int a), (2, .int w)]) (S1 := []) (p2 := 11) (L2 := [(0, .ref 92), (1, .int a), (2, .int w)]) (S2 := []) rfl (fun q => absurd q (b2i_n0.mpr h1)) (fun _ => ?_)
  refine wq_run4 (pc' := 15) (L' := [(0, .ref 92), (1, .int a), (2, .int w)]) (S' := [.long 1, .long 0, .long w.toInt64]) (f' := f) rfl ?_
  refine wq_callI (r := (b2i (inR w 0 1))) (mp_in f w 0 1) (Nat.le_of_ble_eq_true rfl) (pc' := 18) (L' := [(0, .ref 92), (1, .int a), (2, .int w)]) (S' := []) rfl (Nat.le_of_ble_eq_true rfl) rfl rfl (Nat.le_of_ble_eq_true rfl) (Nat.le_of_ble_eq_true rfl) ?_
  refine wq_if (c := (b2i (inR w 0 1)) = 0) (p1 := 21) (L1 := [(0, .ref 92), (1, .int a), (2, .int w)]) (S1 := []) (p2 := 24) (L2 := [(0, .ref 92), (1, .int a), (2, .int w)]) (S2 := []) rfl (fun _ => ?_) (fun q => absurd (b2i_0.mpr h2) q)
  refine wq_run1 (pc' := 23) (L' := [(0, .ref 92), (1, .int a), (2, .int w)]) (S' := [.int (-3)]) (f' := f) rfl ?_
  exact wq_ret rfl ⟨rfl, rfl⟩
theorem zT_T {V T T' : Nat → Int32} {s g : Int32} {q : Nat → Int32} {n : Nat} (h : ∀ v, v < n → T v = T' v) : ∀ k v, v < n → zT V s g q T k v = zT V s g q T' k v
  | 0, v, hv => h v hv
  | k + 1, v, hv => nT_congr rfl (zT_T h k v hv)
theorem z_T {P V T T' : Nat → Int32} {s g fx ea lim : Int32} {q : Nat → Int32} {n : Nat} (h : ∀ v, v < n → T v = T' v) : ∀ k, zL P V s g q T n k = zL P V s g q T' n k ∧ zD P V s g fx ea q T n k = zD P V s g fx ea q T' n k ∧ zB P V s g fx ea lim q T n k = zB P V s g fx ea lim q T' n k
  | 0 => ⟨rfl, rfl, rfl⟩
  | k + 1 => by
    obtain ⟨h1, h2, h3⟩ := z_T (P := P) (V := V) (s := s) (g := g) (fx := fx) (ea := ea) (lim := lim) (q := q) h k
    have e : pS P V (zT V s g q T k) s (q k) n = pS P V (zT V s g q T' k) s (q k) n := pS_congr (fun w hw => ⟨rfl, rfl, zT_T h k w hw⟩)
    have e2 : zD P V s g fx ea q T n (k + 1) = zD P V s g fx ea q T' n (k + 1) := by rw [zD, zD, e, h2]
    refine ⟨by rw [zL, zL, e, h1], e2, ?_⟩
    rw [zB, zB, h3, e2]
theorem ev_T {P V T T' : Nat → Int32} {s fx ea : Int32} {n : Nat} {r : Int32} (h : ∀ v, v < n → T v = T' v) (q : evR P V T s fx ea n r) : evR P V T' s fx ea n r := by
  have e : ∀ j, pS P V T s (nI j) n = pS P V T' s (nI j) n := fun j => pS_congr (fun w hw => ⟨rfl, rfl, h w hw⟩)
  unfold evR at q ⊢
  simp only [e] at q
  exact q
theorem u_Tt {p P V T T' : Nat → Int32} {s : Int32} : ∀ {n : Nat}, (∀ v, v < n → T v = T' v) → uL p P V T s n = uL p P V T' s n ∧ uM p P V T s n = uM p P V T' s n
  | 0, _ => ⟨rfl, rfl⟩
  | n + 1, h => by
    obtain ⟨h1, h2⟩ := u_Tt (p := p) (P := P) (V := V) (s := s) (n := n) (fun v hv => h v (by omega))
    rw [uL, uL, uM, uM, h1, h2, h n (Nat.lt_succ_self _)]
    exact ⟨rfl, rfl⟩
theorem pl_T {P V pr T T' : Nat → Int32} {s g fx ea lim : Int32} {w c n : Nat} (h : ∀ v, v < w → T v = T' v) : pL P V s g pr T w c n = pL P V s g pr T' w c n ∧ pD P V s g fx ea pr T w c n = pD P V s g fx ea pr T' w c n ∧ pB P V s g fx ea lim pr T w c n = pB P V s g fx ea lim pr T' w c n :=
  ⟨funext (fun _ => (z_T (fx := 0) (ea := 0) (lim := 0) h n).1), funext (fun _ => (z_T (lim := 0) h n).2.1), funext (fun _ => (z_T h n).2.2)⟩
section P93
variable {f : HI}
theorem ag_92 {g : Nat → Int32} (hg : ∀ k, k < 65 → g k = f 92 k) : AgX f (up1 f 92 g) := ⟨⟨rfl, hg 10 (by decide), rfl, rfl⟩, ⟨fun _ _ _ _ _ => (by rw [up1_f (by omega)]), rfl, fun _ _ _ => (by rw [up1_f (by omega)]), fun _ _ _ _ => (by rw [up1_f (by omega)]), rfl, fun _ _ => rfl, fun _ _ => ⟨rfl, rfl, rfl⟩, fun k hk => hg k (by omega)⟩, ⟨fun _ _ _ => rfl, fun k _ _ => hg k (by omega)⟩, ⟨rfl, hg 52 (by decide), fun _ _ _ => (by rw [up1_f (by omega)]), fun _ _ _ => (by rw [up1_f (by omega)])⟩, ⟨⟨rfl, rfl⟩, ⟨hg 53 (by decide), hg 54 (by decide)⟩, rfl, rfl, rfl⟩, ⟨⟨rfl, rfl⟩, ⟨hg 61 (by decide), hg 63 (by decide)⟩, fun _ _ _ => (by rw [up1_f (by omega)]), rfl, fun _ _ _ => (by rw [up1_f (by omega)]), fun _ _ _ _ _ => rfl⟩⟩
theorem ag_83 {g : Nat → Int32} (h6 : g 6 = f 83 6) (h8 : g 8 = f 83 8) : AgX f (up1 f 83 g) := ⟨⟨rfl, rfl, rfl, rfl⟩, ⟨fun _ _ _ _ _ => (by rw [up1_f (by omega)]), rfl, fun _ _ _ => (by rw [up1_f (by omega)]), fun _ _ _ _ => (by rw [up1_f (by omega)]), rfl, fun _ _ => rfl, fun _ _ => ⟨rfl, rfl, rfl⟩, fun k hk => rfl⟩, ⟨fun k hk1 hk2 => rfl, fun k hk1 hk2 => rfl⟩, ⟨rfl, rfl, fun _ _ _ => (by rw [up1_f (by omega)]), fun _ _ _ => (by rw [up1_f (by omega)])⟩, ⟨⟨rfl, rfl⟩, ⟨rfl, rfl⟩, rfl, rfl, rfl⟩, ⟨⟨h6, h8⟩, ⟨rfl, rfl⟩, fun _ _ _ => (by rw [up1_f (by omega)]), rfl, fun _ _ _ => (by rw [up1_f (by omega)]), fun _ _ _ _ _ => rfl⟩⟩
theorem ag_88 {g : Nat → Int32} {n : Nat} (hn : n ≤ 8) (h6 : f 83 6 = nI n) (hg : ∀ v, v < n → g v = f 88 v) : AgX f (up1 f 88 g) := ⟨⟨rfl, rfl, rfl, rfl⟩, ⟨fun _ _ _ _ _ => (by rw [up1_f (by omega)]), rfl, fun _ _ _ => (by rw [up1_f (by omega)]), fun _ _ _ _ => (by rw [up1_f (by omega)]), rfl, fun _ _ => rfl, fun _ _ => ⟨rfl, rfl, rfl⟩, fun k hk => rfl⟩, ⟨fun k hk1 hk2 => rfl, fun k hk1 hk2 => rfl⟩, ⟨rfl, rfl, fun _ _ _ => (by rw [up1_f (by omega)]), fun _ _ _ => (by rw [up1_f (by omega)])⟩, ⟨⟨rfl, rfl⟩, ⟨rfl, rfl⟩, rfl, rfl, rfl⟩, ⟨⟨rfl, rfl⟩, ⟨rfl, rfl⟩, fun _ _ _ => (by rw [up1_f (by omega)]), rfl, fun _ _ _ => (by rw [up1_f (by omega)]), fun m hm e v hv => hg v (by have := (nI_eq (a := n) (b := m) (by omega) (by omega)).mp (h6.symm.trans e); omega)⟩⟩
theorem s142 : scR 142 := by unfold scR; omega
theorem s143 : scR 143 := by unfold scR; omega
/-- the class's year and row -/
theorem ag_yr {g : Nat → Int32} {a : Int32} {n : Nat} (hn : n ≤ 8) (h6 : f 83 6 = nI n) (hg : ∀ v, v < n → g v = f 88 v) : AgX f (up1 (up1 f 88 g) 83 (upd (f 83) 9 a)) := agx_t (ag_88 hn h6 hg) (ag_83 (f := up1 f 88 g) rfl rfl)
theorem ag_yr2 {g : Nat → Int32} {a : Int32} {n : Nat} (hn : n ≤ 8) (h6 : f 83 6 = nI n) (hg : ∀ v, v < n → g v = f 88 v) : AgX f (up1 (up1 f 83 (upd (f 83) 9 a)) 88 g) := agx_t (ag_83 (g := upd (f 83) 9 a) rfl rfl) (ag_88 (f := up1 f 83 (upd (f 83) 9 a)) hn h6 hg)
theorem ag_pl {t tr be : Nat → Int32} {a bl bd : Int32} {n : Nat} (hn : n ≤ 8) (h6 : f 83 6 = nI n) (ht : ∀ v, v < n → t v = f 88 v) : AgX f (up1 (up1 (up1 (up1 f 83 (upd (upd (upd (f 83) 13 bd) 12 bl) 9 a)) 88 t) 90 tr) 91 be) := agx_t (agx_t (agx_t (ag_83 (g := upd (upd (upd (f 83) 13 bd) 12 bl) 9 a) rfl rfl) (ag_88 (f := up1 f 83 (upd (upd (upd (f 83) 13 bd) 12 bl) 9 a)) hn h6 ht)) (ag_sc (by unfold scR; omega))) (ag_sc (by unfold scR; omega))
theorem ag_m {r g : Nat → Int32} (hr : ∀ k, k < 65 → r k = f 92 k) : AgX f (up1 (up1 f 92 r) 142 g) := agx_t (ag_92 hr) (ag_sc s142)
/-- the rows of the market on both sides -/
theorem mk_of (cp : CpZ f) : ∃ wn c : Nat, wn ≤ 8 ∧ c ≤ 6 ∧ f 83 6 = nI wn ∧ f 92 61 = nI wn ∧ f 83 8 = nI c ∧ f 92 63 = nI c ∧ (f 84 = f 130 ∧ f 85 = f 131 ∧ f 86 = f 132 ∧ f 87 = f 133 ∧ f 89 = f 135) ∧ (∀ v, v < wn → f 88 v = f 134 v) ∧ (f 1 2 = f 92 44 ∧ f 1 3 = f 92 45 ∧ f 1 4 = f 92 46 ∧ f 1 5 = f 92 47 ∧ f 1 6 = f 92 48) := by
  obtain ⟨_, _, ⟨r, _⟩, _, _, wn, c, h1, h2, h3, h4, h5, h6, h7, h8, _⟩ := cp
  exact ⟨wn, c, h1, h2, h3, h4, h5, h6, h7, h8, r 2 (by decide) (by decide), r 3 (by decide) (by decide), r 4 (by decide) (by decide), r 5 (by decide) (by decide), r 6 (by decide) (by decide)⟩
theorem cp_doors (cp : CpZ f) {g g2 : Nat → Int32} {n : Int32} {j : Nat} (hj : 1 ≤ j ∧ j ≤ 12) (hn : n = nI j) (h78 : f 78 0 = 12) (hg : ∀ p q, p < 12 → q < 12 → g (p * 12 + q) = nI (d0N 100000000 p q)) (hg2 : ∀ p q, p < 12 → q < 12 → g2 (12 * p + q) = nI (d0N 268435456 p q)) : CpZ (up1 (up1 (up1 (up1 f 79 g) 77 (upd (upd (f 77) 2 0) 1 n)) 129 g2) 92 (upd (upd (f 92) 53 n) 54 0)) := ⟨(cpT_ag (f := f) ⟨rfl, rfl, rfl, rfl⟩ cp.1), (by obtain ⟨W, w, D, am, n, h, c⟩ := cp.2.1; exact ⟨W, w, D, am, n, h, cpG_ag (f := f) ⟨fun _ _ _ _ _ => (by rw [up1_f (by omega), up1_f (by omega), up1_f (by omega), up1_f (by omega)]), rfl, fun _ _ _ => (by rw [up1_f (by omega), up1_f (by omega), up1_f (by omega), up1_f (by omega)]), fun _ _ _ _ => (by rw [up1_f (by omega), up1_f (by omega), up1_f (by omega), up1_f (by omega)]), rfl, fun _ _ => rfl, fun _ _ => ⟨rfl, rfl, rfl⟩, fun k hk => ((upd_n (by omega)).trans (upd_n (by omega)))⟩ c⟩), (cpR_ag (f := f) ⟨fun k hk1 hk2 => rfl, fun k hk1 hk2 => ((upd_n (by omega)).trans (upd_n (by omega)))⟩ cp.2.2.1), (cpW_ag (f := f) ⟨rfl, rfl, fun _ _ _ => (by rw [up1_f (by omega), up1_f (by omega), up1_f (by omega), up1_f (by omega)]), fun _ _ _ => (by rw [up1_f (by omega), up1_f (by omega), up1_f (by omega), up1_f (by omega)])⟩ cp.2.2.2.1), ⟨j, 0, d0N 100000000, d0N 268435456, hj.1, hj.2, Nat.zero_le _, hn, hn, rfl, rfl, h78, d0_mt _ _ _, hg, d0_mt _ _ _, fun p q hp hq => hg2 p q (by omega) (by omega), st_0 j⟩, (cpM_ag (f := f) ⟨⟨rfl, rfl⟩, ⟨rfl, rfl⟩, fun _ _ _ => (by rw [up1_f (by omega), up1_f (by omega), up1_f (by omega), up1_f (by omega)]), rfl, fun _ _ _ => (by rw [up1_f (by omega), up1_f (by omega), up1_f (by omega), up1_f (by omega)]), fun _ _ _ _ _ => rfl⟩ cp.2.2.2.2.2)⟩
theorem st_doors (cp : CpZ f) (n : Int32) : StP 105 192 [.int n] f := by
  obtain ⟨n0, c0, DC, DM, s1, s2, s3, s4, s5, s6, s7, s8, _⟩ := cp.2.2.2.2.1
  by_cases c : inR n 1 12
  · obtain ⟨j, hj1, hj2, e⟩ := inN1 (n := 12) (by decide) c
    refine st_mk (P := fun r f1 => r = f 77 1 ∧ ∃ g, f1 = up1 (up1 f 79 g) 77 (upd (upd (f 77) 2 0) 1 n) ∧ ∀ p q, p < 12 → q < 12 → g (p * 12 + q) = nI (d0N 100000000 p q)) ((sp_doors2 c s8).mono (Nat.le_refl _) (fun u f1 q => ?_)) (fun r f1 q => ?_) (d' := 2) (by decide) (by decide)
    · obtain ⟨g, q1, q2, q3⟩ := q
      exact ⟨_, q1, rfl, g, q2, q3⟩
    · obtain ⟨q1, g, q2, q3⟩ := q
      rw [q1, q2]
      refine (mp_doors2 (f := up1 (up1 f 79 g) 77 (upd (upd (f 77) 2 0) 1 n)) c).mono (Nat.le_refl _) (fun u f2 z => ?_)
      obtain ⟨g2, z1, z2, z3⟩ := z
      refine ⟨by rw [z1, s4]; exact congrArg (fun y => some (Value.int y)) s5, ?_⟩
      rw [z2]
      exact cp_doors cp ⟨hj1, hj2⟩ e s8 q3 z3
  · exact st_ret cp (sp_doors1 f c) (mp_doors1 f c) (by decide) (by decide)
theorem cp_path (cp : CpZ f) {g g2 : Nat → Int32} {n c : Nat} {DC DM : Nat → Nat → Nat} (h1 : 1 ≤ n ∧ n ≤ 12) (hc : c < 24) (h77 : f 77 1 = nI n) (h53 : f 92 53 = nI n) (h78 : f 78 0 = 12) (hDC : Mt 12 100000000 30 DC) (hg : ∀ p q, p < 12 → q < 12 → g (p * 12 + q) = nI (DC p q)) (hDM : Mt n 268435456 30 DM) (hg2 : ∀ p q, p < n → q < n → g2 (12 * p + q) = nI (DM p q)) (hS : StR n DC DM) : CpZ (up1 (up1 (up1 (up1 f 77 (upd (f 77) 2 (nI (c + 1)))) 79 g) 129 g2) 92 (upd (f 92) 54 (nI (c + 1)))) := ⟨(cpT_ag (f := f) ⟨rfl, rfl, rfl, rfl⟩ cp.1), (by obtain ⟨W, w, D, am, n, h, c⟩ := cp.2.1; exact ⟨W, w, D, am, n, h, cpG_ag (f := f) ⟨fun _ _ _ _ _ => (by rw [up1_f (by omega), up1_f (by omega), up1_f (by omega), up1_f (by omega)]), rfl, fun _ _ _ => (by rw [up1_f (by omega), up1_f (by omega), up1_f (by omega), up1_f (by omega)]), fun _ _ _ _ => (by rw [up1_f (by omega), up1_f (by omega), up1_f (by omega), up1_f (by omega)]), rfl, fun _ _ => rfl, fun _ _ => ⟨rfl, rfl, rfl⟩, fun k hk => upd_n (by omega)⟩ c⟩), (cpR_ag (f := f) ⟨fun k hk1 hk2 => rfl, fun k hk1 hk2 => upd_n (by omega)⟩ cp.2.2.1), (cpW_ag (f := f) ⟨rfl, rfl, fun _ _ _ => (by rw [up1_f (by omega), up1_f (by omega), up1_f (by omega), up1_f (by omega)]), fun _ _ _ => (by rw [up1_f (by omega), up1_f (by omega), up1_f (by omega), up1_f (by omega)])⟩ cp.2.2.2.1), ⟨n, c + 1, DC, DM, h1.1, h1.2, by omega, h77, h53, rfl, rfl, h78, hDC, hg, hDM, hg2, hS⟩, (cpM_ag (f := f) ⟨⟨rfl, rfl⟩, ⟨rfl, rfl⟩, fun _ _ _ => (by rw [up1_f (by omega), up1_f (by omega), up1_f (by omega), up1_f (by omega)]), rfl, fun _ _ _ => (by rw [up1_f (by omega), up1_f (by omega), up1_f (by omega), up1_f (by omega)]), fun _ _ _ _ _ => rfl⟩ cp.2.2.2.2.2)⟩
theorem st_path (cp : CpZ f) (a b l : Int32) : StP 106 194 [.int a, .int b, .int l] f := by
  obtain ⟨n, c, DC, DM, s1, s2, s3, s4, s5, s6, s7, s8, s9, s10, s11, s12, s13⟩ := cp.2.2.2.2.1
  by_cases c1 : inR a 0 (nI n - 1) ∧ inR b 0 (nI n - 1)
  · by_cases c2 : ¬ a = b ∧ inR l 1 30
    · by_cases c3 : c = 24
      · exact st_ret cp (sp_path3 f (by rw [s4]; exact c1) c2 (by rw [s6, c3]; decide)) (mp_path3 f (by rw [s5]; exact c1) c2 (by rw [s7, c3]; rfl)) (by decide) (by decide)
      · have hc : c < 24 := by omega
        obtain ⟨i, hi, rfl⟩ := inNm (by omega) c1.1
        obtain ⟨j, hj, rfl⟩ := inNm (by omega) c1.2
        obtain ⟨k, hk1, hk2, rfl⟩ := inN1 (n := 30) (by decide) c2.2
        have hij : i ≠ j := fun e => c2.1 (by rw [e])
        refine st_mk (P := fun r f1 => r = nI (c + 1) ∧ ∃ dd, f1 = (up1 (up1 f 77 (upd (f 77) 2 (nI (c + 1)))) 79 dd) ∧ ∀ p q, p < 12 → q < 12 → dd (p * 12 + q) = nI (jnD DC i j k p q)) ((sp_path4 hi hj hij ⟨hk1, hk2⟩ s2 hc s8 s9 s10 s6 (by rw [s4]; exact c1)).mono (Nat.le_refl _) (fun u f1 q => ?_)) (fun r f1 q => ?_) (d' := 3) (by decide) (by decide)
        · obtain ⟨dd, q1, q2, q3⟩ := q
          exact ⟨_, q1, rfl, dd, q2, q3⟩
        · obtain ⟨q1, dd, q2, q3⟩ := q
          rw [q1, q2]
          refine (mp_path4 (f := up1 (up1 f 77 (upd (f 77) 2 (nI (c + 1)))) 79 dd) hi hj hij ⟨hk1, hk2⟩ s2 hc s5 s7 s11 s12 (show inR (nI i) 0 (f 92 53 - 1) ∧ inR (nI j) 0 (f 92 53 - 1) by rw [s5]; exact c1)).mono (by decide) (fun u f2 z => ?_)
          obtain ⟨g2, z1, z2, z3⟩ := z
          refine ⟨z1, ?_⟩
          rw [z2]
          exact cp_path cp ⟨s1, s2⟩ hc s4 s5 s8 (jn_mt s9 (by omega) (by omega) hij hk1 hk2) q3 (jn_mt s11 hi hj hij hk1 hk2) z3 (st_jn s2 s9 s13 hi hj hk2)
    · exact st_ret cp (sp_path2 f (by rw [s4]; exact c1) c2) (mp_path2 f (by rw [s5]; exact c1) c2) (by decide) (by decide)
  · exact st_ret cp (sp_path1 f (by rw [s4]; exact c1)) (mp_path1 f (by rw [s5]; exact c1)) (by decide) (by decide)
theorem st_boxes (cp : CpZ f) (r w : Int32) : StP 107 195 [.int r, .int w] f := by
  obtain ⟨n, c, DC, DM, s1, s2, s3, s4, s5, s6, s7, s8, s9, s10, s11, s12, s13⟩ := cp.2.2.2.2.1
  by_cases c1 : inR r 0 200 ∧ inR w 0 1
  · obtain ⟨i, hi, rfl⟩ := inN (n := 200) (by decide) c1.1
    obtain ⟨k, hk, rfl⟩ := inN (n := 1) (by decide) c1.2
    have hb := bx_eq s2 s9 s13 hi (2 ^ n - 1)
    have hm : ∀ g, Sp 2 195 [.ref 92, .int (nI i), .int (nI k)] (up1 f 80 g) (Ret (if k = 0 then nI (pcN 12 (bxN DC i n (2 ^ n - 1))) else nI (bxN DC i n (2 ^ n - 1))) (up1 f 80 g)) := fun g => by
      rw [← hb]
      exact mp_boxes (f := up1 f 80 g) s2 hi (by omega) s5 (fun p q hp hq => s11.2.2.2.1 p q hp hq) s12
    have s80 : scR 80 := by unfold scR; omega
    match k, hk, hm with
    | 0, _, hm =>
      refine st_mk (P := fun r f1 => r = nI (pcN 12 (bxN DC i n (2 ^ n - 1))) ∧ ∃ g, f1 = up1 f 80 g) ((sp_boxes0 s2 hi s4 s8 s9 s10).mono (Nat.le_refl _) (fun u f1 q => by obtain ⟨g, q1, q2⟩ := q; exact ⟨_, q1, rfl, g, q2⟩)) (fun r f1 q => ?_) (d' := 2) (by decide) (by decide)
      obtain ⟨q1, g, q2⟩ := q
      rw [q1, q2]
      exact (hm g).mono (Nat.le_refl _) (fun u f2 z => ⟨z.1, by rw [z.2]; exact cp_sc s80 cp⟩)
    | 1, _, hm =>
      refine st_mk (P := fun r f1 => r = nI (bxN DC i n (2 ^ n - 1)) ∧ ∃ g, f1 = up1 f 80 g) ((sp_boxes1 s2 hi s4 s8 s9 s10).mono (Nat.le_refl _) (fun u f1 q => by obtain ⟨g, q1, q2⟩ := q; exact ⟨_, q1, rfl, g, q2⟩)) (fun r f1 q => ?_) (d' := 2) (by decide) (by decide)
      obtain ⟨q1, g, q2⟩ := q
      rw [q1, q2]
      exact (hm g).mono (Nat.le_refl _) (fun u f2 z => ⟨z.1, by rw [z.2]; exact cp_sc s80 cp⟩)
    | k + 2, hk, _ => exact absurd hk (by omega)
  · exact st_ret cp (sp_boxesX f c1) (mp_boxesX f c1) (by decide) (by decide)
theorem st_walk (cp : CpZ f) (s : Int32) : StP 108 196 [.int s] f := by
  obtain ⟨n, c, DC, DM, s1, s2, s3, s4, s5, s6, s7, s8, s9, s10, s11, s12, s13⟩ := cp.2.2.2.2.1
  have hp : 2 ^ n ≤ 4096 := p12 s2
  have hp1 := Nat.two_pow_pos n
  by_cases c1 : inR s 0 (nI (2 ^ n - 1))
  · obtain ⟨S, hS, rfl⟩ := inN (nI_toInt (n := 2 ^ n - 1) (by omega)) c1
    refine st_mk (P := fun r f1 => WkR DC n S r ∧ ∃ g g2, f1 = up1 (up1 f 81 g) 82 g2) ((sp_walk2 s2 (by omega) s4 s8 s9 s10).mono (Nat.le_refl _) (fun u f1 q => by obtain ⟨g, g2, r0, q1, q2, q3⟩ := q; exact ⟨r0, q1, q3, g, g2, q2⟩)) (fun r f1 q => ?_) (d' := 2) (by decide) (by decide)
    obtain ⟨q1, g, g2, q2⟩ := q
    rw [q2]
    refine (mp_walk2 (f := up1 (up1 f 81 g) 82 g2) s2 s1 (S := S) (by omega) s5 s11 s12).mono (Nat.le_refl _) (fun u f2 z => ?_)
    obtain ⟨g3, r0, z1, z2, z3⟩ := z
    refine ⟨by rw [z1, wk_eq s2 s1 s9 s11 s13 q1 z3], ?_⟩
    rw [z2]
    exact cp_sc (by unfold scR; omega) (cp_sc (by unfold scR; omega) (cp_sc (by unfold scR; omega) cp))
  · exact st_ret cp (sp_walk1 s2 s4 c1) (mp_walk1 s2 s5 c1) (by decide) (by decide)
theorem cp_want (cp : CpZ f) {n : Nat} {a b p w t : Int32} (hn8 : n < 8) (hn : f 83 6 = nI n) (hab : ∃ x y : Nat, x < 10 ∧ y < 10 ∧ a = nI x ∧ b = nI y) (hpt : (∃ x : Nat, x ≤ 500 ∧ p = nI x) ∧ ∃ y : Nat, y ≤ 60 ∧ t = nI y) : CpZ (up1 (up1 (up1 (up1 (up1 (up1 (up1 (up1 (up1 (up1 (up1 (up1 f 84 (upd (f 84) n a)) 85 (upd (f 85) n b)) 86 (upd (f 86) n p)) 87 (upd (f 87) n w)) 88 (upd (f 88) n t)) 83 (upd (f 83) 6 (nI (n + 1)))) 130 (upd (f 130) n a)) 131 (upd (f 131) n b)) 132 (upd (f 132) n p)) 133 (upd (f 133) n w)) 134 (upd (f 134) n t)) 92 (upd (f 92) 61 (nI (n + 1)))) := ⟨(cpT_ag (f := f) ⟨rfl, rfl, rfl, rfl⟩ cp.1), (by obtain ⟨W, w, D, am, n, h, c⟩ := cp.2.1; exact ⟨W, w, D, am, n, h, cpG_ag (f := f) ⟨fun _ _ _ _ _ => (by rw [up1_f (by omega), up1_f (by omega), up1_f (by omega), up1_f (by omega), up1_f (by omega), up1_f (by omega), up1_f (by omega), up1_f (by omega), up1_f (by omega), up1_f (by omega), up1_f (by omega), up1_f (by omega)]), rfl, fun _ _ _ => (by rw [up1_f (by omega), up1_f (by omega), up1_f (by omega), up1_f (by omega), up1_f (by omega), up1_f (by omega), up1_f (by omega), up1_f (by omega), up1_f (by omega), up1_f (by omega), up1_f (by omega), up1_f (by omega)]), fun _ _ _ _ => (by rw [up1_f (by omega), up1_f (by omega), up1_f (by omega), up1_f (by omega), up1_f (by omega), up1_f (by omega), up1_f (by omega), up1_f (by omega), up1_f (by omega), up1_f (by omega), up1_f (by omega), up1_f (by omega)]), rfl, fun _ _ => rfl, fun _ _ => ⟨rfl, rfl, rfl⟩, fun k hk => upd_n (by omega)⟩ c⟩), (cpR_ag (f := f) ⟨fun k hk1 hk2 => rfl, fun k hk1 hk2 => upd_n (by omega)⟩ cp.2.2.1), (cpW_ag (f := f) ⟨rfl, rfl, fun _ _ _ => (by rw [up1_f (by omega), up1_f (by omega), up1_f (by omega), up1_f (by omega), up1_f (by omega), up1_f (by omega), up1_f (by omega), up1_f (by omega), up1_f (by omega), up1_f (by omega), up1_f (by omega), up1_f (by omega)]), fun _ _ _ => (by rw [up1_f (by omega), up1_f (by omega), up1_f (by omega), up1_f (by omega), up1_f (by omega), up1_f (by omega), up1_f (by omega), up1_f (by omega), up1_f (by omega), up1_f (by omega), up1_f (by omega), up1_f (by omega)])⟩ cp.2.2.2.1), (cpS_ag (f := f) ⟨⟨rfl, rfl⟩, ⟨rfl, rfl⟩, rfl, rfl, rfl⟩ cp.2.2.2.2.1), (by
    obtain ⟨wn, c, h1, h2, h3, h4, h5, h6, ⟨h7, h8, h9, h10, h11⟩, h12, h13, h14, h15⟩ := cp.2.2.2.2.2
    have e : wn = n := (nI_eq (a := wn) (b := n) (by omega) (by omega)).mp (h3.symm.trans hn)
    rw [e] at h12 h13 h14
    refine ⟨n + 1, c, by omega, h2, rfl, rfl, h5, h6, ⟨?_, ?_, ?_, ?_, h11⟩, fun v hv => ?_, fun v hv => ?_, fun v hv => ?_, h15⟩
    · show upd (f 84) n a = upd (f 130) n a
      rw [h7]
    · show upd (f 85) n b = upd (f 131) n b
      rw [h8]
    · show upd (f 86) n p = upd (f 132) n p
      rw [h9]
    · show upd (f 87) n w = upd (f 133) n w
      rw [h10]
    · show upd (f 88) n t v = upd (f 134) n t v
      by_cases q : v = n
      · rw [q, upd_s, upd_s]
      · rw [upd_n q, upd_n q]; exact h12 v (by omega)
    · show ∃ x y : Nat, x < 10 ∧ y < 10 ∧ upd (f 130) n a v = nI x ∧ upd (f 131) n b v = nI y
      by_cases q : v = n
      · rw [q, upd_s, upd_s]; exact hab
      · rw [upd_n q, upd_n q]; exact h13 v (by omega)
    · show (∃ x : Nat, x ≤ 500 ∧ upd (f 132) n p v = nI x) ∧ ∃ y : Nat, y ≤ 60 ∧ upd (f 134) n t v = nI y
      by_cases q : v = n
      · rw [q, upd_s, upd_s]; exact hpt
      · rw [upd_n q, upd_n q]; exact h14 v (by omega))⟩
theorem st_want (cp : CpZ f) (a b p w t : Int32) : StP 109 197 [.int a, .int b, .int p, .int w, .int t] f := by
  obtain ⟨n, c, h1, h2, h3, h4, _⟩ := mk_of cp
  by_cases c1 : twoT a b
  · by_cases c2 : wantR p w t
    · by_cases c3 : n = 8
      · exact st_ret cp (sp_want3 f a b p w t c1 c2 (by rw [h3, c3]; decide)) (mp_want3 f a b p w t c1 c2 (by rw [h4, c3]; rfl)) (by decide) (by decide)
      · have hn : n < 8 := by omega
        obtain ⟨x, hx, ex⟩ := inN (n := 9) (by decide) c1.1
        obtain ⟨y, hy, ey⟩ := inN (n := 9) (by decide) c1.2.1
        obtain ⟨pp, hp1, hp2, ep⟩ := inN1 (n := 500) (by decide) c2.1
        obtain ⟨tt, ht, et⟩ := inN (n := 60) (by decide) c2.2.2
        refine st_mk (P := fun r f1 => r = nI n ∧ f1 = (up1 (up1 (up1 (up1 (up1 (up1 f 84 (upd (f 84) n a)) 85 (upd (f 85) n b)) 86 (upd (f 86) n p)) 87 (upd (f 87) n w)) 88 (upd (f 88) n t)) 83 (upd (f 83) 6 (nI (n + 1))))) ((sp_want4 f a b p w t c1 c2 (by rw [h3]; exact (nI_ltI (a := n) (b := 8) (by omega) (by decide)).mpr hn) hn h3).mono (Nat.le_refl _) (fun u f1 q => ⟨f 83 6, q.1, h3, ?_⟩)) (fun r f1 q => ?_) (d' := 4) (by decide) (by decide)
        · rw [q.2, h3, nI_1, up2_eq1, up2_eq1, up2_eq1, up2_eq1, up2_eq1, up2_eq1]
          rfl
        · rw [q.1, q.2]
          refine (mp_want4 (up1 (up1 (up1 (up1 (up1 (up1 f 84 (upd (f 84) n a)) 85 (upd (f 85) n b)) 86 (upd (f 86) n p)) 87 (upd (f 87) n w)) 88 (upd (f 88) n t)) 83 (upd (f 83) 6 (nI (n + 1)))) a b p w t c1 c2 (show ¬ f 92 61 = 8 by rw [h4]; exact fun z => absurd ((nI_eq (a := n) (b := 8) (by omega) (by decide)).mp z) c3) hn h4).mono (Nat.le_refl _) (fun u f2 z => ⟨?_, ?_⟩)
          · rw [z.1]
            show some (Value.int (f 92 61 + 1 - 1)) = _
            rw [h4, nI_1, show nI (n + 1) - 1 = nI n from pk_sub (a := n + 1) (b := 1) (by omega)]
          · rw [z.2, show (up1 (up1 (up1 (up1 (up1 (up1 f 84 (upd (f 84) n a)) 85 (upd (f 85) n b)) 86 (upd (f 86) n p)) 87 (upd (f 87) n w)) 88 (upd (f 88) n t)) 83 (upd (f 83) 6 (nI (n + 1)))) 92 61 = nI n from h4, nI_1, up2_eq1, up2_eq1, up2_eq1, up2_eq1, up2_eq1, up2_eq1]
            exact cp_want cp hn h3 ⟨x, y, by omega, by omega, ex, ey⟩ ⟨⟨pp, hp2, ep⟩, tt, ht, et⟩
    · exact st_ret cp (sp_want2 f a b p w t c1 c2) (mp_want2 f a b p w t c1 c2) (by decide) (by decide)
  · exact st_ret cp (sp_want1 f a b p w t c1) (mp_want1 f a b p w t c1) (by decide) (by decide)
theorem cp_price (cp : CpZ f) {n : Nat} {v : Int32} (hn6 : n < 6) (hn : f 83 8 = nI n) (hv : ¬ v = -1) : CpZ (up1 (up1 (up1 (up1 f 89 (upd (f 89) n v)) 83 (upd (f 83) 8 (nI (n + 1)))) 135 (upd (f 135) n v)) 92 (upd (f 92) 63 (nI (n + 1)))) := ⟨(cpT_ag (f := f) ⟨rfl, rfl, rfl, rfl⟩ cp.1), (by obtain ⟨W, w, D, am, n, h, c⟩ := cp.2.1; exact ⟨W, w, D, am, n, h, cpG_ag (f := f) ⟨fun _ _ _ _ _ => (by rw [up1_f (by omega), up1_f (by omega), up1_f (by omega), up1_f (by omega)]), rfl, fun _ _ _ => (by rw [up1_f (by omega), up1_f (by omega), up1_f (by omega), up1_f (by omega)]), fun _ _ _ _ => (by rw [up1_f (by omega), up1_f (by omega), up1_f (by omega), up1_f (by omega)]), rfl, fun _ _ => rfl, fun _ _ => ⟨rfl, rfl, rfl⟩, fun k hk => upd_n (by omega)⟩ c⟩), (cpR_ag (f := f) ⟨fun k hk1 hk2 => rfl, fun k hk1 hk2 => upd_n (by omega)⟩ cp.2.2.1), (cpW_ag (f := f) ⟨rfl, rfl, fun _ _ _ => (by rw [up1_f (by omega), up1_f (by omega), up1_f (by omega), up1_f (by omega)]), fun _ _ _ => (by rw [up1_f (by omega), up1_f (by omega), up1_f (by omega), up1_f (by omega)])⟩ cp.2.2.2.1), (cpS_ag (f := f) ⟨⟨rfl, rfl⟩, ⟨rfl, rfl⟩, rfl, rfl, rfl⟩ cp.2.2.2.2.1), (by
    obtain ⟨wn, c, h1, h2, h3, h4, h5, h6, ⟨h7, h8, h9, h10, h11⟩, h12, h13, h14, h15⟩ := cp.2.2.2.2.2
    have e : c = n := (nI_eq (a := c) (b := n) (by omega) (by omega)).mp (h5.symm.trans hn)
    rw [e] at h15
    refine ⟨wn, n + 1, h1, by omega, h3, h4, rfl, rfl, ⟨h7, h8, h9, h10, ?_⟩, h12, h13, h14, fun i hi => ?_⟩
    · show upd (f 89) n v = upd (f 135) n v
      rw [h11]
    · show ¬ upd (f 135) n v i = -1
      by_cases q : i = n
      · rw [q, upd_s]; exact hv
      · rw [upd_n q]; exact h15 i (by omega))⟩
theorem st_price (cp : CpZ f) (v : Int32) : StP 113 206 [.int v] f := by
  obtain ⟨wn, n, h1, h2, h3, h4, h5, h6, _⟩ := mk_of cp
  by_cases c1 : inR v 0 99
  · by_cases c3 : n = 6
    · exact st_ret cp (sp_price2 f v c1 (by rw [h5, c3]; decide)) (mp_price2 f v c1 (by rw [h6, c3]; rfl)) (by decide) (by decide)
    · have hn : n < 6 := by omega
      refine st_mk (P := fun r f1 => r = nI (n + 1) ∧ f1 = (up1 (up1 f 89 (upd (f 89) n v)) 83 (upd (f 83) 8 (nI (n + 1))))) ((sp_price3 f v c1 (by rw [h5]; exact (nI_ltI (a := n) (b := 6) (by omega) (by decide)).mpr hn) hn h5).mono (Nat.le_refl _) (fun u f1 q => ⟨f 83 8 + 1, q.1, by rw [h5, nI_1], ?_⟩)) (fun r f1 q => ?_) (d' := 3) (by decide) (by decide)
      · rw [q.2, h5, nI_1, up2_eq1, up2_eq1]
        rfl
      · rw [q.1, q.2]
        refine (mp_price3 (up1 (up1 f 89 (upd (f 89) n v)) 83 (upd (f 83) 8 (nI (n + 1)))) v c1 (show ¬ f 92 63 = 6 by rw [h6]; exact fun z => absurd ((nI_eq (a := n) (b := 6) (by omega) (by decide)).mp z) c3) hn h6).mono (Nat.le_refl _) (fun u f2 z => ⟨?_, ?_⟩)
        · rw [z.1]
          show some (Value.int (f 92 63 + 1)) = _
          rw [h6, nI_1]
        · rw [z.2, show (up1 (up1 f 89 (upd (f 89) n v)) 83 (upd (f 83) 8 (nI (n + 1)))) 92 63 = nI n from h6, nI_1, up2_eq1, up2_eq1]
          exact cp_price cp hn h5 (fun z => absurd c1.1 (by rw [z]; decide))
  · exact st_ret cp (sp_price1 f v c1) (mp_price1 f v c1) (by decide) (by decide)
end P93
