/-! stamps: one letter more is put behind another one (reference) -/
def CloP (n : Nat) (N : Nat → Nat → Prop) (bh : Nat → Nat) (R : Nat → Prop) : Prop := ∀ a, R a → a < n ∧ ∃ b, b < n ∧ bh b = a ∧ ∀ a', N a' b → R a'
def TqP (n : Nat) (N : Nat → Nat → Prop) (bh : Nat → Nat) (b0 : Nat) (q cf : Nat → Nat) (many : Nat) : Prop := 1 ≤ many ∧ q 0 = b0 ∧ (∀ k, k < many → q k < n) ∧ (∀ i j, i < j → j < many → q i ≠ q j) ∧ ∀ k, 1 ≤ k → k < many → bh (q k) < n ∧ ∃ k', k' < k ∧ cf (bh (q k)) = q k' ∧ N (bh (q k)) (q k')
def TvP (n : Nat) (N : Nat → Nat → Prop) (bh : Nat → Nat) (q cf : Nat → Nat) (many a0 : Nat) (cur : Nat → Nat) (x kx : Nat) : Prop := kx < many ∧ (x < n ∧ (x = a0 ∨ ∃ k, k < many ∧ bh (q k) = x)) ∧ cf x = q kx ∧ N x (q kx) ∧ (∀ k, k ≤ kx → cur (q k) = bh (q k)) ∧ (∀ p, p < n → cnA cur p n + (if p = x then 1 else 0) = cnA bh p n + (if p = a0 then 1 else 0)) ∧ (∀ y, cur y = bh y ∨ (y < n ∧ bh y < n ∧ cur y < n ∧ N (cur y) y)) ∧ ∀ R, CloP n N bh R → ¬ R x ∧ ∀ y, (R (bh y) ∨ R (cur y)) → cur y = bh y
def TuP (n : Nat) (N : Nat → Nat → Prop) (bh : Nat → Nat) (b0 a0 : Nat) (bh' : Nat → Nat) : Prop := (∀ p, p < n → cnA bh' p n = cnA bh p n + (if p = a0 then 1 else 0)) ∧ (∀ y, bh' y = bh y ∨ (y < n ∧ (bh y < n ∨ y = b0) ∧ bh' y < n ∧ N (bh' y) y)) ∧ bh' b0 < n ∧ ∀ R, CloP n N bh R → (∃ a', N a' b0 ∧ ¬ R a') ∧ ∀ y, (R (bh y) ∨ R (bh' y)) → bh' y = bh y
section P86
variable {n : Nat} {N : Nat → Nat → Prop} {bh cur : Nat → Nat} {b0 : Nat} {q cf : Nat → Nat} {many a0 x kx : Nat}
theorem tv_step (hb : ∀ p, p < n → cnA bh p n ≤ 1) (hq : TqP n N bh b0 q cf many) (h : TvP n N bh q cf many a0 cur x kx) (hne : ¬ q kx = b0) : cur (q kx) = bh (q kx) ∧ bh (q kx) < n ∧ ∃ k', k' < kx ∧ TvP n N bh q cf many a0 (updN cur (q kx) x) (bh (q kx)) k' := by
  obtain ⟨t1, t2, t3, t4, t5, t6, t7, t8⟩ := h
  obtain ⟨q1, q2, q3, q4, q5⟩ := hq
  have hk1 : 1 ≤ kx := Nat.pos_of_ne_zero (fun e => hne (by rw [e]; exact q2))
  obtain ⟨z1, k', z2, z3, z4⟩ := q5 kx hk1 t1
  have hcur := t5 kx (Nat.le_refl _)
  refine ⟨hcur, z1, k', z2, by omega, ⟨z1, Or.inr ⟨kx, t1, rfl⟩⟩, z3, z4, fun k hk => ?_, fun p hp => ?_, fun y => ?_, fun R hR => ?_⟩
  · rw [upN_n (q4 k kx (by omega) t1)]
    exact t5 k (by omega)
  · have h5 := ca_upd (a := cur) (j := q kx) (v := x) (p := p) n
    have h6 := t6 p hp
    have hqn := q3 kx t1
    rw [hcur] at h5
    have e1 : (if q kx < n ∧ bh (q kx) = p then 1 else 0) = (if p = bh (q kx) then 1 else 0) := hu_ite ⟨fun z => z.2.symm, fun z => ⟨hqn, z.symm⟩⟩
    have e2 : (if q kx < n ∧ x = p then 1 else 0) = (if p = x then 1 else 0) := hu_ite ⟨fun z => z.2.symm, fun z => ⟨hqn, z.symm⟩⟩
    omega
  · by_cases c : y = q kx
    · right
      rw [c, upN_s]
      exact ⟨q3 kx t1, z1, t2.1, t4⟩
    · rw [upN_n c]; exact t7 y
  · obtain ⟨r1, r2⟩ := t8 R hR
    have r3 : ¬ R (bh (q kx)) := by
      intro z
      obtain ⟨_, b, b1, b2, b3⟩ := hR _ z
      have e := ca_in (hb _ z1) b2 rfl b1 (q3 kx t1)
      rw [e] at b3
      exact r1 (b3 x t4)
    refine ⟨r3, fun y hy => ?_⟩
    by_cases c : y = q kx
    · rw [c, upN_s] at hy
      exact absurd hy (fun z => z.elim r3 r1)
    · rw [upN_n c] at hy ⊢
      exact r2 y hy
theorem tu_fin (hb0 : 32 ≤ bh b0) (hn : n ≤ 24) (hq : TqP n N bh b0 q cf many) (h : TvP n N bh q cf many a0 cur x kx) (he : q kx = b0) : TuP n N bh b0 a0 (updN cur (q kx) x) := by
  obtain ⟨t1, t2, t3, t4, t5, t6, t7, t8⟩ := h
  obtain ⟨q1, q2, q3, q4, q5⟩ := hq
  have hcur := t5 kx (Nat.le_refl _)
  have hqn := q3 kx t1
  rw [he] at t4 hcur hqn ⊢
  refine ⟨fun p hp => ?_, fun y => ?_, by rw [upN_s]; exact t2.1, fun R hR => ?_⟩
  · have h5 := ca_upd (a := cur) (j := b0) (v := x) (p := p) n
    have h6 := t6 p hp
    rw [if_neg (show ¬ (b0 < n ∧ cur b0 = p) from fun z => by omega)] at h5
    have e2 : (if b0 < n ∧ x = p then 1 else 0) = (if p = x then 1 else 0) := hu_ite ⟨fun z => z.2.symm, fun z => ⟨hqn, z.symm⟩⟩
    omega
  · by_cases c : y = b0
    · right
      rw [c, upN_s]
      exact ⟨hqn, Or.inr rfl, t2.1, t4⟩
    · rw [upN_n c]
      rcases t7 y with z | ⟨z1, z2, z3, z4⟩
      · exact Or.inl z
      · exact Or.inr ⟨z1, Or.inl z2, z3, z4⟩
  · obtain ⟨r1, r2⟩ := t8 R hR
    refine ⟨⟨x, t4, r1⟩, fun y hy => ?_⟩
    by_cases c : y = b0
    · rw [c, upN_s] at hy
      rcases hy with z | z
      · have := (hR _ z).1
        omega
      · exact absurd z r1
    · rw [upN_n c] at hy ⊢
      exact r2 y hy
end P86
theorem mlp_turn {f : HI} {n : Nat} {N : Nat → Nat → Prop} {bh : Nat → Nat} {b0 : Nat} {qu cf : Nat → Nat} {many a0 : Nat} (hn24 : n ≤ 24) (hb : ∀ p, p < n → cnA bh p n ≤ 1) (hb0 : 32 ≤ bh b0) (hb0n : b0 < n) (hq : TqP n N bh b0 qu cf many) (hc : ∀ x, (x = a0 ∨ ∃ k, k < many ∧ bh (qu k) = x) → x < n → f 140 x = nI (cf x)) : ∀ (m9 : Nat) (mo : Int32) (X : Int32) (kx : Nat) (gb : Nat → Int32) (cur : Nat → Nat), (¬ mo = 0 → ∃ x, X = nI x ∧ TvP n N bh qu cf many a0 cur x kx) → (mo = 0 → TuP n N bh b0 a0 cur) → (∀ k, k < n → gb k = rI (cur k)) → (if mo = 0 then 0 else kx + 1) < m9 → wq 1 189 (fun v f' => v = none ∧ ∃ gb bh', f' = (up1 f 138 gb) ∧ (∀ k, k < n → gb k = rI (bh' k)) ∧ TuP n N bh b0 a0 bh') 5 [(0, .ref 92), (2, .int (nI b0)), (3, .int X), (4, .int mo)] [] (up1 f 138 gb) := by
  intro m9
  induction m9 with
  | zero => intro mo X kx gb cur h1 h2 hg hn; exact absurd hn (Nat.not_lt_zero _)
  | succ m9 ih =>
    intro mo X kx gb cur h1 h2 hg hn
    refine wq_run1 (pc' := 7) (L' := [(0, .ref 92), (2, .int (nI b0)), (3, .int X), (4, .int mo)]) (S' := [.int mo]) (f' := (up1 f 138 gb)) rfl ?_
    refine wq_if (c := mo = 0) (p1 := 54) (L1 := [(0, .ref 92), (2, .int (nI b0)), (3, .int X), (4, .int mo)]) (S1 := []) (p2 := 10) (L2 := [(0, .ref 92), (2, .int (nI b0)), (3, .int X), (4, .int mo)]) (S2 := []) rfl (fun c_7 => ?_) (fun c_7 => ?_)
    · exact wq_ret rfl ⟨rfl, gb, cur, rfl, hg, h2 c_7⟩
    · rw [if_neg c_7] at hn
      obtain ⟨x, eX, hT⟩ := h1 c_7
      have hxn := hT.2.1.1
      have hqk := hq.2.2.1 kx hT.1
      refine wq_L (L' := [(0, .ref 92), (2, .int (nI b0)), (3, .int (nI x)), (4, .int mo)]) (by rw [eX]) ?_
      refine wq_run3 (pc' := 15) (L' := [(0, .ref 92), (2, .int (nI b0)), (3, .int (nI x)), (4, .int mo)]) (S' := [.int (nI x), .ref 140]) (f' := (up1 f 138 gb)) rfl ?_
      refine wq_ald (j := x) (n := 24) (v := (nI (qu kx))) rfl rfl rfl rfl (by omega) (Nat.le_of_ble_eq_true rfl) ((hc x hT.2.1.2 hxn).trans (congrArg nI hT.2.2.1)) ?_
      refine wq_run4 (pc' := 24) (L' := [(0, .ref 92), (2, .int (nI b0)), (3, .int (nI x)), (4, .int mo), (5, .int (nI (qu kx)))]) (S' := [.int (nI (qu kx)), .ref 138]) (f' := (up1 f 138 gb)) rfl ?_
      refine wq_ald (j := (qu kx)) (n := 24) (v := (rI (cur (qu kx)))) rfl rfl rfl rfl (by omega) (Nat.le_of_ble_eq_true rfl) (hg _ hqk) ?_
      refine wq_run5 (pc' := 34) (L' := [(0, .ref 92), (2, .int (nI b0)), (3, .int (nI x)), (4, .int mo), (5, .int (nI (qu kx))), (6, .int (rI (cur (qu kx))))]) (S' := [.int (nI x), .int (nI (qu kx)), .ref 138]) (f' := (up1 f 138 gb)) rfl ?_
      refine wq_ist (j := (qu kx)) (n := 24) rfl rfl rfl rfl (by omega) (Nat.le_of_ble_eq_true rfl) ?_
      refine wq_h (f' := (up1 f 138 (upd gb (qu kx) (nI x)))) ((up2_up1_eq f 138 gb (qu kx) (nI x)).trans (congrArg (fun z => up1 f 138 z) (rfl))) ?_
      refine wq_run4 (pc' := 41) (L' := [(0, .ref 92), (2, .int (nI b0)), (3, .int (rI (cur (qu kx)))), (4, .int mo), (5, .int (nI (qu kx))), (6, .int (rI (cur (qu kx))))]) (S' := [.int (nI b0), .int (nI (qu kx))]) (f' := (up1 f 138 (upd gb (qu kx) (nI x)))) rfl ?_
      refine wq_if (c := (nI (qu kx)) = (nI b0)) (p1 := 48) (L1 := [(0, .ref 92), (2, .int (nI b0)), (3, .int (rI (cur (qu kx)))), (4, .int mo), (5, .int (nI (qu kx))), (6, .int (rI (cur (qu kx))))]) (S1 := []) (p2 := 44) (L2 := [(0, .ref 92), (2, .int (nI b0)), (3, .int (rI (cur (qu kx)))), (4, .int mo), (5, .int (nI (qu kx))), (6, .int (rI (cur (qu kx))))]) (S2 := []) rfl (fun c_41 => ?_) (fun c_41 => ?_)
      · have k_41 : (qu kx) = b0 := (nI_eq (a := (qu kx)) (b := b0) (by omega) (by omega)).mp c_41
        refine wq_run3 (pc' := 5) (L' := [(0, .ref 92), (2, .int (nI b0)), (3, .int (rI (cur (qu kx)))), (4, .int 0)]) (S' := []) (f' := (up1 f 138 (upd gb (qu kx) (nI x)))) rfl ?_
        exact ih 0 _ kx _ (updN cur (qu kx) x) (fun z => absurd rfl z) (fun _ => tu_fin hb0 hn24 hq hT k_41) (up_rI hg (by omega)) (by rw [if_pos rfl]; omega)
      · have k_41 : ¬ (qu kx) = b0 := fun q => c_41 ((nI_eq (a := (qu kx)) (b := b0) (by omega) (by omega)).mpr q)
        refine wq_run4 (pc' := 5) (L' := [(0, .ref 92), (2, .int (nI b0)), (3, .int (rI (cur (qu kx)))), (4, .int 1)]) (S' := []) (f' := (up1 f 138 (upd gb (qu kx) (nI x)))) rfl ?_
        obtain ⟨e1, e2, k2, e3, hT2⟩ := tv_step hb hq hT k_41
        exact ih 1 _ k2 _ (updN cur (qu kx) x) (fun _ => ⟨bh (qu kx), by rw [e1, rI_y (by omega)], hT2⟩) (fun z => absurd z (by decide)) (up_rI hg (by omega)) (by rw [if_neg (by decide)]; omega)
theorem mp_turn {f : HI} {n : Nat} {N : Nat → Nat → Prop} {bh : Nat → Nat} {b0 : Nat} {qu cf : Nat → Nat} {many a0 : Nat} (hn24 : n ≤ 24) (hb : ∀ p, p < n → cnA bh p n ≤ 1) (hb0 : 32 ≤ bh b0) (hb0n : b0 < n) (hq : TqP n N bh b0 qu cf many) (hc : ∀ x, (x = a0 ∨ ∃ k, k < many ∧ bh (qu k) = x) → x < n → f 140 x = nI (cf x)) (hbh : ∀ k, k < n → f 138 k = rI (bh k)) {kx : Nat} (hT : TvP n N bh qu cf many a0 bh a0 kx) : Sp 1 189 [.ref 92, .int (nI a0), .int (nI b0)] f (fun v f' => v = none ∧ ∃ gb bh', f' = (up1 f 138 gb) ∧ (∀ k, k < n → gb k = rI (bh' k)) ∧ TuP n N bh b0 a0 bh') := by
  show wq 1 189 (fun v f' => v = none ∧ ∃ gb bh', f' = (up1 f 138 gb) ∧ (∀ k, k < n → gb k = rI (bh' k)) ∧ TuP n N bh b0 a0 bh') 0 [(0, .ref 92), (1, .int (nI a0)), (2, .int (nI b0))] [] f
  refine wq_run4 (pc' := 5) (L' := [(0, .ref 92), (2, .int (nI b0)), (3, .int (nI a0)), (4, .int 1)]) (S' := []) (f' := f) rfl ?_
  have h9 := mlp_turn hn24 hb hb0 hb0n hq hc (kx + 1 + 1) 1 (nI a0) kx (f 138) bh (fun _ => ⟨a0, rfl, hT⟩) (fun z => absurd z (by decide)) hbh (by rw [if_neg (by decide)]; omega)
  rw [up1_id] at h9
  exact h9
