/-! the fault, of the class; tokens of the reference -/
theorem nI_ex (x : Int32) : ∃ n, x = nI n := ⟨x.toBitVec.toNat, Int32.toBitVec_inj.1 (by show x.toBitVec = BitVec.ofNat 32 x.toBitVec.toNat; simp)⟩
abbrev RwC (T : Nat → Int32) (n m : Nat) (K N P : Nat → Int32) : Prop := ∀ i, i < m → K i = (cC T n i).1 ∧ N i = (cC T n i).2.1 ∧ P i = (cC T n i).2.2.1
theorem rwc_s {T : Nat → Int32} {n m p' : Nat} {K N P : Nat → Int32} {k a b : Int32} (h : RwC T n m K N P) (hc : clR T n (pp T n m) = .inr (k, a, b, p')) : RwC T n (m + 1) (upd K m k) (upd N m a) (upd P m b) := by
  intro i hi
  by_cases c : i = m
  · subst c
    rw [upd_s, upd_s, upd_s, cC_s hc]
    exact ⟨rfl, rfl, rfl⟩
  · rw [upd_n c, upd_n c, upd_n c]
    exact h i (by omega)
theorem pp_b {T : Nat → Int32} {n : Nat} : ∀ i, pp T n i ≤ n := by
  intro i
  induction i with
  | zero => exact Nat.zero_le _
  | succ i ih =>
    cases c : clR T n (pp T n i) with
    | inl s =>
      show (match clR T n (pp T n i) with
        | .inl _ => 0
        | .inr r => tkE T n r.2.2.2) ≤ n
      rw [c]
      exact Nat.zero_le _
    | inr r =>
      rw [pp_s c]
      have h := clR_ok (k := r.1) (a := r.2.1) (b := r.2.2.1) (p' := r.2.2.2) ih c
      exact (tk_b h.1).2.2.1
theorem lp_fault {f : HI} {T : Nat → Int32} {n : Nat} (hn1 : n ≤ 160) (hT : ∀ j, j < n → f 12 j = T j) : ∀ (m9 : Nat) (m : Nat) (q : Nat) (g : Nat → Int32) (K : Nat → Int32) (N : Nat → Int32) (P : Nat → Int32), (m ≤ 8) → (TX g n q (pp T n m) m) → (psF T n 8 0 0 = psF T n (8 - m) m q) → (RwC T n m K N P) → 8 - m < m9 → wq 8 66 (fun v f' => ∃ g' K' N' P', v = some (.int (obI (psF T n 8 0 0).1)) ∧ f' = (up1 (up1 (up1 (up1 f 15 P') 14 N') 13 K') 11 g') ∧ g' 1 = nI n ∧ ((psF T n 8 0 0).1 = none → g' 7 = nI (psF T n 8 0 0).2 ∧ RwC T n (psF T n 8 0 0).2 K' N' P')) 12 [(0, .ref 11), (1, .int (nI m))] [] (up1 (up1 (up1 (up1 f 15 P) 14 N) 13 K) 11 g) := by
  intro m9
  induction m9 with
  | zero => intro m q g K N P hm hx hps hrw hn; exact absurd hn (Nat.not_lt_zero _)
  | succ m9 ih =>
    intro m q g K N P hm hx hps hrw hn
    refine wq_run2 (pc' := 15) (L' := [(0, .ref 11), (1, .int (nI m))]) (S' := [.int 8, .int (nI m)]) (f' := (up1 (up1 (up1 (up1 f 15 P) 14 N) 13 K) 11 g)) rfl ?_
    refine wq_if (c := 8 ≤ (nI m)) (p1 := 72) (L1 := [(0, .ref 11), (1, .int (nI m))]) (S1 := []) (p2 := 18) (L2 := [(0, .ref 11), (1, .int (nI m))]) (S2 := []) rfl (fun c_15 => ?_) (fun c_15 => ?_)
    · have k_15 : 8 ≤ m := (nI_leI (a := 8) (b := m) (by omega) (by omega)).mp c_15
      refine wq_run2 (pc' := 76) (L' := [(0, .ref 11), (1, .int (nI m))]) (S' := [.int (g 2)]) (f' := (up1 (up1 (up1 (up1 f 15 P) 14 N) 13 K) 11 g)) rfl ?_
      refine wq_v (y := (nI q)) (hx.2.1) ?_
      have e1 : m = 8 := by omega
      subst e1
      exact wq_ret rfl ⟨_, _, _, _, by rw [hps]; rfl, rfl, hx.1, fun h => by rw [hps] at h; cases h⟩
    · have k_15 : ¬ 8 ≤ m := fun q => c_15 ((nI_leI (a := 8) (b := m) (by omega) (by omega)).mpr q)
      refine wq_run1 (pc' := 19) (L' := [(0, .ref 11), (1, .int (nI m))]) (S' := [.ref 11]) (f' := (up1 (up1 (up1 (up1 f 15 P) 14 N) 13 K) 11 g)) rfl ?_
      refine wq_call (sp_readClause (f := f) (T := T) (n := n) (c := m) hn1 hT (g := g) (K := K) (N := N) (P := P) (p := pp T n m) (pp_b m) hx (by omega)) (Nat.le_of_ble_eq_true rfl) (pc' := 22) (L' := [(0, .ref 11), (1, .int (nI m))]) (S' := []) rfl (Nat.le_of_ble_eq_true rfl) rfl rfl (Nat.le_of_ble_eq_true rfl) (Nat.le_of_ble_eq_true rfl) ?_
      rintro v f9 ⟨r, g2, K2, N2, P2, e0, ef, hr⟩
      subst e0
      subst ef
      refine wq_if (c := r = 0) (p1 := 25) (L1 := [(0, .ref 11), (1, .int (nI m))]) (S1 := []) (p2 := 30) (L2 := [(0, .ref 11), (1, .int (nI m))]) (S2 := []) rfl (fun c_22 => ?_) (fun c_22 => ?_)
      · obtain ⟨s1, e1, hcl, hx2⟩ := (hr.resolve_right (fun q => absurd (q.1.symm.trans c_22) (by decide))).2
        refine wq_run2 (pc' := 29) (L' := [(0, .ref 11), (1, .int (nI m))]) (S' := [.int (g2 2)]) (f' := (up1 (up1 (up1 (up1 f 15 P2) 14 N2) 13 K2) 11 g2)) rfl ?_
        refine wq_v (y := (nI s1)) (hx2.2.1) ?_
        have e1 : psF T n 8 0 0 = (some s1, m) := by rw [hps, show 8 - m = (7 - m) + 1 by omega]; exact ps_l hcl
        exact wq_ret rfl ⟨_, _, _, _, by rw [e1]; rfl, rfl, hx2.1, fun h => by rw [e1] at h; cases h⟩
      · obtain ⟨s1, k, a, b, p2, hcl, hx2, eK, eN, eP_⟩ := (hr.resolve_left (fun q => c_22 q.1)).2
        have hok := clR_ok (pp_b m) hcl
        subst eK
        subst eN
        subst eP_
        refine wq_run1 (pc' := 31) (L' := [(0, .ref 11), (1, .int (nI m))]) (S' := [.ref 11]) (f' := (up1 (up1 (up1 (up1 f 15 (upd P m b)) 14 (upd N m a)) 13 (upd K m k)) 11 g2)) rfl ?_
        refine wq_call (sp_readToken (f := (up1 (up1 (up1 f 15 (upd P m b)) 14 (upd N m a)) 13 (upd K m k))) (T := T) (n := n) (c := m + 1) (g := g2) (p := p2) hn1 hT hok.1 hx2) (Nat.le_of_ble_eq_true rfl) (pc' := 34) (L' := [(0, .ref 11), (1, .int (nI m))]) (S' := []) rfl (Nat.le_of_ble_eq_true rfl) rfl rfl (Nat.le_of_ble_eq_true rfl) (Nat.le_of_ble_eq_true rfl) ?_
        rintro v f9 ⟨g3, e0, ef, hx3⟩
        subst e0
        subst ef
        have t3 := tk_b (T := T) (n := n) (p := p2) hok.1
        refine wq_run2 (pc' := 38) (L' := [(0, .ref 11), (1, .int (nI m))]) (S' := [.int (g3 2)]) (f' := (up1 (up1 (up1 (up1 f 15 (upd P m b)) 14 (upd N m a)) 13 (upd K m k)) 11 g3)) rfl ?_
        refine wq_v (y := (nI (tkS T n p2))) (hx3.2.1) ?_
        refine wq_run2 (pc' := 42) (L' := [(0, .ref 11), (1, .int (nI m))]) (S' := [.int (g3 1), .int (nI (tkS T n p2))]) (f' := (up1 (up1 (up1 (up1 f 15 (upd P m b)) 14 (upd N m a)) 13 (upd K m k)) 11 g3)) rfl ?_
        refine wq_v (y := (nI n)) (hx3.1) ?_
        refine wq_if (c := (nI (tkS T n p2)) < (nI n)) (p1 := 47) (L1 := [(0, .ref 11), (1, .int (nI m))]) (S1 := []) (p2 := 45) (L2 := [(0, .ref 11), (1, .int (nI m))]) (S2 := []) rfl (fun c_42 => ?_) (fun c_42 => ?_)
        · have k_42 : (tkS T n p2) < n := (nI_ltI (a := (tkS T n p2)) (b := n) (by omega) (by omega)).mp c_42
          refine wq_run4 (pc' := 55) (L' := [(0, .ref 11), (1, .int (nI m))]) (S' := [.int (g3 2), .ref 12]) (f' := (up1 (up1 (up1 (up1 f 15 (upd P m b)) 14 (upd N m a)) 13 (upd K m k)) 11 g3)) rfl ?_
          refine wq_v (y := (nI (tkS T n p2))) (hx3.2.1) ?_
          refine wq_ald (j := (tkS T n p2)) (n := 160) (v := (T (tkS T n p2))) rfl rfl rfl rfl (by omega) (Nat.le_of_ble_eq_true rfl) (hT (tkS T n p2) (by omega)) ?_
          refine wq_run1 (pc' := 58) (L' := [(0, .ref 11), (1, .int (nI m))]) (S' := [.int 59, .int (T (tkS T n p2))]) (f' := (up1 (up1 (up1 (up1 f 15 (upd P m b)) 14 (upd N m a)) 13 (upd K m k)) 11 g3)) rfl ?_
          refine wq_if (c := (T (tkS T n p2)) = 59) (p1 := 66) (L1 := [(0, .ref 11), (1, .int (nI m))]) (S1 := []) (p2 := 61) (L2 := [(0, .ref 11), (1, .int (nI m))]) (S2 := []) rfl (fun c_58 => ?_) (fun c_58 => ?_)
          · refine wq_run1 (pc' := 69) (L' := [(0, .ref 11), (1, .int ((nI m) + 1))]) (S' := []) (f' := (up1 (up1 (up1 (up1 f 15 (upd P m b)) 14 (upd N m a)) 13 (upd K m k)) 11 g3)) rfl ?_
            refine wq_L (L' := [(0, .ref 11), (1, .int (nI (m + 1)))]) (by rw [show nI m + 1 = nI (m + 1) from nI_add _ _]) ?_
            refine wq_run1 (pc' := 12) (L' := [(0, .ref 11), (1, .int (nI (m + 1)))]) (S' := []) (f' := (up1 (up1 (up1 (up1 f 15 (upd P m b)) 14 (upd N m a)) 13 (upd K m k)) 11 g3)) rfl ?_
            exact ih (m + 1) (tkS T n p2) _ _ _ _ (by omega) (by rw [pp_s hcl]; exact hx3) (by rw [hps, show 8 - m = (7 - m) + 1 by omega]; rw [ps_r hcl, if_neg (by show ¬ n ≤ tkS T n p2; omega), if_neg (fun q => q c_58), show 8 - (m + 1) = 7 - m by omega]) (rwc_s hrw hcl) (by omega)
          · refine wq_run2 (pc' := 65) (L' := [(0, .ref 11), (1, .int (nI m))]) (S' := [.int (g3 2)]) (f' := (up1 (up1 (up1 (up1 f 15 (upd P m b)) 14 (upd N m a)) 13 (upd K m k)) 11 g3)) rfl ?_
            refine wq_v (y := (nI (tkS T n p2))) (hx3.2.1) ?_
            have e1 : psF T n 8 0 0 = (some (tkS T n p2), m + 1) := by rw [hps, show 8 - m = (7 - m) + 1 by omega]; rw [ps_r hcl, if_neg (by show ¬ n ≤ tkS T n p2; omega)]; exact if_pos c_58
            exact wq_ret rfl ⟨_, _, _, _, by rw [e1]; rfl, rfl, hx3.1, fun h => by rw [e1] at h; cases h⟩
        · have k_42 : ¬ (tkS T n p2) < n := fun q => c_42 ((nI_ltI (a := (tkS T n p2)) (b := n) (by omega) (by omega)).mpr q)
          refine wq_run1 (pc' := 46) (L' := [(0, .ref 11), (1, .int (nI m))]) (S' := [.int (-1)]) (f' := (up1 (up1 (up1 (up1 f 15 (upd P m b)) 14 (upd N m a)) 13 (upd K m k)) 11 g3)) rfl ?_
          have e1 : psF T n 8 0 0 = (none, m + 1) := by rw [hps, show 8 - m = (7 - m) + 1 by omega]; rw [ps_r hcl]; exact if_pos (by show n ≤ tkS T n p2; omega)
          exact wq_ret rfl ⟨_, _, _, _, by rw [e1]; rfl, rfl, hx3.1, fun _ => by rw [e1]; exact ⟨hx3.2.2.2, rwc_s hrw hcl⟩⟩
theorem sp_fault0 {f : HI} {T : Nat → Int32} {n : Nat} (hn1 : n ≤ 160) (hT : ∀ j, j < n → f 12 j = T j) {g K N P : Nat → Int32} (hg1 : g 1 = nI n) : Sp 8 66 [.ref 11] (up1 (up1 (up1 (up1 f 15 P) 14 N) 13 K) 11 g) (fun v f' => ∃ g' K' N' P', v = some (.int (obI (psF T n 8 0 0).1)) ∧ f' = (up1 (up1 (up1 (up1 f 15 P') 14 N') 13 K') 11 g') ∧ g' 1 = nI n ∧ ((psF T n 8 0 0).1 = none → g' 7 = nI (psF T n 8 0 0).2 ∧ RwC T n (psF T n 8 0 0).2 K' N' P')) := by
  show wq 8 66 (fun v f' => ∃ g' K' N' P', v = some (.int (obI (psF T n 8 0 0).1)) ∧ f' = (up1 (up1 (up1 (up1 f 15 P') 14 N') 13 K') 11 g') ∧ g' 1 = nI n ∧ ((psF T n 8 0 0).1 = none → g' 7 = nI (psF T n 8 0 0).2 ∧ RwC T n (psF T n 8 0 0).2 K' N' P')) 0 [(0, .ref 11)] [] (up1 (up1 (up1 (up1 f 15 P) 14 N) 13 K) 11 g)
  refine wq_run2 (pc' := 2) (L' := [(0, .ref 11)]) (S' := [.int 0, .ref 11]) (f' := (up1 (up1 (up1 (up1 f 15 P) 14 N) 13 K) 11 g)) rfl ?_
  refine wq_putI rfl rfl ?_
  refine wq_h (f' := (up1 (up1 (up1 (up1 f 15 P) 14 N) 13 K) 11 (upd g 3 0))) ((up2_up1_eq (up1 (up1 (up1 f 15 P) 14 N) 13 K) 11 g 3 0).trans (congrArg (fun z => up1 (up1 (up1 (up1 f 15 P) 14 N) 13 K) 11 z) (rfl))) ?_
  refine wq_run2 (pc' := 7) (L' := [(0, .ref 11)]) (S' := [.int 0, .ref 11]) (f' := (up1 (up1 (up1 (up1 f 15 P) 14 N) 13 K) 11 (upd g 3 0))) rfl ?_
  refine wq_putI rfl rfl ?_
  refine wq_h (f' := (up1 (up1 (up1 (up1 f 15 P) 14 N) 13 K) 11 (upd (upd g 7 0) 3 0))) ((up2_up1_eq (up1 (up1 (up1 f 15 P) 14 N) 13 K) 11 (upd g 3 0) 7 0).trans (congrArg (fun z => up1 (up1 (up1 (up1 f 15 P) 14 N) 13 K) 11 z) ((upd_sw (g := g) (v := 0) (w := 0) (show (7 : Nat) ≠ 3 by decide)).trans (congrArg (fun z => upd z 3 0) (rfl))))) ?_
  refine wq_run2 (pc' := 12) (L' := [(0, .ref 11), (1, .int 0)]) (S' := []) (f' := (up1 (up1 (up1 (up1 f 15 P) 14 N) 13 K) 11 (upd (upd g 7 0) 3 0))) rfl ?_
  obtain ⟨s9, hs9⟩ := nI_ex (g 2)
  exact lp_fault hn1 hT (8 - 0 + 1) 0 s9 _ K N P (Nat.zero_le _) ⟨hg1, hs9, rfl, rfl⟩ rfl (fun _ h => absurd h (Nat.not_lt_zero _)) (Nat.lt_succ_self _)
theorem sp_firstFault {f : HI} {T : Nat → Int32} {n : Nat} (hn1 : n ≤ 160) (hT : ∀ j, j < n → f 12 j = T j) (hg1 : f 11 1 = nI n) : Sp 8 66 [.ref 11] f (fun v f' => ∃ g' K' N' P', v = some (.int (obI (psF T n 8 0 0).1)) ∧ f' = (up1 (up1 (up1 (up1 f 15 P') 14 N') 13 K') 11 g') ∧ g' 1 = nI n ∧ ((psF T n 8 0 0).1 = none → g' 7 = nI (psF T n 8 0 0).2 ∧ RwC T n (psF T n 8 0 0).2 K' N' P')) := by
  have h := sp_fault0 hn1 hT (g := f 11) (K := f 13) (N := f 14) (P := f 15) hg1
  rw [up1_id, up1_id, up1_id, up1_id] at h
  exact h
theorem ex_TY {f : HI} {g g0 : Nat → Int32} {n a s e a2 s2 e2 : Nat} (h : TY g n a s e) (hk : ∀ k, k ≠ 65 → k ≠ 66 → k ≠ 67 → g k = g0 k) (h0 : a = a2) (h1 : s = s2) (h2 : e = e2) : ∃ g', (none : Option Value) = none ∧ up1 f 92 g = up1 f 92 g' ∧ TY g' n a2 s2 e2 ∧ ∀ k, k ≠ 65 → k ≠ 66 → k ≠ 67 → g' k = g0 k := by
  rw [h0, h1, h2] at h
  exact ⟨g, rfl, rfl, h, hk⟩
theorem mlp_tok2 {f : HI} {T : Nat → Int32} {n : Nat} (hn1 : n ≤ 160) (hT : ∀ j, j < n → f 100 j = T j) {g0 : Nat → Int32} {p s e : Nat} (hsT : s = tkS T n p) : ∀ (m9 : Nat) (i : Nat) (g : Nat → Int32), (i ≤ n) → (s ≤ i) → (TY g n i s e) → (∀ k, k ≠ 65 → k ≠ 66 → k ≠ 67 → g k = g0 k) → ((n ≤ i → tkE T n p = i) ∧ (i < n → s < n ∧ (srt (T s) = 2 → tkE T n p = i) ∧ (¬ srt (T s) = 2 → tkE T n p = rnT (sam T (srt (T s))) n i))) → n - i < m9 → wq 2 146 (fun v f' => ∃ g', v = none ∧ f' = up1 f 92 g' ∧ TY g' n (tkE T n p) (tkS T n p) (tkE T n p) ∧ ∀ k, k ≠ 65 → k ≠ 66 → k ≠ 67 → g' k = g0 k) 71 [(0, .ref 92)] [] (up1 f 92 g) := by
  intro m9
  induction m9 with
  | zero => intro i g hi hsi hx hk hE hn; exact absurd hn (Nat.not_lt_zero _)
  | succ m9 ih =>
    intro i g hi hsi hx hk hE hn
    have h3 := srt_3 (T s)
    have h4 := srt_3 (T i)
    refine wq_run2 (pc' := 75) (L' := [(0, .ref 92)]) (S' := [.int (g 65)]) (f' := (up1 f 92 g)) rfl ?_
    refine wq_v (y := (nI i)) (hx.2.1) ?_
    refine wq_run2 (pc' := 79) (L' := [(0, .ref 92)]) (S' := [.int (g 10), .int (nI i)]) (f' := (up1 f 92 g)) rfl ?_
    refine wq_v (y := (nI n)) (hx.1) ?_
    refine wq_if (c := (nI n) ≤ (nI i)) (p1 := 137) (L1 := [(0, .ref 92)]) (S1 := []) (p2 := 82) (L2 := [(0, .ref 92)]) (S2 := []) rfl (fun c_79 => ?_) (fun c_79 => ?_)
    · have k_79 : n ≤ i := (nI_leI (a := n) (b := i) (by omega) (by omega)).mp c_79
      refine wq_run3 (pc' := 142) (L' := [(0, .ref 92)]) (S' := [.int (g 65), .ref 92]) (f' := (up1 f 92 g)) rfl ?_
      refine wq_v (y := (nI i)) (hx.2.1) ?_
      refine wq_putI rfl rfl ?_
      refine wq_h (f' := (up1 f 92 (upd g 67 (nI i)))) ((up2_up1_eq f 92 g 67 (nI i)).trans (congrArg (fun z => up1 f 92 z) (rfl))) ?_
      exact wq_ret rfl (ex_TY (e := i) ⟨hx.1, hx.2.1, hx.2.2.1, rfl⟩ (fun k h1 h2 h3 => (upd_n h3).trans (hk k h1 h2 h3)) (hE.1 k_79).symm hsT (hE.1 k_79).symm)
    · have k_79 : ¬ n ≤ i := fun q => c_79 ((nI_leI (a := n) (b := i) (by omega) (by omega)).mpr q)
      refine wq_run4 (pc' := 90) (L' := [(0, .ref 92)]) (S' := [.int (g 66), .ref 100]) (f' := (up1 f 92 g)) rfl ?_
      refine wq_v (y := (nI s)) (hx.2.2.1) ?_
      refine wq_ald (j := s) (n := 160) (v := (T s)) rfl rfl rfl rfl (by omega) (Nat.le_of_ble_eq_true rfl) (hT s (by omega)) ?_
      refine wq_callI (r := (smI (srt (T s)))) (mp_sort (up1 f 92 g) (T s)) (Nat.le_of_ble_eq_true rfl) (pc' := 94) (L' := [(0, .ref 92)]) (S' := []) rfl (Nat.le_of_ble_eq_true rfl) rfl rfl (Nat.le_of_ble_eq_true rfl) (Nat.le_of_ble_eq_true rfl) ?_
      refine wq_if (c := (smI (srt (T s))) ≤ 0) (p1 := 137) (L1 := [(0, .ref 92)]) (S1 := []) (p2 := 97) (L2 := [(0, .ref 92)]) (S2 := []) rfl (fun c_94 => ?_) (fun c_94 => ?_)
      · refine wq_run3 (pc' := 142) (L' := [(0, .ref 92)]) (S' := [.int (g 65), .ref 92]) (f' := (up1 f 92 g)) rfl ?_
        refine wq_v (y := (nI i)) (hx.2.1) ?_
        refine wq_putI rfl rfl ?_
        refine wq_h (f' := (up1 f 92 (upd g 67 (nI i)))) ((up2_up1_eq f 92 g 67 (nI i)).trans (congrArg (fun z => up1 f 92 z) (rfl))) ?_
        exact wq_ret rfl (ex_TY (e := i) ⟨hx.1, hx.2.1, hx.2.2.1, rfl⟩ (fun k h1 h2 h3 => (upd_n h3).trans (hk k h1 h2 h3)) ((hE.2 (by omega)).2.1 ((smI_0 h3).mp c_94)).symm hsT ((hE.2 (by omega)).2.1 ((smI_0 h3).mp c_94)).symm)
      · refine wq_run4 (pc' := 105) (L' := [(0, .ref 92)]) (S' := [.int (g 65), .ref 100]) (f' := (up1 f 92 g)) rfl ?_
        refine wq_v (y := (nI i)) (hx.2.1) ?_
        refine wq_ald (j := i) (n := 160) (v := (T i)) rfl rfl rfl rfl (by omega) (Nat.le_of_ble_eq_true rfl) (hT i (by omega)) ?_
        refine wq_callI (r := (smI (srt (T i)))) (mp_sort (up1 f 92 g) (T i)) (Nat.le_of_ble_eq_true rfl) (pc' := 109) (L' := [(0, .ref 92)]) (S' := []) rfl (Nat.le_of_ble_eq_true rfl) rfl rfl (Nat.le_of_ble_eq_true rfl) (Nat.le_of_ble_eq_true rfl) ?_
        refine wq_run4 (pc' := 117) (L' := [(0, .ref 92)]) (S' := [.int (g 66), .ref 100, .int (smI (srt (T i)))]) (f' := (up1 f 92 g)) rfl ?_
        refine wq_v (y := (nI s)) (hx.2.2.1) ?_
        refine wq_ald (j := s) (n := 160) (v := (T s)) rfl rfl rfl rfl (by omega) (Nat.le_of_ble_eq_true rfl) (hT s (by omega)) ?_
        refine wq_callI (r := (smI (srt (T s)))) (mp_sort (up1 f 92 g) (T s)) (Nat.le_of_ble_eq_true rfl) (pc' := 121) (L' := [(0, .ref 92)]) (S' := [.int (smI (srt (T i)))]) rfl (Nat.le_of_ble_eq_true rfl) rfl rfl (Nat.le_of_ble_eq_true rfl) (Nat.le_of_ble_eq_true rfl) ?_
        refine wq_if (c := (smI (srt (T i))) = (smI (srt (T s)))) (p1 := 124) (L1 := [(0, .ref 92)]) (S1 := []) (p2 := 137) (L2 := [(0, .ref 92)]) (S2 := []) rfl (fun c_121 => ?_) (fun c_121 => ?_)
        · refine wq_run3 (pc' := 129) (L' := [(0, .ref 92)]) (S' := [.int (g 65), .ref 92]) (f' := (up1 f 92 g)) rfl ?_
          refine wq_v (y := (nI i)) (hx.2.1) ?_
          refine wq_run2 (pc' := 131) (L' := [(0, .ref 92)]) (S' := [.int ((nI i) + 1), .ref 92]) (f' := (up1 f 92 g)) rfl ?_
          refine wq_v (y := (nI (i + 1))) (nI_add i 1) ?_
          refine wq_putI rfl rfl ?_
          refine wq_h (f' := (up1 f 92 (upd g 65 (nI (i + 1))))) ((up2_up1_eq f 92 g 65 (nI (i + 1))).trans (congrArg (fun z => up1 f 92 z) (rfl))) ?_
          refine wq_run1 (pc' := 71) (L' := [(0, .ref 92)]) (S' := []) (f' := (up1 f 92 (upd g 65 (nI (i + 1))))) rfl ?_
          have hs2 : ¬ srt (T s) = 2 := fun q => c_94 ((smI_0 h3).mpr q)
          have hr := ((hE.2 (by omega)).2.2 hs2).trans (rn_s (by omega) (decide_eq_true ((smI_e h4 h3).mp c_121)))
          exact ih (i + 1) _ (by omega) (by omega) ⟨hx.1, rfl, hx.2.2.1, hx.2.2.2⟩ (fun k h1 h2 h3 => (upd_n h1).trans (hk k h1 h2 h3)) ⟨fun q => hr.trans (rn_n q), fun _ => ⟨by omega, fun q => absurd q hs2, fun _ => hr⟩⟩ (by omega)
        · refine wq_run3 (pc' := 142) (L' := [(0, .ref 92)]) (S' := [.int (g 65), .ref 92]) (f' := (up1 f 92 g)) rfl ?_
          refine wq_v (y := (nI i)) (hx.2.1) ?_
          refine wq_putI rfl rfl ?_
          refine wq_h (f' := (up1 f 92 (upd g 67 (nI i)))) ((up2_up1_eq f 92 g 67 (nI i)).trans (congrArg (fun z => up1 f 92 z) (rfl))) ?_
          exact wq_ret rfl (ex_TY (e := i) ⟨hx.1, hx.2.1, hx.2.2.1, rfl⟩ (fun k h1 h2 h3 => (upd_n h3).trans (hk k h1 h2 h3)) (((hE.2 (by omega)).2.2 (fun q => c_94 ((smI_0 h3).mpr q))).trans (rn_e (decide_eq_false (fun q => c_121 (by rw [q]))))).symm hsT (((hE.2 (by omega)).2.2 (fun q => c_94 ((smI_0 h3).mpr q))).trans (rn_e (decide_eq_false (fun q => c_121 (by rw [q]))))).symm)
theorem mlp_tok1 {f : HI} {T : Nat → Int32} {n : Nat} (hn1 : n ≤ 160) (hT : ∀ j, j < n → f 100 j = T j) {g0 : Nat → Int32} {p s e : Nat} : ∀ (m9 : Nat) (i : Nat) (g : Nat → Int32), (i ≤ n) → (TY g n i s e) → (∀ k, k ≠ 65 → k ≠ 66 → k ≠ 67 → g k = g0 k) → (rnT (blk T) n i = tkS T n p) → n - i < m9 → wq 2 146 (fun v f' => ∃ g', v = none ∧ f' = up1 f 92 g' ∧ TY g' n (tkE T n p) (tkS T n p) (tkE T n p) ∧ ∀ k, k ≠ 65 → k ≠ 66 → k ≠ 67 → g' k = g0 k) 0 [(0, .ref 92)] [] (up1 f 92 g) := by
  intro m9
  induction m9 with
  | zero => intro i g hi hx hk hS hn; exact absurd hn (Nat.not_lt_zero _)
  | succ m9 ih =>
    intro i g hi hx hk hS hn
    refine wq_run2 (pc' := 4) (L' := [(0, .ref 92)]) (S' := [.int (g 65)]) (f' := (up1 f 92 g)) rfl ?_
    refine wq_v (y := (nI i)) (hx.2.1) ?_
    refine wq_run2 (pc' := 8) (L' := [(0, .ref 92)]) (S' := [.int (g 10), .int (nI i)]) (f' := (up1 f 92 g)) rfl ?_
    refine wq_v (y := (nI n)) (hx.1) ?_
    refine wq_if (c := (nI n) ≤ (nI i)) (p1 := 38) (L1 := [(0, .ref 92)]) (S1 := []) (p2 := 11) (L2 := [(0, .ref 92)]) (S2 := []) rfl (fun c_8 => ?_) (fun c_8 => ?_)
    · have k_8 : n ≤ i := (nI_leI (a := n) (b := i) (by omega) (by omega)).mp c_8
      have hsT : i = tkS T n p := by rw [← hS]; exact (rn_n (by omega)).symm
      refine wq_run3 (pc' := 43) (L' := [(0, .ref 92)]) (S' := [.int (g 65), .ref 92]) (f' := (up1 f 92 g)) rfl ?_
      refine wq_v (y := (nI i)) (hx.2.1) ?_
      refine wq_putI rfl rfl ?_
      refine wq_h (f' := (up1 f 92 (upd g 66 (nI i)))) ((up2_up1_eq f 92 g 66 (nI i)).trans (congrArg (fun z => up1 f 92 z) (rfl))) ?_
      refine wq_run3 (pc' := 51) (L' := [(0, .ref 92)]) (S' := [.int (g 65), .ref 92]) (f' := (up1 f 92 (upd g 66 (nI i)))) rfl ?_
      refine wq_v (y := (nI i)) (hx.2.1) ?_
      refine wq_run2 (pc' := 55) (L' := [(0, .ref 92)]) (S' := [.int (g 65), .int (nI i), .ref 92]) (f' := (up1 f 92 (upd g 66 (nI i)))) rfl ?_
      refine wq_v (y := (nI i)) (hx.2.1) ?_
      refine wq_run2 (pc' := 59) (L' := [(0, .ref 92)]) (S' := [.int (g 10), .int (nI i), .int (nI i), .ref 92]) (f' := (up1 f 92 (upd g 66 (nI i)))) rfl ?_
      refine wq_v (y := (nI n)) (hx.1) ?_
      refine wq_if (c := (nI n) ≤ (nI i)) (p1 := 66) (L1 := [(0, .ref 92)]) (S1 := [.int (nI i), .ref 92]) (p2 := 62) (L2 := [(0, .ref 92)]) (S2 := [.int (nI i), .ref 92]) rfl (fun c_59 => ?_) (fun c_59 => ?_)
      · have k_59 : n ≤ i := (nI_leI (a := n) (b := i) (by omega) (by omega)).mp c_59
        refine wq_run2 (pc' := 68) (L' := [(0, .ref 92)]) (S' := [.int ((nI i) + 0), .ref 92]) (f' := (up1 f 92 (upd g 66 (nI i)))) rfl ?_
        refine wq_v (y := (nI (i + 0))) (nI_add i 0) ?_
        refine wq_putIk rfl rfl rfl ?_
        refine wq_h (f' := (up1 f 92 (upd (upd g 65 (nI (i + 0))) 66 (nI i)))) ((up2_up1_eq f 92 (upd g 66 (nI i)) 65 (nI (i + 0))).trans (congrArg (fun z => up1 f 92 z) ((upd_sw (g := g) (v := (nI i)) (w := (nI (i + 0))) (show (65 : Nat) ≠ 66 by decide)).trans (congrArg (fun z => upd z 66 (nI i)) (rfl))))) ?_
        exact mlp_tok2 hn1 hT hsT (n - i + 1) i _ hi (Nat.le_refl _) ⟨hx.1, rfl, rfl, hx.2.2.2⟩ (fun k h1 h2 h3 => (upd_n h2).trans ((upd_n h1).trans (hk k h1 h2 h3))) ⟨fun _ => by unfold tkE; rw [← hsT, if_neg (by omega)], fun q => by omega⟩ (Nat.lt_succ_self _)
      · have k_59 : ¬ n ≤ i := fun q => c_59 ((nI_leI (a := n) (b := i) (by omega) (by omega)).mpr q)
        refine wq_run3 (pc' := 68) (L' := [(0, .ref 92)]) (S' := [.int ((nI i) + 1), .ref 92]) (f' := (up1 f 92 (upd g 66 (nI i)))) rfl ?_
        refine wq_v (y := (nI (i + 1))) (nI_add i 1) ?_
        refine wq_putIk rfl rfl rfl ?_
        refine wq_h (f' := (up1 f 92 (upd (upd g 65 (nI (i + 1))) 66 (nI i)))) ((up2_up1_eq f 92 (upd g 66 (nI i)) 65 (nI (i + 1))).trans (congrArg (fun z => up1 f 92 z) ((upd_sw (g := g) (v := (nI i)) (w := (nI (i + 1))) (show (65 : Nat) ≠ 66 by decide)).trans (congrArg (fun z => upd z 66 (nI i)) (rfl))))) ?_
        exact mlp_tok2 hn1 hT hsT (n - (i + 1) + 1) (i + 1) _ (by omega) (Nat.le_succ _) ⟨hx.1, rfl, rfl, hx.2.2.2⟩ (fun k h1 h2 h3 => (upd_n h2).trans ((upd_n h1).trans (hk k h1 h2 h3))) ⟨fun q => by
          unfold tkE
          rw [← hsT, if_pos (by omega)]
          split
          · rfl
          · exact rn_n q, fun _ => ⟨by omega, fun q => by unfold tkE; rw [← hsT, if_pos (by omega), if_pos q], fun q => by unfold tkE; rw [← hsT, if_pos (by omega), if_neg q]⟩⟩ (Nat.lt_succ_self _)
    · have k_8 : ¬ n ≤ i := fun q => c_8 ((nI_leI (a := n) (b := i) (by omega) (by omega)).mpr q)
      refine wq_run4 (pc' := 19) (L' := [(0, .ref 92)]) (S' := [.int (g 65), .ref 100]) (f' := (up1 f 92 g)) rfl ?_
      refine wq_v (y := (nI i)) (hx.2.1) ?_
      refine wq_ald (j := i) (n := 160) (v := (T i)) rfl rfl rfl rfl (by omega) (Nat.le_of_ble_eq_true rfl) (hT i (by omega)) ?_
      refine wq_run1 (pc' := 22) (L' := [(0, .ref 92)]) (S' := [.int 32, .int (T i)]) (f' := (up1 f 92 g)) rfl ?_
      refine wq_if (c := (T i) = 32) (p1 := 25) (L1 := [(0, .ref 92)]) (S1 := []) (p2 := 38) (L2 := [(0, .ref 92)]) (S2 := []) rfl (fun c_22 => ?_) (fun c_22 => ?_)
      · refine wq_run3 (pc' := 30) (L' := [(0, .ref 92)]) (S' := [.int (g 65), .ref 92]) (f' := (up1 f 92 g)) rfl ?_
        refine wq_v (y := (nI i)) (hx.2.1) ?_
        refine wq_run2 (pc' := 32) (L' := [(0, .ref 92)]) (S' := [.int ((nI i) + 1), .ref 92]) (f' := (up1 f 92 g)) rfl ?_
        refine wq_v (y := (nI (i + 1))) (nI_add i 1) ?_
        refine wq_putI rfl rfl ?_
        refine wq_h (f' := (up1 f 92 (upd g 65 (nI (i + 1))))) ((up2_up1_eq f 92 g 65 (nI (i + 1))).trans (congrArg (fun z => up1 f 92 z) (rfl))) ?_
        refine wq_run1 (pc' := 0) (L' := [(0, .ref 92)]) (S' := []) (f' := (up1 f 92 (upd g 65 (nI (i + 1))))) rfl ?_
        exact ih (i + 1) _ (by omega) ⟨hx.1, rfl, hx.2.2.1, hx.2.2.2⟩ (fun k h1 h2 h3 => (upd_n h1).trans (hk k h1 h2 h3)) (by rw [← hS]; exact (rn_s (by omega) (decide_eq_true c_22)).symm) (by omega)
      · have hsT : i = tkS T n p := by rw [← hS]; exact (rn_e (decide_eq_false c_22)).symm
        refine wq_run3 (pc' := 43) (L' := [(0, .ref 92)]) (S' := [.int (g 65), .ref 92]) (f' := (up1 f 92 g)) rfl ?_
        refine wq_v (y := (nI i)) (hx.2.1) ?_
        refine wq_putI rfl rfl ?_
        refine wq_h (f' := (up1 f 92 (upd g 66 (nI i)))) ((up2_up1_eq f 92 g 66 (nI i)).trans (congrArg (fun z => up1 f 92 z) (rfl))) ?_
        refine wq_run3 (pc' := 51) (L' := [(0, .ref 92)]) (S' := [.int (g 65), .ref 92]) (f' := (up1 f 92 (upd g 66 (nI i)))) rfl ?_
        refine wq_v (y := (nI i)) (hx.2.1) ?_
        refine wq_run2 (pc' := 55) (L' := [(0, .ref 92)]) (S' := [.int (g 65), .int (nI i), .ref 92]) (f' := (up1 f 92 (upd g 66 (nI i)))) rfl ?_
        refine wq_v (y := (nI i)) (hx.2.1) ?_
        refine wq_run2 (pc' := 59) (L' := [(0, .ref 92)]) (S' := [.int (g 10), .int (nI i), .int (nI i), .ref 92]) (f' := (up1 f 92 (upd g 66 (nI i)))) rfl ?_
        refine wq_v (y := (nI n)) (hx.1) ?_
        refine wq_if (c := (nI n) ≤ (nI i)) (p1 := 66) (L1 := [(0, .ref 92)]) (S1 := [.int (nI i), .ref 92]) (p2 := 62) (L2 := [(0, .ref 92)]) (S2 := [.int (nI i), .ref 92]) rfl (fun c_59 => ?_) (fun c_59 => ?_)
        · have k_59 : n ≤ i := (nI_leI (a := n) (b := i) (by omega) (by omega)).mp c_59
          refine wq_run2 (pc' := 68) (L' := [(0, .ref 92)]) (S' := [.int ((nI i) + 0), .ref 92]) (f' := (up1 f 92 (upd g 66 (nI i)))) rfl ?_
          refine wq_v (y := (nI (i + 0))) (nI_add i 0) ?_
          refine wq_putIk rfl rfl rfl ?_
          refine wq_h (f' := (up1 f 92 (upd (upd g 65 (nI (i + 0))) 66 (nI i)))) ((up2_up1_eq f 92 (upd g 66 (nI i)) 65 (nI (i + 0))).trans (congrArg (fun z => up1 f 92 z) ((upd_sw (g := g) (v := (nI i)) (w := (nI (i + 0))) (show (65 : Nat) ≠ 66 by decide)).trans (congrArg (fun z => upd z 66 (nI i)) (rfl))))) ?_
          exact mlp_tok2 hn1 hT hsT (n - i + 1) i _ hi (Nat.le_refl _) ⟨hx.1, rfl, rfl, hx.2.2.2⟩ (fun k h1 h2 h3 => (upd_n h2).trans ((upd_n h1).trans (hk k h1 h2 h3))) ⟨fun _ => by unfold tkE; rw [← hsT, if_neg (by omega)], fun q => by omega⟩ (Nat.lt_succ_self _)
        · have k_59 : ¬ n ≤ i := fun q => c_59 ((nI_leI (a := n) (b := i) (by omega) (by omega)).mpr q)
          refine wq_run3 (pc' := 68) (L' := [(0, .ref 92)]) (S' := [.int ((nI i) + 1), .ref 92]) (f' := (up1 f 92 (upd g 66 (nI i)))) rfl ?_
          refine wq_v (y := (nI (i + 1))) (nI_add i 1) ?_
          refine wq_putIk rfl rfl rfl ?_
          refine wq_h (f' := (up1 f 92 (upd (upd g 65 (nI (i + 1))) 66 (nI i)))) ((up2_up1_eq f 92 (upd g 66 (nI i)) 65 (nI (i + 1))).trans (congrArg (fun z => up1 f 92 z) ((upd_sw (g := g) (v := (nI i)) (w := (nI (i + 1))) (show (65 : Nat) ≠ 66 by decide)).trans (congrArg (fun z => upd z 66 (nI i)) (rfl))))) ?_
          exact mlp_tok2 hn1 hT hsT (n - (i + 1) + 1) (i + 1) _ (by omega) (Nat.le_succ _) ⟨hx.1, rfl, rfl, hx.2.2.2⟩ (fun k h1 h2 h3 => (upd_n h2).trans ((upd_n h1).trans (hk k h1 h2 h3))) ⟨fun q => by
            unfold tkE
            rw [← hsT, if_pos (by omega)]
            split
            · rfl
            · exact rn_n q, fun _ => ⟨by omega, fun q => by unfold tkE; rw [← hsT, if_pos (by omega), if_pos q], fun q => by unfold tkE; rw [← hsT, if_pos (by omega), if_neg q]⟩⟩ (Nat.lt_succ_self _)
theorem mp_token {f : HI} {T : Nat → Int32} {n : Nat} (hn1 : n ≤ 160) (hT : ∀ j, j < n → f 100 j = T j) {g : Nat → Int32} {p s e : Nat} (hp : p ≤ n) (hx : TY g n p s e) : Sp 2 146 [.ref 92] (up1 f 92 g) (fun v f' => ∃ g', v = none ∧ f' = up1 f 92 g' ∧ TY g' n (tkE T n p) (tkS T n p) (tkE T n p) ∧ ∀ k, k ≠ 65 → k ≠ 66 → k ≠ 67 → g' k = g k) := mlp_tok1 hn1 hT (n - p + 1) p g hp hx (fun _ _ _ _ => rfl) rfl (Nat.lt_succ_self _)
