/-! the text of the reference: the fault -/
abbrev RwM (T : Nat → Int32) (n m : Nat) (K M P : Nat → Int32) : Prop := ∀ i, i < m → K (40 + i) = (cC T n i).1 ∧ ((cC T n i).1 = 0 ∨ (cC T n i).1 = 1 → M (40 + i) = (cC T n i).2.1 ∧ P (40 + i) = (cC T n i).2.2.1) ∧ (¬ (cC T n i).1 = 0 → ¬ (cC T n i).1 = 1 → P (40 + i) = (cC T n i).2.1)
theorem rwm_s {T : Nat → Int32} {n m q2 : Nat} {K M P K2 M2 P2 : Nat → Int32} {k a b : Int32} (h : RwM T n m K M P) (hc : clR T n (pp T n m) = .inr (k, a, b, q2)) (hk : ∀ j, j < 40 + m → K2 j = K j ∧ M2 j = M j ∧ P2 j = P j) (h1 : K2 (40 + m) = k) (h2 : k = 0 ∨ k = 1 → M2 (40 + m) = a ∧ P2 (40 + m) = b) (h3 : ¬ k = 0 → ¬ k = 1 → P2 (40 + m) = a) : RwM T n (m + 1) K2 M2 P2 := by
  intro i hi
  by_cases c : i = m
  · subst c
    rw [cC_s hc]
    exact ⟨h1, h2, h3⟩
  · have q := hk (40 + i) (by omega)
    rw [q.1, q.2.1, q.2.2]
    exact h i (by omega)
theorem tk59 {T : Nat → Int32} {n p : Nat} (h : tkS T n p < n) (h2 : T (tkS T n p) = 59) : tkE T n p = tkS T n p + 1 := by
  unfold tkE
  rw [if_pos h, if_pos (by rw [h2]; rfl)]
theorem mlp_fault {f : HI} {T : Nat → Int32} {n : Nat} (hn1 : n ≤ 160) (hT : ∀ j, j < n → f 100 j = T j) {gb Ab Kb Mb Pb : Nat → Int32} : ∀ (m9 : Nat) (m : Nat) (p : Nat) (g : Nat → Int32) (A : Nat → Int32) (K : Nat → Int32) (M : Nat → Int32) (P : Nat → Int32), (m ≤ 8) → (p ≤ n) → (TY g n (tkE T n p) (tkS T n p) (tkE T n p)) → (pp T n m = tkE T n p) → (A 5 = nI m) → (psF T n 8 0 0 = if n ≤ tkS T n p then (none, m) else if ¬ T (tkS T n p) = 59 then (some (tkS T n p), m) else psF T n (8 - m) m (tkS T n p)) → (RwM T n m K M P) → (∀ k, k ≠ 65 → k ≠ 66 → k ≠ 67 → k ≠ 68 → g k = gb k) → (∀ j, j < 5 → A j = Ab j) → (∀ j, j < 40 → K j = Kb j ∧ M j = Mb j ∧ P j = Pb j) → 8 - m < m9 → wq 4 151 (fun v f' => ∃ g' A' K' M' P', v = some (.int (obI (psF T n 8 0 0).1)) ∧ f' = (up1 (up1 (up1 (up1 (up1 f 104 P') 103 M') 102 K') 101 A') 92 g') ∧ (∀ k, k ≠ 65 → k ≠ 66 → k ≠ 67 → k ≠ 68 → g' k = gb k) ∧ (∀ j, j < 5 → A' j = Ab j) ∧ (∀ j, j < 40 → K' j = Kb j ∧ M' j = Mb j ∧ P' j = Pb j) ∧ ((psF T n 8 0 0).1 = none → A' 5 = nI (psF T n 8 0 0).2 ∧ RwM T n (psF T n 8 0 0).2 K' M' P')) 28 [(0, .ref 92)] [] (up1 (up1 (up1 (up1 (up1 f 104 P) 103 M) 102 K) 101 A) 92 g) := by
  intro m9
  induction m9 with
  | zero => intro m p g A K M P hm hp hx hpp hA5 hps hrw hkg hkA hkR hn; exact absurd hn (Nat.not_lt_zero _)
  | succ m9 ih =>
    intro m p g A K M P hm hp hx hpp hA5 hps hrw hkg hkA hkR hn
    have t1 := tk_b (T := T) hp
    refine wq_run2 (pc' := 32) (L' := [(0, .ref 92)]) (S' := [.int (g 66)]) (f' := (up1 (up1 (up1 (up1 (up1 f 104 P) 103 M) 102 K) 101 A) 92 g)) rfl ?_
    refine wq_v (y := (nI (tkS T n p))) (hx.2.2.1) ?_
    refine wq_run2 (pc' := 36) (L' := [(0, .ref 92)]) (S' := [.int (g 10), .int (nI (tkS T n p))]) (f' := (up1 (up1 (up1 (up1 (up1 f 104 P) 103 M) 102 K) 101 A) 92 g)) rfl ?_
    refine wq_v (y := (nI n)) (hx.1) ?_
    refine wq_if (c := (nI n) ≤ (nI (tkS T n p))) (p1 := 108) (L1 := [(0, .ref 92)]) (S1 := []) (p2 := 39) (L2 := [(0, .ref 92)]) (S2 := []) rfl (fun c_36 => ?_) (fun c_36 => ?_)
    · have k_36 : n ≤ (tkS T n p) := (nI_leI (a := n) (b := (tkS T n p)) (by omega) (by omega)).mp c_36
      refine wq_run1 (pc' := 109) (L' := [(0, .ref 92)]) (S' := [.int (-1)]) (f' := (up1 (up1 (up1 (up1 (up1 f 104 P) 103 M) 102 K) 101 A) 92 g)) rfl ?_
      have e1 : psF T n 8 0 0 = (none, m) := by rw [hps]; exact if_pos k_36
      exact wq_ret rfl ⟨_, _, _, _, _, by rw [e1]; rfl, rfl, hkg, hkA, hkR, fun _ => by rw [e1]; exact ⟨hA5, hrw⟩⟩
    · have k_36 : ¬ n ≤ (tkS T n p) := fun q => c_36 ((nI_leI (a := n) (b := (tkS T n p)) (by omega) (by omega)).mpr q)
      refine wq_run2 (pc' := 43) (L' := [(0, .ref 92)]) (S' := [.int (g 67)]) (f' := (up1 (up1 (up1 (up1 (up1 f 104 P) 103 M) 102 K) 101 A) 92 g)) rfl ?_
      refine wq_v (y := (nI (tkE T n p))) (hx.2.2.2) ?_
      refine wq_run2 (pc' := 47) (L' := [(0, .ref 92)]) (S' := [.int (g 66), .int (nI (tkE T n p))]) (f' := (up1 (up1 (up1 (up1 (up1 f 104 P) 103 M) 102 K) 101 A) 92 g)) rfl ?_
      refine wq_v (y := (nI (tkS T n p))) (hx.2.2.1) ?_
      refine wq_run1 (pc' := 48) (L' := [(0, .ref 92)]) (S' := [.int ((nI (tkE T n p)) - (nI (tkS T n p)))]) (f' := (up1 (up1 (up1 (up1 (up1 f 104 P) 103 M) 102 K) 101 A) 92 g)) rfl ?_
      refine wq_v (y := (nI ((tkE T n p) - (tkS T n p)))) (pk_sub (a := (tkE T n p)) (b := (tkS T n p)) (by omega)) ?_
      refine wq_run1 (pc' := 49) (L' := [(0, .ref 92)]) (S' := [.int 1, .int (nI ((tkE T n p) - (tkS T n p)))]) (f' := (up1 (up1 (up1 (up1 (up1 f 104 P) 103 M) 102 K) 101 A) 92 g)) rfl ?_
      refine wq_if (c := (nI ((tkE T n p) - (tkS T n p))) = 1) (p1 := 52) (L1 := [(0, .ref 92)]) (S1 := []) (p2 := 81) (L2 := [(0, .ref 92)]) (S2 := []) rfl (fun c_49 => ?_) (fun c_49 => ?_)
      · have k_49 : ((tkE T n p) - (tkS T n p)) = 1 := (nI_eq (a := ((tkE T n p) - (tkS T n p))) (b := 1) (by omega) (by omega)).mp c_49
        refine wq_run4 (pc' := 60) (L' := [(0, .ref 92)]) (S' := [.int (g 66), .ref 100]) (f' := (up1 (up1 (up1 (up1 (up1 f 104 P) 103 M) 102 K) 101 A) 92 g)) rfl ?_
        refine wq_v (y := (nI (tkS T n p))) (hx.2.2.1) ?_
        refine wq_ald (j := (tkS T n p)) (n := 160) (v := (T (tkS T n p))) rfl rfl rfl rfl (by omega) (Nat.le_of_ble_eq_true rfl) (hT (tkS T n p) (by omega)) ?_
        refine wq_run1 (pc' := 63) (L' := [(0, .ref 92)]) (S' := [.int 59, .int (T (tkS T n p))]) (f' := (up1 (up1 (up1 (up1 (up1 f 104 P) 103 M) 102 K) 101 A) 92 g)) rfl ?_
        refine wq_if (c := (T (tkS T n p)) = 59) (p1 := 66) (L1 := [(0, .ref 92)]) (S1 := []) (p2 := 81) (L2 := [(0, .ref 92)]) (S2 := []) rfl (fun c_63 => ?_) (fun c_63 => ?_)
        · have k59 := c_63
          refine wq_run3 (pc' := 71) (L' := [(0, .ref 92)]) (S' := [.int 5, .ref 101]) (f' := (up1 (up1 (up1 (up1 (up1 f 104 P) 103 M) 102 K) 101 A) 92 g)) rfl ?_
          refine wq_ald (j := 5) (n := 6) (v := (nI m)) rfl rfl rfl rfl (Nat.le_of_ble_eq_true rfl) (Nat.le_of_ble_eq_true rfl) (hA5) ?_
          refine wq_run1 (pc' := 74) (L' := [(0, .ref 92)]) (S' := [.int 8, .int (nI m)]) (f' := (up1 (up1 (up1 (up1 (up1 f 104 P) 103 M) 102 K) 101 A) 92 g)) rfl ?_
          refine wq_if (c := 8 ≤ (nI m)) (p1 := 81) (L1 := [(0, .ref 92)]) (S1 := []) (p2 := 77) (L2 := [(0, .ref 92)]) (S2 := []) rfl (fun c_74 => ?_) (fun c_74 => ?_)
          · have k_74 : 8 ≤ m := (nI_leI (a := 8) (b := m) (by omega) (by omega)).mp c_74
            refine wq_run3 (pc' := 84) (L' := [(0, .ref 92), (1, .int 0)]) (S' := [.int 0]) (f' := (up1 (up1 (up1 (up1 (up1 f 104 P) 103 M) 102 K) 101 A) 92 g)) rfl ?_
            refine wq_if (c := 0 = 0) (p1 := 96) (L1 := [(0, .ref 92), (1, .int 0)]) (S1 := []) (p2 := 87) (L2 := [(0, .ref 92), (1, .int 0)]) (S2 := []) rfl (fun _ => ?_) (fun q => absurd rfl q)
            refine wq_run1 (pc' := 97) (L' := [(0, .ref 92), (1, .int 0)]) (S' := [.int 0]) (f' := (up1 (up1 (up1 (up1 (up1 f 104 P) 103 M) 102 K) 101 A) 92 g)) rfl ?_
            refine wq_if (c := 0 = 0) (p1 := 100) (L1 := [(0, .ref 92), (1, .int 0)]) (S1 := []) (p2 := 105) (L2 := [(0, .ref 92), (1, .int 0)]) (S2 := []) rfl (fun _ => ?_) (fun q => absurd rfl q)
            refine wq_run2 (pc' := 104) (L' := [(0, .ref 92), (1, .int 0)]) (S' := [.int (g 66)]) (f' := (up1 (up1 (up1 (up1 (up1 f 104 P) 103 M) 102 K) 101 A) 92 g)) rfl ?_
            refine wq_v (y := (nI (tkS T n p))) (hx.2.2.1) ?_
            have e0 : m = 8 := by omega
            subst e0
            have e1 : psF T n 8 0 0 = (some (tkS T n p), 8) := by rw [hps, if_neg (show ¬ n ≤ tkS T n p by omega), if_neg (fun q => q c_63)]; rfl
            exact wq_ret rfl ⟨_, _, _, _, _, by rw [e1]; rfl, rfl, hkg, hkA, hkR, fun h => by rw [e1] at h; cases h⟩
          · have k_74 : ¬ 8 ≤ m := fun q => c_74 ((nI_leI (a := 8) (b := m) (by omega) (by omega)).mpr q)
            refine wq_run4 (pc' := 84) (L' := [(0, .ref 92), (1, .int 1)]) (S' := [.int 1]) (f' := (up1 (up1 (up1 (up1 (up1 f 104 P) 103 M) 102 K) 101 A) 92 g)) rfl ?_
            refine wq_if (c := 1 = 0) (p1 := 96) (L1 := [(0, .ref 92), (1, .int 1)]) (S1 := []) (p2 := 87) (L2 := [(0, .ref 92), (1, .int 1)]) (S2 := []) rfl (fun q => absurd q (by decide)) (fun _ => ?_)
            refine wq_run1 (pc' := 88) (L' := [(0, .ref 92), (1, .int 1)]) (S' := [.ref 92]) (f' := (up1 (up1 (up1 (up1 (up1 f 104 P) 103 M) 102 K) 101 A) 92 g)) rfl ?_
            refine wq_call (mp_token (f := (up1 (up1 (up1 (up1 f 104 P) 103 M) 102 K) 101 A)) (T := T) (n := n) (g := g) (p := tkE T n p) hn1 hT t1.2.2.1 hx) (Nat.le_of_ble_eq_true rfl) (pc' := 91) (L' := [(0, .ref 92), (1, .int 1)]) (S' := []) rfl (Nat.le_of_ble_eq_true rfl) rfl rfl (Nat.le_of_ble_eq_true rfl) (Nat.le_of_ble_eq_true rfl) ?_
            rintro v f9 ⟨gk2, e0, ef, hx2, hk2⟩
            subst e0
            subst ef
            refine wq_run1 (pc' := 92) (L' := [(0, .ref 92), (1, .int 1)]) (S' := [.ref 92]) (f' := (up1 (up1 (up1 (up1 (up1 f 104 P) 103 M) 102 K) 101 A) 92 gk2)) rfl ?_
            refine wq_call (mp_readsClause (f := f) (T := T) (n := n) (c := m) (p := tkE T n p) hn1 hT (g := gk2) (A := A) (K := K) (M := M) (P := P) t1.2.2.1 hx2 (by omega) hA5) (Nat.le_of_ble_eq_true rfl) (pc' := 95) (L' := [(0, .ref 92), (1, .int 1)]) (S' := []) rfl (Nat.le_of_ble_eq_true rfl) rfl rfl (Nat.le_of_ble_eq_true rfl) (Nat.le_of_ble_eq_true rfl) ?_
            rintro v f9 ⟨rr, gk3, AA3, KK3, MM3, PP3, e0, ef, hg3, hA3, hR3, hr⟩
            subst e0
            subst ef
            refine wq_run2 (pc' := 97) (L' := [(0, .ref 92), (1, .int rr)]) (S' := [.int rr]) (f' := (up1 (up1 (up1 (up1 (up1 f 104 PP3) 103 MM3) 102 KK3) 101 AA3) 92 gk3)) rfl ?_
            refine wq_if (c := rr = 0) (p1 := 100) (L1 := [(0, .ref 92), (1, .int rr)]) (S1 := []) (p2 := 105) (L2 := [(0, .ref 92), (1, .int rr)]) (S2 := []) rfl (fun c_97 => ?_) (fun c_97 => ?_)
            · have hkg3 : ∀ k, k ≠ 65 → k ≠ 66 → k ≠ 67 → k ≠ 68 → gk3 k = gb k := fun k h1 h2 h3 h4 => (hg3 k h1 h2 h3 h4).trans ((hk2 k h1 h2 h3).trans (hkg k h1 h2 h3 h4))
              have hkA3 : ∀ j, j < 5 → AA3 j = Ab j := fun j hj => (hA3 j hj).trans (hkA j hj)
              have hkR3 : ∀ j, j < 40 → KK3 j = Kb j ∧ MM3 j = Mb j ∧ PP3 j = Pb j := fun j hj => ⟨(hR3 j (by omega)).1.trans (hkR j hj).1, (hR3 j (by omega)).2.1.trans (hkR j hj).2.1, (hR3 j (by omega)).2.2.trans (hkR j hj).2.2⟩
              obtain ⟨ss, aa, ee, hcl, hx3⟩ := (hr.resolve_right (fun q => absurd (q.1.symm.trans c_97) (by decide))).2
              rw [← hpp] at hcl
              refine wq_run2 (pc' := 104) (L' := [(0, .ref 92), (1, .int rr)]) (S' := [.int (gk3 66)]) (f' := (up1 (up1 (up1 (up1 (up1 f 104 PP3) 103 MM3) 102 KK3) 101 AA3) 92 gk3)) rfl ?_
              refine wq_v (y := (nI ss)) (hx3.2.2.1) ?_
              have e1 : psF T n 8 0 0 = (some ss, m) := by rw [hps, if_neg (show ¬ n ≤ tkS T n p by omega), if_neg (fun q => q k59), show 8 - m = (7 - m) + 1 by omega]; exact ps_l hcl
              exact wq_ret rfl ⟨_, _, _, _, _, by rw [e1]; rfl, rfl, hkg3, hkA3, hkR3, fun h => by rw [e1] at h; cases h⟩
            · have hkg3 : ∀ k, k ≠ 65 → k ≠ 66 → k ≠ 67 → k ≠ 68 → gk3 k = gb k := fun k h1 h2 h3 h4 => (hg3 k h1 h2 h3 h4).trans ((hk2 k h1 h2 h3).trans (hkg k h1 h2 h3 h4))
              have hkA3 : ∀ j, j < 5 → AA3 j = Ab j := fun j hj => (hA3 j hj).trans (hkA j hj)
              have hkR3 : ∀ j, j < 40 → KK3 j = Kb j ∧ MM3 j = Mb j ∧ PP3 j = Pb j := fun j hj => ⟨(hR3 j (by omega)).1.trans (hkR j hj).1, (hR3 j (by omega)).2.1.trans (hkR j hj).2.1, (hR3 j (by omega)).2.2.trans (hkR j hj).2.2⟩
              obtain ⟨kx, ax, bx, q2, hcl, hx3, hA53, h31, h32, h33⟩ := (hr.resolve_left (fun q => c_97 q.1)).2
              rw [← hpp] at hcl
              have hok := clR_ok (pp_b m) hcl
              refine wq_run1 (pc' := 28) (L' := [(0, .ref 92)]) (S' := []) (f' := (up1 (up1 (up1 (up1 (up1 f 104 PP3) 103 MM3) 102 KK3) 101 AA3) 92 gk3)) rfl ?_
              exact ih (m + 1) q2 _ _ _ _ _ (by omega) hok.1 hx3 (by rw [pp_s hcl]) hA53 (by rw [hps, if_neg (show ¬ n ≤ tkS T n p by omega), if_neg (fun q => q k59), show 8 - m = (7 - m) + 1 by omega, ps_r hcl, show 8 - (m + 1) = 7 - m by omega]) (rwm_s hrw hcl hR3 h31 h32 h33) hkg3 hkA3 hkR3 (by omega)
        · refine wq_run3 (pc' := 84) (L' := [(0, .ref 92), (1, .int 0)]) (S' := [.int 0]) (f' := (up1 (up1 (up1 (up1 (up1 f 104 P) 103 M) 102 K) 101 A) 92 g)) rfl ?_
          refine wq_if (c := 0 = 0) (p1 := 96) (L1 := [(0, .ref 92), (1, .int 0)]) (S1 := []) (p2 := 87) (L2 := [(0, .ref 92), (1, .int 0)]) (S2 := []) rfl (fun _ => ?_) (fun q => absurd rfl q)
          refine wq_run1 (pc' := 97) (L' := [(0, .ref 92), (1, .int 0)]) (S' := [.int 0]) (f' := (up1 (up1 (up1 (up1 (up1 f 104 P) 103 M) 102 K) 101 A) 92 g)) rfl ?_
          refine wq_if (c := 0 = 0) (p1 := 100) (L1 := [(0, .ref 92), (1, .int 0)]) (S1 := []) (p2 := 105) (L2 := [(0, .ref 92), (1, .int 0)]) (S2 := []) rfl (fun _ => ?_) (fun q => absurd rfl q)
          refine wq_run2 (pc' := 104) (L' := [(0, .ref 92), (1, .int 0)]) (S' := [.int (g 66)]) (f' := (up1 (up1 (up1 (up1 (up1 f 104 P) 103 M) 102 K) 101 A) 92 g)) rfl ?_
          refine wq_v (y := (nI (tkS T n p))) (hx.2.2.1) ?_
          have e1 : psF T n 8 0 0 = (some (tkS T n p), m) := by rw [hps, if_neg (show ¬ n ≤ tkS T n p by omega)]; exact if_pos (c_63)
          exact wq_ret rfl ⟨_, _, _, _, _, by rw [e1]; rfl, rfl, hkg, hkA, hkR, fun h => by rw [e1] at h; cases h⟩
      · have k_49 : ¬ ((tkE T n p) - (tkS T n p)) = 1 := fun q => c_49 ((nI_eq (a := ((tkE T n p) - (tkS T n p))) (b := 1) (by omega) (by omega)).mpr q)
        refine wq_run3 (pc' := 84) (L' := [(0, .ref 92), (1, .int 0)]) (S' := [.int 0]) (f' := (up1 (up1 (up1 (up1 (up1 f 104 P) 103 M) 102 K) 101 A) 92 g)) rfl ?_
        refine wq_if (c := 0 = 0) (p1 := 96) (L1 := [(0, .ref 92), (1, .int 0)]) (S1 := []) (p2 := 87) (L2 := [(0, .ref 92), (1, .int 0)]) (S2 := []) rfl (fun _ => ?_) (fun q => absurd rfl q)
        refine wq_run1 (pc' := 97) (L' := [(0, .ref 92), (1, .int 0)]) (S' := [.int 0]) (f' := (up1 (up1 (up1 (up1 (up1 f 104 P) 103 M) 102 K) 101 A) 92 g)) rfl ?_
        refine wq_if (c := 0 = 0) (p1 := 100) (L1 := [(0, .ref 92), (1, .int 0)]) (S1 := []) (p2 := 105) (L2 := [(0, .ref 92), (1, .int 0)]) (S2 := []) rfl (fun _ => ?_) (fun q => absurd rfl q)
        refine wq_run2 (pc' := 104) (L' := [(0, .ref 92), (1, .int 0)]) (S' := [.int (g 66)]) (f' := (up1 (up1 (up1 (up1 (up1 f 104 P) 103 M) 102 K) 101 A) 92 g)) rfl ?_
        refine wq_v (y := (nI (tkS T n p))) (hx.2.2.1) ?_
        have e1 : psF T n 8 0 0 = (some (tkS T n p), m) := by rw [hps, if_neg (show ¬ n ≤ tkS T n p by omega)]; exact if_pos (fun q => k_49 (by rw [tk59 (by omega) q]; omega))
        exact wq_ret rfl ⟨_, _, _, _, _, by rw [e1]; rfl, rfl, hkg, hkA, hkR, fun h => by rw [e1] at h; cases h⟩
theorem mp_fault0 {f : HI} {T : Nat → Int32} {n : Nat} (hn1 : n ≤ 160) (hT : ∀ j, j < n → f 100 j = T j) {gb Ab Kb Mb Pb : Nat → Int32} (hg1 : gb 10 = nI n) : Sp 4 151 [.ref 92] (up1 (up1 (up1 (up1 (up1 f 104 Pb) 103 Mb) 102 Kb) 101 Ab) 92 gb) (fun v f' => ∃ g' A' K' M' P', v = some (.int (obI (psF T n 8 0 0).1)) ∧ f' = (up1 (up1 (up1 (up1 (up1 f 104 P') 103 M') 102 K') 101 A') 92 g') ∧ (∀ k, k ≠ 65 → k ≠ 66 → k ≠ 67 → k ≠ 68 → g' k = gb k) ∧ (∀ j, j < 5 → A' j = Ab j) ∧ (∀ j, j < 40 → K' j = Kb j ∧ M' j = Mb j ∧ P' j = Pb j) ∧ ((psF T n 8 0 0).1 = none → A' 5 = nI (psF T n 8 0 0).2 ∧ RwM T n (psF T n 8 0 0).2 K' M' P')) := by
  obtain ⟨s9, hs9⟩ := nI_ex (gb 66)
  obtain ⟨e9, he9⟩ := nI_ex (gb 67)
  show wq 4 151 (fun v f' => ∃ g' A' K' M' P', v = some (.int (obI (psF T n 8 0 0).1)) ∧ f' = (up1 (up1 (up1 (up1 (up1 f 104 P') 103 M') 102 K') 101 A') 92 g') ∧ (∀ k, k ≠ 65 → k ≠ 66 → k ≠ 67 → k ≠ 68 → g' k = gb k) ∧ (∀ j, j < 5 → A' j = Ab j) ∧ (∀ j, j < 40 → K' j = Kb j ∧ M' j = Mb j ∧ P' j = Pb j) ∧ ((psF T n 8 0 0).1 = none → A' 5 = nI (psF T n 8 0 0).2 ∧ RwM T n (psF T n 8 0 0).2 K' M' P')) 0 [(0, .ref 92)] [] (up1 (up1 (up1 (up1 (up1 f 104 Pb) 103 Mb) 102 Kb) 101 Ab) 92 gb)
  refine wq_run2 (pc' := 2) (L' := [(0, .ref 92)]) (S' := [.int 0, .ref 92]) (f' := (up1 (up1 (up1 (up1 (up1 f 104 Pb) 103 Mb) 102 Kb) 101 Ab) 92 gb)) rfl ?_
  refine wq_putI rfl rfl ?_
  refine wq_h (f' := (up1 (up1 (up1 (up1 (up1 f 104 Pb) 103 Mb) 102 Kb) 101 Ab) 92 (upd gb 65 0))) ((up2_up1_eq (up1 (up1 (up1 (up1 f 104 Pb) 103 Mb) 102 Kb) 101 Ab) 92 gb 65 0).trans (congrArg (fun z => up1 (up1 (up1 (up1 (up1 f 104 Pb) 103 Mb) 102 Kb) 101 Ab) 92 z) (rfl))) ?_
  refine wq_run4 (pc' := 11) (L' := [(0, .ref 92)]) (S' := [.int 0, .int 5, .ref 101]) (f' := (up1 (up1 (up1 (up1 (up1 f 104 Pb) 103 Mb) 102 Kb) 101 Ab) 92 (upd gb 65 0))) rfl ?_
  refine wq_ist (j := 5) (n := 6) rfl rfl rfl rfl (Nat.le_of_ble_eq_true rfl) (Nat.le_of_ble_eq_true rfl) ?_
  refine wq_h (f' := (up1 (up1 (up1 (up1 (up1 f 104 Pb) 103 Mb) 102 Kb) 101 (upd Ab 5 0)) 92 (upd gb 65 0))) ((up2_up1_ne (f := (up1 (up1 (up1 (up1 f 104 Pb) 103 Mb) 102 Kb) 101 Ab)) (g := (upd gb 65 0)) (k := 5) (v := 0) (show (101 : Nat) ≠ 92 by decide)).trans (congrArg (fun z => up1 z 92 (upd gb 65 0)) ((up2_up1_eq (up1 (up1 (up1 f 104 Pb) 103 Mb) 102 Kb) 101 Ab 5 0).trans (congrArg (fun z => up1 (up1 (up1 (up1 f 104 Pb) 103 Mb) 102 Kb) 101 z) (rfl))))) ?_
  refine wq_run1 (pc' := 13) (L' := [(0, .ref 92)]) (S' := [.ref 92]) (f' := (up1 (up1 (up1 (up1 (up1 f 104 Pb) 103 Mb) 102 Kb) 101 (upd Ab 5 0)) 92 (upd gb 65 0))) rfl ?_
  refine wq_call (mp_token (f := (up1 (up1 (up1 (up1 f 104 Pb) 103 Mb) 102 Kb) 101 (upd Ab 5 0))) (T := T) (n := n) (g := (upd gb 65 0)) (p := 0) hn1 hT (Nat.zero_le _) ⟨hg1, rfl, hs9, he9⟩) (Nat.le_of_ble_eq_true rfl) (pc' := 16) (L' := [(0, .ref 92)]) (S' := []) rfl (Nat.le_of_ble_eq_true rfl) rfl rfl (Nat.le_of_ble_eq_true rfl) (Nat.le_of_ble_eq_true rfl) ?_
  rintro v f9 ⟨gk2, e0, ef, hx2, hk2⟩
  subst e0
  subst ef
  refine wq_run1 (pc' := 17) (L' := [(0, .ref 92)]) (S' := [.ref 92]) (f' := (up1 (up1 (up1 (up1 (up1 f 104 Pb) 103 Mb) 102 Kb) 101 (upd Ab 5 0)) 92 gk2)) rfl ?_
  refine wq_call (mp_readsClause (f := f) (T := T) (n := n) (c := 0) (p := 0) hn1 hT (g := gk2) (A := upd Ab 5 0) (K := Kb) (M := Mb) (P := Pb) (Nat.zero_le _) hx2 (by omega) rfl) (Nat.le_of_ble_eq_true rfl) (pc' := 20) (L' := [(0, .ref 92)]) (S' := []) rfl (Nat.le_of_ble_eq_true rfl) rfl rfl (Nat.le_of_ble_eq_true rfl) (Nat.le_of_ble_eq_true rfl) ?_
  rintro v f9 ⟨rr, gk3, AA3, KK3, MM3, PP3, e0, ef, hg3, hA3, hR3, hr⟩
  subst e0
  subst ef
  refine wq_ifk (c := rr = 0) (p1 := 23) (p2 := 28) (L1 := [(0, .ref 92)]) (L2 := [(0, .ref 92)]) (S1 := []) rfl rfl rfl (fun c_20 => ?_) (fun c_20 => ?_)
  · have hkg3 : ∀ k, k ≠ 65 → k ≠ 66 → k ≠ 67 → k ≠ 68 → gk3 k = gb k := fun k h1 h2 h3 h4 => (hg3 k h1 h2 h3 h4).trans ((hk2 k h1 h2 h3).trans (upd_n h1))
    have hkA3 : ∀ j, j < 5 → AA3 j = Ab j := fun j hj => (hA3 j hj).trans (upd_n (by omega))
    have hkR3 : ∀ j, j < 40 → KK3 j = Kb j ∧ MM3 j = Mb j ∧ PP3 j = Pb j := fun j hj => hR3 j (by omega)
    obtain ⟨ss, aa, ee, hcl, hx3⟩ := (hr.resolve_right (fun q => absurd (q.1.symm.trans c_20) (by decide))).2
    refine wq_run2 (pc' := 27) (L' := [(0, .ref 92)]) (S' := [.int (gk3 66)]) (f' := (up1 (up1 (up1 (up1 (up1 f 104 PP3) 103 MM3) 102 KK3) 101 AA3) 92 gk3)) rfl ?_
    refine wq_v (y := (nI ss)) (hx3.2.2.1) ?_
    have e1 : psF T n 8 0 0 = (some ss, 0) := ps_l hcl
    exact wq_ret rfl ⟨_, _, _, _, _, by rw [e1]; rfl, rfl, hkg3, hkA3, hkR3, fun h => by rw [e1] at h; cases h⟩
  · have hkg3 : ∀ k, k ≠ 65 → k ≠ 66 → k ≠ 67 → k ≠ 68 → gk3 k = gb k := fun k h1 h2 h3 h4 => (hg3 k h1 h2 h3 h4).trans ((hk2 k h1 h2 h3).trans (upd_n h1))
    have hkA3 : ∀ j, j < 5 → AA3 j = Ab j := fun j hj => (hA3 j hj).trans (upd_n (by omega))
    have hkR3 : ∀ j, j < 40 → KK3 j = Kb j ∧ MM3 j = Mb j ∧ PP3 j = Pb j := fun j hj => hR3 j (by omega)
    obtain ⟨kx, ax, bx, q2, hcl, hx3, hA53, h31, h32, h33⟩ := (hr.resolve_left (fun q => c_20 q.1)).2
    have hok := clR_ok (Nat.zero_le n) hcl
    exact mlp_fault hn1 hT (8 - 1 + 1) 1 q2 _ _ _ _ _ (by omega) hok.1 hx3 (pp_s (i := 0) hcl) hA53 (ps_r (i := 0) hcl) (rwm_s (K := Kb) (M := Mb) (P := Pb) (fun _ h => absurd h (Nat.not_lt_zero _)) hcl hR3 h31 h32 h33) hkg3 hkA3 hkR3 (by omega)
theorem mp_fault {f : HI} {T : Nat → Int32} {n : Nat} (hn1 : n ≤ 160) (hT : ∀ j, j < n → f 100 j = T j) (hg1 : f 92 10 = nI n) : Sp 4 151 [.ref 92] f (fun v f' => ∃ g' A' K' M' P', v = some (.int (obI (psF T n 8 0 0).1)) ∧ f' = (up1 (up1 (up1 (up1 (up1 f 104 P') 103 M') 102 K') 101 A') 92 g') ∧ (∀ k, k ≠ 65 → k ≠ 66 → k ≠ 67 → k ≠ 68 → g' k = f 92 k) ∧ (∀ j, j < 5 → A' j = f 101 j) ∧ (∀ j, j < 40 → K' j = f 102 j ∧ M' j = f 103 j ∧ P' j = f 104 j) ∧ ((psF T n 8 0 0).1 = none → A' 5 = nI (psF T n 8 0 0).2 ∧ RwM T n (psF T n 8 0 0).2 K' M' P')) := by
  have h := mp_fault0 hn1 hT (gb := f 92) (Ab := f 101) (Kb := f 102) (Mb := f 103) (Pb := f 104) hg1
  rw [up1_id, up1_id, up1_id, up1_id, up1_id] at h
  exact h
