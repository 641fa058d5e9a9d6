/-! force of the reference -/
theorem mlp_known {fb : HI} {W : Nat → Nat → Nat} {w h m : Nat} (hM : LaM fb W w) (hh : h ≤ 60000) (hm5 : m < 5) (h8 : fb 92 8 = nI h) (h17 : fb 92 17 = nI m) : ∀ (m9 : Nat) (t : Nat) (kk : Nat → Int32) (rr : Nat → Int32), (t ≤ 10) → (∀ j, j < t → kk (10 * m + j) = dI (arN W w 0 h j)) → (∀ j, j < 10 * m → kk j = fb 106 j) → 10 - t < m9 → wq 4 152 (fun v f' => ∃ kk rr, v = some (.int (nI m)) ∧ f' = up1 (up1 (up1 fb 92 (upd (upd (fb 92) 17 (nI (m + 1))) 10 0)) 106 kk) 136 rr ∧ (∀ t, t < 10 → kk (10 * m + t) = dI (arN W w 0 h t)) ∧ ∀ j, j < 10 * m → kk j = fb 106 j) 151 [(0, .ref 92), (2, .int (nI t))] [] (up1 (up1 fb 106 kk) 136 rr) := by
  intro m9
  induction m9 with
  | zero => intro t kk rr ht hk hk2 hn; exact absurd hn (Nat.not_lt_zero _)
  | succ m9 ih =>
    intro t kk rr ht hk hk2 hn
    refine wq_run2 (pc' := 154) (L' := [(0, .ref 92), (2, .int (nI t))]) (S' := [.int 10, .int (nI t)]) (f' := (up1 (up1 fb 106 kk) 136 rr)) rfl ?_
    refine wq_if (c := 10 ≤ (nI t)) (p1 := 187) (L1 := [(0, .ref 92), (2, .int (nI t))]) (S1 := []) (p2 := 157) (L2 := [(0, .ref 92), (2, .int (nI t))]) (S2 := []) rfl (fun c_154 => ?_) (fun c_154 => ?_)
    · have k_154 : 10 ≤ t := (nI_leI (a := 10) (b := t) (by omega) (by omega)).mp c_154
      refine wq_run2 (pc' := 189) (L' := [(0, .ref 92), (2, .int (nI t))]) (S' := [.int 0, .ref 92]) (f' := (up1 (up1 fb 106 kk) 136 rr)) rfl ?_
      refine wq_putI rfl rfl ?_
      refine wq_h (f' := (up1 (up1 (up1 fb 92 (upd (fb 92) 10 0)) 106 kk) 136 rr)) ((up2_up1_ne (f := (up1 fb 106 kk)) (g := rr) (k := 10) (v := 0) (show (92 : Nat) ≠ 136 by decide)).trans (congrArg (fun z => up1 z 136 rr) ((up2_up1_ne (f := fb) (g := kk) (k := 10) (v := 0) (show (92 : Nat) ≠ 106 by decide)).trans (congrArg (fun z => up1 z 106 kk) (up2_eq1 fb 92 10 0))))) ?_
      refine wq_run3 (pc' := 197) (L' := [(0, .ref 92), (2, .int (nI t))]) (S' := [.int ((fb 92) 17), .ref 92]) (f' := (up1 (up1 (up1 fb 92 (upd (fb 92) 10 0)) 106 kk) 136 rr)) rfl ?_
      refine wq_v (y := (nI m)) (h17) ?_
      refine wq_run2 (pc' := 199) (L' := [(0, .ref 92), (2, .int (nI t))]) (S' := [.int ((nI m) + 1), .ref 92]) (f' := (up1 (up1 (up1 fb 92 (upd (fb 92) 10 0)) 106 kk) 136 rr)) rfl ?_
      refine wq_v (y := (nI (m + 1))) (nI_add m 1) ?_
      refine wq_putI rfl rfl ?_
      refine wq_h (f' := (up1 (up1 (up1 fb 92 (upd (upd (fb 92) 17 (nI (m + 1))) 10 0)) 106 kk) 136 rr)) ((up2_up1_ne (f := (up1 (up1 fb 92 (upd (fb 92) 10 0)) 106 kk)) (g := rr) (k := 17) (v := (nI (m + 1))) (show (92 : Nat) ≠ 136 by decide)).trans (congrArg (fun z => up1 z 136 rr) ((up2_up1_ne (f := (up1 fb 92 (upd (fb 92) 10 0))) (g := kk) (k := 17) (v := (nI (m + 1))) (show (92 : Nat) ≠ 106 by decide)).trans (congrArg (fun z => up1 z 106 kk) ((up2_up1_eq fb 92 (upd (fb 92) 10 0) 17 (nI (m + 1))).trans (congrArg (fun z => up1 fb 92 z) ((upd_sw (g := (fb 92)) (v := 0) (w := (nI (m + 1))) (show (17 : Nat) ≠ 10 by decide)).trans (congrArg (fun z => upd z 10 0) (rfl))))))))) ?_
      refine wq_run4 (pc' := 208) (L' := [(0, .ref 92), (2, .int (nI t))]) (S' := [.int ((nI (m + 1)) - 1)]) (f' := (up1 (up1 (up1 fb 92 (upd (upd (fb 92) 17 (nI (m + 1))) 10 0)) 106 kk) 136 rr)) rfl ?_
      refine wq_v (y := (nI ((m + 1) - 1))) (pk_sub (a := (m + 1)) (b := 1) (by omega)) ?_
      have e : t = 10 := by omega
      rw [e] at hk
      exact wq_ret rfl ⟨kk, rr, rfl, rfl, hk, hk2⟩
    · have k_154 : ¬ 10 ≤ t := fun q => c_154 ((nI_leI (a := 10) (b := t) (by omega) (by omega)).mpr q)
      refine wq_run5 (pc' := 167) (L' := [(0, .ref 92), (2, .int (nI t))]) (S' := [.int (fb 92 17), .int 10, .ref 106]) (f' := (up1 (up1 fb 106 kk) 136 rr)) rfl ?_
      refine wq_v (y := (nI m)) (h17) ?_
      refine wq_run1 (pc' := 168) (L' := [(0, .ref 92), (2, .int (nI t))]) (S' := [.int (10 * (nI m)), .ref 106]) (f' := (up1 (up1 fb 106 kk) 136 rr)) rfl ?_
      refine wq_v (y := (nI (10 * m))) (pk_mul 10 m) ?_
      refine wq_run2 (pc' := 170) (L' := [(0, .ref 92), (2, .int (nI t))]) (S' := [.int ((nI (10 * m)) + (nI t)), .ref 106]) (f' := (up1 (up1 fb 106 kk) 136 rr)) rfl ?_
      refine wq_v (y := (nI ((10 * m) + t))) (nI_add (10 * m) t) ?_
      refine wq_run5 (pc' := 177) (L' := [(0, .ref 92), (2, .int (nI t))]) (S' := [.int (fb 92 8), .int (nI t), .int 0, .ref 92, .int (nI ((10 * m) + t)), .ref 106]) (f' := (up1 (up1 fb 106 kk) 136 rr)) rfl ?_
      refine wq_v (y := (nI h)) (h8) ?_
      refine wq_call (mp_dueOf (f := (up1 (up1 fb 106 kk) 136 rr)) (W := W) (w := w) (a := 0) (b := t) (h := h) hM (by omega) (by omega) (by omega)) (Nat.le_of_ble_eq_true rfl) (pc' := 180) (L' := [(0, .ref 92), (2, .int (nI t))]) (S' := [.int (nI ((10 * m) + t)), .ref 106]) rfl (Nat.le_of_ble_eq_true rfl) rfl rfl (Nat.le_of_ble_eq_true rfl) (Nat.le_of_ble_eq_true rfl) ?_
      rintro v f9 ⟨g, e0, ef⟩
      subst e0
      subst ef
      refine wq_h (f' := (up1 (up1 fb 106 kk) 136 g)) (by rw [show up1 (up1 (up1 fb 106 kk) 136 rr) 136 g = _ from up1_up1 (up1 fb 106 kk) 136 rr g]) ?_
      refine wq_ist (j := ((10 * m) + t)) (n := 50) rfl rfl rfl rfl (by omega) (Nat.le_of_ble_eq_true rfl) ?_
      refine wq_h (f' := (up1 (up1 fb 106 (upd kk ((10 * m) + t) (dI (arN W w 0 h t)))) 136 g)) ((up2_up1_ne (f := (up1 fb 106 kk)) (g := g) (k := ((10 * m) + t)) (v := (dI (arN W w 0 h t))) (show (106 : Nat) ≠ 136 by decide)).trans (congrArg (fun z => up1 z 136 g) ((up2_up1_eq fb 106 kk ((10 * m) + t) (dI (arN W w 0 h t))).trans (congrArg (fun z => up1 fb 106 z) (rfl))))) ?_
      refine wq_run1 (pc' := 184) (L' := [(0, .ref 92), (2, .int ((nI t) + 1))]) (S' := []) (f' := (up1 (up1 fb 106 (upd kk ((10 * m) + t) (dI (arN W w 0 h t)))) 136 g)) rfl ?_
      refine wq_L (L' := [(0, .ref 92), (2, .int (nI (t + 1)))]) (by rw [show nI t + 1 = nI (t + 1) from nI_add _ _]) ?_
      refine wq_run1 (pc' := 151) (L' := [(0, .ref 92), (2, .int (nI (t + 1)))]) (S' := []) (f' := (up1 (up1 fb 106 (upd kk ((10 * m) + t) (dI (arN W w 0 h t)))) 136 g)) rfl ?_
      exact ih (t + 1) _ _ (by omega) (fun j hj => by
        rcases Nat.lt_or_ge j t with q | q
        · exact (upd_n (by omega)).trans (hk j q)
        · have e1 : j = t := by omega
          rw [e1]; exact upd_s _ _ _) (fun j hj => (upd_n (by omega)).trans (hk2 j hj)) (by omega)
theorem mlp_copy {f : HI} {T : Nat → Int32} {n c m w h : Nat} {W : Nat → Nat → Nat} {day : Int32} (hM : LaM f W w) (hh : h ≤ 60000) (hm5 : m < 5) (h8 : f 92 8 = nI h) (h17 : f 92 17 = nI m) (hc8 : c ≤ 8) {g A K9 M9 P9 : Nat → Int32} (hk : ∀ k, k ≠ 65 → k ≠ 66 → k ≠ 67 → k ≠ 68 → g k = f 92 k) (hA5 : A 5 = nI c) (hAm : A m = nI c) (hA : ∀ j, j < m → A j = f 101 j) (hR9 : ∀ j, j < 40 → K9 j = f 102 j ∧ M9 j = f 103 j ∧ P9 j = f 104 j) (hrw : RwM T n c K9 M9 P9) : ∀ (m9 : Nat) (i : Nat) (K : Nat → Int32) (M : Nat → Int32) (P : Nat → Int32), (i ≤ c) → (∀ j, j < i → K (8 * m + j) = K9 (40 + j) ∧ M (8 * m + j) = M9 (40 + j) ∧ P (8 * m + j) = P9 (40 + j)) → (∀ j, j < 8 * m ∨ 40 ≤ j → K j = K9 j ∧ M j = M9 j ∧ P j = P9 j) → c - i < m9 → wq 4 152 (fun v f' => ∃ g A K M P kk rr, v = some (.int (nI m)) ∧ f' = up1 (up1 (up1 (up1 (up1 (up1 (up1 (up1 (up1 f 105 (upd (f 105) m day)) 104 P) 103 M) 102 K) 101 A) 92 g) 92 (upd (upd g 17 (nI (m + 1))) 10 0)) 106 kk) 136 rr ∧ (∀ k, k ≠ 65 → k ≠ 66 → k ≠ 67 → k ≠ 68 → g k = f 92 k) ∧ A m = nI c ∧ (∀ j, j < m → A j = f 101 j) ∧ (∀ j, j < 8 * m → K j = f 102 j ∧ M j = f 103 j ∧ P j = f 104 j) ∧ (∀ i, i < c → K (8 * m + i) = (cC T n i).1 ∧ ((cC T n i).1 = 0 ∨ (cC T n i).1 = 1 → M (8 * m + i) = (cC T n i).2.1 ∧ P (8 * m + i) = (cC T n i).2.2.1) ∧ (¬ (cC T n i).1 = 0 → ¬ (cC T n i).1 = 1 → P (8 * m + i) = (cC T n i).2.1)) ∧ (∀ t, t < 10 → kk (10 * m + t) = dI (arN W w 0 h t)) ∧ ∀ j, j < 10 * m → kk j = f 106 j) 54 [(0, .ref 92), (1, .int day), (2, .int (nI i))] [] (up1 (up1 (up1 (up1 (up1 f 104 P) 103 M) 102 K) 101 A) 92 g) := by
  intro m9
  induction m9 with
  | zero => intro i K M P hi hcp hlo hn; exact absurd hn (Nat.not_lt_zero _)
  | succ m9 ih =>
    intro i K M P hi hcp hlo hn
    have hlo2 : ∀ j, j < 8 * m → K j = f 102 j ∧ M j = f 103 j ∧ P j = f 104 j := fun j hj => ⟨(hlo j (Or.inl hj)).1.trans (hR9 j (by omega)).1, (hlo j (Or.inl hj)).2.1.trans (hR9 j (by omega)).2.1, (hlo j (Or.inl hj)).2.2.trans (hR9 j (by omega)).2.2⟩
    refine wq_run4 (pc' := 60) (L' := [(0, .ref 92), (1, .int day), (2, .int (nI i))]) (S' := [.int 5, .ref 101, .int (nI i)]) (f' := (up1 (up1 (up1 (up1 (up1 f 104 P) 103 M) 102 K) 101 A) 92 g)) rfl ?_
    refine wq_ald (j := 5) (n := 6) (v := (nI c)) rfl rfl rfl rfl (Nat.le_of_ble_eq_true rfl) (Nat.le_of_ble_eq_true rfl) (hA5) ?_
    refine wq_if (c := (nI c) ≤ (nI i)) (p1 := 139) (L1 := [(0, .ref 92), (1, .int day), (2, .int (nI i))]) (S1 := []) (p2 := 64) (L2 := [(0, .ref 92), (1, .int day), (2, .int (nI i))]) (S2 := []) rfl (fun c_61 => ?_) (fun c_61 => ?_)
    · have k_61 : c ≤ i := (nI_leI (a := c) (b := i) (by omega) (by omega)).mp c_61
      refine wq_run4 (pc' := 147) (L' := [(0, .ref 92), (1, .int day), (2, .int (nI i))]) (S' := [.int (g 17), .ref 105]) (f' := (up1 (up1 (up1 (up1 (up1 f 104 P) 103 M) 102 K) 101 A) 92 g)) rfl ?_
      refine wq_v (y := (nI m)) ((hk 17 (by decide) (by decide) (by decide) (by decide)).trans h17) ?_
      refine wq_run1 (pc' := 148) (L' := [(0, .ref 92), (1, .int day), (2, .int (nI i))]) (S' := [.int day, .int (nI m), .ref 105]) (f' := (up1 (up1 (up1 (up1 (up1 f 104 P) 103 M) 102 K) 101 A) 92 g)) rfl ?_
      refine wq_ist (j := m) (n := 5) rfl rfl rfl rfl (by omega) (Nat.le_of_ble_eq_true rfl) ?_
      refine wq_h (f' := (up1 (up1 (up1 (up1 (up1 (up1 f 105 (upd (f 105) m day)) 104 P) 103 M) 102 K) 101 A) 92 g)) ((up2_up1_ne (f := (up1 (up1 (up1 (up1 f 104 P) 103 M) 102 K) 101 A)) (g := g) (k := m) (v := day) (show (105 : Nat) ≠ 92 by decide)).trans (congrArg (fun z => up1 z 92 g) ((up2_up1_ne (f := (up1 (up1 (up1 f 104 P) 103 M) 102 K)) (g := A) (k := m) (v := day) (show (105 : Nat) ≠ 101 by decide)).trans (congrArg (fun z => up1 z 101 A) ((up2_up1_ne (f := (up1 (up1 f 104 P) 103 M)) (g := K) (k := m) (v := day) (show (105 : Nat) ≠ 102 by decide)).trans (congrArg (fun z => up1 z 102 K) ((up2_up1_ne (f := (up1 f 104 P)) (g := M) (k := m) (v := day) (show (105 : Nat) ≠ 103 by decide)).trans (congrArg (fun z => up1 z 103 M) ((up2_up1_ne (f := f) (g := P) (k := m) (v := day) (show (105 : Nat) ≠ 104 by decide)).trans (congrArg (fun z => up1 z 104 P) (up2_eq1 f 105 m day))))))))))) ?_
      refine wq_run2 (pc' := 151) (L' := [(0, .ref 92), (2, .int 0)]) (S' := []) (f' := (up1 (up1 (up1 (up1 (up1 (up1 f 105 (upd (f 105) m day)) 104 P) 103 M) 102 K) 101 A) 92 g)) rfl ?_
      have e : i = c := by omega
      rw [e] at hcp
      have h9 := mlp_known (fb := (up1 (up1 (up1 (up1 (up1 (up1 f 105 (upd (f 105) m day)) 104 P) 103 M) 102 K) 101 A) 92 g)) (W := W) (w := w) (h := h) (m := m) ⟨(hk 7 (by decide) (by decide) (by decide) (by decide)).trans hM.1, hM.2⟩ hh hm5 ((hk 8 (by decide) (by decide) (by decide) (by decide)).trans h8) ((hk 17 (by decide) (by decide) (by decide) (by decide)).trans h17) (10 - 0 + 1) 0 (f 106) (f 136) (Nat.zero_le _) (fun _ q => absurd q (Nat.not_lt_zero _)) (fun _ _ => rfl) (Nat.lt_succ_self _)
      rw [show up1 (up1 (up1 (up1 (up1 (up1 (up1 (up1 f 105 (upd (f 105) m day)) 104 P) 103 M) 102 K) 101 A) 92 g) 106 (f 106)) 136 (f 136) = (up1 (up1 (up1 (up1 (up1 (up1 f 105 (upd (f 105) m day)) 104 P) 103 M) 102 K) 101 A) 92 g) by rw [show f 106 = (up1 (up1 (up1 (up1 (up1 (up1 f 105 (upd (f 105) m day)) 104 P) 103 M) 102 K) 101 A) 92 g) 106 from rfl, up1_id, show f 136 = (up1 (up1 (up1 (up1 (up1 (up1 f 105 (upd (f 105) m day)) 104 P) 103 M) 102 K) 101 A) 92 g) 136 from rfl, up1_id]] at h9
      refine wpS_mono ?_ h9
      rintro v ff ⟨hK, kk, rr, e1, e2, e3, e4⟩
      refine ⟨hK, g, A, K, M, P, kk, rr, e1, e2, hk, hAm, hA, hlo2, fun i hi => ?_, e3, e4⟩
      have q := hcp i hi
      have q2 := hrw i hi
      exact ⟨q.1.trans q2.1, fun z => ⟨q.2.1.trans (q2.2.1 z).1, q.2.2.trans (q2.2.1 z).2⟩, fun z1 z2 => q.2.2.trans (q2.2.2 z1 z2)⟩
    · have k_61 : ¬ c ≤ i := fun q => c_61 ((nI_leI (a := c) (b := i) (by omega) (by omega)).mpr q)
      refine wq_run5 (pc' := 74) (L' := [(0, .ref 92), (1, .int day), (2, .int (nI i))]) (S' := [.int (g 17), .int 8, .ref 102]) (f' := (up1 (up1 (up1 (up1 (up1 f 104 P) 103 M) 102 K) 101 A) 92 g)) rfl ?_
      refine wq_v (y := (nI m)) ((hk 17 (by decide) (by decide) (by decide) (by decide)).trans h17) ?_
      refine wq_run1 (pc' := 75) (L' := [(0, .ref 92), (1, .int day), (2, .int (nI i))]) (S' := [.int (8 * (nI m)), .ref 102]) (f' := (up1 (up1 (up1 (up1 (up1 f 104 P) 103 M) 102 K) 101 A) 92 g)) rfl ?_
      refine wq_v (y := (nI (8 * m))) (pk_mul 8 m) ?_
      refine wq_run2 (pc' := 77) (L' := [(0, .ref 92), (1, .int day), (2, .int (nI i))]) (S' := [.int ((nI (8 * m)) + (nI i)), .ref 102]) (f' := (up1 (up1 (up1 (up1 (up1 f 104 P) 103 M) 102 K) 101 A) 92 g)) rfl ?_
      refine wq_v (y := (nI ((8 * m) + i))) (nI_add (8 * m) i) ?_
      refine wq_run5 (pc' := 85) (L' := [(0, .ref 92), (1, .int day), (2, .int (nI i))]) (S' := [.int (40 + (nI i)), .ref 102, .int (nI ((8 * m) + i)), .ref 102]) (f' := (up1 (up1 (up1 (up1 (up1 f 104 P) 103 M) 102 K) 101 A) 92 g)) rfl ?_
      refine wq_v (y := (nI (40 + i))) (nI_add 40 i) ?_
      refine wq_ald (j := (40 + i)) (n := 48) (v := (K (40 + i))) rfl rfl rfl rfl (by omega) (Nat.le_of_ble_eq_true rfl) rfl ?_
      refine wq_ist (j := ((8 * m) + i)) (n := 48) rfl rfl rfl rfl (by omega) (Nat.le_of_ble_eq_true rfl) ?_
      refine wq_h (f' := (up1 (up1 (up1 (up1 (up1 f 104 P) 103 M) 102 (upd K ((8 * m) + i) (K (40 + i)))) 101 A) 92 g)) ((up2_up1_ne (f := (up1 (up1 (up1 (up1 f 104 P) 103 M) 102 K) 101 A)) (g := g) (k := ((8 * m) + i)) (v := (K (40 + i))) (show (102 : Nat) ≠ 92 by decide)).trans (congrArg (fun z => up1 z 92 g) ((up2_up1_ne (f := (up1 (up1 (up1 f 104 P) 103 M) 102 K)) (g := A) (k := ((8 * m) + i)) (v := (K (40 + i))) (show (102 : Nat) ≠ 101 by decide)).trans (congrArg (fun z => up1 z 101 A) ((up2_up1_eq (up1 (up1 f 104 P) 103 M) 102 K ((8 * m) + i) (K (40 + i))).trans (congrArg (fun z => up1 (up1 (up1 f 104 P) 103 M) 102 z) (rfl))))))) ?_
      refine wq_run5 (pc' := 97) (L' := [(0, .ref 92), (1, .int day), (2, .int (nI i))]) (S' := [.int (g 17), .int 8, .ref 103]) (f' := (up1 (up1 (up1 (up1 (up1 f 104 P) 103 M) 102 (upd K ((8 * m) + i) (K (40 + i)))) 101 A) 92 g)) rfl ?_
      refine wq_v (y := (nI m)) ((hk 17 (by decide) (by decide) (by decide) (by decide)).trans h17) ?_
      refine wq_run1 (pc' := 98) (L' := [(0, .ref 92), (1, .int day), (2, .int (nI i))]) (S' := [.int (8 * (nI m)), .ref 103]) (f' := (up1 (up1 (up1 (up1 (up1 f 104 P) 103 M) 102 (upd K ((8 * m) + i) (K (40 + i)))) 101 A) 92 g)) rfl ?_
      refine wq_v (y := (nI (8 * m))) (pk_mul 8 m) ?_
      refine wq_run2 (pc' := 100) (L' := [(0, .ref 92), (1, .int day), (2, .int (nI i))]) (S' := [.int ((nI (8 * m)) + (nI i)), .ref 103]) (f' := (up1 (up1 (up1 (up1 (up1 f 104 P) 103 M) 102 (upd K ((8 * m) + i) (K (40 + i)))) 101 A) 92 g)) rfl ?_
      refine wq_v (y := (nI ((8 * m) + i))) (nI_add (8 * m) i) ?_
      refine wq_run5 (pc' := 108) (L' := [(0, .ref 92), (1, .int day), (2, .int (nI i))]) (S' := [.int (40 + (nI i)), .ref 103, .int (nI ((8 * m) + i)), .ref 103]) (f' := (up1 (up1 (up1 (up1 (up1 f 104 P) 103 M) 102 (upd K ((8 * m) + i) (K (40 + i)))) 101 A) 92 g)) rfl ?_
      refine wq_v (y := (nI (40 + i))) (nI_add 40 i) ?_
      refine wq_ald (j := (40 + i)) (n := 48) (v := (M (40 + i))) rfl rfl rfl rfl (by omega) (Nat.le_of_ble_eq_true rfl) rfl ?_
      refine wq_ist (j := ((8 * m) + i)) (n := 48) rfl rfl rfl rfl (by omega) (Nat.le_of_ble_eq_true rfl) ?_
      refine wq_h (f' := (up1 (up1 (up1 (up1 (up1 f 104 P) 103 (upd M ((8 * m) + i) (M (40 + i)))) 102 (upd K ((8 * m) + i) (K (40 + i)))) 101 A) 92 g)) ((up2_up1_ne (f := (up1 (up1 (up1 (up1 f 104 P) 103 M) 102 (upd K ((8 * m) + i) (K (40 + i)))) 101 A)) (g := g) (k := ((8 * m) + i)) (v := (M (40 + i))) (show (103 : Nat) ≠ 92 by decide)).trans (congrArg (fun z => up1 z 92 g) ((up2_up1_ne (f := (up1 (up1 (up1 f 104 P) 103 M) 102 (upd K ((8 * m) + i) (K (40 + i))))) (g := A) (k := ((8 * m) + i)) (v := (M (40 + i))) (show (103 : Nat) ≠ 101 by decide)).trans (congrArg (fun z => up1 z 101 A) ((up2_up1_ne (f := (up1 (up1 f 104 P) 103 M)) (g := (upd K ((8 * m) + i) (K (40 + i)))) (k := ((8 * m) + i)) (v := (M (40 + i))) (show (103 : Nat) ≠ 102 by decide)).trans (congrArg (fun z => up1 z 102 (upd K ((8 * m) + i) (K (40 + i)))) ((up2_up1_eq (up1 f 104 P) 103 M ((8 * m) + i) (M (40 + i))).trans (congrArg (fun z => up1 (up1 f 104 P) 103 z) (rfl))))))))) ?_
      refine wq_run5 (pc' := 120) (L' := [(0, .ref 92), (1, .int day), (2, .int (nI i))]) (S' := [.int (g 17), .int 8, .ref 104]) (f' := (up1 (up1 (up1 (up1 (up1 f 104 P) 103 (upd M ((8 * m) + i) (M (40 + i)))) 102 (upd K ((8 * m) + i) (K (40 + i)))) 101 A) 92 g)) rfl ?_
      refine wq_v (y := (nI m)) ((hk 17 (by decide) (by decide) (by decide) (by decide)).trans h17) ?_
      refine wq_run1 (pc' := 121) (L' := [(0, .ref 92), (1, .int day), (2, .int (nI i))]) (S' := [.int (8 * (nI m)), .ref 104]) (f' := (up1 (up1 (up1 (up1 (up1 f 104 P) 103 (upd M ((8 * m) + i) (M (40 + i)))) 102 (upd K ((8 * m) + i) (K (40 + i)))) 101 A) 92 g)) rfl ?_
      refine wq_v (y := (nI (8 * m))) (pk_mul 8 m) ?_
      refine wq_run2 (pc' := 123) (L' := [(0, .ref 92), (1, .int day), (2, .int (nI i))]) (S' := [.int ((nI (8 * m)) + (nI i)), .ref 104]) (f' := (up1 (up1 (up1 (up1 (up1 f 104 P) 103 (upd M ((8 * m) + i) (M (40 + i)))) 102 (upd K ((8 * m) + i) (K (40 + i)))) 101 A) 92 g)) rfl ?_
      refine wq_v (y := (nI ((8 * m) + i))) (nI_add (8 * m) i) ?_
      refine wq_run5 (pc' := 131) (L' := [(0, .ref 92), (1, .int day), (2, .int (nI i))]) (S' := [.int (40 + (nI i)), .ref 104, .int (nI ((8 * m) + i)), .ref 104]) (f' := (up1 (up1 (up1 (up1 (up1 f 104 P) 103 (upd M ((8 * m) + i) (M (40 + i)))) 102 (upd K ((8 * m) + i) (K (40 + i)))) 101 A) 92 g)) rfl ?_
      refine wq_v (y := (nI (40 + i))) (nI_add 40 i) ?_
      refine wq_ald (j := (40 + i)) (n := 48) (v := (P (40 + i))) rfl rfl rfl rfl (by omega) (Nat.le_of_ble_eq_true rfl) rfl ?_
      refine wq_ist (j := ((8 * m) + i)) (n := 48) rfl rfl rfl rfl (by omega) (Nat.le_of_ble_eq_true rfl) ?_
      refine wq_h (f' := (up1 (up1 (up1 (up1 (up1 f 104 (upd P ((8 * m) + i) (P (40 + i)))) 103 (upd M ((8 * m) + i) (M (40 + i)))) 102 (upd K ((8 * m) + i) (K (40 + i)))) 101 A) 92 g)) ((up2_up1_ne (f := (up1 (up1 (up1 (up1 f 104 P) 103 (upd M ((8 * m) + i) (M (40 + i)))) 102 (upd K ((8 * m) + i) (K (40 + i)))) 101 A)) (g := g) (k := ((8 * m) + i)) (v := (P (40 + i))) (show (104 : Nat) ≠ 92 by decide)).trans (congrArg (fun z => up1 z 92 g) ((up2_up1_ne (f := (up1 (up1 (up1 f 104 P) 103 (upd M ((8 * m) + i) (M (40 + i)))) 102 (upd K ((8 * m) + i) (K (40 + i))))) (g := A) (k := ((8 * m) + i)) (v := (P (40 + i))) (show (104 : Nat) ≠ 101 by decide)).trans (congrArg (fun z => up1 z 101 A) ((up2_up1_ne (f := (up1 (up1 f 104 P) 103 (upd M ((8 * m) + i) (M (40 + i))))) (g := (upd K ((8 * m) + i) (K (40 + i)))) (k := ((8 * m) + i)) (v := (P (40 + i))) (show (104 : Nat) ≠ 102 by decide)).trans (congrArg (fun z => up1 z 102 (upd K ((8 * m) + i) (K (40 + i)))) ((up2_up1_ne (f := (up1 f 104 P)) (g := (upd M ((8 * m) + i) (M (40 + i)))) (k := ((8 * m) + i)) (v := (P (40 + i))) (show (104 : Nat) ≠ 103 by decide)).trans (congrArg (fun z => up1 z 103 (upd M ((8 * m) + i) (M (40 + i)))) ((up2_up1_eq f 104 P ((8 * m) + i) (P (40 + i))).trans (congrArg (fun z => up1 f 104 z) (rfl))))))))))) ?_
      refine wq_run1 (pc' := 136) (L' := [(0, .ref 92), (1, .int day), (2, .int ((nI i) + 1))]) (S' := []) (f' := (up1 (up1 (up1 (up1 (up1 f 104 (upd P ((8 * m) + i) (P (40 + i)))) 103 (upd M ((8 * m) + i) (M (40 + i)))) 102 (upd K ((8 * m) + i) (K (40 + i)))) 101 A) 92 g)) rfl ?_
      refine wq_L (L' := [(0, .ref 92), (1, .int day), (2, .int (nI (i + 1)))]) (by rw [show nI i + 1 = nI (i + 1) from nI_add _ _]) ?_
      refine wq_run1 (pc' := 54) (L' := [(0, .ref 92), (1, .int day), (2, .int (nI (i + 1)))]) (S' := []) (f' := (up1 (up1 (up1 (up1 (up1 f 104 (upd P ((8 * m) + i) (P (40 + i)))) 103 (upd M ((8 * m) + i) (M (40 + i)))) 102 (upd K ((8 * m) + i) (K (40 + i)))) 101 A) 92 g)) rfl ?_
      exact ih (i + 1) _ _ _ (by omega) (fun j hj => by
        rcases Nat.lt_or_ge j i with q | q
        · have z := hcp j q
          exact ⟨(upd_n (by omega)).trans z.1, (upd_n (by omega)).trans z.2.1, (upd_n (by omega)).trans z.2.2⟩
        · have e1 : j = i := by omega
          have z := hlo (40 + i) (Or.inr (by omega))
          rw [e1]
          exact ⟨(upd_s _ _ _).trans z.1, (upd_s _ _ _).trans z.2.1, (upd_s _ _ _).trans z.2.2⟩) (fun j hj => by
        have z := hlo j hj
        exact ⟨(upd_n (by omega)).trans z.1, (upd_n (by omega)).trans z.2.1, (upd_n (by omega)).trans z.2.2⟩) (by omega)
theorem mp_force1 (f : HI) {day : Int32} (hd : ¬ inR day 0 1000) : Sp 2 152 [.ref 92, .int day] f (Ret (-3) f) := by
  show wq 2 152 (Ret (-3) f) 0 [(0, .ref 92), (1, .int day)] [] f
  refine wq_run4 (pc' := 6) (L' := [(0, .ref 92), (1, .int day)]) (S' := [.long 1000, .long 0, .long day.toInt64]) (f' := f) rfl ?_
  refine wq_callI (r := (b2i (inR day 0 1000))) (mp_in f day 0 1000) (Nat.le_of_ble_eq_true rfl) (pc' := 9) (L' := [(0, .ref 92), (1, .int day)]) (S' := []) rfl (Nat.le_of_ble_eq_true rfl) rfl rfl (Nat.le_of_ble_eq_true rfl) (Nat.le_of_ble_eq_true rfl) ?_
  refine wq_if (c := (b2i (inR day 0 1000)) = 0) (p1 := 12) (L1 := [(0, .ref 92), (1, .int day)]) (S1 := []) (p2 := 15) (L2 := [(0, .ref 92), (1, .int day)]) (S2 := []) rfl (fun _ => ?_) (fun q => absurd (b2i_0.mpr hd) q)
  refine wq_run1 (pc' := 14) (L' := [(0, .ref 92), (1, .int day)]) (S' := [.int (-3)]) (f' := f) rfl ?_
  exact wq_ret rfl ⟨rfl, rfl⟩
theorem mp_force2 {f : HI} {T : Nat → Int32} {n : Nat} (hn1 : n ≤ 160) (hT : ∀ j, j < n → f 100 j = T j) (hg1 : f 92 10 = nI n) {day : Int32} (hd : inR day 0 1000) (hf : ¬ (psF T n 8 0 0).1 = none) : Sp 5 152 [.ref 92, .int day] f (fun v f' => ∃ g A K M P, v = some (.int (-4)) ∧ f' = (up1 (up1 (up1 (up1 (up1 f 104 P) 103 M) 102 K) 101 A) 92 g) ∧ (∀ k, k ≠ 65 → k ≠ 66 → k ≠ 67 → k ≠ 68 → g k = f 92 k) ∧ (∀ j, j < 5 → A j = f 101 j) ∧ ∀ j, j < 40 → K j = f 102 j ∧ M j = f 103 j ∧ P j = f 104 j) := by
  show wq 5 152 (fun v f' => ∃ g A K M P, v = some (.int (-4)) ∧ f' = (up1 (up1 (up1 (up1 (up1 f 104 P) 103 M) 102 K) 101 A) 92 g) ∧ (∀ k, k ≠ 65 → k ≠ 66 → k ≠ 67 → k ≠ 68 → g k = f 92 k) ∧ (∀ j, j < 5 → A j = f 101 j) ∧ ∀ j, j < 40 → K j = f 102 j ∧ M j = f 103 j ∧ P j = f 104 j) 0 [(0, .ref 92), (1, .int day)] [] f
  refine wq_run4 (pc' := 6) (L' := [(0, .ref 92), (1, .int day)]) (S' := [.long 1000, .long 0, .long day.toInt64]) (f' := f) rfl ?_
  refine wq_callI (r := (b2i (inR day 0 1000))) (mp_in f day 0 1000) (Nat.le_of_ble_eq_true rfl) (pc' := 9) (L' := [(0, .ref 92), (1, .int day)]) (S' := []) rfl (Nat.le_of_ble_eq_true rfl) rfl rfl (Nat.le_of_ble_eq_true rfl) (Nat.le_of_ble_eq_true rfl) ?_
  refine wq_if (c := (b2i (inR day 0 1000)) = 0) (p1 := 12) (L1 := [(0, .ref 92), (1, .int day)]) (S1 := []) (p2 := 15) (L2 := [(0, .ref 92), (1, .int day)]) (S2 := []) rfl (fun q => absurd q (b2i_n0.mpr hd)) (fun _ => ?_)
  refine wq_run1 (pc' := 16) (L' := [(0, .ref 92), (1, .int day)]) (S' := [.ref 92]) (f' := f) rfl ?_
  refine wq_call (mp_fault hn1 hT hg1) (Nat.le_of_ble_eq_true rfl) (pc' := 19) (L' := [(0, .ref 92), (1, .int day)]) (S' := []) rfl (Nat.le_of_ble_eq_true rfl) rfl rfl (Nat.le_of_ble_eq_true rfl) (Nat.le_of_ble_eq_true rfl) ?_
  rintro v f9 ⟨g9, A9, K9, M9, P9, e0, ef, hg9, hA9, hR9, hq9⟩
  subst e0
  subst ef
  refine wq_run1 (pc' := 20) (L' := [(0, .ref 92), (1, .int day)]) (S' := [.int (-1), .int (obI (psF T n 8 0 0).1)]) (f' := (up1 (up1 (up1 (up1 (up1 f 104 P9) 103 M9) 102 K9) 101 A9) 92 g9)) rfl ?_
  refine wq_if (c := (obI (psF T n 8 0 0).1) = (-1)) (p1 := 26) (L1 := [(0, .ref 92), (1, .int day)]) (S1 := []) (p2 := 23) (L2 := [(0, .ref 92), (1, .int day)]) (S2 := []) rfl (fun q => absurd q (ob_n0 hf (n := n + 1) (by omega) (ps_b 8 0 0 (Nat.zero_le _)))) (fun _ => ?_)
  refine wq_run1 (pc' := 25) (L' := [(0, .ref 92), (1, .int day)]) (S' := [.int (-4)]) (f' := (up1 (up1 (up1 (up1 (up1 f 104 P9) 103 M9) 102 K9) 101 A9) 92 g9)) rfl ?_
  exact wq_ret rfl ⟨g9, A9, K9, M9, P9, rfl, rfl, hg9, hA9, hR9⟩
theorem mp_force3 {f : HI} {T : Nat → Int32} {n : Nat} (hn1 : n ≤ 160) (hT : ∀ j, j < n → f 100 j = T j) (hg1 : f 92 10 = nI n) {day : Int32} (hd : inR day 0 1000) (hf : (psF T n 8 0 0).1 = none) {m : Nat} (h17 : f 92 17 = nI m) (hm : m = 5) : Sp 5 152 [.ref 92, .int day] f (fun v f' => ∃ g A K M P, v = some (.int (-5)) ∧ f' = (up1 (up1 (up1 (up1 (up1 f 104 P) 103 M) 102 K) 101 A) 92 g) ∧ (∀ k, k ≠ 65 → k ≠ 66 → k ≠ 67 → k ≠ 68 → g k = f 92 k) ∧ (∀ j, j < 5 → A j = f 101 j) ∧ ∀ j, j < 40 → K j = f 102 j ∧ M j = f 103 j ∧ P j = f 104 j) := by
  show wq 5 152 (fun v f' => ∃ g A K M P, v = some (.int (-5)) ∧ f' = (up1 (up1 (up1 (up1 (up1 f 104 P) 103 M) 102 K) 101 A) 92 g) ∧ (∀ k, k ≠ 65 → k ≠ 66 → k ≠ 67 → k ≠ 68 → g k = f 92 k) ∧ (∀ j, j < 5 → A j = f 101 j) ∧ ∀ j, j < 40 → K j = f 102 j ∧ M j = f 103 j ∧ P j = f 104 j) 0 [(0, .ref 92), (1, .int day)] [] f
  refine wq_run4 (pc' := 6) (L' := [(0, .ref 92), (1, .int day)]) (S' := [.long 1000, .long 0, .long day.toInt64]) (f' := f) rfl ?_
  refine wq_callI (r := (b2i (inR day 0 1000))) (mp_in f day 0 1000) (Nat.le_of_ble_eq_true rfl) (pc' := 9) (L' := [(0, .ref 92), (1, .int day)]) (S' := []) rfl (Nat.le_of_ble_eq_true rfl) rfl rfl (Nat.le_of_ble_eq_true rfl) (Nat.le_of_ble_eq_true rfl) ?_
  refine wq_if (c := (b2i (inR day 0 1000)) = 0) (p1 := 12) (L1 := [(0, .ref 92), (1, .int day)]) (S1 := []) (p2 := 15) (L2 := [(0, .ref 92), (1, .int day)]) (S2 := []) rfl (fun q => absurd q (b2i_n0.mpr hd)) (fun _ => ?_)
  refine wq_run1 (pc' := 16) (L' := [(0, .ref 92), (1, .int day)]) (S' := [.ref 92]) (f' := f) rfl ?_
  refine wq_call (mp_fault hn1 hT hg1) (Nat.le_of_ble_eq_true rfl) (pc' := 19) (L' := [(0, .ref 92), (1, .int day)]) (S' := []) rfl (Nat.le_of_ble_eq_true rfl) rfl rfl (Nat.le_of_ble_eq_true rfl) (Nat.le_of_ble_eq_true rfl) ?_
  rintro v f9 ⟨g9, A9, K9, M9, P9, e0, ef, hg9, hA9, hR9, hq9⟩
  subst e0
  subst ef
  refine wq_run1 (pc' := 20) (L' := [(0, .ref 92), (1, .int day)]) (S' := [.int (-1), .int (obI (psF T n 8 0 0).1)]) (f' := (up1 (up1 (up1 (up1 (up1 f 104 P9) 103 M9) 102 K9) 101 A9) 92 g9)) rfl ?_
  refine wq_if (c := (obI (psF T n 8 0 0).1) = (-1)) (p1 := 26) (L1 := [(0, .ref 92), (1, .int day)]) (S1 := []) (p2 := 23) (L2 := [(0, .ref 92), (1, .int day)]) (S2 := []) rfl (fun _ => ?_) (fun q => absurd (by rw [hf]; rfl) q)
  refine wq_run2 (pc' := 30) (L' := [(0, .ref 92), (1, .int day)]) (S' := [.int (g9 17)]) (f' := (up1 (up1 (up1 (up1 (up1 f 104 P9) 103 M9) 102 K9) 101 A9) 92 g9)) rfl ?_
  refine wq_v (y := (nI m)) ((hg9 17 (by decide) (by decide) (by decide) (by decide)).trans h17) ?_
  refine wq_run1 (pc' := 31) (L' := [(0, .ref 92), (1, .int day)]) (S' := [.int 5, .int (nI m)]) (f' := (up1 (up1 (up1 (up1 (up1 f 104 P9) 103 M9) 102 K9) 101 A9) 92 g9)) rfl ?_
  refine wq_if (c := (nI m) = 5) (p1 := 34) (L1 := [(0, .ref 92), (1, .int day)]) (S1 := []) (p2 := 37) (L2 := [(0, .ref 92), (1, .int day)]) (S2 := []) rfl (fun _ => ?_) (fun q => absurd ((nI_eq (a := m) (b := 5) (by omega) (by omega)).mpr (by omega)) q)
  refine wq_run1 (pc' := 36) (L' := [(0, .ref 92), (1, .int day)]) (S' := [.int (-5)]) (f' := (up1 (up1 (up1 (up1 (up1 f 104 P9) 103 M9) 102 K9) 101 A9) 92 g9)) rfl ?_
  exact wq_ret rfl ⟨g9, A9, K9, M9, P9, rfl, rfl, hg9, hA9, hR9⟩
theorem ps_2 {T : Nat → Int32} {n : Nat} : ∀ m i q, (psF T n m i q).2 ≤ i + m := by
  intro m
  induction m with
  | zero => intro i q; exact Nat.le_refl _
  | succ m ih =>
    intro i q
    cases c : clR T n (pp T n i) with
    | inl s => rw [ps_l c]; exact Nat.le_add_right _ _
    | inr r =>
      rw [ps_r c]
      split
      · show i + 1 ≤ i + (m + 1); omega
      · split
        · show i + 1 ≤ i + (m + 1); omega
        · have := ih (i + 1) (tkS T n r.2.2.2); omega
theorem mp_force4 {f : HI} {T : Nat → Int32} {n : Nat} (hn1 : n ≤ 160) (hT : ∀ j, j < n → f 100 j = T j) (hg1 : f 92 10 = nI n) {day : Int32} (hd : inR day 0 1000) (hf : (psF T n 8 0 0).1 = none) {W : Nat → Nat → Nat} {w h m : Nat} (hM : LaM f W w) (hh : h ≤ 60000) (hm5 : m < 5) (h8 : f 92 8 = nI h) (h17 : f 92 17 = nI m) : Sp 5 152 [.ref 92, .int day] f (fun v f' => ∃ g A K M P kk rr, v = some (.int (nI m)) ∧ f' = up1 (up1 (up1 (up1 (up1 (up1 (up1 (up1 (up1 f 105 (upd (f 105) m day)) 104 P) 103 M) 102 K) 101 A) 92 g) 92 (upd (upd g 17 (nI (m + 1))) 10 0)) 106 kk) 136 rr ∧ (∀ k, k ≠ 65 → k ≠ 66 → k ≠ 67 → k ≠ 68 → g k = f 92 k) ∧ A m = nI (psF T n 8 0 0).2 ∧ (∀ j, j < m → A j = f 101 j) ∧ (∀ j, j < 8 * m → K j = f 102 j ∧ M j = f 103 j ∧ P j = f 104 j) ∧ (∀ i, i < (psF T n 8 0 0).2 → K (8 * m + i) = (cC T n i).1 ∧ ((cC T n i).1 = 0 ∨ (cC T n i).1 = 1 → M (8 * m + i) = (cC T n i).2.1 ∧ P (8 * m + i) = (cC T n i).2.2.1) ∧ (¬ (cC T n i).1 = 0 → ¬ (cC T n i).1 = 1 → P (8 * m + i) = (cC T n i).2.1)) ∧ (∀ t, t < 10 → kk (10 * m + t) = dI (arN W w 0 h t)) ∧ ∀ j, j < 10 * m → kk j = f 106 j) := by
  show wq 5 152 (fun v f' => ∃ g A K M P kk rr, v = some (.int (nI m)) ∧ f' = up1 (up1 (up1 (up1 (up1 (up1 (up1 (up1 (up1 f 105 (upd (f 105) m day)) 104 P) 103 M) 102 K) 101 A) 92 g) 92 (upd (upd g 17 (nI (m + 1))) 10 0)) 106 kk) 136 rr ∧ (∀ k, k ≠ 65 → k ≠ 66 → k ≠ 67 → k ≠ 68 → g k = f 92 k) ∧ A m = nI (psF T n 8 0 0).2 ∧ (∀ j, j < m → A j = f 101 j) ∧ (∀ j, j < 8 * m → K j = f 102 j ∧ M j = f 103 j ∧ P j = f 104 j) ∧ (∀ i, i < (psF T n 8 0 0).2 → K (8 * m + i) = (cC T n i).1 ∧ ((cC T n i).1 = 0 ∨ (cC T n i).1 = 1 → M (8 * m + i) = (cC T n i).2.1 ∧ P (8 * m + i) = (cC T n i).2.2.1) ∧ (¬ (cC T n i).1 = 0 → ¬ (cC T n i).1 = 1 → P (8 * m + i) = (cC T n i).2.1)) ∧ (∀ t, t < 10 → kk (10 * m + t) = dI (arN W w 0 h t)) ∧ ∀ j, j < 10 * m → kk j = f 106 j) 0 [(0, .ref 92), (1, .int day)] [] f
  refine wq_run4 (pc' := 6) (L' := [(0, .ref 92), (1, .int day)]) (S' := [.long 1000, .long 0, .long day.toInt64]) (f' := f) rfl ?_
  refine wq_callI (r := (b2i (inR day 0 1000))) (mp_in f day 0 1000) (Nat.le_of_ble_eq_true rfl) (pc' := 9) (L' := [(0, .ref 92), (1, .int day)]) (S' := []) rfl (Nat.le_of_ble_eq_true rfl) rfl rfl (Nat.le_of_ble_eq_true rfl) (Nat.le_of_ble_eq_true rfl) ?_
  refine wq_if (c := (b2i (inR day 0 1000)) = 0) (p1 := 12) (L1 := [(0, .ref 92), (1, .int day)]) (S1 := []) (p2 := 15) (L2 := [(0, .ref 92), (1, .int day)]) (S2 := []) rfl (fun q => absurd q (b2i_n0.mpr hd)) (fun _ => ?_)
  refine wq_run1 (pc' := 16) (L' := [(0, .ref 92), (1, .int day)]) (S' := [.ref 92]) (f' := f) rfl ?_
  refine wq_call (mp_fault hn1 hT hg1) (Nat.le_of_ble_eq_true rfl) (pc' := 19) (L' := [(0, .ref 92), (1, .int day)]) (S' := []) rfl (Nat.le_of_ble_eq_true rfl) rfl rfl (Nat.le_of_ble_eq_true rfl) (Nat.le_of_ble_eq_true rfl) ?_
  rintro v f9 ⟨g9, A9, K9, M9, P9, e0, ef, hg9, hA9, hR9, hq9⟩
  subst e0
  subst ef
  refine wq_run1 (pc' := 20) (L' := [(0, .ref 92), (1, .int day)]) (S' := [.int (-1), .int (obI (psF T n 8 0 0).1)]) (f' := (up1 (up1 (up1 (up1 (up1 f 104 P9) 103 M9) 102 K9) 101 A9) 92 g9)) rfl ?_
  refine wq_if (c := (obI (psF T n 8 0 0).1) = (-1)) (p1 := 26) (L1 := [(0, .ref 92), (1, .int day)]) (S1 := []) (p2 := 23) (L2 := [(0, .ref 92), (1, .int day)]) (S2 := []) rfl (fun _ => ?_) (fun q => absurd (by rw [hf]; rfl) q)
  refine wq_run2 (pc' := 30) (L' := [(0, .ref 92), (1, .int day)]) (S' := [.int (g9 17)]) (f' := (up1 (up1 (up1 (up1 (up1 f 104 P9) 103 M9) 102 K9) 101 A9) 92 g9)) rfl ?_
  refine wq_v (y := (nI m)) ((hg9 17 (by decide) (by decide) (by decide) (by decide)).trans h17) ?_
  refine wq_run1 (pc' := 31) (L' := [(0, .ref 92), (1, .int day)]) (S' := [.int 5, .int (nI m)]) (f' := (up1 (up1 (up1 (up1 (up1 f 104 P9) 103 M9) 102 K9) 101 A9) 92 g9)) rfl ?_
  refine wq_if (c := (nI m) = 5) (p1 := 34) (L1 := [(0, .ref 92), (1, .int day)]) (S1 := []) (p2 := 37) (L2 := [(0, .ref 92), (1, .int day)]) (S2 := []) rfl (fun q => absurd q (fun q => absurd ((nI_eq (a := m) (b := 5) (by omega) (by omega)).mp q) (by omega))) (fun _ => ?_)
  refine wq_run4 (pc' := 45) (L' := [(0, .ref 92), (1, .int day)]) (S' := [.int (g9 17), .ref 101]) (f' := (up1 (up1 (up1 (up1 (up1 f 104 P9) 103 M9) 102 K9) 101 A9) 92 g9)) rfl ?_
  refine wq_v (y := (nI m)) ((hg9 17 (by decide) (by decide) (by decide) (by decide)).trans h17) ?_
  refine wq_run3 (pc' := 50) (L' := [(0, .ref 92), (1, .int day)]) (S' := [.int 5, .ref 101, .int (nI m), .ref 101]) (f' := (up1 (up1 (up1 (up1 (up1 f 104 P9) 103 M9) 102 K9) 101 A9) 92 g9)) rfl ?_
  refine wq_ald (j := 5) (n := 6) (v := (nI (psF T n 8 0 0).2)) rfl rfl rfl rfl (Nat.le_of_ble_eq_true rfl) (Nat.le_of_ble_eq_true rfl) ((hq9 hf).1) ?_
  refine wq_ist (j := m) (n := 6) rfl rfl rfl rfl (by omega) (Nat.le_of_ble_eq_true rfl) ?_
  refine wq_h (f' := (up1 (up1 (up1 (up1 (up1 f 104 P9) 103 M9) 102 K9) 101 (upd A9 m (nI (psF T n 8 0 0).2))) 92 g9)) ((up2_up1_ne (f := (up1 (up1 (up1 (up1 f 104 P9) 103 M9) 102 K9) 101 A9)) (g := g9) (k := m) (v := (nI (psF T n 8 0 0).2)) (show (101 : Nat) ≠ 92 by decide)).trans (congrArg (fun z => up1 z 92 g9) ((up2_up1_eq (up1 (up1 (up1 f 104 P9) 103 M9) 102 K9) 101 A9 m (nI (psF T n 8 0 0).2)).trans (congrArg (fun z => up1 (up1 (up1 (up1 f 104 P9) 103 M9) 102 K9) 101 z) (rfl))))) ?_
  refine wq_run2 (pc' := 54) (L' := [(0, .ref 92), (1, .int day), (2, .int 0)]) (S' := []) (f' := (up1 (up1 (up1 (up1 (up1 f 104 P9) 103 M9) 102 K9) 101 (upd A9 m (nI (psF T n 8 0 0).2))) 92 g9)) rfl ?_
  refine wpS_up ?_
  exact mlp_copy (T := T) (n := n) (c := (psF T n 8 0 0).2) hM hh hm5 h8 h17 (by have := ps_2 (T := T) (n := n) 8 0 0; omega) hg9 ((upd_n (by omega)).trans (hq9 hf).1) (upd_s _ _ _) (fun j hj => (upd_n (by omega)).trans (hA9 j (by omega))) hR9 (hq9 hf).2 ((psF T n 8 0 0).2 - 0 + 1) 0 K9 M9 P9 (Nat.zero_le _) (fun _ q => absurd q (Nat.not_lt_zero _)) (fun _ _ => ⟨rfl, rfl, rfl⟩) (Nat.lt_succ_self _)
