/-! the hour (reference) -/
theorem eP_0 {W : Nat → Nat → Nat} (i : Nat) : eP W (2 * i) = W 0 i := by
  unfold eP
  rw [show 2 * i % 2 = 0 by omega, show 2 * i / 2 = i by omega]
theorem eP_1 {W : Nat → Nat → Nat} (i : Nat) : eP W (2 * i + 1) = W 1 i := by
  unfold eP
  rw [show (2 * i + 1) % 2 = 1 by omega, show (2 * i + 1) / 2 = i by omega]
theorem ot_v {W : Nat → Nat → Nat} {w e : Nat} (hW : WyN W w) (he : e < 2 * w) : otI W (e / 2) (eP W e) = nI (eQ W e) := by
  have h1 := (hW (e / 2) (by omega)).2.2.1
  unfold otI eP eQ
  by_cases c : e % 2 = 0
  · rw [c]
    exact if_pos rfl
  · rw [show e % 2 = 1 by omega]
    exact (if_neg h1).trans (if_pos rfl)
theorem bsM_lt {W : Nat → Nat → Nat} {w a b h y : Nat} (q : bsM W w a b h = some y) : y < w := by
  unfold bsM at q
  cases c : bsE W w a b h with
  | none => rw [c] at q; cases q
  | some e =>
    rw [c] at q
    cases q
    have := (bs_lt c).1
    show e / 2 < w
    omega
def C1m (S : Nat → HI) (W : Nat → Nat → Nat) (w h i : Nat) : Prop := (¬ (S i 115 i = 1 ∧ S i 118 i = nI h) ∧ S (i + 1) = (up1 (S i) 123 (upd ((S i) 123) i (-1)))) ∨ ((S i 115 i = 1 ∧ S i 118 i = nI h) ∧ ∃ e, e < 2 * w ∧ S i 137 i = nI (e / 2) ∧ S i 116 i = nI (eP W e) ∧ S (i + 1) = (up1 (up1 (up1 (S i) 116 (upd ((S i) 116) i (nI (eQ W e)))) 115 (upd ((S i) 115) i 0)) 123 (upd ((S i) 123) i (-1))))
def C2m (S : Nat → HI) (i : Nat) : Prop := (¬ (S i 115 i = 0 ∧ S i 116 i = S i 117 i) ∧ S (i + 1) = S i) ∨ ((S i 115 i = 0 ∧ S i 116 i = S i 117 i) ∧ ∀ g, Sp 5 170 [.ref 92, .int (nI i)] (up1 (S i) 136 g) (fun v f' => v = none ∧ ∃ g2, f' = up1 (S (i + 1)) 136 g2))
def lvM (W : Nat → Nat → Nat) (h : Nat) (f : HI) (i : Nat) : Option Nat → HI
  | none => f
  | some y => if lvN (W 3 y) (W 4 y) h = h then (up1 (up1 (up1 (up1 f 123 (upd (f 123) i (nI y))) 137 (upd (f 137) i (nI y))) 118 (upd (f 118) i (nI (h + (W 2 y))))) 115 (upd (f 115) i 1)) else f
def C3m (S : Nat → HI) (W : Nat → Nat → Nat) (w h i : Nat) : Prop := (¬ S i 115 i = 0 ∧ S (i + 1) = S i) ∨ (S i 115 i = 0 ∧ ∃ t o, t < 10 ∧ o < 10 ∧ S i 116 i = nI t ∧ S i 117 i = nI o ∧ S (i + 1) = lvM W h (S i) i (bsM W w t o h))
def C4m (S : Nat → HI) (W : Nat → Nat → Nat) (e : Nat) : Prop := ∀ g, Sp 3 172 [.ref 92, .int (nI (e / 2)), .int (nI (eP W e))] (up1 (S e) 136 g) (fun v f' => v = none ∧ ∃ g2, f' = up1 (S (e + 1)) 136 g2)
abbrev HcM (S : HI) (W : Nat → Nat → Nat) (w n h : Nat) : Prop := S 92 35 = nI n ∧ S 92 8 = nI h ∧ LaM S W w
theorem mlp_st4 {S4 : Nat → HI} {W : Nat → Nat → Nat} {w n h : Nat} (hn24 : n ≤ 24) (hh : h ≤ 30000) (g4 : ∀ e, e ≤ 2 * w → HcM (S4 e) W w n h) (h4 : ∀ e, e < 2 * w → C4m S4 W e) : ∀ (m9 : Nat) (i : Nat) (g : Nat → Int32), (i ≤ w) → w - i < m9 → wq 6 174 (fun v f' => v = none ∧ ∃ g, f' = up1 (up1 (S4 (2 * w)) 92 (upd (S4 (2 * w) 92) 8 (nI (h + 1)))) 136 g) 231 [(0, .ref 92), (1, .int (nI i))] [] (up1 (S4 (2 * i)) 136 g) := by
  intro m9
  induction m9 with
  | zero => intro i g hi hn; exact absurd hn (Nat.not_lt_zero _)
  | succ m9 ih =>
    intro i g hi hn
    have hci := g4 (2 * i) (by omega)
    have hw16 := hci.2.2.2.1
    refine wq_run3 (pc' := 236) (L' := [(0, .ref 92), (1, .int (nI i))]) (S' := [.int ((S4 (2 * i)) 92 7), .int (nI i)]) (f' := (up1 (S4 (2 * i)) 136 g)) rfl ?_
    refine wq_v (y := (nI w)) (hci.2.2.1) ?_
    refine wq_if (c := (nI w) ≤ (nI i)) (p1 := 267) (L1 := [(0, .ref 92), (1, .int (nI i))]) (S1 := []) (p2 := 239) (L2 := [(0, .ref 92), (1, .int (nI i))]) (S2 := []) rfl (fun c_236 => ?_) (fun c_236 => ?_)
    · have k_236 : w ≤ i := (nI_leI (a := w) (b := i) (by omega) (by omega)).mp c_236
      refine wq_run3 (pc' := 272) (L' := [(0, .ref 92), (1, .int (nI i))]) (S' := [.int ((S4 (2 * i)) 92 8), .ref 92]) (f' := (up1 (S4 (2 * i)) 136 g)) rfl ?_
      refine wq_v (y := (nI h)) (hci.2.1) ?_
      refine wq_run2 (pc' := 274) (L' := [(0, .ref 92), (1, .int (nI i))]) (S' := [.int ((nI h) + 1), .ref 92]) (f' := (up1 (S4 (2 * i)) 136 g)) rfl ?_
      refine wq_v (y := (nI (h + 1))) (nI_add h 1) ?_
      refine wq_putI rfl rfl ?_
      refine wq_h (f' := (up1 (up1 (S4 (2 * i)) 92 (upd ((S4 (2 * i)) 92) 8 (nI (h + 1)))) 136 g)) ((up2_up1_ne (f := (S4 (2 * i))) (g := g) (k := 8) (v := (nI (h + 1))) (show (92 : Nat) ≠ 136 by decide)).trans (congrArg (fun z => up1 z 136 g) (up2_eq1 (S4 (2 * i)) 92 8 (nI (h + 1))))) ?_
      have e1 : i = w := by omega
      rw [e1]
      exact wq_ret rfl ⟨rfl, g, rfl⟩
    · have k_236 : ¬ w ≤ i := fun q => c_236 ((nI_leI (a := w) (b := i) (by omega) (by omega)).mpr q)
      refine wq_run5 (pc' := 246) (L' := [(0, .ref 92), (1, .int (nI i))]) (S' := [.int (nI i), .ref 93, .int (nI i), .ref 92]) (f' := (up1 (S4 (2 * i)) 136 g)) rfl ?_
      refine wq_ald (j := i) (n := 16) (v := (nI (W 0 i))) rfl rfl rfl rfl (by omega) (Nat.le_of_ble_eq_true rfl) ((hci.2.2.2.2.1 i (by omega)).1) ?_
      refine wq_call ((show Sp 3 172 [.ref 92, .int (nI i), .int (nI (W 0 i))] (up1 (S4 (2 * i)) 136 g) (fun v f' => v = none ∧ ∃ g2, f' = up1 (S4 (2 * i + 1)) 136 g2) from by have h9 := h4 (2 * i) (by omega) g; rw [show 2 * i / 2 = i by omega, eP_0] at h9; exact h9)) (Nat.le_of_ble_eq_true rfl) (pc' := 250) (L' := [(0, .ref 92), (1, .int (nI i))]) (S' := []) rfl (Nat.le_of_ble_eq_true rfl) rfl rfl (Nat.le_of_ble_eq_true rfl) (Nat.le_of_ble_eq_true rfl) ?_
      rintro v f9 ⟨e0, g2, ef⟩
      subst e0
      subst ef
      refine wq_run5 (pc' := 257) (L' := [(0, .ref 92), (1, .int (nI i))]) (S' := [.int (nI i), .ref 94, .int (nI i), .ref 92]) (f' := (up1 (S4 (2 * i + 1)) 136 g2)) rfl ?_
      refine wq_ald (j := i) (n := 16) (v := (nI (W 1 i))) rfl rfl rfl rfl (by omega) (Nat.le_of_ble_eq_true rfl) (((g4 (2 * i + 1) (by omega)).2.2.2.2.1 i (by omega)).2.1) ?_
      refine wq_call ((show Sp 3 172 [.ref 92, .int (nI i), .int (nI (W 1 i))] (up1 (S4 (2 * i + 1)) 136 g2) (fun v f' => v = none ∧ ∃ g2, f' = up1 (S4 (2 * (i + 1))) 136 g2) from by have h9 := h4 (2 * i + 1) (by omega) g2; rw [show (2 * i + 1) / 2 = i by omega, eP_1] at h9; exact h9)) (Nat.le_of_ble_eq_true rfl) (pc' := 261) (L' := [(0, .ref 92), (1, .int (nI i))]) (S' := []) rfl (Nat.le_of_ble_eq_true rfl) rfl rfl (Nat.le_of_ble_eq_true rfl) (Nat.le_of_ble_eq_true rfl) ?_
      rintro v f9 ⟨e0, g3, ef⟩
      subst e0
      subst ef
      refine wq_run1 (pc' := 264) (L' := [(0, .ref 92), (1, .int ((nI i) + 1))]) (S' := []) (f' := (up1 (S4 (2 * (i + 1))) 136 g3)) rfl ?_
      refine wq_L (L' := [(0, .ref 92), (1, .int (nI (i + 1)))]) (by rw [show nI i + 1 = nI (i + 1) from nI_add _ _]) ?_
      refine wq_run1 (pc' := 231) (L' := [(0, .ref 92), (1, .int (nI (i + 1)))]) (S' := []) (f' := (up1 (S4 (2 * (i + 1))) 136 g3)) rfl ?_
      exact ih (i + 1) g3 (by omega) (by omega)
theorem mlp_st3 {S3 S4 : Nat → HI} {W : Nat → Nat → Nat} {w n h : Nat} (hn24 : n ≤ 24) (hh : h ≤ 30000) (g4 : ∀ e, e ≤ 2 * w → HcM (S4 e) W w n h) (h4 : ∀ e, e < 2 * w → C4m S4 W e) (g3 : ∀ i, i ≤ n → HcM (S3 i) W w n h) (h3 : ∀ i, i < n → C3m S3 W w h i) (j3 : S4 0 = S3 n) : ∀ (m9 : Nat) (i : Nat) (g : Nat → Int32), (i ≤ n) → n - i < m9 → wq 6 174 (fun v f' => v = none ∧ ∃ g, f' = up1 (up1 (S4 (2 * w)) 92 (upd (S4 (2 * w) 92) 8 (nI (h + 1)))) 136 g) 122 [(0, .ref 92), (1, .int (nI i))] [] (up1 (S3 i) 136 g) := by
  intro m9
  induction m9 with
  | zero => intro i g hi hn; exact absurd hn (Nat.not_lt_zero _)
  | succ m9 ih =>
    intro i g hi hn
    have hci := g3 i hi
    have hw16 := hci.2.2.2.1
    refine wq_run3 (pc' := 127) (L' := [(0, .ref 92), (1, .int (nI i))]) (S' := [.int ((S3 i) 92 35), .int (nI i)]) (f' := (up1 (S3 i) 136 g)) rfl ?_
    refine wq_v (y := (nI n)) (hci.1) ?_
    refine wq_if (c := (nI n) ≤ (nI i)) (p1 := 229) (L1 := [(0, .ref 92), (1, .int (nI i))]) (S1 := []) (p2 := 130) (L2 := [(0, .ref 92), (1, .int (nI i))]) (S2 := []) rfl (fun c_127 => ?_) (fun c_127 => ?_)
    · have k_127 : n ≤ i := (nI_leI (a := n) (b := i) (by omega) (by omega)).mp c_127
      refine wq_run2 (pc' := 231) (L' := [(0, .ref 92), (1, .int 0)]) (S' := []) (f' := (up1 (S3 i) 136 g)) rfl ?_
      have e1 : i = n := by omega
      rw [e1, ← j3]
      exact mlp_st4 hn24 hh g4 h4 (w - 0 + 1) 0 g (Nat.zero_le _) (Nat.lt_succ_self _)
    · have k_127 : ¬ n ≤ i := fun q => c_127 ((nI_leI (a := n) (b := i) (by omega) (by omega)).mpr q)
      refine wq_run3 (pc' := 135) (L' := [(0, .ref 92), (1, .int (nI i))]) (S' := [.int (nI i), .ref 115]) (f' := (up1 (S3 i) 136 g)) rfl ?_
      refine wq_ald (j := i) (n := 24) (v := ((S3 i) 115 i)) rfl rfl rfl rfl (by omega) (Nat.le_of_ble_eq_true rfl) rfl ?_
      refine wq_if (c := ((S3 i) 115 i) = 0) (p1 := 139) (L1 := [(0, .ref 92), (1, .int (nI i))]) (S1 := []) (p2 := 162) (L2 := [(0, .ref 92), (1, .int (nI i))]) (S2 := []) rfl (fun c_136 => ?_) (fun c_136 => ?_)
      · obtain ⟨_, t, o, ht, ho, k9, k10, kS⟩ := (h3 i (by omega)).resolve_left (fun q => q.1 c_136)
        refine wq_run4 (pc' := 145) (L' := [(0, .ref 92), (1, .int (nI i))]) (S' := [.int (nI i), .ref 116, .ref 92]) (f' := (up1 (S3 i) 136 g)) rfl ?_
        refine wq_ald (j := i) (n := 24) (v := (nI t)) rfl rfl rfl rfl (by omega) (Nat.le_of_ble_eq_true rfl) (k9) ?_
        refine wq_run3 (pc' := 151) (L' := [(0, .ref 92), (1, .int (nI i))]) (S' := [.int (nI i), .ref 117, .int (nI t), .ref 92]) (f' := (up1 (S3 i) 136 g)) rfl ?_
        refine wq_ald (j := i) (n := 24) (v := (nI o)) rfl rfl rfl rfl (by omega) (Nat.le_of_ble_eq_true rfl) (k10) ?_
        refine wq_run2 (pc' := 156) (L' := [(0, .ref 92), (1, .int (nI i))]) (S' := [.int ((S3 i) 92 8), .int (nI o), .int (nI t), .ref 92]) (f' := (up1 (S3 i) 136 g)) rfl ?_
        refine wq_v (y := (nI h)) (hci.2.1) ?_
        refine wq_call (mp_nextOf (f := (up1 (S3 i) 136 g)) (W := W) (w := w) (a := t) (b := o) (h := h) hci.2.2 ht ho hh) (Nat.le_of_ble_eq_true rfl) (pc' := 159) (L' := [(0, .ref 92), (1, .int (nI i))]) (S' := []) rfl (Nat.le_of_ble_eq_true rfl) rfl rfl (Nat.le_of_ble_eq_true rfl) (Nat.le_of_ble_eq_true rfl) ?_
        rintro v f9 ⟨g2, e0, ef⟩
        rw [up1_up1] at ef
        subst e0
        subst ef
        refine wq_run4 (pc' := 166) (L' := [(0, .ref 92), (1, .int (nI i)), (2, .int (obI (bsM W w t o h)))]) (S' := [.int (-1), .int (obI (bsM W w t o h))]) (f' := (up1 (S3 i) 136 g2)) rfl ?_
        refine wq_if (c := (obI (bsM W w t o h)) = (-1)) (p1 := 223) (L1 := [(0, .ref 92), (1, .int (nI i)), (2, .int (obI (bsM W w t o h)))]) (S1 := []) (p2 := 169) (L2 := [(0, .ref 92), (1, .int (nI i)), (2, .int (obI (bsM W w t o h)))]) (S2 := []) rfl (fun c_166 => ?_) (fun c_166 => ?_)
        · refine wq_run1 (pc' := 226) (L' := [(0, .ref 92), (1, .int ((nI i) + 1)), (2, .int (obI (bsM W w t o h)))]) (S' := []) (f' := (up1 (S3 i) 136 g2)) rfl ?_
          refine wq_L (L' := [(0, .ref 92), (1, .int (nI (i + 1))), (2, .int (obI (bsM W w t o h)))]) (by rw [show nI i + 1 = nI (i + 1) from nI_add _ _]) ?_
          refine wq_run1 (pc' := 122) (L' := [(0, .ref 92), (1, .int (nI (i + 1)))]) (S' := []) (f' := (up1 (S3 i) 136 g2)) rfl ?_
          have hz : bsM W w t o h = none := by
            cases q : bsM W w t o h with
            | none => rfl
            | some y => rw [q] at c_166; exact absurd c_166 (nI_nm (by have := bsM_lt q; omega))
          rw [hz] at kS
          have h9 := ih (i + 1) g2 (by omega) (by omega)
          rw [kS] at h9
          exact h9
        · obtain ⟨y, hy⟩ := obI_y c_166
          have hyw := bsM_lt hy
          have hWy := hci.2.2.2.2.2 y hyw
          have hlt := dv_lt (e := W 3 y) (s := W 4 y) (x := h) (by omega)
          refine wq_L (L' := [(0, .ref 92), (1, .int (nI i)), (2, .int (nI y))]) (by rw [hy]; rfl) ?_
          refine wq_run4 (pc' := 175) (L' := [(0, .ref 92), (1, .int (nI i)), (2, .int (nI y))]) (S' := [.int ((S3 i) 92 8), .int (nI y), .ref 92]) (f' := (up1 (S3 i) 136 g2)) rfl ?_
          refine wq_v (y := (nI h)) (hci.2.1) ?_
          refine wq_callI (r := (nI (lvN (W 3 y) (W 4 y) h))) (mp_leaves (f := (up1 (S3 i) 136 g2)) (W := W) (w := w) (i := y) (x := h) hci.2.2 hyw (by omega)) (Nat.le_of_ble_eq_true rfl) (pc' := 178) (L' := [(0, .ref 92), (1, .int (nI i)), (2, .int (nI y))]) (S' := []) rfl (Nat.le_of_ble_eq_true rfl) rfl rfl (Nat.le_of_ble_eq_true rfl) (Nat.le_of_ble_eq_true rfl) ?_
          refine wq_run2 (pc' := 182) (L' := [(0, .ref 92), (1, .int (nI i)), (2, .int (nI y))]) (S' := [.int ((S3 i) 92 8), .int (nI (lvN (W 3 y) (W 4 y) h))]) (f' := (up1 (S3 i) 136 g2)) rfl ?_
          refine wq_v (y := (nI h)) (hci.2.1) ?_
          refine wq_if (c := (nI (lvN (W 3 y) (W 4 y) h)) = (nI h)) (p1 := 185) (L1 := [(0, .ref 92), (1, .int (nI i)), (2, .int (nI y))]) (S1 := []) (p2 := 223) (L2 := [(0, .ref 92), (1, .int (nI i)), (2, .int (nI y))]) (S2 := []) rfl (fun c_182 => ?_) (fun c_182 => ?_)
          · have k_182 : (lvN (W 3 y) (W 4 y) h) = h := (nI_eq (a := (lvN (W 3 y) (W 4 y) h)) (b := h) (by omega) (by omega)).mp c_182
            refine wq_run4 (pc' := 191) (L' := [(0, .ref 92), (1, .int (nI i)), (2, .int (nI y))]) (S' := [.int 1, .int (nI i), .ref 115]) (f' := (up1 (S3 i) 136 g2)) rfl ?_
            refine wq_ist (j := i) (n := 24) rfl rfl rfl rfl (by omega) (Nat.le_of_ble_eq_true rfl) ?_
            refine wq_h (f' := (up1 (up1 (S3 i) 115 (upd ((S3 i) 115) i 1)) 136 g2)) ((up2_up1_ne (f := (S3 i)) (g := g2) (k := i) (v := 1) (show (115 : Nat) ≠ 136 by decide)).trans (congrArg (fun z => up1 z 136 g2) (up2_eq1 (S3 i) 115 i 1))) ?_
            refine wq_run5 (pc' := 201) (L' := [(0, .ref 92), (1, .int (nI i)), (2, .int (nI y))]) (S' := [.int ((S3 i) 92 8), .int (nI i), .ref 118]) (f' := (up1 (up1 (S3 i) 115 (upd ((S3 i) 115) i 1)) 136 g2)) rfl ?_
            refine wq_v (y := (nI h)) (hci.2.1) ?_
            refine wq_run3 (pc' := 206) (L' := [(0, .ref 92), (1, .int (nI i)), (2, .int (nI y))]) (S' := [.int (nI y), .ref 96, .int (nI h), .int (nI i), .ref 118]) (f' := (up1 (up1 (S3 i) 115 (upd ((S3 i) 115) i 1)) 136 g2)) rfl ?_
            refine wq_ald (j := y) (n := 16) (v := (nI (W 2 y))) rfl rfl rfl rfl (by omega) (Nat.le_of_ble_eq_true rfl) ((hci.2.2.2.2.1 y hyw).2.2.1) ?_
            refine wq_run1 (pc' := 208) (L' := [(0, .ref 92), (1, .int (nI i)), (2, .int (nI y))]) (S' := [.int ((nI h) + (nI (W 2 y))), .int (nI i), .ref 118]) (f' := (up1 (up1 (S3 i) 115 (upd ((S3 i) 115) i 1)) 136 g2)) rfl ?_
            refine wq_v (y := (nI (h + (W 2 y)))) (nI_add h (W 2 y)) ?_
            refine wq_ist (j := i) (n := 24) rfl rfl rfl rfl (by omega) (Nat.le_of_ble_eq_true rfl) ?_
            refine wq_h (f' := (up1 (up1 (up1 (S3 i) 118 (upd ((S3 i) 118) i (nI (h + (W 2 y))))) 115 (upd ((S3 i) 115) i 1)) 136 g2)) ((up2_up1_ne (f := (up1 (S3 i) 115 (upd ((S3 i) 115) i 1))) (g := g2) (k := i) (v := (nI (h + (W 2 y)))) (show (118 : Nat) ≠ 136 by decide)).trans (congrArg (fun z => up1 z 136 g2) ((up2_up1_ne (f := (S3 i)) (g := (upd ((S3 i) 115) i 1)) (k := i) (v := (nI (h + (W 2 y)))) (show (118 : Nat) ≠ 115 by decide)).trans (congrArg (fun z => up1 z 115 (upd ((S3 i) 115) i 1)) (up2_eq1 (S3 i) 118 i (nI (h + (W 2 y)))))))) ?_
            refine wq_run4 (pc' := 215) (L' := [(0, .ref 92), (1, .int (nI i)), (2, .int (nI y))]) (S' := [.int (nI y), .int (nI i), .ref 137]) (f' := (up1 (up1 (up1 (S3 i) 118 (upd ((S3 i) 118) i (nI (h + (W 2 y))))) 115 (upd ((S3 i) 115) i 1)) 136 g2)) rfl ?_
            refine wq_ist (j := i) (n := 24) rfl rfl rfl rfl (by omega) (Nat.le_of_ble_eq_true rfl) ?_
            refine wq_h (f' := (up1 (up1 (up1 (up1 (S3 i) 137 (upd ((S3 i) 137) i (nI y))) 118 (upd ((S3 i) 118) i (nI (h + (W 2 y))))) 115 (upd ((S3 i) 115) i 1)) 136 g2)) ((up2_up1_ne (f := (up1 (up1 (S3 i) 118 (upd ((S3 i) 118) i (nI (h + (W 2 y))))) 115 (upd ((S3 i) 115) i 1))) (g := g2) (k := i) (v := (nI y)) (show (137 : Nat) ≠ 136 by decide)).trans (congrArg (fun z => up1 z 136 g2) ((up2_up1_ne (f := (up1 (S3 i) 118 (upd ((S3 i) 118) i (nI (h + (W 2 y)))))) (g := (upd ((S3 i) 115) i 1)) (k := i) (v := (nI y)) (show (137 : Nat) ≠ 115 by decide)).trans (congrArg (fun z => up1 z 115 (upd ((S3 i) 115) i 1)) ((up2_up1_ne (f := (S3 i)) (g := (upd ((S3 i) 118) i (nI (h + (W 2 y))))) (k := i) (v := (nI y)) (show (137 : Nat) ≠ 118 by decide)).trans (congrArg (fun z => up1 z 118 (upd ((S3 i) 118) i (nI (h + (W 2 y))))) (up2_eq1 (S3 i) 137 i (nI y)))))))) ?_
            refine wq_run4 (pc' := 222) (L' := [(0, .ref 92), (1, .int (nI i)), (2, .int (nI y))]) (S' := [.int (nI y), .int (nI i), .ref 123]) (f' := (up1 (up1 (up1 (up1 (S3 i) 137 (upd ((S3 i) 137) i (nI y))) 118 (upd ((S3 i) 118) i (nI (h + (W 2 y))))) 115 (upd ((S3 i) 115) i 1)) 136 g2)) rfl ?_
            refine wq_ist (j := i) (n := 24) rfl rfl rfl rfl (by omega) (Nat.le_of_ble_eq_true rfl) ?_
            refine wq_h (f' := (up1 (up1 (up1 (up1 (up1 (S3 i) 123 (upd ((S3 i) 123) i (nI y))) 137 (upd ((S3 i) 137) i (nI y))) 118 (upd ((S3 i) 118) i (nI (h + (W 2 y))))) 115 (upd ((S3 i) 115) i 1)) 136 g2)) ((up2_up1_ne (f := (up1 (up1 (up1 (S3 i) 137 (upd ((S3 i) 137) i (nI y))) 118 (upd ((S3 i) 118) i (nI (h + (W 2 y))))) 115 (upd ((S3 i) 115) i 1))) (g := g2) (k := i) (v := (nI y)) (show (123 : Nat) ≠ 136 by decide)).trans (congrArg (fun z => up1 z 136 g2) ((up2_up1_ne (f := (up1 (up1 (S3 i) 137 (upd ((S3 i) 137) i (nI y))) 118 (upd ((S3 i) 118) i (nI (h + (W 2 y)))))) (g := (upd ((S3 i) 115) i 1)) (k := i) (v := (nI y)) (show (123 : Nat) ≠ 115 by decide)).trans (congrArg (fun z => up1 z 115 (upd ((S3 i) 115) i 1)) ((up2_up1_ne (f := (up1 (S3 i) 137 (upd ((S3 i) 137) i (nI y)))) (g := (upd ((S3 i) 118) i (nI (h + (W 2 y))))) (k := i) (v := (nI y)) (show (123 : Nat) ≠ 118 by decide)).trans (congrArg (fun z => up1 z 118 (upd ((S3 i) 118) i (nI (h + (W 2 y))))) ((up2_up1_ne (f := (S3 i)) (g := (upd ((S3 i) 137) i (nI y))) (k := i) (v := (nI y)) (show (123 : Nat) ≠ 137 by decide)).trans (congrArg (fun z => up1 z 137 (upd ((S3 i) 137) i (nI y))) (up2_eq1 (S3 i) 123 i (nI y)))))))))) ?_
            refine wq_run1 (pc' := 226) (L' := [(0, .ref 92), (1, .int ((nI i) + 1)), (2, .int (nI y))]) (S' := []) (f' := (up1 (up1 (up1 (up1 (up1 (S3 i) 123 (upd ((S3 i) 123) i (nI y))) 137 (upd ((S3 i) 137) i (nI y))) 118 (upd ((S3 i) 118) i (nI (h + (W 2 y))))) 115 (upd ((S3 i) 115) i 1)) 136 g2)) rfl ?_
            refine wq_L (L' := [(0, .ref 92), (1, .int (nI (i + 1))), (2, .int (nI y))]) (by rw [show nI i + 1 = nI (i + 1) from nI_add _ _]) ?_
            refine wq_run1 (pc' := 122) (L' := [(0, .ref 92), (1, .int (nI (i + 1)))]) (S' := []) (f' := (up1 (up1 (up1 (up1 (up1 (S3 i) 123 (upd ((S3 i) 123) i (nI y))) 137 (upd ((S3 i) 137) i (nI y))) 118 (upd ((S3 i) 118) i (nI (h + (W 2 y))))) 115 (upd ((S3 i) 115) i 1)) 136 g2)) rfl ?_
            rw [hy, show lvM W h (S3 i) i (some y) = _ from if_pos k_182] at kS
            have h9 := ih (i + 1) g2 (by omega) (by omega)
            rw [kS] at h9
            exact h9
          · have k_182 : ¬ (lvN (W 3 y) (W 4 y) h) = h := fun q => c_182 ((nI_eq (a := (lvN (W 3 y) (W 4 y) h)) (b := h) (by omega) (by omega)).mpr q)
            refine wq_run1 (pc' := 226) (L' := [(0, .ref 92), (1, .int ((nI i) + 1)), (2, .int (nI y))]) (S' := []) (f' := (up1 (S3 i) 136 g2)) rfl ?_
            refine wq_L (L' := [(0, .ref 92), (1, .int (nI (i + 1))), (2, .int (nI y))]) (by rw [show nI i + 1 = nI (i + 1) from nI_add _ _]) ?_
            refine wq_run1 (pc' := 122) (L' := [(0, .ref 92), (1, .int (nI (i + 1)))]) (S' := []) (f' := (up1 (S3 i) 136 g2)) rfl ?_
            rw [hy, show lvM W h (S3 i) i (some y) = S3 i from if_neg k_182] at kS
            have h9 := ih (i + 1) g2 (by omega) (by omega)
            rw [kS] at h9
            exact h9
      · have kS := ((h3 i (by omega)).resolve_right (fun q => c_136 q.1)).2
        refine wq_run4 (pc' := 166) (L' := [(0, .ref 92), (1, .int (nI i)), (2, .int (-1))]) (S' := [.int (-1), .int (-1)]) (f' := (up1 (S3 i) 136 g)) rfl ?_
        refine wq_if (c := (-1) = (-1)) (p1 := 223) (L1 := [(0, .ref 92), (1, .int (nI i)), (2, .int (-1))]) (S1 := []) (p2 := 169) (L2 := [(0, .ref 92), (1, .int (nI i)), (2, .int (-1))]) (S2 := []) rfl (fun _ => ?_) (fun q => absurd rfl q)
        refine wq_run1 (pc' := 226) (L' := [(0, .ref 92), (1, .int ((nI i) + 1)), (2, .int (-1))]) (S' := []) (f' := (up1 (S3 i) 136 g)) rfl ?_
        refine wq_L (L' := [(0, .ref 92), (1, .int (nI (i + 1))), (2, .int (-1))]) (by rw [show nI i + 1 = nI (i + 1) from nI_add _ _]) ?_
        refine wq_run1 (pc' := 122) (L' := [(0, .ref 92), (1, .int (nI (i + 1)))]) (S' := []) (f' := (up1 (S3 i) 136 g)) rfl ?_
        have h9 := ih (i + 1) g (by omega) (by omega)
        rw [kS] at h9
        exact h9
theorem mlp_st2 {S2 S3 S4 : Nat → HI} {W : Nat → Nat → Nat} {w n h : Nat} (hn24 : n ≤ 24) (hh : h ≤ 30000) (g4 : ∀ e, e ≤ 2 * w → HcM (S4 e) W w n h) (h4 : ∀ e, e < 2 * w → C4m S4 W e) (g3 : ∀ i, i ≤ n → HcM (S3 i) W w n h) (h3 : ∀ i, i < n → C3m S3 W w h i) (j3 : S4 0 = S3 n) (g2 : ∀ i, i ≤ n → HcM (S2 i) W w n h) (h2 : ∀ i, i < n → C2m S2 i) (j2 : S3 0 = S2 n) : ∀ (m9 : Nat) (i : Nat) (g0 : Nat → Int32), (i ≤ n) → n - i < m9 → wq 6 174 (fun v f' => v = none ∧ ∃ g, f' = up1 (up1 (S4 (2 * w)) 92 (upd (S4 (2 * w) 92) 8 (nI (h + 1)))) 136 g) 77 [(0, .ref 92), (1, .int (nI i))] [] (up1 (S2 i) 136 g0) := by
  intro m9
  induction m9 with
  | zero => intro i g0 hi hn; exact absurd hn (Nat.not_lt_zero _)
  | succ m9 ih =>
    intro i g0 hi hn
    have hci := g2 i hi
    refine wq_run3 (pc' := 82) (L' := [(0, .ref 92), (1, .int (nI i))]) (S' := [.int ((S2 i) 92 35), .int (nI i)]) (f' := (up1 (S2 i) 136 g0)) rfl ?_
    refine wq_v (y := (nI n)) (hci.1) ?_
    refine wq_if (c := (nI n) ≤ (nI i)) (p1 := 120) (L1 := [(0, .ref 92), (1, .int (nI i))]) (S1 := []) (p2 := 85) (L2 := [(0, .ref 92), (1, .int (nI i))]) (S2 := []) rfl (fun c_82 => ?_) (fun c_82 => ?_)
    · have k_82 : n ≤ i := (nI_leI (a := n) (b := i) (by omega) (by omega)).mp c_82
      refine wq_run2 (pc' := 122) (L' := [(0, .ref 92), (1, .int 0)]) (S' := []) (f' := (up1 (S2 i) 136 g0)) rfl ?_
      have e1 : i = n := by omega
      rw [e1, ← j2]
      exact mlp_st3 hn24 hh g4 h4 g3 h3 j3 (n - 0 + 1) 0 g0 (Nat.zero_le _) (Nat.lt_succ_self _)
    · have k_82 : ¬ n ≤ i := fun q => c_82 ((nI_leI (a := n) (b := i) (by omega) (by omega)).mpr q)
      refine wq_run3 (pc' := 90) (L' := [(0, .ref 92), (1, .int (nI i))]) (S' := [.int (nI i), .ref 115]) (f' := (up1 (S2 i) 136 g0)) rfl ?_
      refine wq_ald (j := i) (n := 24) (v := ((S2 i) 115 i)) rfl rfl rfl rfl (by omega) (Nat.le_of_ble_eq_true rfl) rfl ?_
      refine wq_if (c := ((S2 i) 115 i) = 0) (p1 := 94) (L1 := [(0, .ref 92), (1, .int (nI i))]) (S1 := []) (p2 := 114) (L2 := [(0, .ref 92), (1, .int (nI i))]) (S2 := []) rfl (fun c_91 => ?_) (fun c_91 => ?_)
      · refine wq_run3 (pc' := 99) (L' := [(0, .ref 92), (1, .int (nI i))]) (S' := [.int (nI i), .ref 116]) (f' := (up1 (S2 i) 136 g0)) rfl ?_
        refine wq_ald (j := i) (n := 24) (v := ((S2 i) 116 i)) rfl rfl rfl rfl (by omega) (Nat.le_of_ble_eq_true rfl) rfl ?_
        refine wq_run3 (pc' := 105) (L' := [(0, .ref 92), (1, .int (nI i))]) (S' := [.int (nI i), .ref 117, .int ((S2 i) 116 i)]) (f' := (up1 (S2 i) 136 g0)) rfl ?_
        refine wq_ald (j := i) (n := 24) (v := ((S2 i) 117 i)) rfl rfl rfl rfl (by omega) (Nat.le_of_ble_eq_true rfl) rfl ?_
        refine wq_if (c := ((S2 i) 116 i) = ((S2 i) 117 i)) (p1 := 109) (L1 := [(0, .ref 92), (1, .int (nI i))]) (S1 := []) (p2 := 114) (L2 := [(0, .ref 92), (1, .int (nI i))]) (S2 := []) rfl (fun c_106 => ?_) (fun c_106 => ?_)
        · refine wq_run2 (pc' := 111) (L' := [(0, .ref 92), (1, .int (nI i))]) (S' := [.int (nI i), .ref 92]) (f' := (up1 (S2 i) 136 g0)) rfl ?_
          refine wq_call ((((h2 i (by omega)).resolve_left (fun q => q.1 ⟨c_91, c_106⟩)).2 g0)) (Nat.le_of_ble_eq_true rfl) (pc' := 114) (L' := [(0, .ref 92), (1, .int (nI i))]) (S' := []) rfl (Nat.le_of_ble_eq_true rfl) rfl rfl (Nat.le_of_ble_eq_true rfl) (Nat.le_of_ble_eq_true rfl) ?_
          rintro v f9 ⟨e0, g9, ef⟩
          subst e0
          subst ef
          refine wq_run1 (pc' := 117) (L' := [(0, .ref 92), (1, .int ((nI i) + 1))]) (S' := []) (f' := (up1 (S2 (i + 1)) 136 g9)) rfl ?_
          refine wq_L (L' := [(0, .ref 92), (1, .int (nI (i + 1)))]) (by rw [show nI i + 1 = nI (i + 1) from nI_add _ _]) ?_
          refine wq_run1 (pc' := 77) (L' := [(0, .ref 92), (1, .int (nI (i + 1)))]) (S' := []) (f' := (up1 (S2 (i + 1)) 136 g9)) rfl ?_
          exact ih (i + 1) g9 (by omega) (by omega)
        · refine wq_run1 (pc' := 117) (L' := [(0, .ref 92), (1, .int ((nI i) + 1))]) (S' := []) (f' := (up1 (S2 i) 136 g0)) rfl ?_
          refine wq_L (L' := [(0, .ref 92), (1, .int (nI (i + 1)))]) (by rw [show nI i + 1 = nI (i + 1) from nI_add _ _]) ?_
          refine wq_run1 (pc' := 77) (L' := [(0, .ref 92), (1, .int (nI (i + 1)))]) (S' := []) (f' := (up1 (S2 i) 136 g0)) rfl ?_
          have kS := ((h2 i (by omega)).resolve_right (fun q => c_106 q.1.2)).2
          have h9 := ih (i + 1) g0 (by omega) (by omega)
          rw [kS] at h9
          exact h9
      · refine wq_run1 (pc' := 117) (L' := [(0, .ref 92), (1, .int ((nI i) + 1))]) (S' := []) (f' := (up1 (S2 i) 136 g0)) rfl ?_
        refine wq_L (L' := [(0, .ref 92), (1, .int (nI (i + 1)))]) (by rw [show nI i + 1 = nI (i + 1) from nI_add _ _]) ?_
        refine wq_run1 (pc' := 77) (L' := [(0, .ref 92), (1, .int (nI (i + 1)))]) (S' := []) (f' := (up1 (S2 i) 136 g0)) rfl ?_
        have kS := ((h2 i (by omega)).resolve_right (fun q => c_91 q.1.1)).2
        have h9 := ih (i + 1) g0 (by omega) (by omega)
        rw [kS] at h9
        exact h9
theorem mlp_st1 {S1 S2 S3 S4 : Nat → HI} {W : Nat → Nat → Nat} {w n h : Nat} (hn24 : n ≤ 24) (hh : h ≤ 30000) (g4 : ∀ e, e ≤ 2 * w → HcM (S4 e) W w n h) (h4 : ∀ e, e < 2 * w → C4m S4 W e) (g3 : ∀ i, i ≤ n → HcM (S3 i) W w n h) (h3 : ∀ i, i < n → C3m S3 W w h i) (j3 : S4 0 = S3 n) (g2 : ∀ i, i ≤ n → HcM (S2 i) W w n h) (h2 : ∀ i, i < n → C2m S2 i) (j2 : S3 0 = S2 n) (g1 : ∀ i, i ≤ n → HcM (S1 i) W w n h) (h1 : ∀ i, i < n → C1m S1 W w h i) (j1 : S2 0 = S1 n) : ∀ (m9 : Nat) (i : Nat), (i ≤ n) → n - i < m9 → wq 6 174 (fun v f' => v = none ∧ ∃ g, f' = up1 (up1 (S4 (2 * w)) 92 (upd (S4 (2 * w) 92) 8 (nI (h + 1)))) 136 g) 2 [(0, .ref 92), (1, .int (nI i))] [] (S1 i) := by
  intro m9
  induction m9 with
  | zero => intro i hi hn; exact absurd hn (Nat.not_lt_zero _)
  | succ m9 ih =>
    intro i hi hn
    have hci := g1 i hi
    have hw16 := hci.2.2.2.1
    refine wq_run3 (pc' := 7) (L' := [(0, .ref 92), (1, .int (nI i))]) (S' := [.int ((S1 i) 92 35), .int (nI i)]) (f' := (S1 i)) rfl ?_
    refine wq_v (y := (nI n)) (hci.1) ?_
    refine wq_if (c := (nI n) ≤ (nI i)) (p1 := 75) (L1 := [(0, .ref 92), (1, .int (nI i))]) (S1 := []) (p2 := 10) (L2 := [(0, .ref 92), (1, .int (nI i))]) (S2 := []) rfl (fun c_7 => ?_) (fun c_7 => ?_)
    · have k_7 : n ≤ i := (nI_leI (a := n) (b := i) (by omega) (by omega)).mp c_7
      refine wq_run2 (pc' := 77) (L' := [(0, .ref 92), (1, .int 0)]) (S' := []) (f' := (S1 i)) rfl ?_
      have e1 : i = n := by omega
      rw [e1, ← j1, ← up1_id (S2 0) 136]
      exact mlp_st2 hn24 hh g4 h4 g3 h3 j3 g2 h2 j2 (n - 0 + 1) 0 _ (Nat.zero_le _) (Nat.lt_succ_self _)
    · have k_7 : ¬ n ≤ i := fun q => c_7 ((nI_leI (a := n) (b := i) (by omega) (by omega)).mpr q)
      refine wq_run4 (pc' := 16) (L' := [(0, .ref 92), (1, .int (nI i))]) (S' := [.int (-1), .int (nI i), .ref 123]) (f' := (S1 i)) rfl ?_
      refine wq_ist (j := i) (n := 24) rfl rfl rfl rfl (by omega) (Nat.le_of_ble_eq_true rfl) ?_
      refine wq_h (f' := (up1 (S1 i) 123 (upd ((S1 i) 123) i (-1)))) (up2_eq1 (S1 i) 123 i (-1)) ?_
      refine wq_run3 (pc' := 22) (L' := [(0, .ref 92), (1, .int (nI i))]) (S' := [.int (nI i), .ref 115]) (f' := (up1 (S1 i) 123 (upd ((S1 i) 123) i (-1)))) rfl ?_
      refine wq_ald (j := i) (n := 24) (v := ((S1 i) 115 i)) rfl rfl rfl rfl (by omega) (Nat.le_of_ble_eq_true rfl) rfl ?_
      refine wq_run1 (pc' := 24) (L' := [(0, .ref 92), (1, .int (nI i))]) (S' := [.int 1, .int ((S1 i) 115 i)]) (f' := (up1 (S1 i) 123 (upd ((S1 i) 123) i (-1)))) rfl ?_
      refine wq_if (c := ((S1 i) 115 i) = 1) (p1 := 27) (L1 := [(0, .ref 92), (1, .int (nI i))]) (S1 := []) (p2 := 69) (L2 := [(0, .ref 92), (1, .int (nI i))]) (S2 := []) rfl (fun c_24 => ?_) (fun c_24 => ?_)
      · refine wq_run3 (pc' := 32) (L' := [(0, .ref 92), (1, .int (nI i))]) (S' := [.int (nI i), .ref 118]) (f' := (up1 (S1 i) 123 (upd ((S1 i) 123) i (-1)))) rfl ?_
        refine wq_ald (j := i) (n := 24) (v := ((S1 i) 118 i)) rfl rfl rfl rfl (by omega) (Nat.le_of_ble_eq_true rfl) rfl ?_
        refine wq_run2 (pc' := 37) (L' := [(0, .ref 92), (1, .int (nI i))]) (S' := [.int ((S1 i) 92 8), .int ((S1 i) 118 i)]) (f' := (up1 (S1 i) 123 (upd ((S1 i) 123) i (-1)))) rfl ?_
        refine wq_v (y := (nI h)) (hci.2.1) ?_
        refine wq_if (c := ((S1 i) 118 i) = (nI h)) (p1 := 40) (L1 := [(0, .ref 92), (1, .int (nI i))]) (S1 := []) (p2 := 69) (L2 := [(0, .ref 92), (1, .int (nI i))]) (S2 := []) rfl (fun c_37 => ?_) (fun c_37 => ?_)
        · obtain ⟨_, e, he, k37, k16, kS⟩ := (h1 i (by omega)).resolve_left (fun q => q.1 ⟨c_24, c_37⟩)
          refine wq_run4 (pc' := 46) (L' := [(0, .ref 92), (1, .int (nI i))]) (S' := [.int 0, .int (nI i), .ref 115]) (f' := (up1 (S1 i) 123 (upd ((S1 i) 123) i (-1)))) rfl ?_
          refine wq_ist (j := i) (n := 24) rfl rfl rfl rfl (by omega) (Nat.le_of_ble_eq_true rfl) ?_
          refine wq_h (f' := (up1 (up1 (S1 i) 115 (upd ((S1 i) 115) i 0)) 123 (upd ((S1 i) 123) i (-1)))) ((up2_up1_ne (f := (S1 i)) (g := (upd ((S1 i) 123) i (-1))) (k := i) (v := 0) (show (115 : Nat) ≠ 123 by decide)).trans (congrArg (fun z => up1 z 123 (upd ((S1 i) 123) i (-1))) (up2_eq1 (S1 i) 115 i 0))) ?_
          refine wq_run7 (pc' := 58) (L' := [(0, .ref 92), (1, .int (nI i))]) (S' := [.int (nI i), .ref 137, .ref 92, .int (nI i), .ref 116]) (f' := (up1 (up1 (S1 i) 115 (upd ((S1 i) 115) i 0)) 123 (upd ((S1 i) 123) i (-1)))) rfl ?_
          refine wq_ald (j := i) (n := 24) (v := (nI (e / 2))) rfl rfl rfl rfl (by omega) (Nat.le_of_ble_eq_true rfl) (k37) ?_
          refine wq_run3 (pc' := 64) (L' := [(0, .ref 92), (1, .int (nI i))]) (S' := [.int (nI i), .ref 116, .int (nI (e / 2)), .ref 92, .int (nI i), .ref 116]) (f' := (up1 (up1 (S1 i) 115 (upd ((S1 i) 115) i 0)) 123 (upd ((S1 i) 123) i (-1)))) rfl ?_
          refine wq_ald (j := i) (n := 24) (v := (nI (eP W e))) rfl rfl rfl rfl (by omega) (Nat.le_of_ble_eq_true rfl) (k16) ?_
          refine wq_callI (r := (nI (eQ W e))) ((show Sp 1 133 [.ref 92, .int (nI (e / 2)), .int (nI (eP W e))] (up1 (up1 (S1 i) 115 (upd ((S1 i) 115) i 0)) 123 (upd ((S1 i) 123) i (-1))) (Ret (nI (eQ W e)) (up1 (up1 (S1 i) 115 (upd ((S1 i) 115) i 0)) 123 (upd ((S1 i) 123) i (-1)))) from by have h9 := mp_otherEnd (f := (up1 (up1 (S1 i) 115 (upd ((S1 i) 115) i 0)) 123 (upd ((S1 i) 123) i (-1)))) (W := W) (w := w) (i := e / 2) (a := eP W e) hci.2.2 (by omega) (wy_P hci.2.2.2.2.2 he); rw [ot_v hci.2.2.2.2.2 he] at h9; exact h9)) (Nat.le_of_ble_eq_true rfl) (pc' := 68) (L' := [(0, .ref 92), (1, .int (nI i))]) (S' := [.int (nI i), .ref 116]) rfl (Nat.le_of_ble_eq_true rfl) rfl rfl (Nat.le_of_ble_eq_true rfl) (Nat.le_of_ble_eq_true rfl) ?_
          refine wq_ist (j := i) (n := 24) rfl rfl rfl rfl (by omega) (Nat.le_of_ble_eq_true rfl) ?_
          refine wq_h (f' := (up1 (up1 (up1 (S1 i) 116 (upd ((S1 i) 116) i (nI (eQ W e)))) 115 (upd ((S1 i) 115) i 0)) 123 (upd ((S1 i) 123) i (-1)))) ((up2_up1_ne (f := (up1 (S1 i) 115 (upd ((S1 i) 115) i 0))) (g := (upd ((S1 i) 123) i (-1))) (k := i) (v := (nI (eQ W e))) (show (116 : Nat) ≠ 123 by decide)).trans (congrArg (fun z => up1 z 123 (upd ((S1 i) 123) i (-1))) ((up2_up1_ne (f := (S1 i)) (g := (upd ((S1 i) 115) i 0)) (k := i) (v := (nI (eQ W e))) (show (116 : Nat) ≠ 115 by decide)).trans (congrArg (fun z => up1 z 115 (upd ((S1 i) 115) i 0)) (up2_eq1 (S1 i) 116 i (nI (eQ W e))))))) ?_
          refine wq_run1 (pc' := 72) (L' := [(0, .ref 92), (1, .int ((nI i) + 1))]) (S' := []) (f' := (up1 (up1 (up1 (S1 i) 116 (upd ((S1 i) 116) i (nI (eQ W e)))) 115 (upd ((S1 i) 115) i 0)) 123 (upd ((S1 i) 123) i (-1)))) rfl ?_
          refine wq_L (L' := [(0, .ref 92), (1, .int (nI (i + 1)))]) (by rw [show nI i + 1 = nI (i + 1) from nI_add _ _]) ?_
          refine wq_run1 (pc' := 2) (L' := [(0, .ref 92), (1, .int (nI (i + 1)))]) (S' := []) (f' := (up1 (up1 (up1 (S1 i) 116 (upd ((S1 i) 116) i (nI (eQ W e)))) 115 (upd ((S1 i) 115) i 0)) 123 (upd ((S1 i) 123) i (-1)))) rfl ?_
          have h9 := ih (i + 1) (by omega) (by omega)
          rw [kS] at h9
          exact h9
        · refine wq_run1 (pc' := 72) (L' := [(0, .ref 92), (1, .int ((nI i) + 1))]) (S' := []) (f' := (up1 (S1 i) 123 (upd ((S1 i) 123) i (-1)))) rfl ?_
          refine wq_L (L' := [(0, .ref 92), (1, .int (nI (i + 1)))]) (by rw [show nI i + 1 = nI (i + 1) from nI_add _ _]) ?_
          refine wq_run1 (pc' := 2) (L' := [(0, .ref 92), (1, .int (nI (i + 1)))]) (S' := []) (f' := (up1 (S1 i) 123 (upd ((S1 i) 123) i (-1)))) rfl ?_
          have kS := ((h1 i (by omega)).resolve_right (fun q => c_37 q.1.2)).2
          have h9 := ih (i + 1) (by omega) (by omega)
          rw [kS] at h9
          exact h9
      · refine wq_run1 (pc' := 72) (L' := [(0, .ref 92), (1, .int ((nI i) + 1))]) (S' := []) (f' := (up1 (S1 i) 123 (upd ((S1 i) 123) i (-1)))) rfl ?_
        refine wq_L (L' := [(0, .ref 92), (1, .int (nI (i + 1)))]) (by rw [show nI i + 1 = nI (i + 1) from nI_add _ _]) ?_
        refine wq_run1 (pc' := 2) (L' := [(0, .ref 92), (1, .int (nI (i + 1)))]) (S' := []) (f' := (up1 (S1 i) 123 (upd ((S1 i) 123) i (-1)))) rfl ?_
        have kS := ((h1 i (by omega)).resolve_right (fun q => c_24 q.1.1)).2
        have h9 := ih (i + 1) (by omega) (by omega)
        rw [kS] at h9
        exact h9
theorem mp_step {S1 S2 S3 S4 : Nat → HI} {W : Nat → Nat → Nat} {w n h : Nat} (hn24 : n ≤ 24) (hh : h ≤ 30000) (g4 : ∀ e, e ≤ 2 * w → HcM (S4 e) W w n h) (h4 : ∀ e, e < 2 * w → C4m S4 W e) (g3 : ∀ i, i ≤ n → HcM (S3 i) W w n h) (h3 : ∀ i, i < n → C3m S3 W w h i) (j3 : S4 0 = S3 n) (g2 : ∀ i, i ≤ n → HcM (S2 i) W w n h) (h2 : ∀ i, i < n → C2m S2 i) (j2 : S3 0 = S2 n) (g1 : ∀ i, i ≤ n → HcM (S1 i) W w n h) (h1 : ∀ i, i < n → C1m S1 W w h i) (j1 : S2 0 = S1 n) : Sp 6 174 [.ref 92] (S1 0) (fun v f' => v = none ∧ ∃ g, f' = up1 (up1 (S4 (2 * w)) 92 (upd (S4 (2 * w) 92) 8 (nI (h + 1)))) 136 g) := by
  show wq 6 174 (fun v f' => v = none ∧ ∃ g, f' = up1 (up1 (S4 (2 * w)) 92 (upd (S4 (2 * w) 92) 8 (nI (h + 1)))) 136 g) 0 [(0, .ref 92)] [] (S1 0)
  refine wq_run2 (pc' := 2) (L' := [(0, .ref 92), (1, .int 0)]) (S' := []) (f' := (S1 0)) rfl ?_
  exact mlp_st1 hn24 hh g4 h4 g3 h3 j3 g2 h2 j2 g1 h1 j1 (n - 0 + 1) 0 (Nat.zero_le _) (Nat.lt_succ_self _)
