/-! the watch: cannot -/
theorem sp_isDueBy {f : HI} {W : Nat → Nat → Nat} {w a b h y : Nat} (hL : LaC f W w) (ha : a < 10) (hb : b < 10) (hh : h ≤ 60000) (hy : y < 268435456) : Sp 5 79 [.ref 71, .int (nI a), .int (nI b), .int (nI h), .int (nI y)] f (fun v f' => ∃ g, v = some (.int (b2i (arN W w a h b ≤ y))) ∧ f' = up1 f 10 g) := by
  show wq 5 79 (fun v f' => ∃ g, v = some (.int (b2i (arN W w a h b ≤ y))) ∧ f' = up1 f 10 g) 0 [(0, .ref 71), (1, .int (nI a)), (2, .int (nI b)), (3, .int (nI h)), (4, .int (nI y))] [] f
  refine wq_run5 (pc' := 7) (L' := [(0, .ref 71), (1, .int (nI a)), (2, .int (nI b)), (3, .int (nI h)), (4, .int (nI y))]) (S' := [.int (nI h), .int (nI b), .int (nI a), .ref 2]) (f' := f) rfl ?_
  refine wq_call (sp_arrival (f := f) (a := a) (b := b) (h := h) hL (by omega) (by omega) (by omega)) (Nat.le_of_ble_eq_true rfl) (pc' := 10) (L' := [(0, .ref 71), (1, .int (nI a)), (2, .int (nI b)), (3, .int (nI h)), (4, .int (nI y))]) (S' := []) rfl (Nat.le_of_ble_eq_true rfl) rfl rfl (Nat.le_of_ble_eq_true rfl) (Nat.le_of_ble_eq_true rfl) ?_
  rintro v f9 ⟨g, e0, ef⟩
  subst e0
  subst ef
  refine wq_run3 (pc' := 15) (L' := [(0, .ref 71), (1, .int (nI a)), (2, .int (nI b)), (3, .int (nI h)), (4, .int (nI y)), (5, .int (dI (arN W w a h b)))]) (S' := [.int (-1), .int (dI (arN W w a h b))]) (f' := (up1 f 10 g)) rfl ?_
  refine wq_if (c := (dI (arN W w a h b)) = (-1)) (p1 := 29) (L1 := [(0, .ref 71), (1, .int (nI a)), (2, .int (nI b)), (3, .int (nI h)), (4, .int (nI y)), (5, .int (dI (arN W w a h b)))]) (S1 := []) (p2 := 18) (L2 := [(0, .ref 71), (1, .int (nI a)), (2, .int (nI b)), (3, .int (nI h)), (4, .int (nI y)), (5, .int (dI (arN W w a h b)))]) (S2 := []) rfl (fun c_15 => ?_) (fun c_15 => ?_)
  · have k_15 := dI_0.mp c_15
    refine wq_run1 (pc' := 30) (L' := [(0, .ref 71), (1, .int (nI a)), (2, .int (nI b)), (3, .int (nI h)), (4, .int (nI y)), (5, .int (dI (arN W w a h b)))]) (S' := [.int 0]) (f' := (up1 f 10 g)) rfl ?_
    exact wq_retZ rfl (Or.inl rfl) ⟨g, by rw [b2i_f (show ¬ arN W w a h b ≤ y by omega)], rfl⟩
  · have k_15 : arN W w a h b < 268435456 := Nat.lt_of_not_le (fun q => c_15 (dI_0.mpr q))
    refine wq_L (L' := [(0, .ref 71), (1, .int (nI a)), (2, .int (nI b)), (3, .int (nI h)), (4, .int (nI y)), (5, .int (nI (arN W w a h b)))]) (by rw [dI_n k_15]) ?_
    refine wq_run2 (pc' := 22) (L' := [(0, .ref 71), (1, .int (nI a)), (2, .int (nI b)), (3, .int (nI h)), (4, .int (nI y)), (5, .int (nI (arN W w a h b)))]) (S' := [.int (nI y), .int (nI (arN W w a h b))]) (f' := (up1 f 10 g)) rfl ?_
    refine wq_if (c := (nI y) < (nI (arN W w a h b))) (p1 := 29) (L1 := [(0, .ref 71), (1, .int (nI a)), (2, .int (nI b)), (3, .int (nI h)), (4, .int (nI y)), (5, .int (nI (arN W w a h b)))]) (S1 := []) (p2 := 25) (L2 := [(0, .ref 71), (1, .int (nI a)), (2, .int (nI b)), (3, .int (nI h)), (4, .int (nI y)), (5, .int (nI (arN W w a h b)))]) (S2 := []) rfl (fun c_22 => ?_) (fun c_22 => ?_)
    · have k_22 : y < (arN W w a h b) := (nI_ltI (a := y) (b := (arN W w a h b)) (by omega) (by omega)).mp c_22
      refine wq_run1 (pc' := 30) (L' := [(0, .ref 71), (1, .int (nI a)), (2, .int (nI b)), (3, .int (nI h)), (4, .int (nI y)), (5, .int (nI (arN W w a h b)))]) (S' := [.int 0]) (f' := (up1 f 10 g)) rfl ?_
      exact wq_retZ rfl (Or.inl rfl) ⟨g, by rw [b2i_f (show ¬ arN W w a h b ≤ y by omega)], rfl⟩
    · have k_22 : ¬ y < (arN W w a h b) := fun q => c_22 ((nI_ltI (a := y) (b := (arN W w a h b)) (by omega) (by omega)).mpr q)
      refine wq_run2 (pc' := 30) (L' := [(0, .ref 71), (1, .int (nI a)), (2, .int (nI b)), (3, .int (nI h)), (4, .int (nI y)), (5, .int (nI (arN W w a h b)))]) (S' := [.int 1]) (f' := (up1 f 10 g)) rfl ?_
      exact wq_retZ rfl (Or.inr rfl) ⟨g, by rw [b2i_t (show arN W w a h b ≤ y by omega)], rfl⟩
theorem mp_can {f : HI} {W : Nat → Nat → Nat} {w a b h y : Nat} (hM : LaM f W w) (ha : a < 10) (hb : b < 10) (hh : h ≤ 60000) (hy : y < 268435456) : Sp 4 181 [.ref 92, .int (nI a), .int (nI h), .int (nI b), .int (nI y)] f (fun v f' => ∃ g, v = some (.int (b2i (arN W w a h b ≤ y))) ∧ f' = up1 f 136 g) := by
  show wq 4 181 (fun v f' => ∃ g, v = some (.int (b2i (arN W w a h b ≤ y))) ∧ f' = up1 f 136 g) 0 [(0, .ref 92), (1, .int (nI a)), (2, .int (nI h)), (3, .int (nI b)), (4, .int (nI y))] [] f
  refine wq_run4 (pc' := 4) (L' := [(0, .ref 92), (1, .int (nI a)), (2, .int (nI h)), (3, .int (nI b)), (4, .int (nI y))]) (S' := [.int (nI h), .int (nI b), .int (nI a), .ref 92]) (f' := f) rfl ?_
  refine wq_call (mp_dueOf (f := f) (a := a) (b := b) (h := h) hM (by omega) (by omega) (by omega)) (Nat.le_of_ble_eq_true rfl) (pc' := 7) (L' := [(0, .ref 92), (1, .int (nI a)), (2, .int (nI h)), (3, .int (nI b)), (4, .int (nI y))]) (S' := []) rfl (Nat.le_of_ble_eq_true rfl) rfl rfl (Nat.le_of_ble_eq_true rfl) (Nat.le_of_ble_eq_true rfl) ?_
  rintro v f9 ⟨g, e0, ef⟩
  subst e0
  subst ef
  refine wq_run3 (pc' := 12) (L' := [(0, .ref 92), (1, .int (nI a)), (2, .int (nI h)), (3, .int (nI b)), (4, .int (nI y)), (5, .int (dI (arN W w a h b)))]) (S' := [.int (-1), .int (dI (arN W w a h b))]) (f' := (up1 f 136 g)) rfl ?_
  refine wq_if (c := (dI (arN W w a h b)) = (-1)) (p1 := 26) (L1 := [(0, .ref 92), (1, .int (nI a)), (2, .int (nI h)), (3, .int (nI b)), (4, .int (nI y)), (5, .int (dI (arN W w a h b)))]) (S1 := []) (p2 := 15) (L2 := [(0, .ref 92), (1, .int (nI a)), (2, .int (nI h)), (3, .int (nI b)), (4, .int (nI y)), (5, .int (dI (arN W w a h b)))]) (S2 := []) rfl (fun c_12 => ?_) (fun c_12 => ?_)
  · have k_12 := dI_0.mp c_12
    refine wq_run1 (pc' := 27) (L' := [(0, .ref 92), (1, .int (nI a)), (2, .int (nI h)), (3, .int (nI b)), (4, .int (nI y)), (5, .int (dI (arN W w a h b)))]) (S' := [.int 0]) (f' := (up1 f 136 g)) rfl ?_
    exact wq_retZ rfl (Or.inl rfl) ⟨g, by rw [b2i_f (show ¬ arN W w a h b ≤ y by omega)], rfl⟩
  · have k_12 : arN W w a h b < 268435456 := Nat.lt_of_not_le (fun q => c_12 (dI_0.mpr q))
    refine wq_L (L' := [(0, .ref 92), (1, .int (nI a)), (2, .int (nI h)), (3, .int (nI b)), (4, .int (nI y)), (5, .int (nI (arN W w a h b)))]) (by rw [dI_n k_12]) ?_
    refine wq_run2 (pc' := 19) (L' := [(0, .ref 92), (1, .int (nI a)), (2, .int (nI h)), (3, .int (nI b)), (4, .int (nI y)), (5, .int (nI (arN W w a h b)))]) (S' := [.int (nI y), .int (nI (arN W w a h b))]) (f' := (up1 f 136 g)) rfl ?_
    refine wq_if (c := (nI y) < (nI (arN W w a h b))) (p1 := 26) (L1 := [(0, .ref 92), (1, .int (nI a)), (2, .int (nI h)), (3, .int (nI b)), (4, .int (nI y)), (5, .int (nI (arN W w a h b)))]) (S1 := []) (p2 := 22) (L2 := [(0, .ref 92), (1, .int (nI a)), (2, .int (nI h)), (3, .int (nI b)), (4, .int (nI y)), (5, .int (nI (arN W w a h b)))]) (S2 := []) rfl (fun c_19 => ?_) (fun c_19 => ?_)
    · have k_19 : y < (arN W w a h b) := (nI_ltI (a := y) (b := (arN W w a h b)) (by omega) (by omega)).mp c_19
      refine wq_run1 (pc' := 27) (L' := [(0, .ref 92), (1, .int (nI a)), (2, .int (nI h)), (3, .int (nI b)), (4, .int (nI y)), (5, .int (nI (arN W w a h b)))]) (S' := [.int 0]) (f' := (up1 f 136 g)) rfl ?_
      exact wq_retZ rfl (Or.inl rfl) ⟨g, by rw [b2i_f (show ¬ arN W w a h b ≤ y by omega)], rfl⟩
    · have k_19 : ¬ y < (arN W w a h b) := fun q => c_19 ((nI_ltI (a := y) (b := (arN W w a h b)) (by omega) (by omega)).mpr q)
      refine wq_run2 (pc' := 27) (L' := [(0, .ref 92), (1, .int (nI a)), (2, .int (nI h)), (3, .int (nI b)), (4, .int (nI y)), (5, .int (nI (arN W w a h b)))]) (S' := [.int 1]) (f' := (up1 f 136 g)) rfl ?_
      exact wq_retZ rfl (Or.inr rfl) ⟨g, by rw [b2i_t (show arN W w a h b ≤ y by omega)], rfl⟩
def elB (W : Nat → Nat → Nat) (w : Nat) (wh : Nat → Int32) (pl tm : Nat → Nat) (wl : Int32) (fr wr i : Nat) : Bool := decide (wh i = wl ∧ ¬ (if tm i ≤ wr then arN W w (pl i) (tm i) fr ≤ wr else arN W w fr wr (pl i) ≤ tm i))
def exI : Option Nat → Int32
  | none => 0
  | some _ => 1
theorem el_n {W : Nat → Nat → Nat} {w : Nat} {wh : Nat → Int32} {pl tm : Nat → Nat} {wl : Int32} {fr wr i : Nat} (h : ¬ wh i = wl) : elB W w wh pl tm wl fr wr i = false := decide_eq_false (fun q => h q.1)
theorem el_1 {W : Nat → Nat → Nat} {w : Nat} {wh : Nat → Int32} {pl tm : Nat → Nat} {wl : Int32} {fr wr i : Nat} {z : Bool} (h : wh i = wl) (ht : tm i ≤ wr) (hz : arN W w (pl i) (tm i) fr ≤ wr ↔ z = false) : elB W w wh pl tm wl fr wr i = z := by
  unfold elB
  cases z with
  | false => exact decide_eq_false (fun q => q.2 (by rw [if_pos ht]; exact hz.mpr rfl))
  | true => exact decide_eq_true ⟨h, fun q => by rw [if_pos ht] at q; exact absurd (hz.mp q) (by decide)⟩
theorem el_2 {W : Nat → Nat → Nat} {w : Nat} {wh : Nat → Int32} {pl tm : Nat → Nat} {wl : Int32} {fr wr i : Nat} {z : Bool} (h : wh i = wl) (ht : ¬ tm i ≤ wr) (hz : arN W w fr wr (pl i) ≤ tm i ↔ z = false) : elB W w wh pl tm wl fr wr i = z := by
  unfold elB
  cases z with
  | false => exact decide_eq_false (fun q => q.2 (by rw [if_neg ht]; exact hz.mpr rfl))
  | true => exact decide_eq_true ⟨h, fun q => by rw [if_neg ht] at q; exact absurd (hz.mp q) (by decide)⟩
theorem iff_f {p : Prop} (h : p) : p ↔ false = false := ⟨fun _ => rfl, fun _ => h⟩
theorem iff_t {p : Prop} (h : ¬ p) : p ↔ true = false := ⟨fun q => absurd q h, fun q => (by cases q)⟩
theorem up1_r {f : HI} {a b k : Nat} {g : Nat → Int32} (h : a ≠ b) : up1 f b g a k = f a k := by rw [up1_f h]
theorem lp_else {f : HI} {W : Nat → Nat → Nat} {w c l fr wr : Nat} {wh : Nat → Int32} {pl tm : Nat → Nat} {wl : Int32} (hL : LaC f W w) (hl : l < 24) (hfr : fr < 10) (hwr : wr ≤ 9000) (hc : f 71 6 = nI c) (hc12 : c ≤ 12) (hm : ∀ i, i < c → f 72 i = wh i ∧ f 73 i = nI (pl i) ∧ f 74 i = nI (tm i) ∧ pl i < 10 ∧ tm i ≤ 9000) (hl0 : f (47 + l) 0 = nI fr) (hl6 : f (47 + l) 6 = wl) (hl7 : f (47 + l) 7 = nI wr) : ∀ (m9 : Nat) (i : Nat) (g : Nat → Int32), (i ≤ c) → (fsN (elB W w wh pl tm wl fr wr) i = none) → c - i < m9 → wq 6 75 (fun v f' => ∃ g, v = some (.int (exI (fsN (elB W w wh pl tm wl fr wr) c))) ∧ f' = up1 f 10 g) 2 [(0, .ref 71), (1, .ref (47 + l)), (2, .int (nI i))] [] (up1 f 10 g) := by
  intro m9
  induction m9 with
  | zero => intro i g hi h9 hn; exact absurd hn (Nat.not_lt_zero _)
  | succ m9 ih =>
    intro i g hi h9 hn
    refine wq_run3 (pc' := 7) (L' := [(0, .ref 71), (1, .ref (47 + l)), (2, .int (nI i))]) (S' := [.int (f 71 6), .int (nI i)]) (f' := (up1 f 10 g)) rfl ?_
    refine wq_v (y := (nI c)) (hc) ?_
    refine wq_if (c := (nI c) ≤ (nI i)) (p1 := 117) (L1 := [(0, .ref 71), (1, .ref (47 + l)), (2, .int (nI i))]) (S1 := []) (p2 := 10) (L2 := [(0, .ref 71), (1, .ref (47 + l)), (2, .int (nI i))]) (S2 := []) rfl (fun c_7 => ?_) (fun c_7 => ?_)
    · have k_7 : c ≤ i := (nI_leI (a := c) (b := i) (by omega) (by omega)).mp c_7
      refine wq_run1 (pc' := 118) (L' := [(0, .ref 71), (1, .ref (47 + l)), (2, .int (nI i))]) (S' := [.int 0]) (f' := (up1 f 10 g)) rfl ?_
      have e : i = c := by omega
      rw [e] at h9
      exact wq_retZ rfl (Or.inl rfl) ⟨g, by rw [h9]; rfl, rfl⟩
    · have k_7 : ¬ c ≤ i := fun q => c_7 ((nI_leI (a := c) (b := i) (by omega) (by omega)).mpr q)
      have hmi := hm i (by omega)
      refine wq_run3 (pc' := 15) (L' := [(0, .ref 71), (1, .ref (47 + l)), (2, .int (nI i))]) (S' := [.int (nI i), .ref 72]) (f' := (up1 f 10 g)) rfl ?_
      refine wq_ald (j := i) (n := 12) (v := (wh i)) rfl rfl rfl rfl (by omega) (Nat.le_of_ble_eq_true rfl) ((hm i (by omega)).1) ?_
      refine wq_run1 (pc' := 17) (L' := [(0, .ref 71), (1, .ref (47 + l)), (2, .int (nI i))]) (S' := [.ref (47 + l), .int (wh i)]) (f' := (up1 f 10 g)) rfl ?_
      refine wq_getI (v := wl) rfl (let_O hl) ((up1_r (show 47 + l ≠ 10 by omega)).trans hl6) ?_
      refine wq_if (c := (wh i) = wl) (p1 := 26) (L1 := [(0, .ref 71), (1, .ref (47 + l)), (2, .int (nI i))]) (S1 := []) (p2 := 23) (L2 := [(0, .ref 71), (1, .ref (47 + l)), (2, .int (nI i))]) (S2 := []) rfl (fun c_20 => ?_) (fun c_20 => ?_)
      · refine wq_run3 (pc' := 31) (L' := [(0, .ref 71), (1, .ref (47 + l)), (2, .int (nI i))]) (S' := [.int (nI i), .ref 74]) (f' := (up1 f 10 g)) rfl ?_
        refine wq_ald (j := i) (n := 12) (v := (nI (tm i))) rfl rfl rfl rfl (by omega) (Nat.le_of_ble_eq_true rfl) ((hm i (by omega)).2.2.1) ?_
        refine wq_run1 (pc' := 33) (L' := [(0, .ref 71), (1, .ref (47 + l)), (2, .int (nI i))]) (S' := [.ref (47 + l), .int (nI (tm i))]) (f' := (up1 f 10 g)) rfl ?_
        refine wq_getI (v := (nI wr)) rfl (let_O hl) ((up1_r (show 47 + l ≠ 10 by omega)).trans hl7) ?_
        refine wq_if (c := (nI wr) < (nI (tm i))) (p1 := 43) (L1 := [(0, .ref 71), (1, .ref (47 + l)), (2, .int (nI i))]) (S1 := []) (p2 := 39) (L2 := [(0, .ref 71), (1, .ref (47 + l)), (2, .int (nI i))]) (S2 := []) rfl (fun c_36 => ?_) (fun c_36 => ?_)
        · have k_36 : wr < (tm i) := (nI_ltI (a := wr) (b := (tm i)) (by omega) (by omega)).mp c_36
          refine wq_run3 (pc' := 46) (L' := [(0, .ref 71), (1, .ref (47 + l)), (2, .int (nI i)), (3, .int 0)]) (S' := [.int 0]) (f' := (up1 f 10 g)) rfl ?_
          refine wq_if (c := 0 = 0) (p1 := 78) (L1 := [(0, .ref 71), (1, .ref (47 + l)), (2, .int (nI i)), (3, .int 0)]) (S1 := []) (p2 := 49) (L2 := [(0, .ref 71), (1, .ref (47 + l)), (2, .int (nI i)), (3, .int 0)]) (S2 := []) rfl (fun _ => ?_) (fun q => absurd rfl q)
          refine wq_run1 (pc' := 79) (L' := [(0, .ref 71), (1, .ref (47 + l)), (2, .int (nI i)), (3, .int 0)]) (S' := [.int 0]) (f' := (up1 f 10 g)) rfl ?_
          refine wq_if (c := 0 = 0) (p1 := 82) (L1 := [(0, .ref 71), (1, .ref (47 + l)), (2, .int (nI i)), (3, .int 0)]) (S1 := []) (p2 := 111) (L2 := [(0, .ref 71), (1, .ref (47 + l)), (2, .int (nI i)), (3, .int 0)]) (S2 := []) rfl (fun _ => ?_) (fun q => absurd rfl q)
          refine wq_run2 (pc' := 84) (L' := [(0, .ref 71), (1, .ref (47 + l)), (2, .int (nI i)), (3, .int 0)]) (S' := [.ref (47 + l), .ref 71]) (f' := (up1 f 10 g)) rfl ?_
          refine wq_getI (v := (nI fr)) rfl (let_O hl) ((up1_r (show 47 + l ≠ 10 by omega)).trans hl0) ?_
          refine wq_run3 (pc' := 92) (L' := [(0, .ref 71), (1, .ref (47 + l)), (2, .int (nI i)), (3, .int 0)]) (S' := [.int (nI i), .ref 73, .int (nI fr), .ref 71]) (f' := (up1 f 10 g)) rfl ?_
          refine wq_ald (j := i) (n := 12) (v := (nI (pl i))) rfl rfl rfl rfl (by omega) (Nat.le_of_ble_eq_true rfl) ((hm i (by omega)).2.1) ?_
          refine wq_run1 (pc' := 94) (L' := [(0, .ref 71), (1, .ref (47 + l)), (2, .int (nI i)), (3, .int 0)]) (S' := [.ref (47 + l), .int (nI (pl i)), .int (nI fr), .ref 71]) (f' := (up1 f 10 g)) rfl ?_
          refine wq_getI (v := (nI wr)) rfl (let_O hl) ((up1_r (show 47 + l ≠ 10 by omega)).trans hl7) ?_
          refine wq_run3 (pc' := 102) (L' := [(0, .ref 71), (1, .ref (47 + l)), (2, .int (nI i)), (3, .int 0)]) (S' := [.int (nI i), .ref 74, .int (nI wr), .int (nI (pl i)), .int (nI fr), .ref 71]) (f' := (up1 f 10 g)) rfl ?_
          refine wq_ald (j := i) (n := 12) (v := (nI (tm i))) rfl rfl rfl rfl (by omega) (Nat.le_of_ble_eq_true rfl) ((hm i (by omega)).2.2.1) ?_
          refine wq_call (sp_isDueBy (f := (up1 f 10 g)) (a := fr) (b := (pl i)) (h := wr) (y := (tm i)) hL (by omega) (by omega) (by omega) (by omega)) (Nat.le_of_ble_eq_true rfl) (pc' := 106) (L' := [(0, .ref 71), (1, .ref (47 + l)), (2, .int (nI i)), (3, .int 0)]) (S' := []) rfl (Nat.le_of_ble_eq_true rfl) rfl rfl (Nat.le_of_ble_eq_true rfl) (Nat.le_of_ble_eq_true rfl) ?_
          rintro v f9 ⟨g2, e0, ef⟩
          subst e0
          subst ef
          refine wq_h (f' := (up1 f 10 g2)) (by rw [show up1 (up1 f 10 g) 10 g2 = _ from up1_up1 f 10 g g2]) ?_
          refine wq_if (c := (b2i (arN W w fr wr (pl i) ≤ (tm i))) = 0) (p1 := 109) (L1 := [(0, .ref 71), (1, .ref (47 + l)), (2, .int (nI i)), (3, .int 0)]) (S1 := []) (p2 := 111) (L2 := [(0, .ref 71), (1, .ref (47 + l)), (2, .int (nI i)), (3, .int 0)]) (S2 := []) rfl (fun c_106 => ?_) (fun c_106 => ?_)
          · have h_106 := b2i_0.mp c_106
            refine wq_run1 (pc' := 110) (L' := [(0, .ref 71), (1, .ref (47 + l)), (2, .int (nI i)), (3, .int 0)]) (S' := [.int 1]) (f' := (up1 f 10 g2)) rfl ?_
            exact wq_retZ rfl (Or.inr rfl) ⟨g2, by rw [fs_at h9 (el_2 c_20 (by omega) (iff_t h_106)) (by omega)]; rfl, rfl⟩
          · have h_106 := b2i_n0.mp c_106
            refine wq_run1 (pc' := 114) (L' := [(0, .ref 71), (1, .ref (47 + l)), (2, .int ((nI i) + 1)), (3, .int 0)]) (S' := []) (f' := (up1 f 10 g2)) rfl ?_
            refine wq_L (L' := [(0, .ref 71), (1, .ref (47 + l)), (2, .int (nI (i + 1))), (3, .int 0)]) (by rw [show nI i + 1 = nI (i + 1) from nI_add _ _]) ?_
            refine wq_run1 (pc' := 2) (L' := [(0, .ref 71), (1, .ref (47 + l)), (2, .int (nI (i + 1)))]) (S' := []) (f' := (up1 f 10 g2)) rfl ?_
            exact ih (i + 1) g2 (by omega) (fs_z h9 (el_2 c_20 (by omega) (iff_f h_106))) (by omega)
        · have k_36 : ¬ wr < (tm i) := fun q => c_36 ((nI_ltI (a := wr) (b := (tm i)) (by omega) (by omega)).mpr q)
          refine wq_run4 (pc' := 46) (L' := [(0, .ref 71), (1, .ref (47 + l)), (2, .int (nI i)), (3, .int 1)]) (S' := [.int 1]) (f' := (up1 f 10 g)) rfl ?_
          refine wq_if (c := 1 = 0) (p1 := 78) (L1 := [(0, .ref 71), (1, .ref (47 + l)), (2, .int (nI i)), (3, .int 1)]) (S1 := []) (p2 := 49) (L2 := [(0, .ref 71), (1, .ref (47 + l)), (2, .int (nI i)), (3, .int 1)]) (S2 := []) rfl (fun q => absurd q (by decide)) (fun _ => ?_)
          refine wq_run4 (pc' := 55) (L' := [(0, .ref 71), (1, .ref (47 + l)), (2, .int (nI i)), (3, .int 1)]) (S' := [.int (nI i), .ref 73, .ref 71]) (f' := (up1 f 10 g)) rfl ?_
          refine wq_ald (j := i) (n := 12) (v := (nI (pl i))) rfl rfl rfl rfl (by omega) (Nat.le_of_ble_eq_true rfl) ((hm i (by omega)).2.1) ?_
          refine wq_run1 (pc' := 57) (L' := [(0, .ref 71), (1, .ref (47 + l)), (2, .int (nI i)), (3, .int 1)]) (S' := [.ref (47 + l), .int (nI (pl i)), .ref 71]) (f' := (up1 f 10 g)) rfl ?_
          refine wq_getI (v := (nI fr)) rfl (let_O hl) ((up1_r (show 47 + l ≠ 10 by omega)).trans hl0) ?_
          refine wq_run3 (pc' := 65) (L' := [(0, .ref 71), (1, .ref (47 + l)), (2, .int (nI i)), (3, .int 1)]) (S' := [.int (nI i), .ref 74, .int (nI fr), .int (nI (pl i)), .ref 71]) (f' := (up1 f 10 g)) rfl ?_
          refine wq_ald (j := i) (n := 12) (v := (nI (tm i))) rfl rfl rfl rfl (by omega) (Nat.le_of_ble_eq_true rfl) ((hm i (by omega)).2.2.1) ?_
          refine wq_run1 (pc' := 67) (L' := [(0, .ref 71), (1, .ref (47 + l)), (2, .int (nI i)), (3, .int 1)]) (S' := [.ref (47 + l), .int (nI (tm i)), .int (nI fr), .int (nI (pl i)), .ref 71]) (f' := (up1 f 10 g)) rfl ?_
          refine wq_getI (v := (nI wr)) rfl (let_O hl) ((up1_r (show 47 + l ≠ 10 by omega)).trans hl7) ?_
          refine wq_call (sp_isDueBy (f := (up1 f 10 g)) (a := (pl i)) (b := fr) (h := (tm i)) (y := wr) hL (by omega) (by omega) (by omega) (by omega)) (Nat.le_of_ble_eq_true rfl) (pc' := 73) (L' := [(0, .ref 71), (1, .ref (47 + l)), (2, .int (nI i)), (3, .int 1)]) (S' := []) rfl (Nat.le_of_ble_eq_true rfl) rfl rfl (Nat.le_of_ble_eq_true rfl) (Nat.le_of_ble_eq_true rfl) ?_
          rintro v f9 ⟨g2, e0, ef⟩
          subst e0
          subst ef
          refine wq_h (f' := (up1 f 10 g2)) (by rw [show up1 (up1 f 10 g) 10 g2 = _ from up1_up1 f 10 g g2]) ?_
          refine wq_if (c := (b2i (arN W w (pl i) (tm i) fr ≤ wr)) = 0) (p1 := 76) (L1 := [(0, .ref 71), (1, .ref (47 + l)), (2, .int (nI i)), (3, .int 1)]) (S1 := []) (p2 := 78) (L2 := [(0, .ref 71), (1, .ref (47 + l)), (2, .int (nI i)), (3, .int 1)]) (S2 := []) rfl (fun c_73 => ?_) (fun c_73 => ?_)
          · have h_73 := b2i_0.mp c_73
            refine wq_run1 (pc' := 77) (L' := [(0, .ref 71), (1, .ref (47 + l)), (2, .int (nI i)), (3, .int 1)]) (S' := [.int 1]) (f' := (up1 f 10 g2)) rfl ?_
            exact wq_retZ rfl (Or.inr rfl) ⟨g2, by rw [fs_at h9 (el_1 c_20 (by omega) (iff_t h_73)) (by omega)]; rfl, rfl⟩
          · have h_73 := b2i_n0.mp c_73
            refine wq_run1 (pc' := 79) (L' := [(0, .ref 71), (1, .ref (47 + l)), (2, .int (nI i)), (3, .int 1)]) (S' := [.int 1]) (f' := (up1 f 10 g2)) rfl ?_
            refine wq_if (c := 1 = 0) (p1 := 82) (L1 := [(0, .ref 71), (1, .ref (47 + l)), (2, .int (nI i)), (3, .int 1)]) (S1 := []) (p2 := 111) (L2 := [(0, .ref 71), (1, .ref (47 + l)), (2, .int (nI i)), (3, .int 1)]) (S2 := []) rfl (fun q => absurd q (by decide)) (fun _ => ?_)
            refine wq_run1 (pc' := 114) (L' := [(0, .ref 71), (1, .ref (47 + l)), (2, .int ((nI i) + 1)), (3, .int 1)]) (S' := []) (f' := (up1 f 10 g2)) rfl ?_
            refine wq_L (L' := [(0, .ref 71), (1, .ref (47 + l)), (2, .int (nI (i + 1))), (3, .int 1)]) (by rw [show nI i + 1 = nI (i + 1) from nI_add _ _]) ?_
            refine wq_run1 (pc' := 2) (L' := [(0, .ref 71), (1, .ref (47 + l)), (2, .int (nI (i + 1)))]) (S' := []) (f' := (up1 f 10 g2)) rfl ?_
            exact ih (i + 1) g2 (by omega) (fs_z h9 (el_1 c_20 (by omega) (iff_f h_73))) (by omega)
      · refine wq_run2 (pc' := 114) (L' := [(0, .ref 71), (1, .ref (47 + l)), (2, .int ((nI i) + 1))]) (S' := []) (f' := (up1 f 10 g)) rfl ?_
        refine wq_L (L' := [(0, .ref 71), (1, .ref (47 + l)), (2, .int (nI (i + 1)))]) (by rw [show nI i + 1 = nI (i + 1) from nI_add _ _]) ?_
        refine wq_run1 (pc' := 2) (L' := [(0, .ref 71), (1, .ref (47 + l)), (2, .int (nI (i + 1)))]) (S' := []) (f' := (up1 f 10 g)) rfl ?_
        exact ih (i + 1) g (by omega) (fs_z h9 (el_n c_20)) (by omega)
theorem sp_isElsewhere {f : HI} {W : Nat → Nat → Nat} {w c l fr wr : Nat} {wh : Nat → Int32} {pl tm : Nat → Nat} {wl : Int32} (hL : LaC f W w) (hl : l < 24) (hfr : fr < 10) (hwr : wr ≤ 9000) (hc : f 71 6 = nI c) (hc12 : c ≤ 12) (hm : ∀ i, i < c → f 72 i = wh i ∧ f 73 i = nI (pl i) ∧ f 74 i = nI (tm i) ∧ pl i < 10 ∧ tm i ≤ 9000) (hl0 : f (47 + l) 0 = nI fr) (hl6 : f (47 + l) 6 = wl) (hl7 : f (47 + l) 7 = nI wr) : Sp 6 75 [.ref 71, .ref (47 + l)] f (fun v f' => ∃ g, v = some (.int (exI (fsN (elB W w wh pl tm wl fr wr) c))) ∧ f' = up1 f 10 g) := by
  show wq 6 75 (fun v f' => ∃ g, v = some (.int (exI (fsN (elB W w wh pl tm wl fr wr) c))) ∧ f' = up1 f 10 g) 0 [(0, .ref 71), (1, .ref (47 + l))] [] f
  refine wq_run2 (pc' := 2) (L' := [(0, .ref 71), (1, .ref (47 + l)), (2, .int 0)]) (S' := []) (f' := f) rfl ?_
  have h9 := lp_else hL hl hfr hwr hc hc12 hm hl0 hl6 hl7 (c - 0 + 1) 0 (f 10) (Nat.zero_le _) rfl (Nat.lt_succ_self _)
  rw [up1_id] at h9
  exact h9
theorem sp_cannot1 (f : HI) {a : Int32} (h1 : ¬ inR a 0 (f 43 6 - 1)) : Sp 3 101 [.ref 0, .int a] f (Ret (-2) f) := by
  show wq 3 101 (Ret (-2) f) 0 [(0, .ref 0), (1, .int a)] [] f
  refine wq_run2 (pc' := 2) (L' := [(0, .ref 0), (1, .int a)]) (S' := [.int a, .ref 0]) (f' := f) rfl ?_
  refine wq_callI (r := (b2i (inR a 0 ((f 43 6) - 1)))) (sp_isLetter f a) (Nat.le_of_ble_eq_true rfl) (pc' := 5) (L' := [(0, .ref 0), (1, .int a)]) (S' := []) rfl (Nat.le_of_ble_eq_true rfl) rfl rfl (Nat.le_of_ble_eq_true rfl) (Nat.le_of_ble_eq_true rfl) ?_
  refine wq_if (c := (b2i (inR a 0 ((f 43 6) - 1))) = 0) (p1 := 8) (L1 := [(0, .ref 0), (1, .int a)]) (S1 := []) (p2 := 11) (L2 := [(0, .ref 0), (1, .int a)]) (S2 := []) rfl (fun _ => ?_) (fun q => absurd (b2i_0.mpr h1) q)
  refine wq_run1 (pc' := 10) (L' := [(0, .ref 0), (1, .int a)]) (S' := [.int (-2)]) (f' := f) rfl ?_
  exact wq_ret rfl ⟨rfl, rfl⟩
theorem mp_cannot1 (f : HI) {a : Int32} (h1 : ¬ inR a 0 (f 92 35 - 1)) : Sp 3 182 [.ref 92, .int a] f (Ret (-2) f) := by
  show wq 3 182 (Ret (-2) f) 0 [(0, .ref 92), (1, .int a)] [] f
  refine wq_run2 (pc' := 2) (L' := [(0, .ref 92), (1, .int a)]) (S' := [.int a, .ref 92]) (f' := f) rfl ?_
  refine wq_callI (r := (b2i (inR a 0 ((f 92 35) - 1)))) (mp_isLetter f a) (Nat.le_of_ble_eq_true rfl) (pc' := 5) (L' := [(0, .ref 92), (1, .int a)]) (S' := []) rfl (Nat.le_of_ble_eq_true rfl) rfl rfl (Nat.le_of_ble_eq_true rfl) (Nat.le_of_ble_eq_true rfl) ?_
  refine wq_if (c := (b2i (inR a 0 ((f 92 35) - 1))) = 0) (p1 := 8) (L1 := [(0, .ref 92), (1, .int a)]) (S1 := []) (p2 := 11) (L2 := [(0, .ref 92), (1, .int a)]) (S2 := []) rfl (fun _ => ?_) (fun q => absurd (b2i_0.mpr h1) q)
  refine wq_run1 (pc' := 10) (L' := [(0, .ref 92), (1, .int a)]) (S' := [.int (-2)]) (f' := f) rfl ?_
  exact wq_ret rfl ⟨rfl, rfl⟩
theorem sp_cannot2 (f : HI) {l : Nat} (hl : l < 24) (hA : inR (nI l) 0 (f 43 6 - 1)) (hk : ¬ f (47 + l) 5 = 2) : Sp 3 101 [.ref 0, .int (nI l)] f (Ret (-4) f) := by
  show wq 3 101 (Ret (-4) f) 0 [(0, .ref 0), (1, .int (nI l))] [] f
  refine wq_run2 (pc' := 2) (L' := [(0, .ref 0), (1, .int (nI l))]) (S' := [.int (nI l), .ref 0]) (f' := f) rfl ?_
  refine wq_callI (r := (b2i (inR (nI l) 0 ((f 43 6) - 1)))) (sp_isLetter f (nI l)) (Nat.le_of_ble_eq_true rfl) (pc' := 5) (L' := [(0, .ref 0), (1, .int (nI l))]) (S' := []) rfl (Nat.le_of_ble_eq_true rfl) rfl rfl (Nat.le_of_ble_eq_true rfl) (Nat.le_of_ble_eq_true rfl) ?_
  refine wq_if (c := (b2i (inR (nI l) 0 ((f 43 6) - 1))) = 0) (p1 := 8) (L1 := [(0, .ref 0), (1, .int (nI l))]) (S1 := []) (p2 := 11) (L2 := [(0, .ref 0), (1, .int (nI l))]) (S2 := []) rfl (fun q => absurd q (b2i_n0.mpr hA)) (fun _ => ?_)
  refine wq_run4 (pc' := 19) (L' := [(0, .ref 0), (1, .int (nI l))]) (S' := [.int (nI l), .ref 44]) (f' := f) rfl ?_
  refine wq_qld (j := l) (n := 24) (b := (47 + l)) rfl rfl rfl rfl hl (Nat.le_of_ble_eq_true rfl) (lets_at hl) ?_
  refine wq_getI (v := (f (47 + l) 5)) rfl (let_O hl) rfl ?_
  refine wq_run1 (pc' := 24) (L' := [(0, .ref 0), (1, .int (nI l))]) (S' := [.int 2, .int (f (47 + l) 5)]) (f' := f) rfl ?_
  refine wq_if (c := (f (47 + l) 5) = 2) (p1 := 30) (L1 := [(0, .ref 0), (1, .int (nI l))]) (S1 := []) (p2 := 27) (L2 := [(0, .ref 0), (1, .int (nI l))]) (S2 := []) rfl (fun q => absurd q hk) (fun _ => ?_)
  refine wq_run1 (pc' := 29) (L' := [(0, .ref 0), (1, .int (nI l))]) (S' := [.int (-4)]) (f' := f) rfl ?_
  exact wq_ret rfl ⟨rfl, rfl⟩
theorem mp_cannot2 (f : HI) {l : Nat} (hl : l < 24) (hA : inR (nI l) 0 (f 92 35 - 1)) (hk : ¬ f 112 l = 2) : Sp 3 182 [.ref 92, .int (nI l)] f (Ret (-4) f) := by
  show wq 3 182 (Ret (-4) f) 0 [(0, .ref 92), (1, .int (nI l))] [] f
  refine wq_run2 (pc' := 2) (L' := [(0, .ref 92), (1, .int (nI l))]) (S' := [.int (nI l), .ref 92]) (f' := f) rfl ?_
  refine wq_callI (r := (b2i (inR (nI l) 0 ((f 92 35) - 1)))) (mp_isLetter f (nI l)) (Nat.le_of_ble_eq_true rfl) (pc' := 5) (L' := [(0, .ref 92), (1, .int (nI l))]) (S' := []) rfl (Nat.le_of_ble_eq_true rfl) rfl rfl (Nat.le_of_ble_eq_true rfl) (Nat.le_of_ble_eq_true rfl) ?_
  refine wq_if (c := (b2i (inR (nI l) 0 ((f 92 35) - 1))) = 0) (p1 := 8) (L1 := [(0, .ref 92), (1, .int (nI l))]) (S1 := []) (p2 := 11) (L2 := [(0, .ref 92), (1, .int (nI l))]) (S2 := []) rfl (fun q => absurd q (b2i_n0.mpr hA)) (fun _ => ?_)
  refine wq_run3 (pc' := 16) (L' := [(0, .ref 92), (1, .int (nI l))]) (S' := [.int (nI l), .ref 112]) (f' := f) rfl ?_
  refine wq_ald (j := l) (n := 24) (v := (f 112 l)) rfl rfl rfl rfl hl (Nat.le_of_ble_eq_true rfl) rfl ?_
  refine wq_run1 (pc' := 18) (L' := [(0, .ref 92), (1, .int (nI l))]) (S' := [.int 2, .int (f 112 l)]) (f' := f) rfl ?_
  refine wq_if (c := (f 112 l) = 2) (p1 := 24) (L1 := [(0, .ref 92), (1, .int (nI l))]) (S1 := []) (p2 := 21) (L2 := [(0, .ref 92), (1, .int (nI l))]) (S2 := []) rfl (fun q => absurd q hk) (fun _ => ?_)
  refine wq_run1 (pc' := 23) (L' := [(0, .ref 92), (1, .int (nI l))]) (S' := [.int (-4)]) (f' := f) rfl ?_
  exact wq_ret rfl ⟨rfl, rfl⟩
theorem exI_0 {o : Option Nat} (h : exI o = 0) : (0 : Int32) = exI o := h.symm
theorem exI_1 {o : Option Nat} (h : ¬ exI o = 0) : (1 : Int32) = exI o := by
  cases o with
  | none => exact absurd rfl h
  | some a => rfl
theorem sp_cannot3 {f : HI} {W : Nat → Nat → Nat} {w c l fr wr : Nat} {wh : Nat → Int32} {pl tm : Nat → Nat} {wl : Int32} (hL : LaC f W w) (hl : l < 24) (hfr : fr < 10) (hwr : wr ≤ 9000) (hc : f 71 6 = nI c) (hc12 : c ≤ 12) (hm : ∀ i, i < c → f 72 i = wh i ∧ f 73 i = nI (pl i) ∧ f 74 i = nI (tm i) ∧ pl i < 10 ∧ tm i ≤ 9000) (hl0 : f (47 + l) 0 = nI fr) (hl6 : f (47 + l) 6 = wl) (hl7 : f (47 + l) 7 = nI wr) (hA : inR (nI l) 0 (f 43 6 - 1)) (hk : f (47 + l) 5 = 2) : Sp 7 101 [.ref 0, .int (nI l)] f (fun v f' => ∃ g, v = some (.int (exI (fsN (elB W w wh pl tm wl fr wr) c))) ∧ f' = up1 f 10 g) := by
  show wq 7 101 (fun v f' => ∃ g, v = some (.int (exI (fsN (elB W w wh pl tm wl fr wr) c))) ∧ f' = up1 f 10 g) 0 [(0, .ref 0), (1, .int (nI l))] [] f
  refine wq_run2 (pc' := 2) (L' := [(0, .ref 0), (1, .int (nI l))]) (S' := [.int (nI l), .ref 0]) (f' := f) rfl ?_
  refine wq_callI (r := (b2i (inR (nI l) 0 ((f 43 6) - 1)))) (sp_isLetter f (nI l)) (Nat.le_of_ble_eq_true rfl) (pc' := 5) (L' := [(0, .ref 0), (1, .int (nI l))]) (S' := []) rfl (Nat.le_of_ble_eq_true rfl) rfl rfl (Nat.le_of_ble_eq_true rfl) (Nat.le_of_ble_eq_true rfl) ?_
  refine wq_if (c := (b2i (inR (nI l) 0 ((f 43 6) - 1))) = 0) (p1 := 8) (L1 := [(0, .ref 0), (1, .int (nI l))]) (S1 := []) (p2 := 11) (L2 := [(0, .ref 0), (1, .int (nI l))]) (S2 := []) rfl (fun q => absurd q (b2i_n0.mpr hA)) (fun _ => ?_)
  refine wq_run4 (pc' := 19) (L' := [(0, .ref 0), (1, .int (nI l))]) (S' := [.int (nI l), .ref 44]) (f' := f) rfl ?_
  refine wq_qld (j := l) (n := 24) (b := (47 + l)) rfl rfl rfl rfl hl (Nat.le_of_ble_eq_true rfl) (lets_at hl) ?_
  refine wq_getI (v := (f (47 + l) 5)) rfl (let_O hl) rfl ?_
  refine wq_run1 (pc' := 24) (L' := [(0, .ref 0), (1, .int (nI l))]) (S' := [.int 2, .int (f (47 + l) 5)]) (f' := f) rfl ?_
  refine wq_if (c := (f (47 + l) 5) = 2) (p1 := 30) (L1 := [(0, .ref 0), (1, .int (nI l))]) (S1 := []) (p2 := 27) (L2 := [(0, .ref 0), (1, .int (nI l))]) (S2 := []) rfl (fun _ => ?_) (fun q => absurd hk q)
  refine wq_run6 (pc' := 42) (L' := [(0, .ref 0), (1, .int (nI l))]) (S' := [.int (nI l), .ref 44, .ref 71]) (f' := f) rfl ?_
  refine wq_qld (j := l) (n := 24) (b := (47 + l)) rfl rfl rfl rfl hl (Nat.le_of_ble_eq_true rfl) (lets_at hl) ?_
  refine wq_call (sp_isElsewhere hL hl hfr hwr hc hc12 hm hl0 hl6 hl7) (Nat.le_of_ble_eq_true rfl) (pc' := 46) (L' := [(0, .ref 0), (1, .int (nI l))]) (S' := []) rfl (Nat.le_of_ble_eq_true rfl) rfl rfl (Nat.le_of_ble_eq_true rfl) (Nat.le_of_ble_eq_true rfl) ?_
  rintro v f9 ⟨g, e0, ef⟩
  subst e0
  subst ef
  refine wq_if (c := (exI (fsN (elB W w wh pl tm wl fr wr) c)) = 0) (p1 := 53) (L1 := [(0, .ref 0), (1, .int (nI l))]) (S1 := []) (p2 := 49) (L2 := [(0, .ref 0), (1, .int (nI l))]) (S2 := []) rfl (fun c_46 => ?_) (fun c_46 => ?_)
  · refine wq_run1 (pc' := 54) (L' := [(0, .ref 0), (1, .int (nI l))]) (S' := [.int 0]) (f' := (up1 f 10 g)) rfl ?_
    exact wq_ret rfl ⟨g, by rw [← exI_0 c_46], rfl⟩
  · refine wq_run2 (pc' := 54) (L' := [(0, .ref 0), (1, .int (nI l))]) (S' := [.int 1]) (f' := (up1 f 10 g)) rfl ?_
    exact wq_ret rfl ⟨g, by rw [← exI_1 c_46], rfl⟩
theorem mlp_cannot {f : HI} {W : Nat → Nat → Nat} {w c l fr wr : Nat} {wh : Nat → Int32} {pl tm : Nat → Nat} {wl : Int32} (hM : LaM f W w) (hl : l < 24) (hfr : fr < 10) (hwr : wr ≤ 9000) (hc : f 92 52 = nI c) (hc12 : c ≤ 12) (hm : ∀ i, i < c → f 126 i = wh i ∧ f 127 i = nI (pl i) ∧ f 128 i = nI (tm i) ∧ pl i < 10 ∧ tm i ≤ 9000) (hl0 : f 107 l = nI fr) (hl6 : f 113 l = wl) (hl7 : f 114 l = nI wr) : ∀ (m9 : Nat) (i : Nat) (g : Nat → Int32), (i ≤ c) → (fsN (elB W w wh pl tm wl fr wr) i = none) → c - i < m9 → wq 5 182 (fun v f' => ∃ g, v = some (.int (exI (fsN (elB W w wh pl tm wl fr wr) c))) ∧ f' = up1 f 136 g) 26 [(0, .ref 92), (1, .int (nI l)), (2, .int (nI i))] [] (up1 f 136 g) := by
  intro m9
  induction m9 with
  | zero => intro i g hi h9 hn; exact absurd hn (Nat.not_lt_zero _)
  | succ m9 ih =>
    intro i g hi h9 hn
    refine wq_run3 (pc' := 31) (L' := [(0, .ref 92), (1, .int (nI l)), (2, .int (nI i))]) (S' := [.int (f 92 52), .int (nI i)]) (f' := (up1 f 136 g)) rfl ?_
    refine wq_v (y := (nI c)) (hc) ?_
    refine wq_if (c := (nI c) ≤ (nI i)) (p1 := 136) (L1 := [(0, .ref 92), (1, .int (nI l)), (2, .int (nI i))]) (S1 := []) (p2 := 34) (L2 := [(0, .ref 92), (1, .int (nI l)), (2, .int (nI i))]) (S2 := []) rfl (fun c_31 => ?_) (fun c_31 => ?_)
    · have k_31 : c ≤ i := (nI_leI (a := c) (b := i) (by omega) (by omega)).mp c_31
      refine wq_run1 (pc' := 137) (L' := [(0, .ref 92), (1, .int (nI l)), (2, .int (nI i))]) (S' := [.int 0]) (f' := (up1 f 136 g)) rfl ?_
      have e : i = c := by omega
      rw [e] at h9
      exact wq_ret rfl ⟨g, by rw [h9]; rfl, rfl⟩
    · have k_31 : ¬ c ≤ i := fun q => c_31 ((nI_leI (a := c) (b := i) (by omega) (by omega)).mpr q)
      have hmi := hm i (by omega)
      refine wq_run3 (pc' := 39) (L' := [(0, .ref 92), (1, .int (nI l)), (2, .int (nI i))]) (S' := [.int (nI i), .ref 126]) (f' := (up1 f 136 g)) rfl ?_
      refine wq_ald (j := i) (n := 12) (v := (wh i)) rfl rfl rfl rfl (by omega) (Nat.le_of_ble_eq_true rfl) ((hm i (by omega)).1) ?_
      refine wq_run3 (pc' := 45) (L' := [(0, .ref 92), (1, .int (nI l)), (2, .int (nI i))]) (S' := [.int (nI l), .ref 113, .int (wh i)]) (f' := (up1 f 136 g)) rfl ?_
      refine wq_ald (j := l) (n := 24) (v := wl) rfl rfl rfl rfl (by omega) (Nat.le_of_ble_eq_true rfl) hl6 ?_
      refine wq_if (c := (wh i) = wl) (p1 := 49) (L1 := [(0, .ref 92), (1, .int (nI l)), (2, .int (nI i))]) (S1 := []) (p2 := 130) (L2 := [(0, .ref 92), (1, .int (nI l)), (2, .int (nI i))]) (S2 := []) rfl (fun c_46 => ?_) (fun c_46 => ?_)
      · refine wq_run3 (pc' := 54) (L' := [(0, .ref 92), (1, .int (nI l)), (2, .int (nI i))]) (S' := [.int (nI i), .ref 128]) (f' := (up1 f 136 g)) rfl ?_
        refine wq_ald (j := i) (n := 12) (v := (nI (tm i))) rfl rfl rfl rfl (by omega) (Nat.le_of_ble_eq_true rfl) ((hm i (by omega)).2.2.1) ?_
        refine wq_run3 (pc' := 60) (L' := [(0, .ref 92), (1, .int (nI l)), (2, .int (nI i))]) (S' := [.int (nI l), .ref 114, .int (nI (tm i))]) (f' := (up1 f 136 g)) rfl ?_
        refine wq_ald (j := l) (n := 24) (v := (nI wr)) rfl rfl rfl rfl (by omega) (Nat.le_of_ble_eq_true rfl) hl7 ?_
        refine wq_if (c := (nI wr) < (nI (tm i))) (p1 := 95) (L1 := [(0, .ref 92), (1, .int (nI l)), (2, .int (nI i))]) (S1 := []) (p2 := 64) (L2 := [(0, .ref 92), (1, .int (nI l)), (2, .int (nI i))]) (S2 := []) rfl (fun c_61 => ?_) (fun c_61 => ?_)
        · have k_61 : wr < (tm i) := (nI_ltI (a := wr) (b := (tm i)) (by omega) (by omega)).mp c_61
          refine wq_run4 (pc' := 101) (L' := [(0, .ref 92), (1, .int (nI l)), (2, .int (nI i))]) (S' := [.int (nI l), .ref 107, .ref 92]) (f' := (up1 f 136 g)) rfl ?_
          refine wq_ald (j := l) (n := 24) (v := (nI fr)) rfl rfl rfl rfl (by omega) (Nat.le_of_ble_eq_true rfl) hl0 ?_
          refine wq_run3 (pc' := 107) (L' := [(0, .ref 92), (1, .int (nI l)), (2, .int (nI i))]) (S' := [.int (nI l), .ref 114, .int (nI fr), .ref 92]) (f' := (up1 f 136 g)) rfl ?_
          refine wq_ald (j := l) (n := 24) (v := (nI wr)) rfl rfl rfl rfl (by omega) (Nat.le_of_ble_eq_true rfl) hl7 ?_
          refine wq_run3 (pc' := 113) (L' := [(0, .ref 92), (1, .int (nI l)), (2, .int (nI i))]) (S' := [.int (nI i), .ref 127, .int (nI wr), .int (nI fr), .ref 92]) (f' := (up1 f 136 g)) rfl ?_
          refine wq_ald (j := i) (n := 12) (v := (nI (pl i))) rfl rfl rfl rfl (by omega) (Nat.le_of_ble_eq_true rfl) ((hm i (by omega)).2.1) ?_
          refine wq_run3 (pc' := 119) (L' := [(0, .ref 92), (1, .int (nI l)), (2, .int (nI i))]) (S' := [.int (nI i), .ref 128, .int (nI (pl i)), .int (nI wr), .int (nI fr), .ref 92]) (f' := (up1 f 136 g)) rfl ?_
          refine wq_ald (j := i) (n := 12) (v := (nI (tm i))) rfl rfl rfl rfl (by omega) (Nat.le_of_ble_eq_true rfl) ((hm i (by omega)).2.2.1) ?_
          refine wq_call (mp_can (f := (up1 f 136 g)) (a := fr) (b := (pl i)) (h := wr) (y := (tm i)) hM (by omega) (by omega) (by omega) (by omega)) (Nat.le_of_ble_eq_true rfl) (pc' := 123) (L' := [(0, .ref 92), (1, .int (nI l)), (2, .int (nI i))]) (S' := []) rfl (Nat.le_of_ble_eq_true rfl) rfl rfl (Nat.le_of_ble_eq_true rfl) (Nat.le_of_ble_eq_true rfl) ?_
          rintro v f9 ⟨g2, e0, ef⟩
          subst e0
          subst ef
          refine wq_h (f' := (up1 f 136 g2)) (by rw [show up1 (up1 f 136 g) 136 g2 = _ from up1_up1 f 136 g g2]) ?_
          refine wq_run2 (pc' := 125) (L' := [(0, .ref 92), (1, .int (nI l)), (2, .int (nI i)), (3, .int (b2i (arN W w fr wr (pl i) ≤ (tm i))))]) (S' := [.int (b2i (arN W w fr wr (pl i) ≤ (tm i)))]) (f' := (up1 f 136 g2)) rfl ?_
          refine wq_if (c := (b2i (arN W w fr wr (pl i) ≤ (tm i))) = 0) (p1 := 128) (L1 := [(0, .ref 92), (1, .int (nI l)), (2, .int (nI i)), (3, .int (b2i (arN W w fr wr (pl i) ≤ (tm i))))]) (S1 := []) (p2 := 130) (L2 := [(0, .ref 92), (1, .int (nI l)), (2, .int (nI i)), (3, .int (b2i (arN W w fr wr (pl i) ≤ (tm i))))]) (S2 := []) rfl (fun c_125 => ?_) (fun c_125 => ?_)
          · have h_125 := b2i_0.mp c_125
            refine wq_run1 (pc' := 129) (L' := [(0, .ref 92), (1, .int (nI l)), (2, .int (nI i)), (3, .int (b2i (arN W w fr wr (pl i) ≤ (tm i))))]) (S' := [.int 1]) (f' := (up1 f 136 g2)) rfl ?_
            exact wq_ret rfl ⟨g2, by rw [fs_at h9 (el_2 c_46 (by omega) (iff_t h_125)) (by omega)]; rfl, rfl⟩
          · have h_125 := b2i_n0.mp c_125
            refine wq_run1 (pc' := 133) (L' := [(0, .ref 92), (1, .int (nI l)), (2, .int ((nI i) + 1)), (3, .int (b2i (arN W w fr wr (pl i) ≤ (tm i))))]) (S' := []) (f' := (up1 f 136 g2)) rfl ?_
            refine wq_L (L' := [(0, .ref 92), (1, .int (nI l)), (2, .int (nI (i + 1))), (3, .int (b2i (arN W w fr wr (pl i) ≤ (tm i))))]) (by rw [show nI i + 1 = nI (i + 1) from nI_add _ _]) ?_
            refine wq_run1 (pc' := 26) (L' := [(0, .ref 92), (1, .int (nI l)), (2, .int (nI (i + 1)))]) (S' := []) (f' := (up1 f 136 g2)) rfl ?_
            exact ih (i + 1) g2 (by omega) (fs_z h9 (el_2 c_46 (by omega) (iff_f h_125))) (by omega)
        · have k_61 : ¬ wr < (tm i) := fun q => c_61 ((nI_ltI (a := wr) (b := (tm i)) (by omega) (by omega)).mpr q)
          refine wq_run4 (pc' := 70) (L' := [(0, .ref 92), (1, .int (nI l)), (2, .int (nI i))]) (S' := [.int (nI i), .ref 127, .ref 92]) (f' := (up1 f 136 g)) rfl ?_
          refine wq_ald (j := i) (n := 12) (v := (nI (pl i))) rfl rfl rfl rfl (by omega) (Nat.le_of_ble_eq_true rfl) ((hm i (by omega)).2.1) ?_
          refine wq_run3 (pc' := 76) (L' := [(0, .ref 92), (1, .int (nI l)), (2, .int (nI i))]) (S' := [.int (nI i), .ref 128, .int (nI (pl i)), .ref 92]) (f' := (up1 f 136 g)) rfl ?_
          refine wq_ald (j := i) (n := 12) (v := (nI (tm i))) rfl rfl rfl rfl (by omega) (Nat.le_of_ble_eq_true rfl) ((hm i (by omega)).2.2.1) ?_
          refine wq_run3 (pc' := 82) (L' := [(0, .ref 92), (1, .int (nI l)), (2, .int (nI i))]) (S' := [.int (nI l), .ref 107, .int (nI (tm i)), .int (nI (pl i)), .ref 92]) (f' := (up1 f 136 g)) rfl ?_
          refine wq_ald (j := l) (n := 24) (v := (nI fr)) rfl rfl rfl rfl (by omega) (Nat.le_of_ble_eq_true rfl) hl0 ?_
          refine wq_run3 (pc' := 88) (L' := [(0, .ref 92), (1, .int (nI l)), (2, .int (nI i))]) (S' := [.int (nI l), .ref 114, .int (nI fr), .int (nI (tm i)), .int (nI (pl i)), .ref 92]) (f' := (up1 f 136 g)) rfl ?_
          refine wq_ald (j := l) (n := 24) (v := (nI wr)) rfl rfl rfl rfl (by omega) (Nat.le_of_ble_eq_true rfl) hl7 ?_
          refine wq_call (mp_can (f := (up1 f 136 g)) (a := (pl i)) (b := fr) (h := (tm i)) (y := wr) hM (by omega) (by omega) (by omega) (by omega)) (Nat.le_of_ble_eq_true rfl) (pc' := 92) (L' := [(0, .ref 92), (1, .int (nI l)), (2, .int (nI i))]) (S' := []) rfl (Nat.le_of_ble_eq_true rfl) rfl rfl (Nat.le_of_ble_eq_true rfl) (Nat.le_of_ble_eq_true rfl) ?_
          rintro v f9 ⟨g2, e0, ef⟩
          subst e0
          subst ef
          refine wq_h (f' := (up1 f 136 g2)) (by rw [show up1 (up1 f 136 g) 136 g2 = _ from up1_up1 f 136 g g2]) ?_
          refine wq_run3 (pc' := 125) (L' := [(0, .ref 92), (1, .int (nI l)), (2, .int (nI i)), (3, .int (b2i (arN W w (pl i) (tm i) fr ≤ wr)))]) (S' := [.int (b2i (arN W w (pl i) (tm i) fr ≤ wr))]) (f' := (up1 f 136 g2)) rfl ?_
          refine wq_if (c := (b2i (arN W w (pl i) (tm i) fr ≤ wr)) = 0) (p1 := 128) (L1 := [(0, .ref 92), (1, .int (nI l)), (2, .int (nI i)), (3, .int (b2i (arN W w (pl i) (tm i) fr ≤ wr)))]) (S1 := []) (p2 := 130) (L2 := [(0, .ref 92), (1, .int (nI l)), (2, .int (nI i)), (3, .int (b2i (arN W w (pl i) (tm i) fr ≤ wr)))]) (S2 := []) rfl (fun c_125 => ?_) (fun c_125 => ?_)
          · have h_125 := b2i_0.mp c_125
            refine wq_run1 (pc' := 129) (L' := [(0, .ref 92), (1, .int (nI l)), (2, .int (nI i)), (3, .int (b2i (arN W w (pl i) (tm i) fr ≤ wr)))]) (S' := [.int 1]) (f' := (up1 f 136 g2)) rfl ?_
            exact wq_ret rfl ⟨g2, by rw [fs_at h9 (el_1 c_46 (by omega) (iff_t h_125)) (by omega)]; rfl, rfl⟩
          · have h_125 := b2i_n0.mp c_125
            refine wq_run1 (pc' := 133) (L' := [(0, .ref 92), (1, .int (nI l)), (2, .int ((nI i) + 1)), (3, .int (b2i (arN W w (pl i) (tm i) fr ≤ wr)))]) (S' := []) (f' := (up1 f 136 g2)) rfl ?_
            refine wq_L (L' := [(0, .ref 92), (1, .int (nI l)), (2, .int (nI (i + 1))), (3, .int (b2i (arN W w (pl i) (tm i) fr ≤ wr)))]) (by rw [show nI i + 1 = nI (i + 1) from nI_add _ _]) ?_
            refine wq_run1 (pc' := 26) (L' := [(0, .ref 92), (1, .int (nI l)), (2, .int (nI (i + 1)))]) (S' := []) (f' := (up1 f 136 g2)) rfl ?_
            exact ih (i + 1) g2 (by omega) (fs_z h9 (el_1 c_46 (by omega) (iff_f h_125))) (by omega)
      · refine wq_run1 (pc' := 133) (L' := [(0, .ref 92), (1, .int (nI l)), (2, .int ((nI i) + 1))]) (S' := []) (f' := (up1 f 136 g)) rfl ?_
        refine wq_L (L' := [(0, .ref 92), (1, .int (nI l)), (2, .int (nI (i + 1)))]) (by rw [show nI i + 1 = nI (i + 1) from nI_add _ _]) ?_
        refine wq_run1 (pc' := 26) (L' := [(0, .ref 92), (1, .int (nI l)), (2, .int (nI (i + 1)))]) (S' := []) (f' := (up1 f 136 g)) rfl ?_
        exact ih (i + 1) g (by omega) (fs_z h9 (el_n c_46)) (by omega)
theorem mp_cannot3 {f : HI} {W : Nat → Nat → Nat} {w c l fr wr : Nat} {wh : Nat → Int32} {pl tm : Nat → Nat} {wl : Int32} (hM : LaM f W w) (hl : l < 24) (hfr : fr < 10) (hwr : wr ≤ 9000) (hc : f 92 52 = nI c) (hc12 : c ≤ 12) (hm : ∀ i, i < c → f 126 i = wh i ∧ f 127 i = nI (pl i) ∧ f 128 i = nI (tm i) ∧ pl i < 10 ∧ tm i ≤ 9000) (hl0 : f 107 l = nI fr) (hl6 : f 113 l = wl) (hl7 : f 114 l = nI wr) (hA : inR (nI l) 0 (f 92 35 - 1)) (hk : f 112 l = 2) : Sp 5 182 [.ref 92, .int (nI l)] f (fun v f' => ∃ g, v = some (.int (exI (fsN (elB W w wh pl tm wl fr wr) c))) ∧ f' = up1 f 136 g) := by
  show wq 5 182 (fun v f' => ∃ g, v = some (.int (exI (fsN (elB W w wh pl tm wl fr wr) c))) ∧ f' = up1 f 136 g) 0 [(0, .ref 92), (1, .int (nI l))] [] f
  refine wq_run2 (pc' := 2) (L' := [(0, .ref 92), (1, .int (nI l))]) (S' := [.int (nI l), .ref 92]) (f' := f) rfl ?_
  refine wq_callI (r := (b2i (inR (nI l) 0 ((f 92 35) - 1)))) (mp_isLetter f (nI l)) (Nat.le_of_ble_eq_true rfl) (pc' := 5) (L' := [(0, .ref 92), (1, .int (nI l))]) (S' := []) rfl (Nat.le_of_ble_eq_true rfl) rfl rfl (Nat.le_of_ble_eq_true rfl) (Nat.le_of_ble_eq_true rfl) ?_
  refine wq_if (c := (b2i (inR (nI l) 0 ((f 92 35) - 1))) = 0) (p1 := 8) (L1 := [(0, .ref 92), (1, .int (nI l))]) (S1 := []) (p2 := 11) (L2 := [(0, .ref 92), (1, .int (nI l))]) (S2 := []) rfl (fun q => absurd q (b2i_n0.mpr hA)) (fun _ => ?_)
  refine wq_run3 (pc' := 16) (L' := [(0, .ref 92), (1, .int (nI l))]) (S' := [.int (nI l), .ref 112]) (f' := f) rfl ?_
  refine wq_ald (j := l) (n := 24) (v := (f 112 l)) rfl rfl rfl rfl hl (Nat.le_of_ble_eq_true rfl) rfl ?_
  refine wq_run1 (pc' := 18) (L' := [(0, .ref 92), (1, .int (nI l))]) (S' := [.int 2, .int (f 112 l)]) (f' := f) rfl ?_
  refine wq_if (c := (f 112 l) = 2) (p1 := 24) (L1 := [(0, .ref 92), (1, .int (nI l))]) (S1 := []) (p2 := 21) (L2 := [(0, .ref 92), (1, .int (nI l))]) (S2 := []) rfl (fun _ => ?_) (fun q => absurd hk q)
  refine wq_run2 (pc' := 26) (L' := [(0, .ref 92), (1, .int (nI l)), (2, .int 0)]) (S' := []) (f' := f) rfl ?_
  have h9 := mlp_cannot hM hl hfr hwr hc hc12 hm hl0 hl6 hl7 (c - 0 + 1) 0 (f 136) (Nat.zero_le _) rfl (Nat.lt_succ_self _)
  rw [up1_id] at h9
  exact h9
