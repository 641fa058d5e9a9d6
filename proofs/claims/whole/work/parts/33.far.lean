/-! how far, of the reference -/
/-- lengths that the ways give, and no longer ones -/
def TgN (W : Nat → Nat → Nat) (w : Nat) (D : Nat → Nat → Nat) : Prop := (∀ i, i < w → D (W 0 i) (W 1 i) ≤ W 5 i) ∧ ∀ r : Nat → Nat, (∀ i, i < w → r (W 0 i) ≤ r (W 1 i) + W 5 i ∧ r (W 1 i) ≤ r (W 0 i) + W 5 i) → ∀ p q, p < 10 → q < 10 → D p q < 100000000 → r q ≤ r p + D p q
abbrev LaI (f : HI) (W : Nat → Nat → Nat) (w : Nat) (D : Nat → Nat → Nat) : Prop := (∀ i, i < w → f 95 i = nI (W 5 i) ∧ 1 ≤ W 5 i ∧ W 5 i ≤ 200) ∧ Mt 10 100000000 200 D ∧ TgN W w D
/-- no less than the lengths from a -/
def LoN (D : Nat → Nat → Nat) (a : Nat) (r : Nat → Nat) : Prop := ∀ t, t < 10 → r t = 268435456 ∨ (r t < 268435456 ∧ D a t < 100000000 ∧ D a t ≤ r t)
theorem lo_s {W : Nat → Nat → Nat} {w : Nat} {D : Nat → Nat → Nat} {a p q m : Nat} {r : Nat → Nat} (hD : Mt 10 100000000 200 D) (ha : a < 10) (hp : p < 10) (hq : q < 10) (hm : D p q ≤ m) (hm2 : m ≤ 200) (hr : LoN D a r) (hlt : r p + m < r q) : LoN D a (updN r q (r p + m)) := by
  intro t ht
  unfold updN
  by_cases c : t = q
  · rw [if_pos c, c]
    right
    have h1 := hr p hp
    have h2 := hr q hq
    have h3 := hD.2.2.1 a p q ha hp hq
    have h4 := mt_b hD ha hp (by omega)
    omega
  · rw [if_neg c]; exact hr t ht
theorem up_le {r : Nat → Nat} {q v : Nat} (h : v < r q) (t : Nat) : updN r q v t ≤ r t := by
  unfold updN
  split
  · rename_i e; rw [e]; omega
  · exact Nat.le_refl _
theorem up_sum {r : Nat → Nat} {q v : Nat} (hq : q < 10) (h : v < r q) : sumN (updN r q v) 10 < sumN r 10 := sum_lt (q := q) 10 hq (fun t _ => up_le h t) (by show (if q = q then v else r q) < r q; rw [if_pos rfl]; exact h)
theorem up_row {r : Nat → Nat} {g : Nat → Int32} {q v : Nat} (hg : ∀ t, t < 10 → g t = nI (r t)) : ∀ t, t < 10 → upd g q (nI v) t = nI (updN r q v t) := by
  intro t ht
  unfold upd updN
  by_cases c : t = q
  · rw [if_pos c, if_pos c]
  · rw [if_neg c, if_neg c]; exact hg t ht
theorem far_end {W : Nat → Nat → Nat} {w : Nat} {D : Nat → Nat → Nat} {a b : Nat} {r : Nat → Nat} (ha : a < 10) (hb : b < 10) (hT : TgN W w D) (h0 : r a = 0) (hr : LoN D a r) (hc : ∀ i, i < w → r (W 0 i) ≤ r (W 1 i) + W 5 i ∧ r (W 1 i) ≤ r (W 0 i) + W 5 i) (hk : D a b ≤ 100000000) : (268435456 ≤ r b ∧ D a b = 100000000) ∨ (r b < 268435456 ∧ r b = D a b ∧ D a b < 100000000) := by
  have h1 := hr b hb
  rcases Nat.lt_or_ge (D a b) 100000000 with c | c
  · have h2 := hT.2 r hc a b ha hb c
    omega
  · omega
theorem mlp_farIn {f : HI} {W : Nat → Nat → Nat} {w : Nat} {D : Nat → Nat → Nat} {a b : Nat} (hM : LaM f W w) (hI : LaI f W w D) (ha : a < 10) (hb : b < 10) {S0 : Nat} (K : ∀ (g : Nat → Int32) (r : Nat → Nat) (mo : Int32), (∀ t, t < 10 → g t = nI (r t)) → r a = 0 → LoN D a r → (mo = 0 → ∀ i, i < w → r (W 0 i) ≤ r (W 1 i) + W 5 i ∧ r (W 1 i) ≤ r (W 0 i) + W 5 i) → sumN r 10 ≤ S0 → (¬ mo = 0 → sumN r 10 < S0) → wq 2 135 (fun v f' => ∃ g, v = some (.int (dJ (D a b))) ∧ f' = up1 f 136 g) 33 [(0, .ref 92), (2, .int (nI b)), (3, .int mo)] [] (up1 f 136 g)) : ∀ (m9 : Nat) (i : Nat) (g : Nat → Int32) (r : Nat → Nat) (mo : Int32), (i ≤ w) → (∀ t, t < 10 → g t = nI (r t)) → (r a = 0) → (LoN D a r) → (mo = 0 → ∀ j, j < i → r (W 0 j) ≤ r (W 1 j) + W 5 j ∧ r (W 1 j) ≤ r (W 0 j) + W 5 j) → (sumN r 10 ≤ S0) → (¬ mo = 0 → sumN r 10 < S0) → w - i < m9 → wq 2 135 (fun v f' => ∃ g, v = some (.int (dJ (D a b))) ∧ f' = up1 f 136 g) 42 [(0, .ref 92), (2, .int (nI b)), (3, .int mo), (4, .int (nI i))] [] (up1 f 136 g) := by
  intro m9
  induction m9 with
  | zero => intro i g r mo hi hg h0 hr hc hS hS2 hn; exact absurd hn (Nat.not_lt_zero _)
  | succ m9 ih =>
    intro i g r mo hi hg h0 hr hc hS hS2 hn
    have hw16 := hM.2.1
    refine wq_run3 (pc' := 48) (L' := [(0, .ref 92), (2, .int (nI b)), (3, .int mo), (4, .int (nI i))]) (S' := [.int (f 92 7), .int (nI i)]) (f' := (up1 f 136 g)) rfl ?_
    refine wq_v (y := (nI w)) (hM.1) ?_
    refine wq_if (c := (nI w) ≤ (nI i)) (p1 := 167) (L1 := [(0, .ref 92), (2, .int (nI b)), (3, .int mo), (4, .int (nI i))]) (S1 := []) (p2 := 51) (L2 := [(0, .ref 92), (2, .int (nI b)), (3, .int mo), (4, .int (nI i))]) (S2 := []) rfl (fun c_48 => ?_) (fun c_48 => ?_)
    · have k_48 : w ≤ i := (nI_leI (a := w) (b := i) (by omega) (by omega)).mp c_48
      refine wq_run1 (pc' := 33) (L' := [(0, .ref 92), (2, .int (nI b)), (3, .int mo)]) (S' := []) (f' := (up1 f 136 g)) rfl ?_
      have e : i = w := by omega
      rw [e] at hc
      exact K g r mo hg h0 hr hc hS hS2
    · have k_48 : ¬ w ≤ i := fun q => c_48 ((nI_leI (a := w) (b := i) (by omega) (by omega)).mpr q)
      have hb_ := hM.2.2.2 i (by omega)
      have hm_ := hI.1 i (by omega)
      have hDe := hI.2.2.1 i (by omega)
      have hDe2 := hI.2.1.1 (W 0 i) (W 1 i) (by omega) (by omega)
      have hrA := hr (W 0 i) (by omega)
      have hrB := hr (W 1 i) (by omega)
      refine wq_run5 (pc' := 61) (L' := [(0, .ref 92), (2, .int (nI b)), (3, .int mo), (4, .int (nI i))]) (S' := [.int (nI i), .ref 93, .ref 136]) (f' := (up1 f 136 g)) rfl ?_
      refine wq_ald (j := i) (n := 16) (v := (nI (W 0 i))) rfl rfl rfl rfl (by omega) (Nat.le_of_ble_eq_true rfl) ((hM.2.2.1 i (by omega)).1) ?_
      have hr_ := hr (W 0 i) (by omega)
      refine wq_ald (j := (W 0 i)) (n := 10) (v := (nI (r (W 0 i)))) rfl rfl rfl rfl (by omega) (Nat.le_of_ble_eq_true rfl) (hg (W 0 i) (by omega)) ?_
      refine wq_run3 (pc' := 69) (L' := [(0, .ref 92), (2, .int (nI b)), (3, .int mo), (4, .int (nI i))]) (S' := [.int (nI i), .ref 95, .int (nI (r (W 0 i)))]) (f' := (up1 f 136 g)) rfl ?_
      refine wq_ald (j := i) (n := 16) (v := (nI (W 5 i))) rfl rfl rfl rfl (by omega) (Nat.le_of_ble_eq_true rfl) ((hI.1 i (by omega)).1) ?_
      refine wq_run1 (pc' := 71) (L' := [(0, .ref 92), (2, .int (nI b)), (3, .int mo), (4, .int (nI i))]) (S' := [.int ((nI (r (W 0 i))) + (nI (W 5 i)))]) (f' := (up1 f 136 g)) rfl ?_
      refine wq_v (y := (nI ((r (W 0 i)) + (W 5 i)))) (nI_add (r (W 0 i)) (W 5 i)) ?_
      refine wq_run6 (pc' := 83) (L' := [(0, .ref 92), (2, .int (nI b)), (3, .int mo), (4, .int (nI i)), (5, .int (nI ((r (W 0 i)) + (W 5 i))))]) (S' := [.int (nI i), .ref 94, .ref 136]) (f' := (up1 f 136 g)) rfl ?_
      refine wq_ald (j := i) (n := 16) (v := (nI (W 1 i))) rfl rfl rfl rfl (by omega) (Nat.le_of_ble_eq_true rfl) ((hM.2.2.1 i (by omega)).2.1) ?_
      have hr_ := hr (W 1 i) (by omega)
      refine wq_ald (j := (W 1 i)) (n := 10) (v := (nI (r (W 1 i)))) rfl rfl rfl rfl (by omega) (Nat.le_of_ble_eq_true rfl) (hg (W 1 i) (by omega)) ?_
      refine wq_run3 (pc' := 91) (L' := [(0, .ref 92), (2, .int (nI b)), (3, .int mo), (4, .int (nI i)), (5, .int (nI ((r (W 0 i)) + (W 5 i))))]) (S' := [.int (nI i), .ref 95, .int (nI (r (W 1 i)))]) (f' := (up1 f 136 g)) rfl ?_
      refine wq_ald (j := i) (n := 16) (v := (nI (W 5 i))) rfl rfl rfl rfl (by omega) (Nat.le_of_ble_eq_true rfl) ((hI.1 i (by omega)).1) ?_
      refine wq_run1 (pc' := 93) (L' := [(0, .ref 92), (2, .int (nI b)), (3, .int mo), (4, .int (nI i)), (5, .int (nI ((r (W 0 i)) + (W 5 i))))]) (S' := [.int ((nI (r (W 1 i))) + (nI (W 5 i)))]) (f' := (up1 f 136 g)) rfl ?_
      refine wq_v (y := (nI ((r (W 1 i)) + (W 5 i)))) (nI_add (r (W 1 i)) (W 5 i)) ?_
      refine wq_run7 (pc' := 107) (L' := [(0, .ref 92), (2, .int (nI b)), (3, .int mo), (4, .int (nI i)), (5, .int (nI ((r (W 0 i)) + (W 5 i)))), (6, .int (nI ((r (W 1 i)) + (W 5 i))))]) (S' := [.int (nI i), .ref 93, .ref 136, .int (nI ((r (W 1 i)) + (W 5 i)))]) (f' := (up1 f 136 g)) rfl ?_
      refine wq_ald (j := i) (n := 16) (v := (nI (W 0 i))) rfl rfl rfl rfl (by omega) (Nat.le_of_ble_eq_true rfl) ((hM.2.2.1 i (by omega)).1) ?_
      have hr_ := hr (W 0 i) (by omega)
      refine wq_ald (j := (W 0 i)) (n := 10) (v := (nI (r (W 0 i)))) rfl rfl rfl rfl (by omega) (Nat.le_of_ble_eq_true rfl) (hg (W 0 i) (by omega)) ?_
      refine wq_if (c := (nI (r (W 0 i))) ≤ (nI ((r (W 1 i)) + (W 5 i)))) (p1 := 128) (L1 := [(0, .ref 92), (2, .int (nI b)), (3, .int mo), (4, .int (nI i)), (5, .int (nI ((r (W 0 i)) + (W 5 i)))), (6, .int (nI ((r (W 1 i)) + (W 5 i))))]) (S1 := []) (p2 := 112) (L2 := [(0, .ref 92), (2, .int (nI b)), (3, .int mo), (4, .int (nI i)), (5, .int (nI ((r (W 0 i)) + (W 5 i)))), (6, .int (nI ((r (W 1 i)) + (W 5 i))))]) (S2 := []) rfl (fun c_109 => ?_) (fun c_109 => ?_)
      · have k_109 : (r (W 0 i)) ≤ ((r (W 1 i)) + (W 5 i)) := (nI_leI (a := (r (W 0 i))) (b := ((r (W 1 i)) + (W 5 i))) (by omega) (by omega)).mp c_109
        refine wq_run6 (pc' := 140) (L' := [(0, .ref 92), (2, .int (nI b)), (3, .int mo), (4, .int (nI i)), (5, .int (nI ((r (W 0 i)) + (W 5 i)))), (6, .int (nI ((r (W 1 i)) + (W 5 i))))]) (S' := [.int (nI i), .ref 94, .ref 136, .int (nI ((r (W 0 i)) + (W 5 i)))]) (f' := (up1 f 136 g)) rfl ?_
        refine wq_ald (j := i) (n := 16) (v := (nI (W 1 i))) rfl rfl rfl rfl (by omega) (Nat.le_of_ble_eq_true rfl) ((hM.2.2.1 i (by omega)).2.1) ?_
        refine wq_ald (j := (W 1 i)) (n := 10) (v := (nI (r (W 1 i)))) rfl rfl rfl rfl (by omega) (Nat.le_of_ble_eq_true rfl) (hg (W 1 i) (by omega)) ?_
        refine wq_if (c := (nI (r (W 1 i))) ≤ (nI ((r (W 0 i)) + (W 5 i)))) (p1 := 161) (L1 := [(0, .ref 92), (2, .int (nI b)), (3, .int mo), (4, .int (nI i)), (5, .int (nI ((r (W 0 i)) + (W 5 i)))), (6, .int (nI ((r (W 1 i)) + (W 5 i))))]) (S1 := []) (p2 := 145) (L2 := [(0, .ref 92), (2, .int (nI b)), (3, .int mo), (4, .int (nI i)), (5, .int (nI ((r (W 0 i)) + (W 5 i)))), (6, .int (nI ((r (W 1 i)) + (W 5 i))))]) (S2 := []) rfl (fun c_142 => ?_) (fun c_142 => ?_)
        · have k_142 : (r (W 1 i)) ≤ ((r (W 0 i)) + (W 5 i)) := (nI_leI (a := (r (W 1 i))) (b := ((r (W 0 i)) + (W 5 i))) (by omega) (by omega)).mp c_142
          refine wq_run1 (pc' := 164) (L' := [(0, .ref 92), (2, .int (nI b)), (3, .int mo), (4, .int ((nI i) + 1)), (5, .int (nI ((r (W 0 i)) + (W 5 i)))), (6, .int (nI ((r (W 1 i)) + (W 5 i))))]) (S' := []) (f' := (up1 f 136 g)) rfl ?_
          refine wq_L (L' := [(0, .ref 92), (2, .int (nI b)), (3, .int mo), (4, .int (nI (i + 1))), (5, .int (nI ((r (W 0 i)) + (W 5 i)))), (6, .int (nI ((r (W 1 i)) + (W 5 i))))]) (by rw [show nI i + 1 = nI (i + 1) from nI_add _ _]) ?_
          refine wq_run1 (pc' := 42) (L' := [(0, .ref 92), (2, .int (nI b)), (3, .int mo), (4, .int (nI (i + 1)))]) (S' := []) (f' := (up1 f 136 g)) rfl ?_
          exact ih (i + 1) g r mo (by omega) hg h0 hr (fun q j hj => by
            rcases Nat.lt_or_ge j i with c | c
            · exact hc q j c
            · have e : j = i := by omega
              subst e
              exact ⟨by omega, by omega⟩) hS hS2 (by omega)
        · have k_142 : ¬ (r (W 1 i)) ≤ ((r (W 0 i)) + (W 5 i)) := fun q => c_142 ((nI_leI (a := (r (W 1 i))) (b := ((r (W 0 i)) + (W 5 i))) (by omega) (by omega)).mpr q)
          refine wq_run5 (pc' := 155) (L' := [(0, .ref 92), (2, .int (nI b)), (3, .int mo), (4, .int (nI i)), (5, .int (nI ((r (W 0 i)) + (W 5 i)))), (6, .int (nI ((r (W 1 i)) + (W 5 i))))]) (S' := [.int (nI i), .ref 94, .ref 136]) (f' := (up1 f 136 g)) rfl ?_
          refine wq_ald (j := i) (n := 16) (v := (nI (W 1 i))) rfl rfl rfl rfl (by omega) (Nat.le_of_ble_eq_true rfl) ((hM.2.2.1 i (by omega)).2.1) ?_
          refine wq_run1 (pc' := 158) (L' := [(0, .ref 92), (2, .int (nI b)), (3, .int mo), (4, .int (nI i)), (5, .int (nI ((r (W 0 i)) + (W 5 i)))), (6, .int (nI ((r (W 1 i)) + (W 5 i))))]) (S' := [.int (nI ((r (W 0 i)) + (W 5 i))), .int (nI (W 1 i)), .ref 136]) (f' := (up1 f 136 g)) rfl ?_
          refine wq_ist (j := (W 1 i)) (n := 10) rfl rfl rfl rfl (by omega) (Nat.le_of_ble_eq_true rfl) ?_
          refine wq_h (f' := (up1 f 136 (upd g (W 1 i) (nI ((r (W 0 i)) + (W 5 i)))))) ((up2_up1_eq f 136 g (W 1 i) (nI ((r (W 0 i)) + (W 5 i)))).trans (congrArg (fun z => up1 f 136 z) (rfl))) ?_
          refine wq_run3 (pc' := 164) (L' := [(0, .ref 92), (2, .int (nI b)), (3, .int 1), (4, .int ((nI i) + 1)), (5, .int (nI ((r (W 0 i)) + (W 5 i)))), (6, .int (nI ((r (W 1 i)) + (W 5 i))))]) (S' := []) (f' := (up1 f 136 (upd g (W 1 i) (nI ((r (W 0 i)) + (W 5 i)))))) rfl ?_
          refine wq_L (L' := [(0, .ref 92), (2, .int (nI b)), (3, .int 1), (4, .int (nI (i + 1))), (5, .int (nI ((r (W 0 i)) + (W 5 i)))), (6, .int (nI ((r (W 1 i)) + (W 5 i))))]) (by rw [show nI i + 1 = nI (i + 1) from nI_add _ _]) ?_
          refine wq_run1 (pc' := 42) (L' := [(0, .ref 92), (2, .int (nI b)), (3, .int 1), (4, .int (nI (i + 1)))]) (S' := []) (f' := (up1 f 136 (upd g (W 1 i) (nI ((r (W 0 i)) + (W 5 i)))))) rfl ?_
          have hlt : r (W 0 i) + W 5 i < r (W 1 i) := by omega
          have hs := up_sum (by omega) hlt
          have hne : ¬ a = (W 1 i) := fun q => by rw [← q, h0] at hlt; exact Nat.not_lt_zero _ hlt
          exact ih (i + 1) _ (updN r (W 1 i) (r (W 0 i) + W 5 i)) 1 (by omega) (up_row hg) ((if_neg hne).trans h0) (lo_s (W := W) (w := w) hI.2.1 ha (by omega) (by omega) (m := W 5 i) (by omega) (by omega) hr hlt) (fun q => absurd q (by decide)) (by omega) (fun _ => by omega) (by omega)
      · have k_109 : ¬ (r (W 0 i)) ≤ ((r (W 1 i)) + (W 5 i)) := fun q => c_109 ((nI_leI (a := (r (W 0 i))) (b := ((r (W 1 i)) + (W 5 i))) (by omega) (by omega)).mpr q)
        refine wq_run5 (pc' := 122) (L' := [(0, .ref 92), (2, .int (nI b)), (3, .int mo), (4, .int (nI i)), (5, .int (nI ((r (W 0 i)) + (W 5 i)))), (6, .int (nI ((r (W 1 i)) + (W 5 i))))]) (S' := [.int (nI i), .ref 93, .ref 136]) (f' := (up1 f 136 g)) rfl ?_
        refine wq_ald (j := i) (n := 16) (v := (nI (W 0 i))) rfl rfl rfl rfl (by omega) (Nat.le_of_ble_eq_true rfl) ((hM.2.2.1 i (by omega)).1) ?_
        refine wq_run1 (pc' := 125) (L' := [(0, .ref 92), (2, .int (nI b)), (3, .int mo), (4, .int (nI i)), (5, .int (nI ((r (W 0 i)) + (W 5 i)))), (6, .int (nI ((r (W 1 i)) + (W 5 i))))]) (S' := [.int (nI ((r (W 1 i)) + (W 5 i))), .int (nI (W 0 i)), .ref 136]) (f' := (up1 f 136 g)) rfl ?_
        refine wq_ist (j := (W 0 i)) (n := 10) rfl rfl rfl rfl (by omega) (Nat.le_of_ble_eq_true rfl) ?_
        refine wq_h (f' := (up1 f 136 (upd g (W 0 i) (nI ((r (W 1 i)) + (W 5 i)))))) ((up2_up1_eq f 136 g (W 0 i) (nI ((r (W 1 i)) + (W 5 i)))).trans (congrArg (fun z => up1 f 136 z) (rfl))) ?_
        refine wq_run8 (pc' := 140) (L' := [(0, .ref 92), (2, .int (nI b)), (3, .int 1), (4, .int (nI i)), (5, .int (nI ((r (W 0 i)) + (W 5 i)))), (6, .int (nI ((r (W 1 i)) + (W 5 i))))]) (S' := [.int (nI i), .ref 94, .ref 136, .int (nI ((r (W 0 i)) + (W 5 i)))]) (f' := (up1 f 136 (upd g (W 0 i) (nI ((r (W 1 i)) + (W 5 i)))))) rfl ?_
        refine wq_ald (j := i) (n := 16) (v := (nI (W 1 i))) rfl rfl rfl rfl (by omega) (Nat.le_of_ble_eq_true rfl) ((hM.2.2.1 i (by omega)).2.1) ?_
        refine wq_ald (j := (W 1 i)) (n := 10) (v := (nI (r (W 1 i)))) rfl rfl rfl rfl (by omega) (Nat.le_of_ble_eq_true rfl) ((pk_un (Ne.symm hb_.2.2.1)).trans (hg (W 1 i) (by omega))) ?_
        refine wq_if (c := (nI (r (W 1 i))) ≤ (nI ((r (W 0 i)) + (W 5 i)))) (p1 := 161) (L1 := [(0, .ref 92), (2, .int (nI b)), (3, .int 1), (4, .int (nI i)), (5, .int (nI ((r (W 0 i)) + (W 5 i)))), (6, .int (nI ((r (W 1 i)) + (W 5 i))))]) (S1 := []) (p2 := 145) (L2 := [(0, .ref 92), (2, .int (nI b)), (3, .int 1), (4, .int (nI i)), (5, .int (nI ((r (W 0 i)) + (W 5 i)))), (6, .int (nI ((r (W 1 i)) + (W 5 i))))]) (S2 := []) rfl (fun _ => ?_) (fun q => absurd ((nI_leI (a := (r (W 1 i))) (b := ((r (W 0 i)) + (W 5 i))) (by omega) (by omega)).mpr (by omega)) q)
        refine wq_run1 (pc' := 164) (L' := [(0, .ref 92), (2, .int (nI b)), (3, .int 1), (4, .int ((nI i) + 1)), (5, .int (nI ((r (W 0 i)) + (W 5 i)))), (6, .int (nI ((r (W 1 i)) + (W 5 i))))]) (S' := []) (f' := (up1 f 136 (upd g (W 0 i) (nI ((r (W 1 i)) + (W 5 i)))))) rfl ?_
        refine wq_L (L' := [(0, .ref 92), (2, .int (nI b)), (3, .int 1), (4, .int (nI (i + 1))), (5, .int (nI ((r (W 0 i)) + (W 5 i)))), (6, .int (nI ((r (W 1 i)) + (W 5 i))))]) (by rw [show nI i + 1 = nI (i + 1) from nI_add _ _]) ?_
        refine wq_run1 (pc' := 42) (L' := [(0, .ref 92), (2, .int (nI b)), (3, .int 1), (4, .int (nI (i + 1)))]) (S' := []) (f' := (up1 f 136 (upd g (W 0 i) (nI ((r (W 1 i)) + (W 5 i)))))) rfl ?_
        have hlt : r (W 1 i) + W 5 i < r (W 0 i) := by omega
        have hs := up_sum (by omega) hlt
        have hne : ¬ a = (W 0 i) := fun q => by rw [← q, h0] at hlt; exact Nat.not_lt_zero _ hlt
        exact ih (i + 1) _ (updN r (W 0 i) (r (W 1 i) + W 5 i)) 1 (by omega) (up_row hg) ((if_neg hne).trans h0) (lo_s (W := W) (w := w) hI.2.1 ha (by omega) (by omega) (m := W 5 i) (by omega) (by omega) hr hlt) (fun q => absurd q (by decide)) (by omega) (fun _ => by omega) (by omega)
theorem mlp_farOut {f : HI} {W : Nat → Nat → Nat} {w : Nat} {D : Nat → Nat → Nat} {a b : Nat} (hM : LaM f W w) (hI : LaI f W w D) (ha : a < 10) (hb : b < 10) : ∀ (m9 : Nat) (g : Nat → Int32) (r : Nat → Nat) (mo : Int32), (∀ t, t < 10 → g t = nI (r t)) → (r a = 0) → (LoN D a r) → (mo = 0 → ∀ i, i < w → r (W 0 i) ≤ r (W 1 i) + W 5 i ∧ r (W 1 i) ≤ r (W 0 i) + W 5 i) → 2 * sumN r 10 + (if mo = 0 then 0 else 1) < m9 → wq 2 135 (fun v f' => ∃ g, v = some (.int (dJ (D a b))) ∧ f' = up1 f 136 g) 33 [(0, .ref 92), (2, .int (nI b)), (3, .int mo)] [] (up1 f 136 g) := by
  intro m9
  induction m9 with
  | zero => intro g r mo hg h0 hr hc hn; exact absurd hn (Nat.not_lt_zero _)
  | succ m9 ih =>
    intro g r mo hg h0 hr hc hn
    refine wq_run1 (pc' := 34) (L' := [(0, .ref 92), (2, .int (nI b)), (3, .int mo)]) (S' := [.int mo]) (f' := (up1 f 136 g)) rfl ?_
    refine wq_if (c := mo = 0) (p1 := 170) (L1 := [(0, .ref 92), (2, .int (nI b)), (3, .int mo)]) (S1 := []) (p2 := 37) (L2 := [(0, .ref 92), (2, .int (nI b)), (3, .int mo)]) (S2 := []) rfl (fun c_34 => ?_) (fun c_34 => ?_)
    · refine wq_run3 (pc' := 175) (L' := [(0, .ref 92), (2, .int (nI b)), (3, .int mo)]) (S' := [.int (nI b), .ref 136]) (f' := (up1 f 136 g)) rfl ?_
      have hr_ := hr b (by omega)
      refine wq_ald (j := b) (n := 10) (v := (nI (r b))) rfl rfl rfl rfl (by omega) (Nat.le_of_ble_eq_true rfl) (hg b (by omega)) ?_
      refine wq_run1 (pc' := 178) (L' := [(0, .ref 92), (2, .int (nI b)), (3, .int mo)]) (S' := [.int 268435456, .int (nI (r b))]) (f' := (up1 f 136 g)) rfl ?_
      refine wq_if (c := (nI (r b)) < 268435456) (p1 := 185) (L1 := [(0, .ref 92), (2, .int (nI b)), (3, .int mo)]) (S1 := []) (p2 := 181) (L2 := [(0, .ref 92), (2, .int (nI b)), (3, .int mo)]) (S2 := []) rfl (fun c_178 => ?_) (fun c_178 => ?_)
      · have k_178 : (r b) < 268435456 := (nI_ltI (a := (r b)) (b := 268435456) (by omega) (by omega)).mp c_178
        refine wq_run3 (pc' := 190) (L' := [(0, .ref 92), (2, .int (nI b)), (3, .int mo)]) (S' := [.int (nI b), .ref 136]) (f' := (up1 f 136 g)) rfl ?_
        have hr_ := hr b (by omega)
        refine wq_ald (j := b) (n := 10) (v := (nI (r b))) rfl rfl rfl rfl (by omega) (Nat.le_of_ble_eq_true rfl) (hg b (by omega)) ?_
        have hE := far_end ha hb hI.2.2 h0 hr (hc c_34) (hI.2.1.2.2.2.1 a b ha hb)
        exact wq_ret rfl ⟨g, by unfold dJ; rw [if_neg (by omega), show D a b = r b by omega], rfl⟩
      · have k_178 : ¬ (r b) < 268435456 := fun q => c_178 ((nI_ltI (a := (r b)) (b := 268435456) (by omega) (by omega)).mpr q)
        refine wq_run2 (pc' := 191) (L' := [(0, .ref 92), (2, .int (nI b)), (3, .int mo)]) (S' := [.int (-1)]) (f' := (up1 f 136 g)) rfl ?_
        have hE := far_end ha hb hI.2.2 h0 hr (hc c_34) (hI.2.1.2.2.2.1 a b ha hb)
        exact wq_ret rfl ⟨g, by unfold dJ; rw [if_pos (by omega)], rfl⟩
    · refine wq_run4 (pc' := 42) (L' := [(0, .ref 92), (2, .int (nI b)), (3, .int 0), (4, .int 0)]) (S' := []) (f' := (up1 f 136 g)) rfl ?_
      rw [if_neg c_34] at hn
      exact mlp_farIn hM hI ha hb (S0 := sumN r 10) (fun g' r' mo' h1 h2 h3 h4 h5 h6 => ih g' r' mo' h1 h2 h3 h4 (by
        by_cases c : mo' = 0
        · rw [if_pos c]; omega
        · rw [if_neg c]; have := h6 c; omega)) (w - 0 + 1) 0 g r 0 (Nat.zero_le _) hg h0 hr (fun _ j hj => absurd hj (Nat.not_lt_zero _)) (Nat.le_refl _) (fun q => absurd rfl q) (Nat.lt_succ_self _)
theorem mlp_farInit {f : HI} {W : Nat → Nat → Nat} {w : Nat} {D : Nat → Nat → Nat} {a b : Nat} (hM : LaM f W w) (hI : LaI f W w D) (ha : a < 10) (hb : b < 10) : ∀ (m9 : Nat) (j : Nat) (g : Nat → Int32), (j ≤ 10) → (∀ t, t < j → g t = nI (s0N a 0 t)) → 10 - j < m9 → wq 2 135 (fun v f' => ∃ g, v = some (.int (dJ (D a b))) ∧ f' = up1 f 136 g) 2 [(0, .ref 92), (1, .int (nI a)), (2, .int (nI b)), (3, .int (nI j))] [] (up1 f 136 g) := by
  intro m9
  induction m9 with
  | zero => intro j g hj hg hn; exact absurd hn (Nat.not_lt_zero _)
  | succ m9 ih =>
    intro j g hj hg hn
    refine wq_run2 (pc' := 5) (L' := [(0, .ref 92), (1, .int (nI a)), (2, .int (nI b)), (3, .int (nI j))]) (S' := [.int 10, .int (nI j)]) (f' := (up1 f 136 g)) rfl ?_
    refine wq_if (c := 10 ≤ (nI j)) (p1 := 31) (L1 := [(0, .ref 92), (1, .int (nI a)), (2, .int (nI b)), (3, .int (nI j))]) (S1 := []) (p2 := 8) (L2 := [(0, .ref 92), (1, .int (nI a)), (2, .int (nI b)), (3, .int (nI j))]) (S2 := []) rfl (fun c_5 => ?_) (fun c_5 => ?_)
    · have k_5 : 10 ≤ j := (nI_leI (a := 10) (b := j) (by omega) (by omega)).mp c_5
      refine wq_run2 (pc' := 33) (L' := [(0, .ref 92), (2, .int (nI b)), (3, .int 1)]) (S' := []) (f' := (up1 f 136 g)) rfl ?_
      exact mlp_farOut hM hI ha hb _ g (s0N a 0) 1 (fun t ht => hg t (by omega)) (if_pos rfl) (fun t ht => by
        unfold s0N
        by_cases c : t = a
        · rw [if_pos c, c, hI.2.1.2.1 a ha]; right; omega
        · rw [if_neg c]; left; rfl) (fun q => absurd q (by decide)) (Nat.lt_succ_self _)
    · have k_5 : ¬ 10 ≤ j := fun q => c_5 ((nI_leI (a := 10) (b := j) (by omega) (by omega)).mpr q)
      refine wq_run5 (pc' := 15) (L' := [(0, .ref 92), (1, .int (nI a)), (2, .int (nI b)), (3, .int (nI j))]) (S' := [.int (nI a), .int (nI j), .int (nI j), .ref 136]) (f' := (up1 f 136 g)) rfl ?_
      refine wq_if (c := (nI j) = (nI a)) (p1 := 18) (L1 := [(0, .ref 92), (1, .int (nI a)), (2, .int (nI b)), (3, .int (nI j))]) (S1 := [.int (nI j), .ref 136]) (p2 := 22) (L2 := [(0, .ref 92), (1, .int (nI a)), (2, .int (nI b)), (3, .int (nI j))]) (S2 := [.int (nI j), .ref 136]) rfl (fun c_15 => ?_) (fun c_15 => ?_)
      · have k_15 : j = a := (nI_eq (a := j) (b := a) (by omega) (by omega)).mp c_15
        refine wq_run2 (pc' := 24) (L' := [(0, .ref 92), (1, .int (nI a)), (2, .int (nI b)), (3, .int (nI j))]) (S' := [.int 0, .int (nI j), .ref 136]) (f' := (up1 f 136 g)) rfl ?_
        refine wq_ist (j := j) (n := 10) rfl rfl rfl rfl (by omega) (Nat.le_of_ble_eq_true rfl) ?_
        refine wq_h (f' := (up1 f 136 (upd g j 0))) ((up2_up1_eq f 136 g j 0).trans (congrArg (fun z => up1 f 136 z) (rfl))) ?_
        refine wq_run1 (pc' := 28) (L' := [(0, .ref 92), (1, .int (nI a)), (2, .int (nI b)), (3, .int ((nI j) + 1))]) (S' := []) (f' := (up1 f 136 (upd g j 0))) rfl ?_
        refine wq_L (L' := [(0, .ref 92), (1, .int (nI a)), (2, .int (nI b)), (3, .int (nI (j + 1)))]) (by rw [show nI j + 1 = nI (j + 1) from nI_add _ _]) ?_
        refine wq_run1 (pc' := 2) (L' := [(0, .ref 92), (1, .int (nI a)), (2, .int (nI b)), (3, .int (nI (j + 1)))]) (S' := []) (f' := (up1 f 136 (upd g j 0))) rfl ?_
        exact ih (j + 1) _ (by omega) (fun t ht => by
          unfold upd
          by_cases c : t = j
          · rw [if_pos c, c]; exact congrArg nI ((if_pos k_15) : s0N a 0 j = _).symm
          · rw [if_neg c]; exact hg t (by omega)) (by omega)
      · have k_15 : ¬ j = a := fun q => c_15 ((nI_eq (a := j) (b := a) (by omega) (by omega)).mpr q)
        refine wq_run1 (pc' := 24) (L' := [(0, .ref 92), (1, .int (nI a)), (2, .int (nI b)), (3, .int (nI j))]) (S' := [.int 268435456, .int (nI j), .ref 136]) (f' := (up1 f 136 g)) rfl ?_
        refine wq_ist (j := j) (n := 10) rfl rfl rfl rfl (by omega) (Nat.le_of_ble_eq_true rfl) ?_
        refine wq_h (f' := (up1 f 136 (upd g j 268435456))) ((up2_up1_eq f 136 g j 268435456).trans (congrArg (fun z => up1 f 136 z) (rfl))) ?_
        refine wq_run1 (pc' := 28) (L' := [(0, .ref 92), (1, .int (nI a)), (2, .int (nI b)), (3, .int ((nI j) + 1))]) (S' := []) (f' := (up1 f 136 (upd g j 268435456))) rfl ?_
        refine wq_L (L' := [(0, .ref 92), (1, .int (nI a)), (2, .int (nI b)), (3, .int (nI (j + 1)))]) (by rw [show nI j + 1 = nI (j + 1) from nI_add _ _]) ?_
        refine wq_run1 (pc' := 2) (L' := [(0, .ref 92), (1, .int (nI a)), (2, .int (nI b)), (3, .int (nI (j + 1)))]) (S' := []) (f' := (up1 f 136 (upd g j 268435456))) rfl ?_
        exact ih (j + 1) _ (by omega) (fun t ht => by
          unfold upd
          by_cases c : t = j
          · rw [if_pos c, c]; exact congrArg nI ((if_neg k_15) : s0N a 0 j = _).symm
          · rw [if_neg c]; exact hg t (by omega)) (by omega)
theorem mp_farOf {f : HI} {W : Nat → Nat → Nat} {w : Nat} {D : Nat → Nat → Nat} {a b : Nat} (hM : LaM f W w) (hI : LaI f W w D) (ha : a < 10) (hb : b < 10) : Sp 2 135 [.ref 92, .int (nI a), .int (nI b)] f (fun v f' => ∃ g, v = some (.int (dJ (D a b))) ∧ f' = up1 f 136 g) := by
  show wq 2 135 (fun v f' => ∃ g, v = some (.int (dJ (D a b))) ∧ f' = up1 f 136 g) 0 [(0, .ref 92), (1, .int (nI a)), (2, .int (nI b))] [] f
  refine wq_run2 (pc' := 2) (L' := [(0, .ref 92), (1, .int (nI a)), (2, .int (nI b)), (3, .int 0)]) (S' := []) (f' := f) rfl ?_
  have h9 := mlp_farInit hM hI ha hb (10 - 0 + 1) 0 (f 136) (Nat.zero_le _) (fun _ q => absurd q (Nat.not_lt_zero _)) (Nat.lt_succ_self _)
  rw [up1_id] at h9
  exact h9
