/-! the street: doors, path -/
theorem lp_fill79 (f : HI) (v : Int32) : ∀ (m9 : Nat) (i : Nat), (i ≤ 144) → 144 - i < m9 → wq 1 225 (RetV (up1 f 79 (flN v (f 79) 144))) 5 [(0, .ref 79), (1, .int v), (2, .int (nI i)), (3, .int (nI 144))] [] (up1 f 79 (flN v (f 79) i)) := by
  intro m9
  induction m9 with
  | zero => intro i hi hn; exact absurd hn (Nat.not_lt_zero _)
  | succ m9 ih =>
    intro i hi hn
    refine wq_run2 (pc' := 7) (L' := [(0, .ref 79), (1, .int v), (2, .int (nI i)), (3, .int (nI 144))]) (S' := [.int (nI 144), .int (nI i)]) (f' := (up1 f 79 (flN v (f 79) i))) rfl ?_
    refine wq_if (c := (nI 144) ≤ (nI i)) (p1 := 20) (L1 := [(0, .ref 79), (1, .int v), (2, .int (nI i)), (3, .int (nI 144))]) (S1 := []) (p2 := 10) (L2 := [(0, .ref 79), (1, .int v), (2, .int (nI i)), (3, .int (nI 144))]) (S2 := []) rfl (fun c_7 => ?_) (fun c_7 => ?_)
    · have k_7 : 144 ≤ i := (nI_leI (a := 144) (b := i) (by omega) (by omega)).mp c_7
      have e : i = 144 := by omega
      exact wq_ret rfl (RetV.of (by rw [e]))
    · have k_7 : ¬ 144 ≤ i := fun q => c_7 ((nI_leI (a := 144) (b := i) (by omega) (by omega)).mpr q)
      refine wq_run3 (pc' := 13) (L' := [(0, .ref 79), (1, .int v), (2, .int (nI i)), (3, .int (nI 144))]) (S' := [.int v, .int (nI i), .ref 79]) (f' := (up1 f 79 (flN v (f 79) i))) rfl ?_
      refine wq_ist (j := i) (n := 144) rfl rfl rfl rfl (by omega) (Nat.le_of_ble_eq_true rfl) ?_
      refine wq_h (f' := (up1 f 79 (upd (flN v (f 79) i) i v))) ((up2_up1_eq f 79 (flN v (f 79) i) i v).trans (congrArg (fun z => up1 f 79 z) (rfl))) ?_
      refine wq_run1 (pc' := 17) (L' := [(0, .ref 79), (1, .int v), (2, .int ((nI i) + 1)), (3, .int (nI 144))]) (S' := []) (f' := (up1 f 79 (upd (flN v (f 79) i) i v))) rfl ?_
      refine wq_L (L' := [(0, .ref 79), (1, .int v), (2, .int (nI (i + 1))), (3, .int (nI 144))]) (by rw [show nI i + 1 = nI (i + 1) from nI_add _ _]) ?_
      refine wq_run1 (pc' := 5) (L' := [(0, .ref 79), (1, .int v), (2, .int (nI (i + 1))), (3, .int (nI 144))]) (S' := []) (f' := (up1 f 79 (upd (flN v (f 79) i) i v))) rfl ?_
      rw [fl_s]
      exact ih (i + 1) (by omega) (by omega)
theorem jp_fill79 (f : HI) (v : Int32) : Sp 1 225 [.ref 79, .int v] f (RetV (up1 f 79 (flN v (f 79) 144))) := by
  show wq 1 225 (RetV (up1 f 79 (flN v (f 79) 144))) 0 [(0, .ref 79), (1, .int v)] [] f
  refine wq_run5 (pc' := 5) (L' := [(0, .ref 79), (1, .int v), (2, .int 0), (3, .int (nI 144))]) (S' := []) (f' := f) rfl ?_
  have h := lp_fill79 f v (144 + 1) 0 (Nat.zero_le _) (Nat.lt_succ_self _)
  rw [fl_0, up1_id] at h
  exact h
def d0N (K p q : Nat) : Nat := if p = q then 0 else K
theorem d0_mt (n K L : Nat) : Mt n K L (d0N K) := by
  refine ⟨fun i j _ _ => ?_, fun i _ => if_pos rfl, fun i j k _ _ _ => ?_, fun i j _ _ => ?_, fun p q _ _ hpq h => ?_⟩
  · unfold d0N
    by_cases c : i = j
    · rw [if_pos c, if_pos c.symm]
    · rw [if_neg c, if_neg (fun q => c q.symm)]
  · unfold d0N
    by_cases c1 : i = k
    · rw [if_pos c1]; exact Nat.zero_le _
    · rw [if_neg c1]
      by_cases c2 : i = j
      · rw [if_pos c2, if_neg (fun q => c1 (c2.trans q))]; omega
      · rw [if_neg c2]; omega
  · unfold d0N
    split
    · exact Nat.zero_le _
    · exact Nat.le_refl _
  · unfold d0N at h
    rw [if_neg hpq] at h
    exact absurd h (Nat.lt_irrefl _)
theorem lp_clearS {f : HI} (hsz : f 78 0 = 12) : ∀ (m9 : Nat) (i : Nat) (g : Nat → Int32), (i ≤ 12) → (∀ p q, p < 12 → q < 12 → g (p * 12 + q) = if p = q ∧ p < i then 0 else 100000000) → 12 - i < m9 → wq 2 10 (fun v f' => ∃ g, v = none ∧ f' = up1 f 79 g ∧ ∀ p q, p < 12 → q < 12 → g (p * 12 + q) = nI (d0N 100000000 p q)) 11 [(0, .ref 78), (1, .int (nI i))] [] (up1 f 79 g) := by
  intro m9
  induction m9 with
  | zero => intro i g hi hg hn; exact absurd hn (Nat.not_lt_zero _)
  | succ m9 ih =>
    intro i g hi hg hn
    refine wq_run3 (pc' := 16) (L' := [(0, .ref 78), (1, .int (nI i))]) (S' := [.int (f 78 0), .int (nI i)]) (f' := (up1 f 79 g)) rfl ?_
    refine wq_v (y := 12) (hsz) ?_
    refine wq_if (c := 12 ≤ (nI i)) (p1 := 39) (L1 := [(0, .ref 78), (1, .int (nI i))]) (S1 := []) (p2 := 19) (L2 := [(0, .ref 78), (1, .int (nI i))]) (S2 := []) rfl (fun c_16 => ?_) (fun c_16 => ?_)
    · have k_16 : 12 ≤ i := (nI_leI (a := 12) (b := i) (by omega) (by omega)).mp c_16
      have e : i = 12 := by omega
      refine wq_ret rfl ⟨g, rfl, rfl, fun p q hp hq => ?_⟩
      rw [hg p q hp hq]
      unfold d0N
      by_cases c : p = q
      · rw [if_pos ⟨c, by omega⟩, if_pos c]; rfl
      · rw [if_neg (fun z => c z.1), if_neg c]; rfl
    · have k_16 : ¬ 12 ≤ i := fun q => c_16 ((nI_leI (a := 12) (b := i) (by omega) (by omega)).mpr q)
      refine wq_run5 (pc' := 28) (L' := [(0, .ref 78), (1, .int (nI i))]) (S' := [.int (f 78 0), .int (nI i), .ref 79]) (f' := (up1 f 79 g)) rfl ?_
      refine wq_v (y := 12) (hsz) ?_
      refine wq_run1 (pc' := 29) (L' := [(0, .ref 78), (1, .int (nI i))]) (S' := [.int ((nI i) * 12), .ref 79]) (f' := (up1 f 79 g)) rfl ?_
      refine wq_v (y := (nI (i * 12))) (pk_mul i 12) ?_
      refine wq_run2 (pc' := 31) (L' := [(0, .ref 78), (1, .int (nI i))]) (S' := [.int ((nI (i * 12)) + (nI i)), .ref 79]) (f' := (up1 f 79 g)) rfl ?_
      refine wq_v (y := (nI ((i * 12) + i))) (nI_add (i * 12) i) ?_
      refine wq_run1 (pc' := 32) (L' := [(0, .ref 78), (1, .int (nI i))]) (S' := [.int 0, .int (nI ((i * 12) + i)), .ref 79]) (f' := (up1 f 79 g)) rfl ?_
      refine wq_ist (j := ((i * 12) + i)) (n := 144) rfl rfl rfl rfl (by omega) (Nat.le_of_ble_eq_true rfl) ?_
      refine wq_h (f' := (up1 f 79 (upd g ((i * 12) + i) 0))) ((up2_up1_eq f 79 g ((i * 12) + i) 0).trans (congrArg (fun z => up1 f 79 z) (rfl))) ?_
      refine wq_run1 (pc' := 36) (L' := [(0, .ref 78), (1, .int ((nI i) + 1))]) (S' := []) (f' := (up1 f 79 (upd g ((i * 12) + i) 0))) rfl ?_
      refine wq_L (L' := [(0, .ref 78), (1, .int (nI (i + 1)))]) (by rw [show nI i + 1 = nI (i + 1) from nI_add _ _]) ?_
      refine wq_run1 (pc' := 11) (L' := [(0, .ref 78), (1, .int (nI (i + 1)))]) (S' := []) (f' := (up1 f 79 (upd g ((i * 12) + i) 0))) rfl ?_
      refine ih (i + 1) _ (by omega) (fun p q hp hq => ?_) (by omega)
      by_cases c : p * 12 + q = i * 12 + i
      · rw [c, upd_s, if_pos (by omega)]
      · rw [upd_n c, hg p q hp hq]
        by_cases c2 : p = q ∧ p < i
        · rw [if_pos c2, if_pos (by omega)]
        · rw [if_neg c2, if_neg (by omega)]
theorem sp_clearS {f : HI} (hsz : f 78 0 = 12) : Sp 2 10 [.ref 78] f (fun v f' => ∃ g, v = none ∧ f' = up1 f 79 g ∧ ∀ p q, p < 12 → q < 12 → g (p * 12 + q) = nI (d0N 100000000 p q)) := by
  show wq 2 10 (fun v f' => ∃ g, v = none ∧ f' = up1 f 79 g ∧ ∀ p q, p < 12 → q < 12 → g (p * 12 + q) = nI (d0N 100000000 p q)) 0 [(0, .ref 78)] [] f
  refine wq_run3 (pc' := 6) (L' := [(0, .ref 78)]) (S' := [.int 100000000, .ref 79]) (f' := f) rfl ?_
  refine wq_callV (g := (up1 f 79 (flN 100000000 (f 79) 144))) (jp_fill79 f 100000000) (Nat.le_of_ble_eq_true rfl) (pc' := 9) (L' := [(0, .ref 78)]) (S' := []) rfl (Nat.le_of_ble_eq_true rfl) rfl rfl (Nat.le_of_ble_eq_true rfl) (Nat.le_of_ble_eq_true rfl) ?_
  refine wq_run2 (pc' := 11) (L' := [(0, .ref 78), (1, .int 0)]) (S' := []) (f' := (up1 f 79 (flN 100000000 (f 79) 144))) rfl ?_
  exact lp_clearS hsz (12 - 0 + 1) 0 _ (Nat.zero_le _) (fun p q hp hq => by rw [if_neg (fun z => Nat.not_lt_zero _ z.2)]; exact if_pos (by omega)) (Nat.lt_succ_self _)
theorem sp_build {f : HI} (hsz : f 78 0 = 12) (n : Int32) : Sp 3 56 [.ref 77, .int n] f (fun v f' => ∃ g, v = none ∧ f' = (up1 (up1 f 79 g) 77 (upd (upd (f 77) 2 0) 1 n)) ∧ ∀ p q, p < 12 → q < 12 → g (p * 12 + q) = nI (d0N 100000000 p q)) := by
  show wq 3 56 (fun v f' => ∃ g, v = none ∧ f' = (up1 (up1 f 79 g) 77 (upd (upd (f 77) 2 0) 1 n)) ∧ ∀ p q, p < 12 → q < 12 → g (p * 12 + q) = nI (d0N 100000000 p q)) 0 [(0, .ref 77), (1, .int n)] [] f
  refine wq_run2 (pc' := 2) (L' := [(0, .ref 77), (1, .int n)]) (S' := [.int n, .ref 77]) (f' := f) rfl ?_
  refine wq_putI rfl rfl ?_
  refine wq_h (f' := (up1 f 77 (upd (f 77) 1 n))) (up2_eq1 f 77 1 n) ?_
  refine wq_run2 (pc' := 7) (L' := [(0, .ref 77), (1, .int n)]) (S' := [.int 0, .ref 77]) (f' := (up1 f 77 (upd (f 77) 1 n))) rfl ?_
  refine wq_putI rfl rfl ?_
  refine wq_h (f' := (up1 f 77 (upd (upd (f 77) 2 0) 1 n))) ((up2_up1_eq f 77 (upd (f 77) 1 n) 2 0).trans (congrArg (fun z => up1 f 77 z) ((upd_sw (g := (f 77)) (v := n) (w := 0) (show (2 : Nat) ≠ 1 by decide)).trans (congrArg (fun z => upd z 1 n) (rfl))))) ?_
  refine wq_run2 (pc' := 14) (L' := [(0, .ref 77), (1, .int n)]) (S' := [.ref 78]) (f' := (up1 f 77 (upd (upd (f 77) 2 0) 1 n))) rfl ?_
  refine wq_call (sp_clearS (f := (up1 f 77 (upd (upd (f 77) 2 0) 1 n))) hsz) (Nat.le_of_ble_eq_true rfl) (pc' := 17) (L' := [(0, .ref 77), (1, .int n)]) (S' := []) rfl (Nat.le_of_ble_eq_true rfl) rfl rfl (Nat.le_of_ble_eq_true rfl) (Nat.le_of_ble_eq_true rfl) ?_
  rintro v f9 ⟨g, e0, ef, hg⟩
  subst e0
  subst ef
  refine wq_h (f' := (up1 (up1 f 79 g) 77 (upd (upd (f 77) 2 0) 1 n))) (by rw [show up1 (up1 f 77 (upd (upd (f 77) 2 0) 1 n)) 79 g = _ from (up1_sw (f := f) (g := (upd (upd (f 77) 2 0) 1 n)) (g' := g) (show (79 : Nat) ≠ 77 by decide)).trans (congrArg (fun z => up1 z 77 (upd (upd (f 77) 2 0) 1 n)) (rfl))]) ?_
  exact wq_ret rfl ⟨g, rfl, rfl, hg⟩
theorem sp_doors1 (f : HI) {n : Int32} (h1 : ¬ inR n 1 12) : Sp 2 105 [.ref 0, .int n] f (Ret (-3) f) := by
  show wq 2 105 (Ret (-3) f) 0 [(0, .ref 0), (1, .int n)] [] f
  refine wq_run3 (pc' := 4) (L' := [(0, .ref 0), (1, .int n)]) (S' := [.int 12, .int 1, .int n]) (f' := f) rfl ?_
  refine wq_callI (r := (b2i (inR n 1 12))) (sp_within f n 1 12) (Nat.le_of_ble_eq_true rfl) (pc' := 7) (L' := [(0, .ref 0), (1, .int n)]) (S' := []) rfl (Nat.le_of_ble_eq_true rfl) rfl rfl (Nat.le_of_ble_eq_true rfl) (Nat.le_of_ble_eq_true rfl) ?_
  refine wq_if (c := (b2i (inR n 1 12)) = 0) (p1 := 10) (L1 := [(0, .ref 0), (1, .int n)]) (S1 := []) (p2 := 13) (L2 := [(0, .ref 0), (1, .int n)]) (S2 := []) rfl (fun _ => ?_) (fun q => absurd (b2i_0.mpr h1) q)
  refine wq_run1 (pc' := 12) (L' := [(0, .ref 0), (1, .int n)]) (S' := [.int (-3)]) (f' := f) rfl ?_
  exact wq_ret rfl ⟨rfl, rfl⟩
theorem sp_doors2 {f : HI} {n : Int32} (h1 : inR n 1 12) (hsz : f 78 0 = 12) : Sp 4 105 [.ref 0, .int n] f (fun v f' => ∃ g, v = some (.int (f 77 1)) ∧ f' = (up1 (up1 f 79 g) 77 (upd (upd (f 77) 2 0) 1 n)) ∧ ∀ p q, p < 12 → q < 12 → g (p * 12 + q) = nI (d0N 100000000 p q)) := by
  show wq 4 105 (fun v f' => ∃ g, v = some (.int (f 77 1)) ∧ f' = (up1 (up1 f 79 g) 77 (upd (upd (f 77) 2 0) 1 n)) ∧ ∀ p q, p < 12 → q < 12 → g (p * 12 + q) = nI (d0N 100000000 p q)) 0 [(0, .ref 0), (1, .int n)] [] f
  refine wq_run3 (pc' := 4) (L' := [(0, .ref 0), (1, .int n)]) (S' := [.int 12, .int 1, .int n]) (f' := f) rfl ?_
  refine wq_callI (r := (b2i (inR n 1 12))) (sp_within f n 1 12) (Nat.le_of_ble_eq_true rfl) (pc' := 7) (L' := [(0, .ref 0), (1, .int n)]) (S' := []) rfl (Nat.le_of_ble_eq_true rfl) rfl rfl (Nat.le_of_ble_eq_true rfl) (Nat.le_of_ble_eq_true rfl) ?_
  refine wq_if (c := (b2i (inR n 1 12)) = 0) (p1 := 10) (L1 := [(0, .ref 0), (1, .int n)]) (S1 := []) (p2 := 13) (L2 := [(0, .ref 0), (1, .int n)]) (S2 := []) rfl (fun q => absurd q (b2i_n0.mpr h1)) (fun _ => ?_)
  refine wq_run7 (pc' := 26) (L' := [(0, .ref 0), (1, .int n), (2, .int (f 77 1))]) (S' := [.int n, .ref 77]) (f' := f) rfl ?_
  refine wq_call (sp_build (f := f) hsz n) (Nat.le_of_ble_eq_true rfl) (pc' := 29) (L' := [(0, .ref 0), (1, .int n), (2, .int (f 77 1))]) (S' := []) rfl (Nat.le_of_ble_eq_true rfl) rfl rfl (Nat.le_of_ble_eq_true rfl) (Nat.le_of_ble_eq_true rfl) ?_
  rintro v f9 ⟨g, e0, ef, hg⟩
  subst e0
  subst ef
  refine wq_run1 (pc' := 30) (L' := [(0, .ref 0), (1, .int n), (2, .int (f 77 1))]) (S' := [.int (f 77 1)]) (f' := (up1 (up1 f 79 g) 77 (upd (upd (f 77) 2 0) 1 n))) rfl ?_
  exact wq_ret rfl ⟨g, rfl, rfl, hg⟩
theorem mlp_clrIn {f : HI} {gx : Nat → Int32} {i : Nat} (hi : i < 12) (K : ∀ g : Nat → Int32, (∀ p q, p < 12 → q < 12 → (p < i + 1) → g (12 * p + q) = nI (d0N 268435456 p q)) → wq 1 191 (fun v f' => ∃ g, v = none ∧ f' = up1 (up1 f 129 g) 92 gx ∧ ∀ p q, p < 12 → q < 12 → g (12 * p + q) = nI (d0N 268435456 p q)) 7 [(0, .ref 92), (1, .int (nI (i + 1)))] [] (up1 (up1 f 129 g) 92 gx)) : ∀ (m9 : Nat) (j : Nat) (g : Nat → Int32), (j ≤ 12) → (∀ p q, p < 12 → q < 12 → (p < i ∨ p = i ∧ q < j) → g (12 * p + q) = nI (d0N 268435456 p q)) → 12 - j < m9 → wq 1 191 (fun v f' => ∃ g, v = none ∧ f' = up1 (up1 f 129 g) 92 gx ∧ ∀ p q, p < 12 → q < 12 → g (12 * p + q) = nI (d0N 268435456 p q)) 15 [(0, .ref 92), (1, .int (nI i)), (2, .int (nI j))] [] (up1 (up1 f 129 g) 92 gx) := by
  intro m9
  induction m9 with
  | zero => intro j g hj hg hn; exact absurd hn (Nat.not_lt_zero _)
  | succ m9 ih =>
    intro j g hj hg hn
    refine wq_run2 (pc' := 18) (L' := [(0, .ref 92), (1, .int (nI i)), (2, .int (nI j))]) (S' := [.int 12, .int (nI j)]) (f' := (up1 (up1 f 129 g) 92 gx)) rfl ?_
    refine wq_if (c := 12 ≤ (nI j)) (p1 := 49) (L1 := [(0, .ref 92), (1, .int (nI i)), (2, .int (nI j))]) (S1 := []) (p2 := 21) (L2 := [(0, .ref 92), (1, .int (nI i)), (2, .int (nI j))]) (S2 := []) rfl (fun c_18 => ?_) (fun c_18 => ?_)
    · have k_18 : 12 ≤ j := (nI_leI (a := 12) (b := j) (by omega) (by omega)).mp c_18
      refine wq_run1 (pc' := 52) (L' := [(0, .ref 92), (1, .int ((nI i) + 1)), (2, .int (nI j))]) (S' := []) (f' := (up1 (up1 f 129 g) 92 gx)) rfl ?_
      refine wq_L (L' := [(0, .ref 92), (1, .int (nI (i + 1))), (2, .int (nI j))]) (by rw [show nI i + 1 = nI (i + 1) from nI_add _ _]) ?_
      refine wq_run1 (pc' := 7) (L' := [(0, .ref 92), (1, .int (nI (i + 1)))]) (S' := []) (f' := (up1 (up1 f 129 g) 92 gx)) rfl ?_
      exact K g (fun p q hp hq z => hg p q hp hq (by omega))
    · have k_18 : ¬ 12 ≤ j := fun q => c_18 ((nI_leI (a := 12) (b := j) (by omega) (by omega)).mpr q)
      refine wq_run5 (pc' := 29) (L' := [(0, .ref 92), (1, .int (nI i)), (2, .int (nI j))]) (S' := [.int (12 * (nI i)), .ref 129]) (f' := (up1 (up1 f 129 g) 92 gx)) rfl ?_
      refine wq_v (y := (nI (12 * i))) (pk_mul 12 i) ?_
      refine wq_run2 (pc' := 31) (L' := [(0, .ref 92), (1, .int (nI i)), (2, .int (nI j))]) (S' := [.int ((nI (12 * i)) + (nI j)), .ref 129]) (f' := (up1 (up1 f 129 g) 92 gx)) rfl ?_
      refine wq_v (y := (nI ((12 * i) + j))) (nI_add (12 * i) j) ?_
      refine wq_run2 (pc' := 33) (L' := [(0, .ref 92), (1, .int (nI i)), (2, .int (nI j))]) (S' := [.int (nI j), .int (nI i), .int (nI ((12 * i) + j)), .ref 129]) (f' := (up1 (up1 f 129 g) 92 gx)) rfl ?_
      refine wq_if (c := (nI i) = (nI j)) (p1 := 36) (L1 := [(0, .ref 92), (1, .int (nI i)), (2, .int (nI j))]) (S1 := [.int (nI ((12 * i) + j)), .ref 129]) (p2 := 40) (L2 := [(0, .ref 92), (1, .int (nI i)), (2, .int (nI j))]) (S2 := [.int (nI ((12 * i) + j)), .ref 129]) rfl (fun c_33 => ?_) (fun c_33 => ?_)
      · have k_33 : i = j := (nI_eq (a := i) (b := j) (by omega) (by omega)).mp c_33
        refine wq_run2 (pc' := 42) (L' := [(0, .ref 92), (1, .int (nI i)), (2, .int (nI j))]) (S' := [.int 0, .int (nI ((12 * i) + j)), .ref 129]) (f' := (up1 (up1 f 129 g) 92 gx)) rfl ?_
        refine wq_ist (j := ((12 * i) + j)) (n := 144) rfl rfl rfl rfl (by omega) (Nat.le_of_ble_eq_true rfl) ?_
        refine wq_h (f' := (up1 (up1 f 129 (upd g ((12 * i) + j) 0)) 92 gx)) ((up2_up1_ne (f := (up1 f 129 g)) (g := gx) (k := ((12 * i) + j)) (v := 0) (show (129 : Nat) ≠ 92 by decide)).trans (congrArg (fun z => up1 z 92 gx) ((up2_up1_eq f 129 g ((12 * i) + j) 0).trans (congrArg (fun z => up1 f 129 z) (rfl))))) ?_
        refine wq_run1 (pc' := 46) (L' := [(0, .ref 92), (1, .int (nI i)), (2, .int ((nI j) + 1))]) (S' := []) (f' := (up1 (up1 f 129 (upd g ((12 * i) + j) 0)) 92 gx)) rfl ?_
        refine wq_L (L' := [(0, .ref 92), (1, .int (nI i)), (2, .int (nI (j + 1)))]) (by rw [show nI j + 1 = nI (j + 1) from nI_add _ _]) ?_
        refine wq_run1 (pc' := 15) (L' := [(0, .ref 92), (1, .int (nI i)), (2, .int (nI (j + 1)))]) (S' := []) (f' := (up1 (up1 f 129 (upd g ((12 * i) + j) 0)) 92 gx)) rfl ?_
        refine ih (j + 1) _ (by omega) (fun p q hp hq z => ?_) (by omega)
        by_cases c : 12 * p + q = 12 * i + j
        · have e1 : p = i := by omega
          have e2 : q = j := by omega
          rw [e1, e2, upd_s]
          exact congrArg nI (show d0N 268435456 i j = _ from if_pos k_33).symm
        · rw [upd_n c]; exact hg p q hp hq (by omega)
      · have k_33 : ¬ i = j := fun q => c_33 ((nI_eq (a := i) (b := j) (by omega) (by omega)).mpr q)
        refine wq_run1 (pc' := 42) (L' := [(0, .ref 92), (1, .int (nI i)), (2, .int (nI j))]) (S' := [.int 268435456, .int (nI ((12 * i) + j)), .ref 129]) (f' := (up1 (up1 f 129 g) 92 gx)) rfl ?_
        refine wq_ist (j := ((12 * i) + j)) (n := 144) rfl rfl rfl rfl (by omega) (Nat.le_of_ble_eq_true rfl) ?_
        refine wq_h (f' := (up1 (up1 f 129 (upd g ((12 * i) + j) 268435456)) 92 gx)) ((up2_up1_ne (f := (up1 f 129 g)) (g := gx) (k := ((12 * i) + j)) (v := 268435456) (show (129 : Nat) ≠ 92 by decide)).trans (congrArg (fun z => up1 z 92 gx) ((up2_up1_eq f 129 g ((12 * i) + j) 268435456).trans (congrArg (fun z => up1 f 129 z) (rfl))))) ?_
        refine wq_run1 (pc' := 46) (L' := [(0, .ref 92), (1, .int (nI i)), (2, .int ((nI j) + 1))]) (S' := []) (f' := (up1 (up1 f 129 (upd g ((12 * i) + j) 268435456)) 92 gx)) rfl ?_
        refine wq_L (L' := [(0, .ref 92), (1, .int (nI i)), (2, .int (nI (j + 1)))]) (by rw [show nI j + 1 = nI (j + 1) from nI_add _ _]) ?_
        refine wq_run1 (pc' := 15) (L' := [(0, .ref 92), (1, .int (nI i)), (2, .int (nI (j + 1)))]) (S' := []) (f' := (up1 (up1 f 129 (upd g ((12 * i) + j) 268435456)) 92 gx)) rfl ?_
        refine ih (j + 1) _ (by omega) (fun p q hp hq z => ?_) (by omega)
        by_cases c : 12 * p + q = 12 * i + j
        · have e1 : p = i := by omega
          have e2 : q = j := by omega
          rw [e1, e2, upd_s]
          exact congrArg nI (show d0N 268435456 i j = _ from if_neg k_33).symm
        · rw [upd_n c]; exact hg p q hp hq (by omega)
theorem mlp_clrOut {f : HI} {gx : Nat → Int32} : ∀ (m9 : Nat) (i : Nat) (g : Nat → Int32), (i ≤ 12) → (∀ p q, p < 12 → q < 12 → (p < i) → g (12 * p + q) = nI (d0N 268435456 p q)) → 12 - i < m9 → wq 1 191 (fun v f' => ∃ g, v = none ∧ f' = up1 (up1 f 129 g) 92 gx ∧ ∀ p q, p < 12 → q < 12 → g (12 * p + q) = nI (d0N 268435456 p q)) 7 [(0, .ref 92), (1, .int (nI i))] [] (up1 (up1 f 129 g) 92 gx) := by
  intro m9
  induction m9 with
  | zero => intro i g hi hg hn; exact absurd hn (Nat.not_lt_zero _)
  | succ m9 ih =>
    intro i g hi hg hn
    refine wq_run2 (pc' := 10) (L' := [(0, .ref 92), (1, .int (nI i))]) (S' := [.int 12, .int (nI i)]) (f' := (up1 (up1 f 129 g) 92 gx)) rfl ?_
    refine wq_if (c := 12 ≤ (nI i)) (p1 := 55) (L1 := [(0, .ref 92), (1, .int (nI i))]) (S1 := []) (p2 := 13) (L2 := [(0, .ref 92), (1, .int (nI i))]) (S2 := []) rfl (fun c_10 => ?_) (fun c_10 => ?_)
    · have k_10 : 12 ≤ i := (nI_leI (a := 12) (b := i) (by omega) (by omega)).mp c_10
      exact wq_ret rfl ⟨g, rfl, rfl, fun p q hp hq => hg p q hp hq (by omega)⟩
    · have k_10 : ¬ 12 ≤ i := fun q => c_10 ((nI_leI (a := 12) (b := i) (by omega) (by omega)).mpr q)
      refine wq_run2 (pc' := 15) (L' := [(0, .ref 92), (1, .int (nI i)), (2, .int 0)]) (S' := []) (f' := (up1 (up1 f 129 g) 92 gx)) rfl ?_
      exact mlp_clrIn (by omega) (fun g h => ih (i + 1) g (by omega) h (by omega)) (12 - 0 + 1) 0 g (Nat.zero_le _) (fun p q hp hq z => hg p q hp hq (by omega)) (Nat.lt_succ_self _)
theorem mp_clearDoors (f : HI) (gx : Nat → Int32) : Sp 1 191 [.ref 92] (up1 f 92 gx) (fun v f' => ∃ g, v = none ∧ f' = up1 (up1 f 129 g) 92 (upd gx 54 0) ∧ ∀ p q, p < 12 → q < 12 → g (12 * p + q) = nI (d0N 268435456 p q)) := by
  show wq 1 191 (fun v f' => ∃ g, v = none ∧ f' = up1 (up1 f 129 g) 92 (upd gx 54 0) ∧ ∀ p q, p < 12 → q < 12 → g (12 * p + q) = nI (d0N 268435456 p q)) 0 [(0, .ref 92)] [] (up1 f 92 gx)
  refine wq_run2 (pc' := 2) (L' := [(0, .ref 92)]) (S' := [.int 0, .ref 92]) (f' := (up1 f 92 gx)) rfl ?_
  refine wq_putI rfl rfl ?_
  refine wq_h (f' := (up1 f 92 (upd gx 54 0))) ((up2_up1_eq f 92 gx 54 0).trans (congrArg (fun z => up1 f 92 z) (rfl))) ?_
  refine wq_run2 (pc' := 7) (L' := [(0, .ref 92), (1, .int 0)]) (S' := []) (f' := (up1 f 92 (upd gx 54 0))) rfl ?_
  have h9 := mlp_clrOut (f := f) (gx := upd gx 54 0) (12 - 0 + 1) 0 (f 129) (Nat.zero_le _) (fun _ _ _ _ h => absurd h (Nat.not_lt_zero _)) (Nat.lt_succ_self _)
  rw [up1_id] at h9
  exact h9
theorem mp_doors1 (f : HI) {n : Int32} (h1 : ¬ inR n 1 12) : Sp 2 192 [.ref 92, .int n] f (Ret (-3) f) := by
  show wq 2 192 (Ret (-3) f) 0 [(0, .ref 92), (1, .int n)] [] f
  refine wq_run4 (pc' := 6) (L' := [(0, .ref 92), (1, .int n)]) (S' := [.long 12, .long 1, .long n.toInt64]) (f' := f) rfl ?_
  refine wq_callI (r := (b2i (inR n 1 12))) (mp_in f n 1 12) (Nat.le_of_ble_eq_true rfl) (pc' := 9) (L' := [(0, .ref 92), (1, .int n)]) (S' := []) rfl (Nat.le_of_ble_eq_true rfl) rfl rfl (Nat.le_of_ble_eq_true rfl) (Nat.le_of_ble_eq_true rfl) ?_
  refine wq_if (c := (b2i (inR n 1 12)) = 0) (p1 := 12) (L1 := [(0, .ref 92), (1, .int n)]) (S1 := []) (p2 := 15) (L2 := [(0, .ref 92), (1, .int n)]) (S2 := []) rfl (fun _ => ?_) (fun q => absurd (b2i_0.mpr h1) q)
  refine wq_run1 (pc' := 14) (L' := [(0, .ref 92), (1, .int n)]) (S' := [.int (-3)]) (f' := f) rfl ?_
  exact wq_ret rfl ⟨rfl, rfl⟩
theorem mp_doors2 {f : HI} {n : Int32} (h1 : inR n 1 12) : Sp 2 192 [.ref 92, .int n] f (fun v f' => ∃ g, v = some (.int (f 92 53)) ∧ f' = up1 (up1 f 129 g) 92 (upd (upd (f 92) 53 n) 54 0) ∧ ∀ p q, p < 12 → q < 12 → g (12 * p + q) = nI (d0N 268435456 p q)) := by
  show wq 2 192 (fun v f' => ∃ g, v = some (.int (f 92 53)) ∧ f' = up1 (up1 f 129 g) 92 (upd (upd (f 92) 53 n) 54 0) ∧ ∀ p q, p < 12 → q < 12 → g (12 * p + q) = nI (d0N 268435456 p q)) 0 [(0, .ref 92), (1, .int n)] [] f
  refine wq_run4 (pc' := 6) (L' := [(0, .ref 92), (1, .int n)]) (S' := [.long 12, .long 1, .long n.toInt64]) (f' := f) rfl ?_
  refine wq_callI (r := (b2i (inR n 1 12))) (mp_in f n 1 12) (Nat.le_of_ble_eq_true rfl) (pc' := 9) (L' := [(0, .ref 92), (1, .int n)]) (S' := []) rfl (Nat.le_of_ble_eq_true rfl) rfl rfl (Nat.le_of_ble_eq_true rfl) (Nat.le_of_ble_eq_true rfl) ?_
  refine wq_if (c := (b2i (inR n 1 12)) = 0) (p1 := 12) (L1 := [(0, .ref 92), (1, .int n)]) (S1 := []) (p2 := 15) (L2 := [(0, .ref 92), (1, .int n)]) (S2 := []) rfl (fun q => absurd q (b2i_n0.mpr h1)) (fun _ => ?_)
  refine wq_run5 (pc' := 22) (L' := [(0, .ref 92), (1, .int n), (2, .int (f 92 53))]) (S' := [.int n, .ref 92]) (f' := f) rfl ?_
  refine wq_putI rfl rfl ?_
  refine wq_h (f' := (up1 f 92 (upd (f 92) 53 n))) (up2_eq1 f 92 53 n) ?_
  refine wq_run1 (pc' := 26) (L' := [(0, .ref 92), (1, .int n), (2, .int (f 92 53))]) (S' := [.ref 92]) (f' := (up1 f 92 (upd (f 92) 53 n))) rfl ?_
  refine wq_call (mp_clearDoors f (upd (f 92) 53 n)) (Nat.le_of_ble_eq_true rfl) (pc' := 29) (L' := [(0, .ref 92), (1, .int n), (2, .int (f 92 53))]) (S' := []) rfl (Nat.le_of_ble_eq_true rfl) rfl rfl (Nat.le_of_ble_eq_true rfl) (Nat.le_of_ble_eq_true rfl) ?_
  rintro v f9 ⟨g, e0, ef, hg⟩
  subst e0
  subst ef
  refine wq_run1 (pc' := 30) (L' := [(0, .ref 92), (1, .int n), (2, .int (f 92 53))]) (S' := [.int (f 92 53)]) (f' := (up1 (up1 f 129 g) 92 (upd (upd (f 92) 53 n) 54 0))) rfl ?_
  exact wq_ret rfl ⟨g, rfl, rfl, hg⟩
theorem sp_path1 (f : HI) {a b l : Int32} (h1 : ¬ (inR a 0 (f 77 1 - 1) ∧ inR b 0 (f 77 1 - 1))) : Sp 3 106 [.ref 0, .int a, .int b, .int l] f (Ret (-2) f) := by
  show wq 3 106 (Ret (-2) f) 0 [(0, .ref 0), (1, .int a), (2, .int b), (3, .int l)] [] f
  refine wq_run7 (pc' := 11) (L' := [(0, .ref 0), (1, .int a), (2, .int b), (3, .int l)]) (S' := [.int ((f 77 1) - 1), .int 0, .int a]) (f' := f) rfl ?_
  refine wq_callI (r := (b2i (inR a 0 ((f 77 1) - 1)))) (sp_within f a 0 ((f 77 1) - 1)) (Nat.le_of_ble_eq_true rfl) (pc' := 14) (L' := [(0, .ref 0), (1, .int a), (2, .int b), (3, .int l)]) (S' := []) rfl (Nat.le_of_ble_eq_true rfl) rfl rfl (Nat.le_of_ble_eq_true rfl) (Nat.le_of_ble_eq_true rfl) ?_
  refine wq_if (c := (b2i (inR a 0 ((f 77 1) - 1))) = 0) (p1 := 34) (L1 := [(0, .ref 0), (1, .int a), (2, .int b), (3, .int l)]) (S1 := []) (p2 := 17) (L2 := [(0, .ref 0), (1, .int a), (2, .int b), (3, .int l)]) (S2 := []) rfl (fun c_14 => ?_) (fun c_14 => ?_)
  · have h_14 := b2i_0.mp c_14
    refine wq_run1 (pc' := 36) (L' := [(0, .ref 0), (1, .int a), (2, .int b), (3, .int l)]) (S' := [.int (-2)]) (f' := f) rfl ?_
    exact wq_ret rfl ⟨rfl, rfl⟩
  · have h_14 := b2i_n0.mp c_14
    refine wq_run7 (pc' := 28) (L' := [(0, .ref 0), (1, .int a), (2, .int b), (3, .int l)]) (S' := [.int ((f 77 1) - 1), .int 0, .int b]) (f' := f) rfl ?_
    refine wq_callI (r := (b2i (inR b 0 ((f 77 1) - 1)))) (sp_within f b 0 ((f 77 1) - 1)) (Nat.le_of_ble_eq_true rfl) (pc' := 31) (L' := [(0, .ref 0), (1, .int a), (2, .int b), (3, .int l)]) (S' := []) rfl (Nat.le_of_ble_eq_true rfl) rfl rfl (Nat.le_of_ble_eq_true rfl) (Nat.le_of_ble_eq_true rfl) ?_
    refine wq_if (c := (b2i (inR b 0 ((f 77 1) - 1))) = 0) (p1 := 34) (L1 := [(0, .ref 0), (1, .int a), (2, .int b), (3, .int l)]) (S1 := []) (p2 := 37) (L2 := [(0, .ref 0), (1, .int a), (2, .int b), (3, .int l)]) (S2 := []) rfl (fun c_31 => ?_) (fun c_31 => ?_)
    · have h_31 := b2i_0.mp c_31
      refine wq_run1 (pc' := 36) (L' := [(0, .ref 0), (1, .int a), (2, .int b), (3, .int l)]) (S' := [.int (-2)]) (f' := f) rfl ?_
      exact wq_ret rfl ⟨rfl, rfl⟩
    · have h_31 := b2i_n0.mp c_31
      exact absurd ⟨h_14, h_31⟩ h1
theorem sp_path2 (f : HI) {a b l : Int32} (h1 : inR a 0 (f 77 1 - 1) ∧ inR b 0 (f 77 1 - 1)) (h2 : ¬ (¬ a = b ∧ inR l 1 30)) : Sp 3 106 [.ref 0, .int a, .int b, .int l] f (Ret (-3) f) := by
  show wq 3 106 (Ret (-3) f) 0 [(0, .ref 0), (1, .int a), (2, .int b), (3, .int l)] [] f
  refine wq_run7 (pc' := 11) (L' := [(0, .ref 0), (1, .int a), (2, .int b), (3, .int l)]) (S' := [.int ((f 77 1) - 1), .int 0, .int a]) (f' := f) rfl ?_
  refine wq_callI (r := (b2i (inR a 0 ((f 77 1) - 1)))) (sp_within f a 0 ((f 77 1) - 1)) (Nat.le_of_ble_eq_true rfl) (pc' := 14) (L' := [(0, .ref 0), (1, .int a), (2, .int b), (3, .int l)]) (S' := []) rfl (Nat.le_of_ble_eq_true rfl) rfl rfl (Nat.le_of_ble_eq_true rfl) (Nat.le_of_ble_eq_true rfl) ?_
  refine wq_if (c := (b2i (inR a 0 ((f 77 1) - 1))) = 0) (p1 := 34) (L1 := [(0, .ref 0), (1, .int a), (2, .int b), (3, .int l)]) (S1 := []) (p2 := 17) (L2 := [(0, .ref 0), (1, .int a), (2, .int b), (3, .int l)]) (S2 := []) rfl (fun q => absurd q (b2i_n0.mpr h1.1)) (fun _ => ?_)
  refine wq_run7 (pc' := 28) (L' := [(0, .ref 0), (1, .int a), (2, .int b), (3, .int l)]) (S' := [.int ((f 77 1) - 1), .int 0, .int b]) (f' := f) rfl ?_
  refine wq_callI (r := (b2i (inR b 0 ((f 77 1) - 1)))) (sp_within f b 0 ((f 77 1) - 1)) (Nat.le_of_ble_eq_true rfl) (pc' := 31) (L' := [(0, .ref 0), (1, .int a), (2, .int b), (3, .int l)]) (S' := []) rfl (Nat.le_of_ble_eq_true rfl) rfl rfl (Nat.le_of_ble_eq_true rfl) (Nat.le_of_ble_eq_true rfl) ?_
  refine wq_if (c := (b2i (inR b 0 ((f 77 1) - 1))) = 0) (p1 := 34) (L1 := [(0, .ref 0), (1, .int a), (2, .int b), (3, .int l)]) (S1 := []) (p2 := 37) (L2 := [(0, .ref 0), (1, .int a), (2, .int b), (3, .int l)]) (S2 := []) rfl (fun q => absurd q (b2i_n0.mpr h1.2)) (fun _ => ?_)
  refine wq_run2 (pc' := 39) (L' := [(0, .ref 0), (1, .int a), (2, .int b), (3, .int l)]) (S' := [.int b, .int a]) (f' := f) rfl ?_
  refine wq_if (c := a = b) (p1 := 52) (L1 := [(0, .ref 0), (1, .int a), (2, .int b), (3, .int l)]) (S1 := []) (p2 := 42) (L2 := [(0, .ref 0), (1, .int a), (2, .int b), (3, .int l)]) (S2 := []) rfl (fun c_39 => ?_) (fun c_39 => ?_)
  · refine wq_run1 (pc' := 54) (L' := [(0, .ref 0), (1, .int a), (2, .int b), (3, .int l)]) (S' := [.int (-3)]) (f' := f) rfl ?_
    exact wq_ret rfl ⟨rfl, rfl⟩
  · refine wq_run3 (pc' := 46) (L' := [(0, .ref 0), (1, .int a), (2, .int b), (3, .int l)]) (S' := [.int 30, .int 1, .int l]) (f' := f) rfl ?_
    refine wq_callI (r := (b2i (inR l 1 30))) (sp_within f l 1 30) (Nat.le_of_ble_eq_true rfl) (pc' := 49) (L' := [(0, .ref 0), (1, .int a), (2, .int b), (3, .int l)]) (S' := []) rfl (Nat.le_of_ble_eq_true rfl) rfl rfl (Nat.le_of_ble_eq_true rfl) (Nat.le_of_ble_eq_true rfl) ?_
    refine wq_if (c := (b2i (inR l 1 30)) = 0) (p1 := 52) (L1 := [(0, .ref 0), (1, .int a), (2, .int b), (3, .int l)]) (S1 := []) (p2 := 55) (L2 := [(0, .ref 0), (1, .int a), (2, .int b), (3, .int l)]) (S2 := []) rfl (fun c_49 => ?_) (fun c_49 => ?_)
    · have h_49 := b2i_0.mp c_49
      refine wq_run1 (pc' := 54) (L' := [(0, .ref 0), (1, .int a), (2, .int b), (3, .int l)]) (S' := [.int (-3)]) (f' := f) rfl ?_
      exact wq_ret rfl ⟨rfl, rfl⟩
    · have h_49 := b2i_n0.mp c_49
      exact absurd ⟨c_39, h_49⟩ h2
theorem sp_path3 (f : HI) {a b l : Int32} (h1 : inR a 0 (f 77 1 - 1) ∧ inR b 0 (f 77 1 - 1)) (h2 : ¬ a = b ∧ inR l 1 30) (h3 : ¬ f 77 2 < 24) : Sp 3 106 [.ref 0, .int a, .int b, .int l] f (Ret (-5) f) := by
  show wq 3 106 (Ret (-5) f) 0 [(0, .ref 0), (1, .int a), (2, .int b), (3, .int l)] [] f
  refine wq_run7 (pc' := 11) (L' := [(0, .ref 0), (1, .int a), (2, .int b), (3, .int l)]) (S' := [.int ((f 77 1) - 1), .int 0, .int a]) (f' := f) rfl ?_
  refine wq_callI (r := (b2i (inR a 0 ((f 77 1) - 1)))) (sp_within f a 0 ((f 77 1) - 1)) (Nat.le_of_ble_eq_true rfl) (pc' := 14) (L' := [(0, .ref 0), (1, .int a), (2, .int b), (3, .int l)]) (S' := []) rfl (Nat.le_of_ble_eq_true rfl) rfl rfl (Nat.le_of_ble_eq_true rfl) (Nat.le_of_ble_eq_true rfl) ?_
  refine wq_if (c := (b2i (inR a 0 ((f 77 1) - 1))) = 0) (p1 := 34) (L1 := [(0, .ref 0), (1, .int a), (2, .int b), (3, .int l)]) (S1 := []) (p2 := 17) (L2 := [(0, .ref 0), (1, .int a), (2, .int b), (3, .int l)]) (S2 := []) rfl (fun q => absurd q (b2i_n0.mpr h1.1)) (fun _ => ?_)
  refine wq_run7 (pc' := 28) (L' := [(0, .ref 0), (1, .int a), (2, .int b), (3, .int l)]) (S' := [.int ((f 77 1) - 1), .int 0, .int b]) (f' := f) rfl ?_
  refine wq_callI (r := (b2i (inR b 0 ((f 77 1) - 1)))) (sp_within f b 0 ((f 77 1) - 1)) (Nat.le_of_ble_eq_true rfl) (pc' := 31) (L' := [(0, .ref 0), (1, .int a), (2, .int b), (3, .int l)]) (S' := []) rfl (Nat.le_of_ble_eq_true rfl) rfl rfl (Nat.le_of_ble_eq_true rfl) (Nat.le_of_ble_eq_true rfl) ?_
  refine wq_if (c := (b2i (inR b 0 ((f 77 1) - 1))) = 0) (p1 := 34) (L1 := [(0, .ref 0), (1, .int a), (2, .int b), (3, .int l)]) (S1 := []) (p2 := 37) (L2 := [(0, .ref 0), (1, .int a), (2, .int b), (3, .int l)]) (S2 := []) rfl (fun q => absurd q (b2i_n0.mpr h1.2)) (fun _ => ?_)
  refine wq_run2 (pc' := 39) (L' := [(0, .ref 0), (1, .int a), (2, .int b), (3, .int l)]) (S' := [.int b, .int a]) (f' := f) rfl ?_
  refine wq_if (c := a = b) (p1 := 52) (L1 := [(0, .ref 0), (1, .int a), (2, .int b), (3, .int l)]) (S1 := []) (p2 := 42) (L2 := [(0, .ref 0), (1, .int a), (2, .int b), (3, .int l)]) (S2 := []) rfl (fun q => absurd q h2.1) (fun _ => ?_)
  refine wq_run3 (pc' := 46) (L' := [(0, .ref 0), (1, .int a), (2, .int b), (3, .int l)]) (S' := [.int 30, .int 1, .int l]) (f' := f) rfl ?_
  refine wq_callI (r := (b2i (inR l 1 30))) (sp_within f l 1 30) (Nat.le_of_ble_eq_true rfl) (pc' := 49) (L' := [(0, .ref 0), (1, .int a), (2, .int b), (3, .int l)]) (S' := []) rfl (Nat.le_of_ble_eq_true rfl) rfl rfl (Nat.le_of_ble_eq_true rfl) (Nat.le_of_ble_eq_true rfl) ?_
  refine wq_if (c := (b2i (inR l 1 30)) = 0) (p1 := 52) (L1 := [(0, .ref 0), (1, .int a), (2, .int b), (3, .int l)]) (S1 := []) (p2 := 55) (L2 := [(0, .ref 0), (1, .int a), (2, .int b), (3, .int l)]) (S2 := []) rfl (fun q => absurd q (b2i_n0.mpr h2.2)) (fun _ => ?_)
  refine wq_run4 (pc' := 64) (L' := [(0, .ref 0), (1, .int a), (2, .int b), (3, .int l)]) (S' := [.int 24, .int (f 77 2)]) (f' := f) rfl ?_
  refine wq_if (c := (f 77 2) < 24) (p1 := 70) (L1 := [(0, .ref 0), (1, .int a), (2, .int b), (3, .int l)]) (S1 := []) (p2 := 67) (L2 := [(0, .ref 0), (1, .int a), (2, .int b), (3, .int l)]) (S2 := []) rfl (fun q => absurd q h3) (fun _ => ?_)
  refine wq_run1 (pc' := 69) (L' := [(0, .ref 0), (1, .int a), (2, .int b), (3, .int l)]) (S' := [.int (-5)]) (f' := f) rfl ?_
  exact wq_ret rfl ⟨rfl, rfl⟩
theorem mp_path1 (f : HI) {a b l : Int32} (h1 : ¬ (inR a 0 (f 92 53 - 1) ∧ inR b 0 (f 92 53 - 1))) : Sp 3 194 [.ref 92, .int a, .int b, .int l] f (Ret (-2) f) := by
  show wq 3 194 (Ret (-2) f) 0 [(0, .ref 92), (1, .int a), (2, .int b), (3, .int l)] [] f
  refine wq_run2 (pc' := 2) (L' := [(0, .ref 92), (1, .int a), (2, .int b), (3, .int l)]) (S' := [.int a, .ref 92]) (f' := f) rfl ?_
  refine wq_callI (r := (b2i (inR a 0 ((f 92 53) - 1)))) (mp_isDoor f a) (Nat.le_of_ble_eq_true rfl) (pc' := 5) (L' := [(0, .ref 92), (1, .int a), (2, .int b), (3, .int l)]) (S' := []) rfl (Nat.le_of_ble_eq_true rfl) rfl rfl (Nat.le_of_ble_eq_true rfl) (Nat.le_of_ble_eq_true rfl) ?_
  refine wq_if (c := (b2i (inR a 0 ((f 92 53) - 1))) = 0) (p1 := 16) (L1 := [(0, .ref 92), (1, .int a), (2, .int b), (3, .int l)]) (S1 := []) (p2 := 8) (L2 := [(0, .ref 92), (1, .int a), (2, .int b), (3, .int l)]) (S2 := []) rfl (fun c_5 => ?_) (fun c_5 => ?_)
  · have h_5 := b2i_0.mp c_5
    refine wq_run1 (pc' := 18) (L' := [(0, .ref 92), (1, .int a), (2, .int b), (3, .int l)]) (S' := [.int (-2)]) (f' := f) rfl ?_
    exact wq_ret rfl ⟨rfl, rfl⟩
  · have h_5 := b2i_n0.mp c_5
    refine wq_run2 (pc' := 10) (L' := [(0, .ref 92), (1, .int a), (2, .int b), (3, .int l)]) (S' := [.int b, .ref 92]) (f' := f) rfl ?_
    refine wq_callI (r := (b2i (inR b 0 ((f 92 53) - 1)))) (mp_isDoor f b) (Nat.le_of_ble_eq_true rfl) (pc' := 13) (L' := [(0, .ref 92), (1, .int a), (2, .int b), (3, .int l)]) (S' := []) rfl (Nat.le_of_ble_eq_true rfl) rfl rfl (Nat.le_of_ble_eq_true rfl) (Nat.le_of_ble_eq_true rfl) ?_
    refine wq_if (c := (b2i (inR b 0 ((f 92 53) - 1))) = 0) (p1 := 16) (L1 := [(0, .ref 92), (1, .int a), (2, .int b), (3, .int l)]) (S1 := []) (p2 := 19) (L2 := [(0, .ref 92), (1, .int a), (2, .int b), (3, .int l)]) (S2 := []) rfl (fun c_13 => ?_) (fun c_13 => ?_)
    · have h_13 := b2i_0.mp c_13
      refine wq_run1 (pc' := 18) (L' := [(0, .ref 92), (1, .int a), (2, .int b), (3, .int l)]) (S' := [.int (-2)]) (f' := f) rfl ?_
      exact wq_ret rfl ⟨rfl, rfl⟩
    · have h_13 := b2i_n0.mp c_13
      exact absurd ⟨h_5, h_13⟩ h1
theorem mp_path2 (f : HI) {a b l : Int32} (h1 : inR a 0 (f 92 53 - 1) ∧ inR b 0 (f 92 53 - 1)) (h2 : ¬ (¬ a = b ∧ inR l 1 30)) : Sp 3 194 [.ref 92, .int a, .int b, .int l] f (Ret (-3) f) := by
  show wq 3 194 (Ret (-3) f) 0 [(0, .ref 92), (1, .int a), (2, .int b), (3, .int l)] [] f
  refine wq_run2 (pc' := 2) (L' := [(0, .ref 92), (1, .int a), (2, .int b), (3, .int l)]) (S' := [.int a, .ref 92]) (f' := f) rfl ?_
  refine wq_callI (r := (b2i (inR a 0 ((f 92 53) - 1)))) (mp_isDoor f a) (Nat.le_of_ble_eq_true rfl) (pc' := 5) (L' := [(0, .ref 92), (1, .int a), (2, .int b), (3, .int l)]) (S' := []) rfl (Nat.le_of_ble_eq_true rfl) rfl rfl (Nat.le_of_ble_eq_true rfl) (Nat.le_of_ble_eq_true rfl) ?_
  refine wq_if (c := (b2i (inR a 0 ((f 92 53) - 1))) = 0) (p1 := 16) (L1 := [(0, .ref 92), (1, .int a), (2, .int b), (3, .int l)]) (S1 := []) (p2 := 8) (L2 := [(0, .ref 92), (1, .int a), (2, .int b), (3, .int l)]) (S2 := []) rfl (fun q => absurd q (b2i_n0.mpr h1.1)) (fun _ => ?_)
  refine wq_run2 (pc' := 10) (L' := [(0, .ref 92), (1, .int a), (2, .int b), (3, .int l)]) (S' := [.int b, .ref 92]) (f' := f) rfl ?_
  refine wq_callI (r := (b2i (inR b 0 ((f 92 53) - 1)))) (mp_isDoor f b) (Nat.le_of_ble_eq_true rfl) (pc' := 13) (L' := [(0, .ref 92), (1, .int a), (2, .int b), (3, .int l)]) (S' := []) rfl (Nat.le_of_ble_eq_true rfl) rfl rfl (Nat.le_of_ble_eq_true rfl) (Nat.le_of_ble_eq_true rfl) ?_
  refine wq_if (c := (b2i (inR b 0 ((f 92 53) - 1))) = 0) (p1 := 16) (L1 := [(0, .ref 92), (1, .int a), (2, .int b), (3, .int l)]) (S1 := []) (p2 := 19) (L2 := [(0, .ref 92), (1, .int a), (2, .int b), (3, .int l)]) (S2 := []) rfl (fun q => absurd q (b2i_n0.mpr h1.2)) (fun _ => ?_)
  refine wq_run2 (pc' := 21) (L' := [(0, .ref 92), (1, .int a), (2, .int b), (3, .int l)]) (S' := [.int b, .int a]) (f' := f) rfl ?_
  refine wq_if (c := a = b) (p1 := 36) (L1 := [(0, .ref 92), (1, .int a), (2, .int b), (3, .int l)]) (S1 := []) (p2 := 24) (L2 := [(0, .ref 92), (1, .int a), (2, .int b), (3, .int l)]) (S2 := []) rfl (fun c_21 => ?_) (fun c_21 => ?_)
  · refine wq_run1 (pc' := 38) (L' := [(0, .ref 92), (1, .int a), (2, .int b), (3, .int l)]) (S' := [.int (-3)]) (f' := f) rfl ?_
    exact wq_ret rfl ⟨rfl, rfl⟩
  · refine wq_run4 (pc' := 30) (L' := [(0, .ref 92), (1, .int a), (2, .int b), (3, .int l)]) (S' := [.long 30, .long 1, .long l.toInt64]) (f' := f) rfl ?_
    refine wq_callI (r := (b2i (inR l 1 30))) (mp_in f l 1 30) (Nat.le_of_ble_eq_true rfl) (pc' := 33) (L' := [(0, .ref 92), (1, .int a), (2, .int b), (3, .int l)]) (S' := []) rfl (Nat.le_of_ble_eq_true rfl) rfl rfl (Nat.le_of_ble_eq_true rfl) (Nat.le_of_ble_eq_true rfl) ?_
    refine wq_if (c := (b2i (inR l 1 30)) = 0) (p1 := 36) (L1 := [(0, .ref 92), (1, .int a), (2, .int b), (3, .int l)]) (S1 := []) (p2 := 39) (L2 := [(0, .ref 92), (1, .int a), (2, .int b), (3, .int l)]) (S2 := []) rfl (fun c_33 => ?_) (fun c_33 => ?_)
    · have h_33 := b2i_0.mp c_33
      refine wq_run1 (pc' := 38) (L' := [(0, .ref 92), (1, .int a), (2, .int b), (3, .int l)]) (S' := [.int (-3)]) (f' := f) rfl ?_
      exact wq_ret rfl ⟨rfl, rfl⟩
    · have h_33 := b2i_n0.mp c_33
      exact absurd ⟨c_21, h_33⟩ h2
theorem mp_path3 (f : HI) {a b l : Int32} (h1 : inR a 0 (f 92 53 - 1) ∧ inR b 0 (f 92 53 - 1)) (h2 : ¬ a = b ∧ inR l 1 30) (h3 : f 92 54 = 24) : Sp 3 194 [.ref 92, .int a, .int b, .int l] f (Ret (-5) f) := by
  show wq 3 194 (Ret (-5) f) 0 [(0, .ref 92), (1, .int a), (2, .int b), (3, .int l)] [] f
  refine wq_run2 (pc' := 2) (L' := [(0, .ref 92), (1, .int a), (2, .int b), (3, .int l)]) (S' := [.int a, .ref 92]) (f' := f) rfl ?_
  refine wq_callI (r := (b2i (inR a 0 ((f 92 53) - 1)))) (mp_isDoor f a) (Nat.le_of_ble_eq_true rfl) (pc' := 5) (L' := [(0, .ref 92), (1, .int a), (2, .int b), (3, .int l)]) (S' := []) rfl (Nat.le_of_ble_eq_true rfl) rfl rfl (Nat.le_of_ble_eq_true rfl) (Nat.le_of_ble_eq_true rfl) ?_
  refine wq_if (c := (b2i (inR a 0 ((f 92 53) - 1))) = 0) (p1 := 16) (L1 := [(0, .ref 92), (1, .int a), (2, .int b), (3, .int l)]) (S1 := []) (p2 := 8) (L2 := [(0, .ref 92), (1, .int a), (2, .int b), (3, .int l)]) (S2 := []) rfl (fun q => absurd q (b2i_n0.mpr h1.1)) (fun _ => ?_)
  refine wq_run2 (pc' := 10) (L' := [(0, .ref 92), (1, .int a), (2, .int b), (3, .int l)]) (S' := [.int b, .ref 92]) (f' := f) rfl ?_
  refine wq_callI (r := (b2i (inR b 0 ((f 92 53) - 1)))) (mp_isDoor f b) (Nat.le_of_ble_eq_true rfl) (pc' := 13) (L' := [(0, .ref 92), (1, .int a), (2, .int b), (3, .int l)]) (S' := []) rfl (Nat.le_of_ble_eq_true rfl) rfl rfl (Nat.le_of_ble_eq_true rfl) (Nat.le_of_ble_eq_true rfl) ?_
  refine wq_if (c := (b2i (inR b 0 ((f 92 53) - 1))) = 0) (p1 := 16) (L1 := [(0, .ref 92), (1, .int a), (2, .int b), (3, .int l)]) (S1 := []) (p2 := 19) (L2 := [(0, .ref 92), (1, .int a), (2, .int b), (3, .int l)]) (S2 := []) rfl (fun q => absurd q (b2i_n0.mpr h1.2)) (fun _ => ?_)
  refine wq_run2 (pc' := 21) (L' := [(0, .ref 92), (1, .int a), (2, .int b), (3, .int l)]) (S' := [.int b, .int a]) (f' := f) rfl ?_
  refine wq_if (c := a = b) (p1 := 36) (L1 := [(0, .ref 92), (1, .int a), (2, .int b), (3, .int l)]) (S1 := []) (p2 := 24) (L2 := [(0, .ref 92), (1, .int a), (2, .int b), (3, .int l)]) (S2 := []) rfl (fun q => absurd q h2.1) (fun _ => ?_)
  refine wq_run4 (pc' := 30) (L' := [(0, .ref 92), (1, .int a), (2, .int b), (3, .int l)]) (S' := [.long 30, .long 1, .long l.toInt64]) (f' := f) rfl ?_
  refine wq_callI (r := (b2i (inR l 1 30))) (mp_in f l 1 30) (Nat.le_of_ble_eq_true rfl) (pc' := 33) (L' := [(0, .ref 92), (1, .int a), (2, .int b), (3, .int l)]) (S' := []) rfl (Nat.le_of_ble_eq_true rfl) rfl rfl (Nat.le_of_ble_eq_true rfl) (Nat.le_of_ble_eq_true rfl) ?_
  refine wq_if (c := (b2i (inR l 1 30)) = 0) (p1 := 36) (L1 := [(0, .ref 92), (1, .int a), (2, .int b), (3, .int l)]) (S1 := []) (p2 := 39) (L2 := [(0, .ref 92), (1, .int a), (2, .int b), (3, .int l)]) (S2 := []) rfl (fun q => absurd q (b2i_n0.mpr h2.2)) (fun _ => ?_)
  refine wq_run3 (pc' := 45) (L' := [(0, .ref 92), (1, .int a), (2, .int b), (3, .int l)]) (S' := [.int 24, .int (f 92 54)]) (f' := f) rfl ?_
  refine wq_if (c := (f 92 54) = 24) (p1 := 48) (L1 := [(0, .ref 92), (1, .int a), (2, .int b), (3, .int l)]) (S1 := []) (p2 := 51) (L2 := [(0, .ref 92), (1, .int a), (2, .int b), (3, .int l)]) (S2 := []) rfl (fun _ => ?_) (fun q => absurd h3 q)
  refine wq_run1 (pc' := 50) (L' := [(0, .ref 92), (1, .int a), (2, .int b), (3, .int l)]) (S' := [.int (-5)]) (f' := f) rfl ?_
  exact wq_ret rfl ⟨rfl, rfl⟩
theorem sp_addPath {f : HI} {n a b l c : Nat} {D : Nat → Nat → Nat} (ha : a < n) (hb : b < n) (hab : a ≠ b) (hl : 1 ≤ l ∧ l ≤ 30) (hn12 : n ≤ 12) (hc : c < 24) (hsz : f 78 0 = 12) (hD : Mt 12 100000000 30 D) (hr : ∀ p q, p < 12 → q < 12 → f 79 (p * 12 + q) = nI (D p q)) (hp : f 77 2 = nI c) : Sp 3 57 [.ref 77, .int (nI a), .int (nI b), .int (nI l)] f (fun v f' => ∃ dd, v = some (.int (nI (c + 1))) ∧ f' = (up1 (up1 f 77 (upd (f 77) 2 (nI (c + 1)))) 79 dd) ∧ ∀ p q, p < 12 → q < 12 → dd (p * 12 + q) = nI (jnD D a b l p q)) := by
  show wq 3 57 (fun v f' => ∃ dd, v = some (.int (nI (c + 1))) ∧ f' = (up1 (up1 f 77 (upd (f 77) 2 (nI (c + 1)))) 79 dd) ∧ ∀ p q, p < 12 → q < 12 → dd (p * 12 + q) = nI (jnD D a b l p q)) 0 [(0, .ref 77), (1, .int (nI a)), (2, .int (nI b)), (3, .int (nI l))] [] f
  refine wq_run5 (pc' := 7) (L' := [(0, .ref 77), (1, .int (nI a)), (2, .int (nI b)), (3, .int (nI l))]) (S' := [.int (nI l), .int (nI b), .int (nI a), .ref 78]) (f' := f) rfl ?_
  refine wq_call (sp_joinS (f := f) (D := D) (a := a) (b := b) (l := l) hsz hD (by omega) (by omega) hab hl.1 hl.2 hr) (Nat.le_of_ble_eq_true rfl) (pc' := 10) (L' := [(0, .ref 77), (1, .int (nI a)), (2, .int (nI b)), (3, .int (nI l))]) (S' := []) rfl (Nat.le_of_ble_eq_true rfl) rfl rfl (Nat.le_of_ble_eq_true rfl) (Nat.le_of_ble_eq_true rfl) ?_
  rintro v f9 ⟨dd, e0, ef, hdd⟩
  subst e0
  subst ef
  refine wq_run3 (pc' := 15) (L' := [(0, .ref 77), (1, .int (nI a)), (2, .int (nI b)), (3, .int (nI l))]) (S' := [.int (f 77 2), .ref 77]) (f' := (up1 f 79 dd)) rfl ?_
  refine wq_v (y := (nI c)) (hp) ?_
  refine wq_run2 (pc' := 17) (L' := [(0, .ref 77), (1, .int (nI a)), (2, .int (nI b)), (3, .int (nI l))]) (S' := [.int ((nI c) + 1), .ref 77]) (f' := (up1 f 79 dd)) rfl ?_
  refine wq_v (y := (nI (c + 1))) (nI_add c 1) ?_
  refine wq_putI rfl rfl ?_
  refine wq_h (f' := (up1 (up1 f 77 (upd (f 77) 2 (nI (c + 1)))) 79 dd)) ((up2_up1_ne (f := f) (g := dd) (k := 2) (v := (nI (c + 1))) (show (77 : Nat) ≠ 79 by decide)).trans (congrArg (fun z => up1 z 79 dd) (up2_eq1 f 77 2 (nI (c + 1))))) ?_
  refine wq_run2 (pc' := 24) (L' := [(0, .ref 77), (1, .int (nI a)), (2, .int (nI b)), (3, .int (nI l))]) (S' := [.int (nI (c + 1))]) (f' := (up1 (up1 f 77 (upd (f 77) 2 (nI (c + 1)))) 79 dd)) rfl ?_
  exact wq_ret rfl ⟨dd, rfl, rfl, hdd⟩
theorem sp_path4 {f : HI} {n a b l c : Nat} {D : Nat → Nat → Nat} (ha : a < n) (hb : b < n) (hab : a ≠ b) (hl : 1 ≤ l ∧ l ≤ 30) (hn12 : n ≤ 12) (hc : c < 24) (hsz : f 78 0 = 12) (hD : Mt 12 100000000 30 D) (hr : ∀ p q, p < 12 → q < 12 → f 79 (p * 12 + q) = nI (D p q)) (hp : f 77 2 = nI c) (h1 : inR (nI a) 0 (f 77 1 - 1) ∧ inR (nI b) 0 (f 77 1 - 1)) : Sp 4 106 [.ref 0, .int (nI a), .int (nI b), .int (nI l)] f (fun v f' => ∃ dd, v = some (.int (nI (c + 1))) ∧ f' = (up1 (up1 f 77 (upd (f 77) 2 (nI (c + 1)))) 79 dd) ∧ ∀ p q, p < 12 → q < 12 → dd (p * 12 + q) = nI (jnD D a b l p q)) := by
  show wq 4 106 (fun v f' => ∃ dd, v = some (.int (nI (c + 1))) ∧ f' = (up1 (up1 f 77 (upd (f 77) 2 (nI (c + 1)))) 79 dd) ∧ ∀ p q, p < 12 → q < 12 → dd (p * 12 + q) = nI (jnD D a b l p q)) 0 [(0, .ref 0), (1, .int (nI a)), (2, .int (nI b)), (3, .int (nI l))] [] f
  have hab2 : ¬ nI a = nI b := fun q => hab ((nI_eq (by omega) (by omega)).mp q)
  have hl2 : inR (nI l) 1 30 := ⟨(nI_leI (a := 1) (b := l) (by omega) (by omega)).mpr hl.1, (nI_leI (a := l) (b := 30) (by omega) (by omega)).mpr hl.2⟩
  refine wq_run7 (pc' := 11) (L' := [(0, .ref 0), (1, .int (nI a)), (2, .int (nI b)), (3, .int (nI l))]) (S' := [.int ((f 77 1) - 1), .int 0, .int (nI a)]) (f' := f) rfl ?_
  refine wq_callI (r := (b2i (inR (nI a) 0 ((f 77 1) - 1)))) (sp_within f (nI a) 0 ((f 77 1) - 1)) (Nat.le_of_ble_eq_true rfl) (pc' := 14) (L' := [(0, .ref 0), (1, .int (nI a)), (2, .int (nI b)), (3, .int (nI l))]) (S' := []) rfl (Nat.le_of_ble_eq_true rfl) rfl rfl (Nat.le_of_ble_eq_true rfl) (Nat.le_of_ble_eq_true rfl) ?_
  refine wq_if (c := (b2i (inR (nI a) 0 ((f 77 1) - 1))) = 0) (p1 := 34) (L1 := [(0, .ref 0), (1, .int (nI a)), (2, .int (nI b)), (3, .int (nI l))]) (S1 := []) (p2 := 17) (L2 := [(0, .ref 0), (1, .int (nI a)), (2, .int (nI b)), (3, .int (nI l))]) (S2 := []) rfl (fun q => absurd q (b2i_n0.mpr h1.1)) (fun _ => ?_)
  refine wq_run7 (pc' := 28) (L' := [(0, .ref 0), (1, .int (nI a)), (2, .int (nI b)), (3, .int (nI l))]) (S' := [.int ((f 77 1) - 1), .int 0, .int (nI b)]) (f' := f) rfl ?_
  refine wq_callI (r := (b2i (inR (nI b) 0 ((f 77 1) - 1)))) (sp_within f (nI b) 0 ((f 77 1) - 1)) (Nat.le_of_ble_eq_true rfl) (pc' := 31) (L' := [(0, .ref 0), (1, .int (nI a)), (2, .int (nI b)), (3, .int (nI l))]) (S' := []) rfl (Nat.le_of_ble_eq_true rfl) rfl rfl (Nat.le_of_ble_eq_true rfl) (Nat.le_of_ble_eq_true rfl) ?_
  refine wq_if (c := (b2i (inR (nI b) 0 ((f 77 1) - 1))) = 0) (p1 := 34) (L1 := [(0, .ref 0), (1, .int (nI a)), (2, .int (nI b)), (3, .int (nI l))]) (S1 := []) (p2 := 37) (L2 := [(0, .ref 0), (1, .int (nI a)), (2, .int (nI b)), (3, .int (nI l))]) (S2 := []) rfl (fun q => absurd q (b2i_n0.mpr h1.2)) (fun _ => ?_)
  refine wq_run2 (pc' := 39) (L' := [(0, .ref 0), (1, .int (nI a)), (2, .int (nI b)), (3, .int (nI l))]) (S' := [.int (nI b), .int (nI a)]) (f' := f) rfl ?_
  refine wq_if (c := (nI a) = (nI b)) (p1 := 52) (L1 := [(0, .ref 0), (1, .int (nI a)), (2, .int (nI b)), (3, .int (nI l))]) (S1 := []) (p2 := 42) (L2 := [(0, .ref 0), (1, .int (nI a)), (2, .int (nI b)), (3, .int (nI l))]) (S2 := []) rfl (fun q => absurd q (fun q => absurd ((nI_eq (a := a) (b := b) (by omega) (by omega)).mp q) (by omega))) (fun _ => ?_)
  refine wq_run3 (pc' := 46) (L' := [(0, .ref 0), (1, .int (nI a)), (2, .int (nI b)), (3, .int (nI l))]) (S' := [.int 30, .int 1, .int (nI l)]) (f' := f) rfl ?_
  refine wq_callI (r := (b2i (inR (nI l) 1 30))) (sp_within f (nI l) 1 30) (Nat.le_of_ble_eq_true rfl) (pc' := 49) (L' := [(0, .ref 0), (1, .int (nI a)), (2, .int (nI b)), (3, .int (nI l))]) (S' := []) rfl (Nat.le_of_ble_eq_true rfl) rfl rfl (Nat.le_of_ble_eq_true rfl) (Nat.le_of_ble_eq_true rfl) ?_
  refine wq_if (c := (b2i (inR (nI l) 1 30)) = 0) (p1 := 52) (L1 := [(0, .ref 0), (1, .int (nI a)), (2, .int (nI b)), (3, .int (nI l))]) (S1 := []) (p2 := 55) (L2 := [(0, .ref 0), (1, .int (nI a)), (2, .int (nI b)), (3, .int (nI l))]) (S2 := []) rfl (fun q => absurd q (b2i_n0.mpr hl2)) (fun _ => ?_)
  refine wq_run3 (pc' := 62) (L' := [(0, .ref 0), (1, .int (nI a)), (2, .int (nI b)), (3, .int (nI l))]) (S' := [.int (f 77 2)]) (f' := f) rfl ?_
  refine wq_v (y := (nI c)) (hp) ?_
  refine wq_run1 (pc' := 64) (L' := [(0, .ref 0), (1, .int (nI a)), (2, .int (nI b)), (3, .int (nI l))]) (S' := [.int 24, .int (nI c)]) (f' := f) rfl ?_
  refine wq_if (c := (nI c) < 24) (p1 := 70) (L1 := [(0, .ref 0), (1, .int (nI a)), (2, .int (nI b)), (3, .int (nI l))]) (S1 := []) (p2 := 67) (L2 := [(0, .ref 0), (1, .int (nI a)), (2, .int (nI b)), (3, .int (nI l))]) (S2 := []) rfl (fun _ => ?_) (fun q => absurd ((nI_ltI (a := c) (b := 24) (by omega) (by omega)).mpr (by omega)) q)
  refine wq_run5 (pc' := 77) (L' := [(0, .ref 0), (1, .int (nI a)), (2, .int (nI b)), (3, .int (nI l))]) (S' := [.int (nI l), .int (nI b), .int (nI a), .ref 77]) (f' := f) rfl ?_
  refine wq_call (sp_addPath ha hb hab hl hn12 hc hsz hD hr hp) (Nat.le_of_ble_eq_true rfl) (pc' := 80) (L' := [(0, .ref 0), (1, .int (nI a)), (2, .int (nI b)), (3, .int (nI l))]) (S' := []) rfl (Nat.le_of_ble_eq_true rfl) rfl rfl (Nat.le_of_ble_eq_true rfl) (Nat.le_of_ble_eq_true rfl) ?_
  rintro v f9 ⟨dd, e0, ef, hdd⟩
  subst e0
  subst ef
  exact wq_ret rfl ⟨dd, rfl, rfl, hdd⟩
theorem mlp_pathIn {f : HI} {n a b l c : Nat} {D : Nat → Nat → Nat} (ha : a < n) (hb : b < n) (hab : a ≠ b) (hl : 1 ≤ l ∧ l ≤ 30) (hn12 : n ≤ 12) (hc : c < 24) {gx : Nat → Int32} (hgx : gx 53 = nI n) (hgc : gx 54 = nI (c + 1)) (hD : Mt n 268435456 30 D) {i : Nat} (hi : i < n) (K : ∀ (g : Nat → Int32) (E : Nat → Nat → Nat), (∀ p q, p < n → q < n → g (12 * p + q) = nI (E p q)) → JI D a b l n (i + 1) 0 E → wq 2 194 (fun v f' => ∃ g, v = some (.int (nI (c + 1))) ∧ f' = up1 (up1 f 129 g) 92 gx ∧ ∀ p q, p < n → q < n → g (12 * p + q) = nI (jnD D a b l p q)) 64 [(0, .ref 92), (1, .int (nI a)), (2, .int (nI b)), (3, .int (nI l)), (4, .int (nI (i + 1)))] [] (up1 (up1 f 129 g) 92 gx)) : ∀ (m9 : Nat) (j : Nat) (g : Nat → Int32) (E : Nat → Nat → Nat), (j ≤ n) → (∀ p q, p < n → q < n → g (12 * p + q) = nI (E p q)) → (JI D a b l n i j E) → n - j < m9 → wq 2 194 (fun v f' => ∃ g, v = some (.int (nI (c + 1))) ∧ f' = up1 (up1 f 129 g) 92 gx ∧ ∀ p q, p < n → q < n → g (12 * p + q) = nI (jnD D a b l p q)) 76 [(0, .ref 92), (1, .int (nI a)), (2, .int (nI b)), (3, .int (nI l)), (4, .int (nI i)), (5, .int (nI j))] [] (up1 (up1 f 129 g) 92 gx) := by
  intro m9
  induction m9 with
  | zero => intro j g E hj hg hE hn; exact absurd hn (Nat.not_lt_zero _)
  | succ m9 ih =>
    intro j g E hj hg hE hn
    refine wq_run3 (pc' := 82) (L' := [(0, .ref 92), (1, .int (nI a)), (2, .int (nI b)), (3, .int (nI l)), (4, .int (nI i)), (5, .int (nI j))]) (S' := [.int (gx 53), .int (nI j)]) (f' := (up1 (up1 f 129 g) 92 gx)) rfl ?_
    refine wq_v (y := (nI n)) (hgx) ?_
    refine wq_if (c := (nI n) ≤ (nI j)) (p1 := 186) (L1 := [(0, .ref 92), (1, .int (nI a)), (2, .int (nI b)), (3, .int (nI l)), (4, .int (nI i)), (5, .int (nI j))]) (S1 := []) (p2 := 85) (L2 := [(0, .ref 92), (1, .int (nI a)), (2, .int (nI b)), (3, .int (nI l)), (4, .int (nI i)), (5, .int (nI j))]) (S2 := []) rfl (fun c_82 => ?_) (fun c_82 => ?_)
    · have k_82 : n ≤ j := (nI_leI (a := n) (b := j) (by omega) (by omega)).mp c_82
      refine wq_run1 (pc' := 189) (L' := [(0, .ref 92), (1, .int (nI a)), (2, .int (nI b)), (3, .int (nI l)), (4, .int ((nI i) + 1)), (5, .int (nI j))]) (S' := []) (f' := (up1 (up1 f 129 g) 92 gx)) rfl ?_
      refine wq_L (L' := [(0, .ref 92), (1, .int (nI a)), (2, .int (nI b)), (3, .int (nI l)), (4, .int (nI (i + 1))), (5, .int (nI j))]) (by rw [show nI i + 1 = nI (i + 1) from nI_add _ _]) ?_
      refine wq_run1 (pc' := 64) (L' := [(0, .ref 92), (1, .int (nI a)), (2, .int (nI b)), (3, .int (nI l)), (4, .int (nI (i + 1)))]) (S' := []) (f' := (up1 (up1 f 129 g) 92 gx)) rfl ?_
      have e : j = n := by omega
      rw [e] at hE
      exact K g E hg (ji_row hE)
    · have k_82 : ¬ n ≤ j := fun q => c_82 ((nI_leI (a := n) (b := j) (by omega) (by omega)).mpr q)
      refine wq_run5 (pc' := 94) (L' := [(0, .ref 92), (1, .int (nI a)), (2, .int (nI b)), (3, .int (nI l)), (4, .int (nI i)), (5, .int (nI j))]) (S' := [.int (12 * (nI i)), .ref 129]) (f' := (up1 (up1 f 129 g) 92 gx)) rfl ?_
      refine wq_v (y := (nI (12 * i))) (pk_mul 12 i) ?_
      refine wq_run2 (pc' := 96) (L' := [(0, .ref 92), (1, .int (nI a)), (2, .int (nI b)), (3, .int (nI l)), (4, .int (nI i)), (5, .int (nI j))]) (S' := [.int ((nI (12 * i)) + (nI a)), .ref 129]) (f' := (up1 (up1 f 129 g) 92 gx)) rfl ?_
      refine wq_v (y := (nI ((12 * i) + a))) (nI_add (12 * i) a) ?_
      have hb_ := (hE.1 i a (by omega) (by omega)).2
      have hk_ := hD.2.2.2.1 i a (by omega) (by omega)
      refine wq_ald (j := ((12 * i) + a)) (n := 144) (v := (nI (E i a))) rfl rfl rfl rfl (by omega) (Nat.le_of_ble_eq_true rfl) (hg i a (by omega) (by omega)) ?_
      refine wq_run2 (pc' := 99) (L' := [(0, .ref 92), (1, .int (nI a)), (2, .int (nI b)), (3, .int (nI l)), (4, .int (nI i)), (5, .int (nI j))]) (S' := [.int ((nI (E i a)) + (nI l))]) (f' := (up1 (up1 f 129 g) 92 gx)) rfl ?_
      refine wq_v (y := (nI ((E i a) + l))) (nI_add (E i a) l) ?_
      refine wq_run5 (pc' := 107) (L' := [(0, .ref 92), (1, .int (nI a)), (2, .int (nI b)), (3, .int (nI l)), (4, .int (nI i)), (5, .int (nI j))]) (S' := [.int (12 * (nI b)), .ref 129, .int (nI ((E i a) + l))]) (f' := (up1 (up1 f 129 g) 92 gx)) rfl ?_
      refine wq_v (y := (nI (12 * b))) (pk_mul 12 b) ?_
      refine wq_run2 (pc' := 110) (L' := [(0, .ref 92), (1, .int (nI a)), (2, .int (nI b)), (3, .int (nI l)), (4, .int (nI i)), (5, .int (nI j))]) (S' := [.int ((nI (12 * b)) + (nI j)), .ref 129, .int (nI ((E i a) + l))]) (f' := (up1 (up1 f 129 g) 92 gx)) rfl ?_
      refine wq_v (y := (nI ((12 * b) + j))) (nI_add (12 * b) j) ?_
      have hb_ := (hE.1 b j (by omega) (by omega)).2
      have hk_ := hD.2.2.2.1 b j (by omega) (by omega)
      refine wq_ald (j := ((12 * b) + j)) (n := 144) (v := (nI (E b j))) rfl rfl rfl rfl (by omega) (Nat.le_of_ble_eq_true rfl) (hg b j (by omega) (by omega)) ?_
      refine wq_run1 (pc' := 112) (L' := [(0, .ref 92), (1, .int (nI a)), (2, .int (nI b)), (3, .int (nI l)), (4, .int (nI i)), (5, .int (nI j))]) (S' := [.int ((nI ((E i a) + l)) + (nI (E b j)))]) (f' := (up1 (up1 f 129 g) 92 gx)) rfl ?_
      refine wq_v (y := (nI (((E i a) + l) + (E b j)))) (nI_add ((E i a) + l) (E b j)) ?_
      refine wq_run5 (pc' := 121) (L' := [(0, .ref 92), (1, .int (nI a)), (2, .int (nI b)), (3, .int (nI l)), (4, .int (nI i)), (5, .int (nI j))]) (S' := [.int (12 * (nI i)), .ref 129, .int (nI (((E i a) + l) + (E b j)))]) (f' := (up1 (up1 f 129 g) 92 gx)) rfl ?_
      refine wq_v (y := (nI (12 * i))) (pk_mul 12 i) ?_
      refine wq_run2 (pc' := 123) (L' := [(0, .ref 92), (1, .int (nI a)), (2, .int (nI b)), (3, .int (nI l)), (4, .int (nI i)), (5, .int (nI j))]) (S' := [.int ((nI (12 * i)) + (nI b)), .ref 129, .int (nI (((E i a) + l) + (E b j)))]) (f' := (up1 (up1 f 129 g) 92 gx)) rfl ?_
      refine wq_v (y := (nI ((12 * i) + b))) (nI_add (12 * i) b) ?_
      have hb_ := (hE.1 i b (by omega) (by omega)).2
      have hk_ := hD.2.2.2.1 i b (by omega) (by omega)
      refine wq_ald (j := ((12 * i) + b)) (n := 144) (v := (nI (E i b))) rfl rfl rfl rfl (by omega) (Nat.le_of_ble_eq_true rfl) (hg i b (by omega) (by omega)) ?_
      refine wq_run2 (pc' := 126) (L' := [(0, .ref 92), (1, .int (nI a)), (2, .int (nI b)), (3, .int (nI l)), (4, .int (nI i)), (5, .int (nI j))]) (S' := [.int ((nI (E i b)) + (nI l)), .int (nI (((E i a) + l) + (E b j)))]) (f' := (up1 (up1 f 129 g) 92 gx)) rfl ?_
      refine wq_v (y := (nI ((E i b) + l))) (nI_add (E i b) l) ?_
      refine wq_run5 (pc' := 134) (L' := [(0, .ref 92), (1, .int (nI a)), (2, .int (nI b)), (3, .int (nI l)), (4, .int (nI i)), (5, .int (nI j))]) (S' := [.int (12 * (nI a)), .ref 129, .int (nI ((E i b) + l)), .int (nI (((E i a) + l) + (E b j)))]) (f' := (up1 (up1 f 129 g) 92 gx)) rfl ?_
      refine wq_v (y := (nI (12 * a))) (pk_mul 12 a) ?_
      refine wq_run2 (pc' := 137) (L' := [(0, .ref 92), (1, .int (nI a)), (2, .int (nI b)), (3, .int (nI l)), (4, .int (nI i)), (5, .int (nI j))]) (S' := [.int ((nI (12 * a)) + (nI j)), .ref 129, .int (nI ((E i b) + l)), .int (nI (((E i a) + l) + (E b j)))]) (f' := (up1 (up1 f 129 g) 92 gx)) rfl ?_
      refine wq_v (y := (nI ((12 * a) + j))) (nI_add (12 * a) j) ?_
      have hb_ := (hE.1 a j (by omega) (by omega)).2
      have hk_ := hD.2.2.2.1 a j (by omega) (by omega)
      refine wq_ald (j := ((12 * a) + j)) (n := 144) (v := (nI (E a j))) rfl rfl rfl rfl (by omega) (Nat.le_of_ble_eq_true rfl) (hg a j (by omega) (by omega)) ?_
      refine wq_run1 (pc' := 139) (L' := [(0, .ref 92), (1, .int (nI a)), (2, .int (nI b)), (3, .int (nI l)), (4, .int (nI i)), (5, .int (nI j))]) (S' := [.int ((nI ((E i b) + l)) + (nI (E a j))), .int (nI (((E i a) + l) + (E b j)))]) (f' := (up1 (up1 f 129 g) 92 gx)) rfl ?_
      refine wq_v (y := (nI (((E i b) + l) + (E a j)))) (nI_add ((E i b) + l) (E a j)) ?_
      refine wq_callI (r := (nI (min (((E i a) + l) + (E b j)) (((E i b) + l) + (E a j))))) ((show Sp 1 131 [.int (nI (((E i a) + l) + (E b j))), .int (nI (((E i b) + l) + (E a j)))] (up1 (up1 f 129 g) 92 gx) (Ret (nI (min (((E i a) + l) + (E b j)) (((E i b) + l) + (E a j)))) (up1 (up1 f 129 g) 92 gx)) by have h := mp_least (up1 (up1 f 129 g) 92 gx) (nI (((E i a) + l) + (E b j))) (nI (((E i b) + l) + (E a j))); rw [imin_N (by omega) (by omega)] at h; exact h)) (Nat.le_of_ble_eq_true rfl) (pc' := 142) (L' := [(0, .ref 92), (1, .int (nI a)), (2, .int (nI b)), (3, .int (nI l)), (4, .int (nI i)), (5, .int (nI j))]) (S' := []) rfl (Nat.le_of_ble_eq_true rfl) rfl rfl (Nat.le_of_ble_eq_true rfl) (Nat.le_of_ble_eq_true rfl) ?_
      refine wq_run6 (pc' := 153) (L' := [(0, .ref 92), (1, .int (nI a)), (2, .int (nI b)), (3, .int (nI l)), (4, .int (nI i)), (5, .int (nI j)), (6, .int (nI (min (((E i a) + l) + (E b j)) (((E i b) + l) + (E a j)))))]) (S' := [.int (12 * (nI i)), .ref 129]) (f' := (up1 (up1 f 129 g) 92 gx)) rfl ?_
      refine wq_v (y := (nI (12 * i))) (pk_mul 12 i) ?_
      refine wq_run2 (pc' := 156) (L' := [(0, .ref 92), (1, .int (nI a)), (2, .int (nI b)), (3, .int (nI l)), (4, .int (nI i)), (5, .int (nI j)), (6, .int (nI (min (((E i a) + l) + (E b j)) (((E i b) + l) + (E a j)))))]) (S' := [.int ((nI (12 * i)) + (nI j)), .ref 129]) (f' := (up1 (up1 f 129 g) 92 gx)) rfl ?_
      refine wq_v (y := (nI ((12 * i) + j))) (nI_add (12 * i) j) ?_
      refine wq_run5 (pc' := 165) (L' := [(0, .ref 92), (1, .int (nI a)), (2, .int (nI b)), (3, .int (nI l)), (4, .int (nI i)), (5, .int (nI j)), (6, .int (nI (min (((E i a) + l) + (E b j)) (((E i b) + l) + (E a j)))))]) (S' := [.int (12 * (nI i)), .ref 129, .int (nI ((12 * i) + j)), .ref 129]) (f' := (up1 (up1 f 129 g) 92 gx)) rfl ?_
      refine wq_v (y := (nI (12 * i))) (pk_mul 12 i) ?_
      refine wq_run2 (pc' := 168) (L' := [(0, .ref 92), (1, .int (nI a)), (2, .int (nI b)), (3, .int (nI l)), (4, .int (nI i)), (5, .int (nI j)), (6, .int (nI (min (((E i a) + l) + (E b j)) (((E i b) + l) + (E a j)))))]) (S' := [.int ((nI (12 * i)) + (nI j)), .ref 129, .int (nI ((12 * i) + j)), .ref 129]) (f' := (up1 (up1 f 129 g) 92 gx)) rfl ?_
      refine wq_v (y := (nI ((12 * i) + j))) (nI_add (12 * i) j) ?_
      have hb_ := (hE.1 i j (by omega) (by omega)).2
      have hk_ := hD.2.2.2.1 i j (by omega) (by omega)
      refine wq_ald (j := ((12 * i) + j)) (n := 144) (v := (nI (E i j))) rfl rfl rfl rfl (by omega) (Nat.le_of_ble_eq_true rfl) (hg i j (by omega) (by omega)) ?_
      refine wq_run2 (pc' := 173) (L' := [(0, .ref 92), (1, .int (nI a)), (2, .int (nI b)), (3, .int (nI l)), (4, .int (nI i)), (5, .int (nI j)), (6, .int (nI (min (((E i a) + l) + (E b j)) (((E i b) + l) + (E a j)))))]) (S' := [.int 268435456, .int (nI (min (((E i a) + l) + (E b j)) (((E i b) + l) + (E a j)))), .int (nI (E i j)), .int (nI ((12 * i) + j)), .ref 129]) (f' := (up1 (up1 f 129 g) 92 gx)) rfl ?_
      refine wq_callI (r := (nI (min (min (((E i a) + l) + (E b j)) (((E i b) + l) + (E a j))) 268435456))) ((show Sp 1 131 [.int (nI (min (((E i a) + l) + (E b j)) (((E i b) + l) + (E a j)))), .int (nI 268435456)] (up1 (up1 f 129 g) 92 gx) (Ret (nI (min (min (((E i a) + l) + (E b j)) (((E i b) + l) + (E a j))) 268435456)) (up1 (up1 f 129 g) 92 gx)) by have h := mp_least (up1 (up1 f 129 g) 92 gx) (nI (min (((E i a) + l) + (E b j)) (((E i b) + l) + (E a j)))) (nI 268435456); rw [imin_N (by omega) (by omega)] at h; exact h)) (Nat.le_of_ble_eq_true rfl) (pc' := 176) (L' := [(0, .ref 92), (1, .int (nI a)), (2, .int (nI b)), (3, .int (nI l)), (4, .int (nI i)), (5, .int (nI j)), (6, .int (nI (min (((E i a) + l) + (E b j)) (((E i b) + l) + (E a j)))))]) (S' := [.int (nI (E i j)), .int (nI ((12 * i) + j)), .ref 129]) rfl (Nat.le_of_ble_eq_true rfl) rfl rfl (Nat.le_of_ble_eq_true rfl) (Nat.le_of_ble_eq_true rfl) ?_
      refine wq_callI (r := (nI (min (E i j) (min (min (((E i a) + l) + (E b j)) (((E i b) + l) + (E a j))) 268435456)))) ((show Sp 1 131 [.int (nI (E i j)), .int (nI (min (min (((E i a) + l) + (E b j)) (((E i b) + l) + (E a j))) 268435456))] (up1 (up1 f 129 g) 92 gx) (Ret (nI (min (E i j) (min (min (((E i a) + l) + (E b j)) (((E i b) + l) + (E a j))) 268435456))) (up1 (up1 f 129 g) 92 gx)) by have h := mp_least (up1 (up1 f 129 g) 92 gx) (nI (E i j)) (nI (min (min (((E i a) + l) + (E b j)) (((E i b) + l) + (E a j))) 268435456)); rw [imin_N (by omega) (by omega)] at h; exact h)) (Nat.le_of_ble_eq_true rfl) (pc' := 179) (L' := [(0, .ref 92), (1, .int (nI a)), (2, .int (nI b)), (3, .int (nI l)), (4, .int (nI i)), (5, .int (nI j)), (6, .int (nI (min (((E i a) + l) + (E b j)) (((E i b) + l) + (E a j)))))]) (S' := [.int (nI ((12 * i) + j)), .ref 129]) rfl (Nat.le_of_ble_eq_true rfl) rfl rfl (Nat.le_of_ble_eq_true rfl) (Nat.le_of_ble_eq_true rfl) ?_
      refine wq_ist (j := ((12 * i) + j)) (n := 144) rfl rfl rfl rfl (by omega) (Nat.le_of_ble_eq_true rfl) ?_
      refine wq_h (f' := (up1 (up1 f 129 (upd g ((12 * i) + j) (nI (min (E i j) (min (min (((E i a) + l) + (E b j)) (((E i b) + l) + (E a j))) 268435456))))) 92 gx)) ((up2_up1_ne (f := (up1 f 129 g)) (g := gx) (k := ((12 * i) + j)) (v := (nI (min (E i j) (min (min (((E i a) + l) + (E b j)) (((E i b) + l) + (E a j))) 268435456)))) (show (129 : Nat) ≠ 92 by decide)).trans (congrArg (fun z => up1 z 92 gx) ((up2_up1_eq f 129 g ((12 * i) + j) (nI (min (E i j) (min (min (((E i a) + l) + (E b j)) (((E i b) + l) + (E a j))) 268435456)))).trans (congrArg (fun z => up1 f 129 z) (rfl))))) ?_
      refine wq_run1 (pc' := 183) (L' := [(0, .ref 92), (1, .int (nI a)), (2, .int (nI b)), (3, .int (nI l)), (4, .int (nI i)), (5, .int ((nI j) + 1)), (6, .int (nI (min (((E i a) + l) + (E b j)) (((E i b) + l) + (E a j)))))]) (S' := []) (f' := (up1 (up1 f 129 (upd g ((12 * i) + j) (nI (min (E i j) (min (min (((E i a) + l) + (E b j)) (((E i b) + l) + (E a j))) 268435456))))) 92 gx)) rfl ?_
      refine wq_L (L' := [(0, .ref 92), (1, .int (nI a)), (2, .int (nI b)), (3, .int (nI l)), (4, .int (nI i)), (5, .int (nI (j + 1))), (6, .int (nI (min (((E i a) + l) + (E b j)) (((E i b) + l) + (E a j)))))]) (by rw [show nI j + 1 = nI (j + 1) from nI_add _ _]) ?_
      refine wq_run1 (pc' := 76) (L' := [(0, .ref 92), (1, .int (nI a)), (2, .int (nI b)), (3, .int (nI l)), (4, .int (nI i)), (5, .int (nI (j + 1)))]) (S' := []) (f' := (up1 (up1 f 129 (upd g ((12 * i) + j) (nI (min (E i j) (min (min (((E i a) + l) + (E b j)) (((E i b) + l) + (E a j))) 268435456))))) 92 gx)) rfl ?_
      have hv := ji_v hD ha hb hab hl.1 hl.2 (show i < n by omega) (show j < n by omega) hE
      have hkb := hD.2.2.2.1 i j (by omega) (by omega)
      have hbb := (hE.1 i j (by omega) (by omega)).2
      have hv2 : (min (E i j) (min (min (E i a + l + E b j) (E i b + l + E a j)) 268435456)) = jnD D a b l i j := by rw [← hv]; omega
      refine ih (j + 1) _ (updE E i j (min (E i j) (min (min (E i a + l + E b j) (E i b + l + E a j)) 268435456))) (by omega) (fun p q hp hq => ?_) (ji_s hv2 hE) (by omega)
      unfold upd updE
      by_cases z : p = i ∧ q = j
      · rw [if_pos z, z.1, z.2]; exact if_pos rfl
      · rw [if_neg z, if_neg (by omega)]; exact hg p q hp hq
theorem mlp_pathOut {f : HI} {n a b l c : Nat} {D : Nat → Nat → Nat} (ha : a < n) (hb : b < n) (hab : a ≠ b) (hl : 1 ≤ l ∧ l ≤ 30) (hn12 : n ≤ 12) (hc : c < 24) {gx : Nat → Int32} (hgx : gx 53 = nI n) (hgc : gx 54 = nI (c + 1)) (hD : Mt n 268435456 30 D) : ∀ (m9 : Nat) (i : Nat) (g : Nat → Int32) (E : Nat → Nat → Nat), (i ≤ n) → (∀ p q, p < n → q < n → g (12 * p + q) = nI (E p q)) → (JI D a b l n i 0 E) → n - i < m9 → wq 2 194 (fun v f' => ∃ g, v = some (.int (nI (c + 1))) ∧ f' = up1 (up1 f 129 g) 92 gx ∧ ∀ p q, p < n → q < n → g (12 * p + q) = nI (jnD D a b l p q)) 64 [(0, .ref 92), (1, .int (nI a)), (2, .int (nI b)), (3, .int (nI l)), (4, .int (nI i))] [] (up1 (up1 f 129 g) 92 gx) := by
  intro m9
  induction m9 with
  | zero => intro i g E hi hg hE hn; exact absurd hn (Nat.not_lt_zero _)
  | succ m9 ih =>
    intro i g E hi hg hE hn
    refine wq_run3 (pc' := 70) (L' := [(0, .ref 92), (1, .int (nI a)), (2, .int (nI b)), (3, .int (nI l)), (4, .int (nI i))]) (S' := [.int (gx 53), .int (nI i)]) (f' := (up1 (up1 f 129 g) 92 gx)) rfl ?_
    refine wq_v (y := (nI n)) (hgx) ?_
    refine wq_if (c := (nI n) ≤ (nI i)) (p1 := 192) (L1 := [(0, .ref 92), (1, .int (nI a)), (2, .int (nI b)), (3, .int (nI l)), (4, .int (nI i))]) (S1 := []) (p2 := 73) (L2 := [(0, .ref 92), (1, .int (nI a)), (2, .int (nI b)), (3, .int (nI l)), (4, .int (nI i))]) (S2 := []) rfl (fun c_70 => ?_) (fun c_70 => ?_)
    · have k_70 : n ≤ i := (nI_leI (a := n) (b := i) (by omega) (by omega)).mp c_70
      refine wq_run2 (pc' := 196) (L' := [(0, .ref 92), (1, .int (nI a)), (2, .int (nI b)), (3, .int (nI l)), (4, .int (nI i))]) (S' := [.int (gx 54)]) (f' := (up1 (up1 f 129 g) 92 gx)) rfl ?_
      refine wq_v (y := (nI (c + 1))) (hgc) ?_
      have e : i = n := by omega
      rw [e] at hE
      exact wq_ret rfl ⟨g, rfl, rfl, fun p q hp hq => by rw [hg p q hp hq, ji_end hE hp hq]⟩
    · have k_70 : ¬ n ≤ i := fun q => c_70 ((nI_leI (a := n) (b := i) (by omega) (by omega)).mpr q)
      refine wq_run2 (pc' := 76) (L' := [(0, .ref 92), (1, .int (nI a)), (2, .int (nI b)), (3, .int (nI l)), (4, .int (nI i)), (5, .int 0)]) (S' := []) (f' := (up1 (up1 f 129 g) 92 gx)) rfl ?_
      exact mlp_pathIn (f := f) ha hb hab hl hn12 hc hgx hgc hD (i := i) (by omega) (fun g E h1 h2 => ih (i + 1) g E (by omega) h1 h2 (by omega)) (n - 0 + 1) 0 g E (Nat.zero_le _) hg hE (Nat.lt_succ_self _)
theorem mp_path4 {f : HI} {n a b l c : Nat} {D : Nat → Nat → Nat} (ha : a < n) (hb : b < n) (hab : a ≠ b) (hl : 1 ≤ l ∧ l ≤ 30) (hn12 : n ≤ 12) (hc : c < 24) (hn3 : f 92 53 = nI n) (hp : f 92 54 = nI c) (hD : Mt n 268435456 30 D) (hr : ∀ p q, p < n → q < n → f 129 (12 * p + q) = nI (D p q)) (h1 : inR (nI a) 0 (f 92 53 - 1) ∧ inR (nI b) 0 (f 92 53 - 1)) : Sp 3 194 [.ref 92, .int (nI a), .int (nI b), .int (nI l)] f (fun v f' => ∃ g, v = some (.int (nI (c + 1))) ∧ f' = up1 (up1 f 129 g) 92 (upd (f 92) 54 (nI (c + 1))) ∧ ∀ p q, p < n → q < n → g (12 * p + q) = nI (jnD D a b l p q)) := by
  show wq 3 194 (fun v f' => ∃ g, v = some (.int (nI (c + 1))) ∧ f' = up1 (up1 f 129 g) 92 (upd (f 92) 54 (nI (c + 1))) ∧ ∀ p q, p < n → q < n → g (12 * p + q) = nI (jnD D a b l p q)) 0 [(0, .ref 92), (1, .int (nI a)), (2, .int (nI b)), (3, .int (nI l))] [] f
  have hab2 : ¬ nI a = nI b := fun q => hab ((nI_eq (by omega) (by omega)).mp q)
  have hl2 : inR (nI l) 1 30 := ⟨(nI_leI (a := 1) (b := l) (by omega) (by omega)).mpr hl.1, (nI_leI (a := l) (b := 30) (by omega) (by omega)).mpr hl.2⟩
  refine wq_run2 (pc' := 2) (L' := [(0, .ref 92), (1, .int (nI a)), (2, .int (nI b)), (3, .int (nI l))]) (S' := [.int (nI a), .ref 92]) (f' := f) rfl ?_
  refine wq_callI (r := (b2i (inR (nI a) 0 ((f 92 53) - 1)))) (mp_isDoor f (nI a)) (Nat.le_of_ble_eq_true rfl) (pc' := 5) (L' := [(0, .ref 92), (1, .int (nI a)), (2, .int (nI b)), (3, .int (nI l))]) (S' := []) rfl (Nat.le_of_ble_eq_true rfl) rfl rfl (Nat.le_of_ble_eq_true rfl) (Nat.le_of_ble_eq_true rfl) ?_
  refine wq_if (c := (b2i (inR (nI a) 0 ((f 92 53) - 1))) = 0) (p1 := 16) (L1 := [(0, .ref 92), (1, .int (nI a)), (2, .int (nI b)), (3, .int (nI l))]) (S1 := []) (p2 := 8) (L2 := [(0, .ref 92), (1, .int (nI a)), (2, .int (nI b)), (3, .int (nI l))]) (S2 := []) rfl (fun q => absurd q (b2i_n0.mpr h1.1)) (fun _ => ?_)
  refine wq_run2 (pc' := 10) (L' := [(0, .ref 92), (1, .int (nI a)), (2, .int (nI b)), (3, .int (nI l))]) (S' := [.int (nI b), .ref 92]) (f' := f) rfl ?_
  refine wq_callI (r := (b2i (inR (nI b) 0 ((f 92 53) - 1)))) (mp_isDoor f (nI b)) (Nat.le_of_ble_eq_true rfl) (pc' := 13) (L' := [(0, .ref 92), (1, .int (nI a)), (2, .int (nI b)), (3, .int (nI l))]) (S' := []) rfl (Nat.le_of_ble_eq_true rfl) rfl rfl (Nat.le_of_ble_eq_true rfl) (Nat.le_of_ble_eq_true rfl) ?_
  refine wq_if (c := (b2i (inR (nI b) 0 ((f 92 53) - 1))) = 0) (p1 := 16) (L1 := [(0, .ref 92), (1, .int (nI a)), (2, .int (nI b)), (3, .int (nI l))]) (S1 := []) (p2 := 19) (L2 := [(0, .ref 92), (1, .int (nI a)), (2, .int (nI b)), (3, .int (nI l))]) (S2 := []) rfl (fun q => absurd q (b2i_n0.mpr h1.2)) (fun _ => ?_)
  refine wq_run2 (pc' := 21) (L' := [(0, .ref 92), (1, .int (nI a)), (2, .int (nI b)), (3, .int (nI l))]) (S' := [.int (nI b), .int (nI a)]) (f' := f) rfl ?_
  refine wq_if (c := (nI a) = (nI b)) (p1 := 36) (L1 := [(0, .ref 92), (1, .int (nI a)), (2, .int (nI b)), (3, .int (nI l))]) (S1 := []) (p2 := 24) (L2 := [(0, .ref 92), (1, .int (nI a)), (2, .int (nI b)), (3, .int (nI l))]) (S2 := []) rfl (fun q => absurd q (fun q => absurd ((nI_eq (a := a) (b := b) (by omega) (by omega)).mp q) (by omega))) (fun _ => ?_)
  refine wq_run4 (pc' := 30) (L' := [(0, .ref 92), (1, .int (nI a)), (2, .int (nI b)), (3, .int (nI l))]) (S' := [.long 30, .long 1, .long (nI l).toInt64]) (f' := f) rfl ?_
  refine wq_callI (r := (b2i (inR (nI l) 1 30))) (mp_in f (nI l) 1 30) (Nat.le_of_ble_eq_true rfl) (pc' := 33) (L' := [(0, .ref 92), (1, .int (nI a)), (2, .int (nI b)), (3, .int (nI l))]) (S' := []) rfl (Nat.le_of_ble_eq_true rfl) rfl rfl (Nat.le_of_ble_eq_true rfl) (Nat.le_of_ble_eq_true rfl) ?_
  refine wq_if (c := (b2i (inR (nI l) 1 30)) = 0) (p1 := 36) (L1 := [(0, .ref 92), (1, .int (nI a)), (2, .int (nI b)), (3, .int (nI l))]) (S1 := []) (p2 := 39) (L2 := [(0, .ref 92), (1, .int (nI a)), (2, .int (nI b)), (3, .int (nI l))]) (S2 := []) rfl (fun q => absurd q (b2i_n0.mpr hl2)) (fun _ => ?_)
  refine wq_run2 (pc' := 43) (L' := [(0, .ref 92), (1, .int (nI a)), (2, .int (nI b)), (3, .int (nI l))]) (S' := [.int (f 92 54)]) (f' := f) rfl ?_
  refine wq_v (y := (nI c)) (hp) ?_
  refine wq_run1 (pc' := 45) (L' := [(0, .ref 92), (1, .int (nI a)), (2, .int (nI b)), (3, .int (nI l))]) (S' := [.int 24, .int (nI c)]) (f' := f) rfl ?_
  refine wq_if (c := (nI c) = 24) (p1 := 48) (L1 := [(0, .ref 92), (1, .int (nI a)), (2, .int (nI b)), (3, .int (nI l))]) (S1 := []) (p2 := 51) (L2 := [(0, .ref 92), (1, .int (nI a)), (2, .int (nI b)), (3, .int (nI l))]) (S2 := []) rfl (fun q => absurd q (fun q => absurd ((nI_eq (a := c) (b := 24) (by omega) (by omega)).mp q) (by omega))) (fun _ => ?_)
  refine wq_run3 (pc' := 56) (L' := [(0, .ref 92), (1, .int (nI a)), (2, .int (nI b)), (3, .int (nI l))]) (S' := [.int (f 92 54), .ref 92]) (f' := f) rfl ?_
  refine wq_v (y := (nI c)) (hp) ?_
  refine wq_run2 (pc' := 58) (L' := [(0, .ref 92), (1, .int (nI a)), (2, .int (nI b)), (3, .int (nI l))]) (S' := [.int ((nI c) + 1), .ref 92]) (f' := f) rfl ?_
  refine wq_v (y := (nI (c + 1))) (nI_add c 1) ?_
  refine wq_putI rfl rfl ?_
  refine wq_h (f' := (up1 f 92 (upd (f 92) 54 (nI (c + 1))))) (up2_eq1 f 92 54 (nI (c + 1))) ?_
  refine wq_run2 (pc' := 64) (L' := [(0, .ref 92), (1, .int (nI a)), (2, .int (nI b)), (3, .int (nI l)), (4, .int 0)]) (S' := []) (f' := (up1 f 92 (upd (f 92) 54 (nI (c + 1))))) rfl ?_
  refine wpS_up ?_
  have h9 := mlp_pathOut (f := f) (gx := upd (f 92) 54 (nI (c + 1))) ha hb hab hl hn12 hc hn3 rfl hD (n - 0 + 1) 0 (f 129) D (Nat.zero_le _) hr ji_0 (Nat.lt_succ_self _)
  rw [up1_id] at h9
  exact h9
