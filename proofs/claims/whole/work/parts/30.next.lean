/-! the land: by which way one leaves -/
def fsN (p : Nat → Bool) : Nat → Option Nat
  | 0 => none
  | n + 1 => match fsN p n with
    | some i => some i
    | none => if p n = true then some n else none
theorem fs_z {p : Nat → Bool} {n : Nat} (h : fsN p n = none) (c : p n = false) : fsN p (n + 1) = none := by
  unfold fsN
  rw [h]
  dsimp only
  rw [if_neg (by rw [c]; decide)]
theorem fs_y {p : Nat → Bool} {n : Nat} (h : fsN p n = none) (c : p n = true) : fsN p (n + 1) = some n := by
  unfold fsN
  rw [h]
  dsimp only
  rw [if_pos c]
theorem fs_keep {p : Nat → Bool} {c b : Nat} (h : fsN p c = some b) : ∀ r, fsN p (c + r) = some b := by
  intro r
  induction r with
  | zero => exact h
  | succ r ih =>
    show fsN p (c + r + 1) = some b
    unfold fsN
    rw [ih]
theorem fs_at {p : Nat → Bool} {n b : Nat} (h : fsN p b = none) (c : p b = true) (hb : b < n) : fsN p n = some b := by
  have h2 := fs_keep (fs_y h c) (n - (b + 1))
  rw [show b + 1 + (n - (b + 1)) = n by omega] at h2
  exact h2
theorem fs_lt {p : Nat → Bool} : ∀ {n b : Nat}, fsN p n = some b → b < n ∧ p b = true ∧ fsN p b = none := by
  intro n
  induction n with
  | zero => intro b h; cases h
  | succ n ih =>
    intro b h
    unfold fsN at h
    cases e : fsN p n with
    | some i =>
      rw [e] at h
      cases h
      have := ih e
      exact ⟨by omega, this.2⟩
    | none =>
      rw [e] at h
      dsimp only at h
      split at h
      · rename_i c
        cases h
        exact ⟨by omega, c, e⟩
      · cases h
theorem fs_no {p : Nat → Bool} : ∀ {n : Nat}, fsN p n = none → ∀ i, i < n → p i = false := by
  intro n
  induction n with
  | zero => intro _ i h; omega
  | succ n ih =>
    intro h i hi
    cases c : fsN p n with
    | some b =>
      have := fs_keep c 1
      rw [h] at this
      cases this
    | none =>
      rcases Nat.lt_or_ge i n with q | q
      · exact ih c i q
      · have e : i = n := by omega
        subst e
        cases e2 : p i with
        | false => rfl
        | true => rw [fs_y c e2] at h; cases h
abbrev thN (W : Nat → Nat → Nat) (h e : Nat) : Nat := lvN (W 3 (e / 2)) (W 4 (e / 2)) h + W 2 (e / 2)
def bpE (W : Nat → Nat → Nat) (w a b h e : Nat) : Bool := decide (eP W e = a ∧ arN W w (eQ W e) (thN W h e) b = arN W w a h b)
/-- the end by which one leaves -/
def bsE (W : Nat → Nat → Nat) (w a b h : Nat) : Option Nat := if a = b ∨ 268435456 ≤ arN W w a h b then none else fsN (bpE W w a b h) (2 * w)
theorem bp_y {W : Nat → Nat → Nat} {w a b h e : Nat} (h1 : eP W e = a) (h2 : arN W w (eQ W e) (thN W h e) b = arN W w a h b) : bpE W w a b h e = true := decide_eq_true ⟨h1, h2⟩
theorem bp_n {W : Nat → Nat → Nat} {w a b h e : Nat} (h1 : ¬ (eP W e = a ∧ arN W w (eQ W e) (thN W h e) b = arN W w a h b)) : bpE W w a b h e = false := decide_eq_false h1
theorem bs_lt {W : Nat → Nat → Nat} {w a b h e : Nat} (q : bsE W w a b h = some e) : e < 2 * w ∧ eP W e = a := by
  unfold bsE at q
  split at q
  · cases q
  · have := fs_lt q
    exact ⟨this.1, (of_decide_eq_true this.2.1).1⟩
theorem dI_eq {x s : Nat} (hs : s < 268435456) : dI x = nI s ↔ x = s := by
  unfold dI
  by_cases h : 268435456 ≤ x
  · rw [if_pos h]; exact ⟨fun q => absurd q.symm (nI_nm (by omega)), fun q => by omega⟩
  · rw [if_neg h, nI_eq (by omega) (by omega)]
theorem lp_bestEnd {f : HI} {W : Nat → Nat → Nat} {w a b h : Nat} (hL : LaC f W w) (ha : a < 10) (hb : b < 10) (hh : h ≤ 30000) (hS : arN W w a h b < 268435456) (hbs : bsE W w a b h = fsN (bpE W w a b h) (2 * w)) : ∀ (m9 : Nat) (e : Nat) (g : Nat → Int32), (e ≤ 2 * w) → (fsN (bpE W w a b h) e = none) → 2 * w - e < m9 → wq 5 17 (fun v f' => ∃ g, v = some (.int (obI (bsE W w a b h))) ∧ f' = up1 f 10 g) 32 [(0, .ref 2), (1, .int (nI a)), (2, .int (nI b)), (3, .int (nI h)), (4, .int (nI (arN W w a h b))), (5, .int (nI e))] [] (up1 f 10 g) := by
  intro m9
  induction m9 with
  | zero => intro e g he hn0 hn; exact absurd hn (Nat.not_lt_zero _)
  | succ m9 ih =>
    intro e g he hn0 hn
    have hw16 := hL.2.1
    refine wq_run4 (pc' := 39) (L' := [(0, .ref 2), (1, .int (nI a)), (2, .int (nI b)), (3, .int (nI h)), (4, .int (nI (arN W w a h b))), (5, .int (nI e))]) (S' := [.int (f 2 7), .int 2, .int (nI e)]) (f' := (up1 f 10 g)) rfl ?_
    refine wq_v (y := (nI w)) (hL.1) ?_
    refine wq_run1 (pc' := 40) (L' := [(0, .ref 2), (1, .int (nI a)), (2, .int (nI b)), (3, .int (nI h)), (4, .int (nI (arN W w a h b))), (5, .int (nI e))]) (S' := [.int (2 * (nI w)), .int (nI e)]) (f' := (up1 f 10 g)) rfl ?_
    refine wq_v (y := (nI (2 * w))) (pk_mul 2 w) ?_
    refine wq_if (c := (nI (2 * w)) ≤ (nI e)) (p1 := 123) (L1 := [(0, .ref 2), (1, .int (nI a)), (2, .int (nI b)), (3, .int (nI h)), (4, .int (nI (arN W w a h b))), (5, .int (nI e))]) (S1 := []) (p2 := 43) (L2 := [(0, .ref 2), (1, .int (nI a)), (2, .int (nI b)), (3, .int (nI h)), (4, .int (nI (arN W w a h b))), (5, .int (nI e))]) (S2 := []) rfl (fun c_40 => ?_) (fun c_40 => ?_)
    · have k_40 : (2 * w) ≤ e := (nI_leI (a := (2 * w)) (b := e) (by omega) (by omega)).mp c_40
      refine wq_run1 (pc' := 124) (L' := [(0, .ref 2), (1, .int (nI a)), (2, .int (nI b)), (3, .int (nI h)), (4, .int (nI (arN W w a h b))), (5, .int (nI e))]) (S' := [.int (-1)]) (f' := (up1 f 10 g)) rfl ?_
      have e1 : e = 2 * w := by omega
      rw [e1] at hn0
      exact wq_ret rfl ⟨g, by rw [hbs, hn0]; rfl, rfl⟩
    · have k_40 : ¬ (2 * w) ≤ e := fun q => c_40 ((nI_leI (a := (2 * w)) (b := e) (by omega) (by omega)).mpr q)
      have hq := wy_Q hL.2.2.2.2 (e := e) (by omega)
      have hx := xor1_lt (w := w) (show e < 2 * w by omega)
      have r_40 := rl_val hL.2.2.2.2 (e := e) (show e < 2 * w by omega) (x := h) (by omega)
      refine wq_run3 (pc' := 49) (L' := [(0, .ref 2), (1, .int (nI a)), (2, .int (nI b)), (3, .int (nI h)), (4, .int (nI (arN W w a h b))), (5, .int (nI e))]) (S' := [.int (nI e), .ref 7]) (f' := (up1 f 10 g)) rfl ?_
      have hp := wy_P hL.2.2.2.2 (e := e) (by omega)
      refine wq_ald (j := e) (n := 32) (v := (nI (eP W e))) rfl rfl rfl rfl (by omega) (Nat.le_of_ble_eq_true rfl) (hL.2.2.1 e (by omega)) ?_
      refine wq_run1 (pc' := 51) (L' := [(0, .ref 2), (1, .int (nI a)), (2, .int (nI b)), (3, .int (nI h)), (4, .int (nI (arN W w a h b))), (5, .int (nI e))]) (S' := [.int (nI a), .int (nI (eP W e))]) (f' := (up1 f 10 g)) rfl ?_
      refine wq_if (c := (nI (eP W e)) = (nI a)) (p1 := 57) (L1 := [(0, .ref 2), (1, .int (nI a)), (2, .int (nI b)), (3, .int (nI h)), (4, .int (nI (arN W w a h b))), (5, .int (nI e))]) (S1 := []) (p2 := 54) (L2 := [(0, .ref 2), (1, .int (nI a)), (2, .int (nI b)), (3, .int (nI h)), (4, .int (nI (arN W w a h b))), (5, .int (nI e))]) (S2 := []) rfl (fun c_51 => ?_) (fun c_51 => ?_)
      · have k_51 : (eP W e) = a := (nI_eq (a := (eP W e)) (b := a) (by omega) (by omega)).mp c_51
        refine wq_run3 (pc' := 61) (L' := [(0, .ref 2), (1, .int (nI a)), (2, .int (nI b)), (3, .int (nI h)), (4, .int (nI (arN W w a h b))), (5, .int (nI e))]) (S' := [.int 2, .int (nI e), .ref 2]) (f' := (up1 f 10 g)) rfl ?_
        refine wq_div rfl (by decide) ?_
        refine wq_v (y := (nI (e / 2))) (pk_div (a := e) (d := 2) (by omega) (by omega) (by omega)) ?_
        refine wq_run1 (pc' := 63) (L' := [(0, .ref 2), (1, .int (nI a)), (2, .int (nI b)), (3, .int (nI h)), (4, .int (nI (arN W w a h b))), (5, .int (nI e))]) (S' := [.int (nI h), .int (nI (e / 2)), .ref 2]) (f' := (up1 f 10 g)) rfl ?_
        refine wq_callI (r := (nI (lvN (W 3 (e / 2)) (W 4 (e / 2)) h))) (sp_departure (f := (up1 f 10 g)) (W := W) (w := w) (i := (e / 2)) (x := h) hL (by omega) (by omega)) (Nat.le_of_ble_eq_true rfl) (pc' := 66) (L' := [(0, .ref 2), (1, .int (nI a)), (2, .int (nI b)), (3, .int (nI h)), (4, .int (nI (arN W w a h b))), (5, .int (nI e))]) (S' := []) rfl (Nat.le_of_ble_eq_true rfl) rfl rfl (Nat.le_of_ble_eq_true rfl) (Nat.le_of_ble_eq_true rfl) ?_
        refine wq_run4 (pc' := 73) (L' := [(0, .ref 2), (1, .int (nI a)), (2, .int (nI b)), (3, .int (nI h)), (4, .int (nI (arN W w a h b))), (5, .int (nI e))]) (S' := [.int 2, .int (nI e), .ref 5, .int (nI (lvN (W 3 (e / 2)) (W 4 (e / 2)) h))]) (f' := (up1 f 10 g)) rfl ?_
        refine wq_div rfl (by decide) ?_
        refine wq_v (y := (nI (e / 2))) (pk_div (a := e) (d := 2) (by omega) (by omega) (by omega)) ?_
        refine wq_ald (j := (e / 2)) (n := 16) (v := (nI (W 2 (e / 2)))) rfl rfl rfl rfl (by omega) (Nat.le_of_ble_eq_true rfl) ((hL.2.2.2.1 (e / 2) (by omega)).1) ?_
        refine wq_run1 (pc' := 76) (L' := [(0, .ref 2), (1, .int (nI a)), (2, .int (nI b)), (3, .int (nI h)), (4, .int (nI (arN W w a h b))), (5, .int (nI e))]) (S' := [.int ((nI (lvN (W 3 (e / 2)) (W 4 (e / 2)) h)) + (nI (W 2 (e / 2))))]) (f' := (up1 f 10 g)) rfl ?_
        refine wq_v (y := (nI ((lvN (W 3 (e / 2)) (W 4 (e / 2)) h) + (W 2 (e / 2))))) (nI_add (lvN (W 3 (e / 2)) (W 4 (e / 2)) h) (W 2 (e / 2))) ?_
        refine wq_run3 (pc' := 82) (L' := [(0, .ref 2), (1, .int (nI a)), (2, .int (nI b)), (3, .int (nI h)), (4, .int (nI (arN W w a h b))), (5, .int (nI e)), (6, .int (nI ((lvN (W 3 (e / 2)) (W 4 (e / 2)) h) + (W 2 (e / 2)))))]) (S' := [.int (nI (arN W w a h b)), .int (nI ((lvN (W 3 (e / 2)) (W 4 (e / 2)) h) + (W 2 (e / 2))))]) (f' := (up1 f 10 g)) rfl ?_
        refine wq_if (c := (nI ((lvN (W 3 (e / 2)) (W 4 (e / 2)) h) + (W 2 (e / 2)))) ≤ (nI (arN W w a h b))) (p1 := 88) (L1 := [(0, .ref 2), (1, .int (nI a)), (2, .int (nI b)), (3, .int (nI h)), (4, .int (nI (arN W w a h b))), (5, .int (nI e)), (6, .int (nI ((lvN (W 3 (e / 2)) (W 4 (e / 2)) h) + (W 2 (e / 2)))))]) (S1 := []) (p2 := 85) (L2 := [(0, .ref 2), (1, .int (nI a)), (2, .int (nI b)), (3, .int (nI h)), (4, .int (nI (arN W w a h b))), (5, .int (nI e)), (6, .int (nI ((lvN (W 3 (e / 2)) (W 4 (e / 2)) h) + (W 2 (e / 2)))))]) (S2 := []) rfl (fun c_82 => ?_) (fun c_82 => ?_)
        · have k_82 : ((lvN (W 3 (e / 2)) (W 4 (e / 2)) h) + (W 2 (e / 2))) ≤ (arN W w a h b) := (nI_leI (a := ((lvN (W 3 (e / 2)) (W 4 (e / 2)) h) + (W 2 (e / 2)))) (b := (arN W w a h b)) (by omega) (by omega)).mp c_82
          refine wq_run6 (pc' := 97) (L' := [(0, .ref 2), (1, .int (nI a)), (2, .int (nI b)), (3, .int (nI h)), (4, .int (nI (arN W w a h b))), (5, .int (nI e)), (6, .int (nI ((lvN (W 3 (e / 2)) (W 4 (e / 2)) h) + (W 2 (e / 2)))))]) (S' := [.int ((nI e) ^^^ 1), .ref 7, .ref 2]) (f' := (up1 f 10 g)) rfl ?_
          refine wq_v (y := (nI (e ^^^ 1))) (nx_xor e 1) ?_
          refine wq_ald (j := (e ^^^ 1)) (n := 32) (v := (nI (eQ W e))) rfl rfl rfl rfl (by omega) (Nat.le_of_ble_eq_true rfl) (lac_x hL (by omega)) ?_
          refine wq_run1 (pc' := 100) (L' := [(0, .ref 2), (1, .int (nI a)), (2, .int (nI b)), (3, .int (nI h)), (4, .int (nI (arN W w a h b))), (5, .int (nI e)), (6, .int (nI ((lvN (W 3 (e / 2)) (W 4 (e / 2)) h) + (W 2 (e / 2)))))]) (S' := [.int (nI ((lvN (W 3 (e / 2)) (W 4 (e / 2)) h) + (W 2 (e / 2)))), .int (nI (eQ W e)), .ref 2]) (f' := (up1 f 10 g)) rfl ?_
          refine wq_call (sp_spread (f := (up1 f 10 g)) (a := (eQ W e)) (h := ((lvN (W 3 (e / 2)) (W 4 (e / 2)) h) + (W 2 (e / 2)))) hL (by omega) (by omega)) (Nat.le_of_ble_eq_true rfl) (pc' := 103) (L' := [(0, .ref 2), (1, .int (nI a)), (2, .int (nI b)), (3, .int (nI h)), (4, .int (nI (arN W w a h b))), (5, .int (nI e)), (6, .int (nI ((lvN (W 3 (e / 2)) (W 4 (e / 2)) h) + (W 2 (e / 2)))))]) (S' := []) rfl (Nat.le_of_ble_eq_true rfl) rfl rfl (Nat.le_of_ble_eq_true rfl) (Nat.le_of_ble_eq_true rfl) ?_
          rintro v f9 ⟨g2, e0, ef, hg2⟩
          subst e0
          rw [up1_up1] at ef
          subst ef
          refine wq_run3 (pc' := 108) (L' := [(0, .ref 2), (1, .int (nI a)), (2, .int (nI b)), (3, .int (nI h)), (4, .int (nI (arN W w a h b))), (5, .int (nI e)), (6, .int (nI ((lvN (W 3 (e / 2)) (W 4 (e / 2)) h) + (W 2 (e / 2)))))]) (S' := [.int (nI b), .ref 10]) (f' := (up1 f 10 g2)) rfl ?_
          refine wq_ald (j := b) (n := 10) (v := (dI (arN W w (eQ W e) (thN W h e) b))) rfl rfl rfl rfl (by omega) (Nat.le_of_ble_eq_true rfl) (hg2 b hb) ?_
          refine wq_run1 (pc' := 111) (L' := [(0, .ref 2), (1, .int (nI a)), (2, .int (nI b)), (3, .int (nI h)), (4, .int (nI (arN W w a h b))), (5, .int (nI e)), (6, .int (nI ((lvN (W 3 (e / 2)) (W 4 (e / 2)) h) + (W 2 (e / 2)))))]) (S' := [.int (nI (arN W w a h b)), .int (dI (arN W w (eQ W e) (thN W h e) b))]) (f' := (up1 f 10 g2)) rfl ?_
          refine wq_if (c := (dI (arN W w (eQ W e) (thN W h e) b)) = (nI (arN W w a h b))) (p1 := 114) (L1 := [(0, .ref 2), (1, .int (nI a)), (2, .int (nI b)), (3, .int (nI h)), (4, .int (nI (arN W w a h b))), (5, .int (nI e)), (6, .int (nI ((lvN (W 3 (e / 2)) (W 4 (e / 2)) h) + (W 2 (e / 2)))))]) (S1 := []) (p2 := 117) (L2 := [(0, .ref 2), (1, .int (nI a)), (2, .int (nI b)), (3, .int (nI h)), (4, .int (nI (arN W w a h b))), (5, .int (nI e)), (6, .int (nI ((lvN (W 3 (e / 2)) (W 4 (e / 2)) h) + (W 2 (e / 2)))))]) (S2 := []) rfl (fun c_111 => ?_) (fun c_111 => ?_)
          · have k_111 := (dI_eq hS).mp c_111
            refine wq_run1 (pc' := 116) (L' := [(0, .ref 2), (1, .int (nI a)), (2, .int (nI b)), (3, .int (nI h)), (4, .int (nI (arN W w a h b))), (5, .int (nI e)), (6, .int (nI ((lvN (W 3 (e / 2)) (W 4 (e / 2)) h) + (W 2 (e / 2)))))]) (S' := [.int (nI e)]) (f' := (up1 f 10 g2)) rfl ?_
            exact wq_ret rfl ⟨g2, by rw [hbs, fs_at hn0 (bp_y k_51 k_111) (by omega)]; rfl, rfl⟩
          · have k_111 : ¬ arN W w (eQ W e) (thN W h e) b = arN W w a h b := fun q => c_111 ((dI_eq hS).mpr q)
            refine wq_run1 (pc' := 120) (L' := [(0, .ref 2), (1, .int (nI a)), (2, .int (nI b)), (3, .int (nI h)), (4, .int (nI (arN W w a h b))), (5, .int ((nI e) + 1)), (6, .int (nI ((lvN (W 3 (e / 2)) (W 4 (e / 2)) h) + (W 2 (e / 2)))))]) (S' := []) (f' := (up1 f 10 g2)) rfl ?_
            refine wq_L (L' := [(0, .ref 2), (1, .int (nI a)), (2, .int (nI b)), (3, .int (nI h)), (4, .int (nI (arN W w a h b))), (5, .int (nI (e + 1))), (6, .int (nI ((lvN (W 3 (e / 2)) (W 4 (e / 2)) h) + (W 2 (e / 2)))))]) (by rw [show nI e + 1 = nI (e + 1) from nI_add _ _]) ?_
            refine wq_run1 (pc' := 32) (L' := [(0, .ref 2), (1, .int (nI a)), (2, .int (nI b)), (3, .int (nI h)), (4, .int (nI (arN W w a h b))), (5, .int (nI (e + 1)))]) (S' := []) (f' := (up1 f 10 g2)) rfl ?_
            exact ih (e + 1) g2 (by omega) (fs_z hn0 (bp_n (fun q => k_111 q.2))) (by omega)
        · have k_82 : ¬ ((lvN (W 3 (e / 2)) (W 4 (e / 2)) h) + (W 2 (e / 2))) ≤ (arN W w a h b) := fun q => c_82 ((nI_leI (a := ((lvN (W 3 (e / 2)) (W 4 (e / 2)) h) + (W 2 (e / 2)))) (b := (arN W w a h b)) (by omega) (by omega)).mpr q)
          refine wq_run2 (pc' := 120) (L' := [(0, .ref 2), (1, .int (nI a)), (2, .int (nI b)), (3, .int (nI h)), (4, .int (nI (arN W w a h b))), (5, .int ((nI e) + 1)), (6, .int (nI ((lvN (W 3 (e / 2)) (W 4 (e / 2)) h) + (W 2 (e / 2)))))]) (S' := []) (f' := (up1 f 10 g)) rfl ?_
          refine wq_L (L' := [(0, .ref 2), (1, .int (nI a)), (2, .int (nI b)), (3, .int (nI h)), (4, .int (nI (arN W w a h b))), (5, .int (nI (e + 1))), (6, .int (nI ((lvN (W 3 (e / 2)) (W 4 (e / 2)) h) + (W 2 (e / 2)))))]) (by rw [show nI e + 1 = nI (e + 1) from nI_add _ _]) ?_
          refine wq_run1 (pc' := 32) (L' := [(0, .ref 2), (1, .int (nI a)), (2, .int (nI b)), (3, .int (nI h)), (4, .int (nI (arN W w a h b))), (5, .int (nI (e + 1)))]) (S' := []) (f' := (up1 f 10 g)) rfl ?_
          exact ih (e + 1) g (by omega) (fs_z hn0 (bp_n (fun q => absurd (ar_ge (h := thN W h e) (w := w) (a := eQ W e) hL.2.2.2.2 (by show lvN (W 3 (e / 2)) (W 4 (e / 2)) h + W 2 (e / 2) ≤ 268435456; omega) b) (by rw [q.2]; show ¬ lvN (W 3 (e / 2)) (W 4 (e / 2)) h + W 2 (e / 2) ≤ _; omega)))) (by omega)
      · have k_51 : ¬ (eP W e) = a := fun q => c_51 ((nI_eq (a := (eP W e)) (b := a) (by omega) (by omega)).mpr q)
        refine wq_run2 (pc' := 120) (L' := [(0, .ref 2), (1, .int (nI a)), (2, .int (nI b)), (3, .int (nI h)), (4, .int (nI (arN W w a h b))), (5, .int ((nI e) + 1))]) (S' := []) (f' := (up1 f 10 g)) rfl ?_
        refine wq_L (L' := [(0, .ref 2), (1, .int (nI a)), (2, .int (nI b)), (3, .int (nI h)), (4, .int (nI (arN W w a h b))), (5, .int (nI (e + 1)))]) (by rw [show nI e + 1 = nI (e + 1) from nI_add _ _]) ?_
        refine wq_run1 (pc' := 32) (L' := [(0, .ref 2), (1, .int (nI a)), (2, .int (nI b)), (3, .int (nI h)), (4, .int (nI (arN W w a h b))), (5, .int (nI (e + 1)))]) (S' := []) (f' := (up1 f 10 g)) rfl ?_
        exact ih (e + 1) g (by omega) (fs_z hn0 (bp_n (fun q => k_51 q.1))) (by omega)
theorem sp_bestEnd {f : HI} {W : Nat → Nat → Nat} {w a b h : Nat} (hL : LaC f W w) (ha : a < 10) (hb : b < 10) (hh : h ≤ 30000) : Sp 5 17 [.ref 2, .int (nI a), .int (nI b), .int (nI h)] f (fun v f' => ∃ g, v = some (.int (obI (bsE W w a b h))) ∧ f' = up1 f 10 g) := by
  show wq 5 17 (fun v f' => ∃ g, v = some (.int (obI (bsE W w a b h))) ∧ f' = up1 f 10 g) 0 [(0, .ref 2), (1, .int (nI a)), (2, .int (nI b)), (3, .int (nI h))] [] f
  refine wq_run2 (pc' := 2) (L' := [(0, .ref 2), (1, .int (nI a)), (2, .int (nI b)), (3, .int (nI h))]) (S' := [.int (nI b), .int (nI a)]) (f' := f) rfl ?_
  refine wq_if (c := (nI a) = (nI b)) (p1 := 5) (L1 := [(0, .ref 2), (1, .int (nI a)), (2, .int (nI b)), (3, .int (nI h))]) (S1 := []) (p2 := 7) (L2 := [(0, .ref 2), (1, .int (nI a)), (2, .int (nI b)), (3, .int (nI h))]) (S2 := []) rfl (fun c_2 => ?_) (fun c_2 => ?_)
  · have k_2 : a = b := (nI_eq (a := a) (b := b) (by omega) (by omega)).mp c_2
    refine wq_run1 (pc' := 6) (L' := [(0, .ref 2), (1, .int (nI a)), (2, .int (nI b)), (3, .int (nI h))]) (S' := [.int (-1)]) (f' := f) rfl ?_
    exact wq_ret rfl ⟨f 10, by rw [bsE, if_pos (Or.inl k_2)]; rfl, (up1_id f 10).symm⟩
  · have k_2 : ¬ a = b := fun q => c_2 ((nI_eq (a := a) (b := b) (by omega) (by omega)).mpr q)
    refine wq_run3 (pc' := 10) (L' := [(0, .ref 2), (1, .int (nI a)), (2, .int (nI b)), (3, .int (nI h))]) (S' := [.int (nI h), .int (nI a), .ref 2]) (f' := f) rfl ?_
    refine wq_call (sp_spread (f := f) (a := a) (h := h) hL (by omega) (by omega)) (Nat.le_of_ble_eq_true rfl) (pc' := 13) (L' := [(0, .ref 2), (1, .int (nI a)), (2, .int (nI b)), (3, .int (nI h))]) (S' := []) rfl (Nat.le_of_ble_eq_true rfl) rfl rfl (Nat.le_of_ble_eq_true rfl) (Nat.le_of_ble_eq_true rfl) ?_
    rintro v f9 ⟨g, e0, ef, hg⟩
    subst e0
    subst ef
    refine wq_run3 (pc' := 18) (L' := [(0, .ref 2), (1, .int (nI a)), (2, .int (nI b)), (3, .int (nI h))]) (S' := [.int (nI b), .ref 10]) (f' := (up1 f 10 g)) rfl ?_
    refine wq_ald (j := b) (n := 10) (v := (dI (arN W w a h b))) rfl rfl rfl rfl (by omega) (Nat.le_of_ble_eq_true rfl) (hg b hb) ?_
    refine wq_run3 (pc' := 24) (L' := [(0, .ref 2), (1, .int (nI a)), (2, .int (nI b)), (3, .int (nI h)), (4, .int (dI (arN W w a h b)))]) (S' := [.int (-1), .int (dI (arN W w a h b))]) (f' := (up1 f 10 g)) rfl ?_
    refine wq_if (c := (dI (arN W w a h b)) = (-1)) (p1 := 27) (L1 := [(0, .ref 2), (1, .int (nI a)), (2, .int (nI b)), (3, .int (nI h)), (4, .int (dI (arN W w a h b)))]) (S1 := []) (p2 := 29) (L2 := [(0, .ref 2), (1, .int (nI a)), (2, .int (nI b)), (3, .int (nI h)), (4, .int (dI (arN W w a h b)))]) (S2 := []) rfl (fun c_24 => ?_) (fun c_24 => ?_)
    · have k_24 := dI_0.mp c_24
      refine wq_run1 (pc' := 28) (L' := [(0, .ref 2), (1, .int (nI a)), (2, .int (nI b)), (3, .int (nI h)), (4, .int (dI (arN W w a h b)))]) (S' := [.int (-1)]) (f' := (up1 f 10 g)) rfl ?_
      exact wq_ret rfl ⟨g, by rw [bsE, if_pos (Or.inr k_24)]; rfl, rfl⟩
    · have k_24 : arN W w a h b < 268435456 := Nat.lt_of_not_le (fun q => c_24 (dI_0.mpr q))
      refine wq_L (L' := [(0, .ref 2), (1, .int (nI a)), (2, .int (nI b)), (3, .int (nI h)), (4, .int (nI (arN W w a h b)))]) (by rw [dI_n k_24]) ?_
      refine wq_run2 (pc' := 32) (L' := [(0, .ref 2), (1, .int (nI a)), (2, .int (nI b)), (3, .int (nI h)), (4, .int (nI (arN W w a h b))), (5, .int 0)]) (S' := []) (f' := (up1 f 10 g)) rfl ?_
      exact lp_bestEnd hL ha hb hh k_24 (if_neg (by omega)) (2 * w - 0 + 1) 0 g (Nat.zero_le _) rfl (Nat.lt_succ_self _)
theorem lp_anyLeaves {f : HI} {W : Nat → Nat → Nat} {w t x : Nat} (hL : LaC f W w) (ht : t < 10) (hx : x < 2 ^ 29) : ∀ (m9 : Nat) (e : Nat), (e ≤ 2 * w) → (∀ e', e' < e → eP W e' = t → ¬ lvN (W 3 (e' / 2)) (W 4 (e' / 2)) x = x) → 2 * w - e < m9 → wq 4 19 (fun v f' => ∃ r, v = some (.int r) ∧ f' = f ∧ (r = 0 → ∀ e, e < 2 * w → eP W e = t → ¬ lvN (W 3 (e / 2)) (W 4 (e / 2)) x = x)) 2 [(0, .ref 2), (1, .int (nI t)), (2, .int (nI x)), (3, .int (nI e))] [] f := by
  intro m9
  induction m9 with
  | zero => intro e he h9 hn; exact absurd hn (Nat.not_lt_zero _)
  | succ m9 ih =>
    intro e he h9 hn
    have hw16 := hL.2.1
    refine wq_run4 (pc' := 8) (L' := [(0, .ref 2), (1, .int (nI t)), (2, .int (nI x)), (3, .int (nI e))]) (S' := [.int (f 2 7), .int 2, .int (nI e)]) (f' := f) rfl ?_
    refine wq_v (y := (nI w)) (hL.1) ?_
    refine wq_run1 (pc' := 9) (L' := [(0, .ref 2), (1, .int (nI t)), (2, .int (nI x)), (3, .int (nI e))]) (S' := [.int (2 * (nI w)), .int (nI e)]) (f' := f) rfl ?_
    refine wq_v (y := (nI (2 * w))) (pk_mul 2 w) ?_
    refine wq_if (c := (nI (2 * w)) ≤ (nI e)) (p1 := 41) (L1 := [(0, .ref 2), (1, .int (nI t)), (2, .int (nI x)), (3, .int (nI e))]) (S1 := []) (p2 := 12) (L2 := [(0, .ref 2), (1, .int (nI t)), (2, .int (nI x)), (3, .int (nI e))]) (S2 := []) rfl (fun c_9 => ?_) (fun c_9 => ?_)
    · have k_9 : (2 * w) ≤ e := (nI_leI (a := (2 * w)) (b := e) (by omega) (by omega)).mp c_9
      refine wq_run1 (pc' := 42) (L' := [(0, .ref 2), (1, .int (nI t)), (2, .int (nI x)), (3, .int (nI e))]) (S' := [.int 0]) (f' := f) rfl ?_
      exact wq_retZ rfl (Or.inl rfl) ⟨0, rfl, rfl, fun _ e' he' => h9 e' (by omega)⟩
    · have k_9 : ¬ (2 * w) ≤ e := fun q => c_9 ((nI_leI (a := (2 * w)) (b := e) (by omega) (by omega)).mpr q)
      refine wq_run3 (pc' := 17) (L' := [(0, .ref 2), (1, .int (nI t)), (2, .int (nI x)), (3, .int (nI e))]) (S' := [.int (nI e), .ref 7]) (f' := f) rfl ?_
      have hp := wy_P hL.2.2.2.2 (e := e) (by omega)
      refine wq_ald (j := e) (n := 32) (v := (nI (eP W e))) rfl rfl rfl rfl (by omega) (Nat.le_of_ble_eq_true rfl) (hL.2.2.1 e (by omega)) ?_
      refine wq_run1 (pc' := 19) (L' := [(0, .ref 2), (1, .int (nI t)), (2, .int (nI x)), (3, .int (nI e))]) (S' := [.int (nI t), .int (nI (eP W e))]) (f' := f) rfl ?_
      refine wq_if (c := (nI (eP W e)) = (nI t)) (p1 := 22) (L1 := [(0, .ref 2), (1, .int (nI t)), (2, .int (nI x)), (3, .int (nI e))]) (S1 := []) (p2 := 35) (L2 := [(0, .ref 2), (1, .int (nI t)), (2, .int (nI x)), (3, .int (nI e))]) (S2 := []) rfl (fun c_19 => ?_) (fun c_19 => ?_)
      · have k_19 : (eP W e) = t := (nI_eq (a := (eP W e)) (b := t) (by omega) (by omega)).mp c_19
        refine wq_run3 (pc' := 25) (L' := [(0, .ref 2), (1, .int (nI t)), (2, .int (nI x)), (3, .int (nI e))]) (S' := [.int 2, .int (nI e), .ref 2]) (f' := f) rfl ?_
        refine wq_div rfl (by decide) ?_
        refine wq_v (y := (nI (e / 2))) (pk_div (a := e) (d := 2) (by omega) (by omega) (by omega)) ?_
        refine wq_run1 (pc' := 27) (L' := [(0, .ref 2), (1, .int (nI t)), (2, .int (nI x)), (3, .int (nI e))]) (S' := [.int (nI x), .int (nI (e / 2)), .ref 2]) (f' := f) rfl ?_
        refine wq_callI (r := (b2i (lvN (W 3 (e / 2)) (W 4 (e / 2)) x = x))) (sp_leavesIn (f := f) (W := W) (w := w) (i := (e / 2)) (x := x) hL (by omega) (by omega)) (Nat.le_of_ble_eq_true rfl) (pc' := 30) (L' := [(0, .ref 2), (1, .int (nI t)), (2, .int (nI x)), (3, .int (nI e))]) (S' := []) rfl (Nat.le_of_ble_eq_true rfl) rfl rfl (Nat.le_of_ble_eq_true rfl) (Nat.le_of_ble_eq_true rfl) ?_
        refine wq_if (c := (b2i (lvN (W 3 (e / 2)) (W 4 (e / 2)) x = x)) = 0) (p1 := 35) (L1 := [(0, .ref 2), (1, .int (nI t)), (2, .int (nI x)), (3, .int (nI e))]) (S1 := []) (p2 := 33) (L2 := [(0, .ref 2), (1, .int (nI t)), (2, .int (nI x)), (3, .int (nI e))]) (S2 := []) rfl (fun c_30 => ?_) (fun c_30 => ?_)
        · have h_30 := b2i_0.mp c_30
          refine wq_run1 (pc' := 38) (L' := [(0, .ref 2), (1, .int (nI t)), (2, .int (nI x)), (3, .int ((nI e) + 1))]) (S' := []) (f' := f) rfl ?_
          refine wq_L (L' := [(0, .ref 2), (1, .int (nI t)), (2, .int (nI x)), (3, .int (nI (e + 1)))]) (by rw [show nI e + 1 = nI (e + 1) from nI_add _ _]) ?_
          refine wq_run1 (pc' := 2) (L' := [(0, .ref 2), (1, .int (nI t)), (2, .int (nI x)), (3, .int (nI (e + 1)))]) (S' := []) (f' := f) rfl ?_
          exact ih (e + 1) (by omega) (fun e' he' q1 q2 => by
            rcases Nat.lt_or_ge e' e with c | c
            · exact h9 e' c q1 q2
            · have e1 : e' = e := by omega
              subst e1
              exact h_30 q2) (by omega)
        · have h_30 := b2i_n0.mp c_30
          refine wq_run1 (pc' := 34) (L' := [(0, .ref 2), (1, .int (nI t)), (2, .int (nI x)), (3, .int (nI e))]) (S' := [.int 1]) (f' := f) rfl ?_
          exact wq_retZ rfl (Or.inr rfl) ⟨1, rfl, rfl, fun q => absurd q (by decide)⟩
      · have k_19 : ¬ (eP W e) = t := fun q => c_19 ((nI_eq (a := (eP W e)) (b := t) (by omega) (by omega)).mpr q)
        refine wq_run1 (pc' := 38) (L' := [(0, .ref 2), (1, .int (nI t)), (2, .int (nI x)), (3, .int ((nI e) + 1))]) (S' := []) (f' := f) rfl ?_
        refine wq_L (L' := [(0, .ref 2), (1, .int (nI t)), (2, .int (nI x)), (3, .int (nI (e + 1)))]) (by rw [show nI e + 1 = nI (e + 1) from nI_add _ _]) ?_
        refine wq_run1 (pc' := 2) (L' := [(0, .ref 2), (1, .int (nI t)), (2, .int (nI x)), (3, .int (nI (e + 1)))]) (S' := []) (f' := f) rfl ?_
        exact ih (e + 1) (by omega) (fun e' he' q1 q2 => by
          rcases Nat.lt_or_ge e' e with c | c
          · exact h9 e' c q1 q2
          · have e1 : e' = e := by omega
            subst e1
            exact k_19 q1) (by omega)
theorem sp_anyLeaves {f : HI} {W : Nat → Nat → Nat} {w t x : Nat} (hL : LaC f W w) (ht : t < 10) (hx : x < 2 ^ 29) : Sp 4 19 [.ref 2, .int (nI t), .int (nI x)] f (fun v f' => ∃ r, v = some (.int r) ∧ f' = f ∧ (r = 0 → ∀ e, e < 2 * w → eP W e = t → ¬ lvN (W 3 (e / 2)) (W 4 (e / 2)) x = x)) := by
  show wq 4 19 (fun v f' => ∃ r, v = some (.int r) ∧ f' = f ∧ (r = 0 → ∀ e, e < 2 * w → eP W e = t → ¬ lvN (W 3 (e / 2)) (W 4 (e / 2)) x = x)) 0 [(0, .ref 2), (1, .int (nI t)), (2, .int (nI x))] [] f
  refine wq_run2 (pc' := 2) (L' := [(0, .ref 2), (1, .int (nI t)), (2, .int (nI x)), (3, .int 0)]) (S' := []) (f' := f) rfl ?_
  exact lp_anyLeaves hL ht hx (2 * w - 0 + 1) 0 (Nat.zero_le _) (fun _ h => absurd h (Nat.not_lt_zero _)) (Nat.lt_succ_self _)
theorem lp_hasWay {f : HI} {W : Nat → Nat → Nat} {w a b : Nat} (hL : LaC f W w) (ha : a < 10) (hb : b < 10) : ∀ (m9 : Nat) (e : Nat), (e ≤ 2 * w) → (∀ e', e' < e → ¬ (eP W e' = a ∧ eQ W e' = b)) → 2 * w - e < m9 → wq 1 14 (fun v f' => ∃ r, v = some (.int r) ∧ f' = f ∧ ((r = 0 ∧ ∀ e, e < 2 * w → ¬ (eP W e = a ∧ eQ W e = b)) ∨ (r = 1 ∧ ∃ e, e < 2 * w ∧ eP W e = a ∧ eQ W e = b))) 2 [(0, .ref 2), (1, .int (nI a)), (2, .int (nI b)), (3, .int (nI e))] [] f := by
  intro m9
  induction m9 with
  | zero => intro e he h9 hn; exact absurd hn (Nat.not_lt_zero _)
  | succ m9 ih =>
    intro e he h9 hn
    have hw16 := hL.2.1
    refine wq_run4 (pc' := 8) (L' := [(0, .ref 2), (1, .int (nI a)), (2, .int (nI b)), (3, .int (nI e))]) (S' := [.int (f 2 7), .int 2, .int (nI e)]) (f' := f) rfl ?_
    refine wq_v (y := (nI w)) (hL.1) ?_
    refine wq_run1 (pc' := 9) (L' := [(0, .ref 2), (1, .int (nI a)), (2, .int (nI b)), (3, .int (nI e))]) (S' := [.int (2 * (nI w)), .int (nI e)]) (f' := f) rfl ?_
    refine wq_v (y := (nI (2 * w))) (pk_mul 2 w) ?_
    refine wq_if (c := (nI (2 * w)) ≤ (nI e)) (p1 := 42) (L1 := [(0, .ref 2), (1, .int (nI a)), (2, .int (nI b)), (3, .int (nI e))]) (S1 := []) (p2 := 12) (L2 := [(0, .ref 2), (1, .int (nI a)), (2, .int (nI b)), (3, .int (nI e))]) (S2 := []) rfl (fun c_9 => ?_) (fun c_9 => ?_)
    · have k_9 : (2 * w) ≤ e := (nI_leI (a := (2 * w)) (b := e) (by omega) (by omega)).mp c_9
      refine wq_run1 (pc' := 43) (L' := [(0, .ref 2), (1, .int (nI a)), (2, .int (nI b)), (3, .int (nI e))]) (S' := [.int 0]) (f' := f) rfl ?_
      exact wq_retZ rfl (Or.inl rfl) ⟨0, rfl, rfl, Or.inl ⟨rfl, fun e' he' => h9 e' (by omega)⟩⟩
    · have k_9 : ¬ (2 * w) ≤ e := fun q => c_9 ((nI_leI (a := (2 * w)) (b := e) (by omega) (by omega)).mpr q)
      have hq := wy_Q hL.2.2.2.2 (e := e) (by omega)
      have hx := xor1_lt (w := w) (show e < 2 * w by omega)
      refine wq_run3 (pc' := 17) (L' := [(0, .ref 2), (1, .int (nI a)), (2, .int (nI b)), (3, .int (nI e))]) (S' := [.int (nI e), .ref 7]) (f' := f) rfl ?_
      have hp := wy_P hL.2.2.2.2 (e := e) (by omega)
      refine wq_ald (j := e) (n := 32) (v := (nI (eP W e))) rfl rfl rfl rfl (by omega) (Nat.le_of_ble_eq_true rfl) (hL.2.2.1 e (by omega)) ?_
      refine wq_run1 (pc' := 19) (L' := [(0, .ref 2), (1, .int (nI a)), (2, .int (nI b)), (3, .int (nI e))]) (S' := [.int (nI a), .int (nI (eP W e))]) (f' := f) rfl ?_
      refine wq_if (c := (nI (eP W e)) = (nI a)) (p1 := 22) (L1 := [(0, .ref 2), (1, .int (nI a)), (2, .int (nI b)), (3, .int (nI e))]) (S1 := []) (p2 := 36) (L2 := [(0, .ref 2), (1, .int (nI a)), (2, .int (nI b)), (3, .int (nI e))]) (S2 := []) rfl (fun c_19 => ?_) (fun c_19 => ?_)
      · have k_19 : (eP W e) = a := (nI_eq (a := (eP W e)) (b := a) (by omega) (by omega)).mp c_19
        refine wq_run5 (pc' := 29) (L' := [(0, .ref 2), (1, .int (nI a)), (2, .int (nI b)), (3, .int (nI e))]) (S' := [.int ((nI e) ^^^ 1), .ref 7]) (f' := f) rfl ?_
        refine wq_v (y := (nI (e ^^^ 1))) (nx_xor e 1) ?_
        refine wq_ald (j := (e ^^^ 1)) (n := 32) (v := (nI (eQ W e))) rfl rfl rfl rfl (by omega) (Nat.le_of_ble_eq_true rfl) (lac_x hL (by omega)) ?_
        refine wq_run1 (pc' := 31) (L' := [(0, .ref 2), (1, .int (nI a)), (2, .int (nI b)), (3, .int (nI e))]) (S' := [.int (nI b), .int (nI (eQ W e))]) (f' := f) rfl ?_
        refine wq_if (c := (nI (eQ W e)) = (nI b)) (p1 := 34) (L1 := [(0, .ref 2), (1, .int (nI a)), (2, .int (nI b)), (3, .int (nI e))]) (S1 := []) (p2 := 36) (L2 := [(0, .ref 2), (1, .int (nI a)), (2, .int (nI b)), (3, .int (nI e))]) (S2 := []) rfl (fun c_31 => ?_) (fun c_31 => ?_)
        · have k_31 : (eQ W e) = b := (nI_eq (a := (eQ W e)) (b := b) (by omega) (by omega)).mp c_31
          refine wq_run1 (pc' := 35) (L' := [(0, .ref 2), (1, .int (nI a)), (2, .int (nI b)), (3, .int (nI e))]) (S' := [.int 1]) (f' := f) rfl ?_
          exact wq_retZ rfl (Or.inr rfl) ⟨1, rfl, rfl, Or.inr ⟨rfl, e, by omega, k_19, k_31⟩⟩
        · have k_31 : ¬ (eQ W e) = b := fun q => c_31 ((nI_eq (a := (eQ W e)) (b := b) (by omega) (by omega)).mpr q)
          refine wq_run1 (pc' := 39) (L' := [(0, .ref 2), (1, .int (nI a)), (2, .int (nI b)), (3, .int ((nI e) + 1))]) (S' := []) (f' := f) rfl ?_
          refine wq_L (L' := [(0, .ref 2), (1, .int (nI a)), (2, .int (nI b)), (3, .int (nI (e + 1)))]) (by rw [show nI e + 1 = nI (e + 1) from nI_add _ _]) ?_
          refine wq_run1 (pc' := 2) (L' := [(0, .ref 2), (1, .int (nI a)), (2, .int (nI b)), (3, .int (nI (e + 1)))]) (S' := []) (f' := f) rfl ?_
          exact ih (e + 1) (by omega) (fun e' he' q => by
            rcases Nat.lt_or_ge e' e with c | c
            · exact h9 e' c q
            · have e1 : e' = e := by omega
              subst e1
              exact k_31 q.2) (by omega)
      · have k_19 : ¬ (eP W e) = a := fun q => c_19 ((nI_eq (a := (eP W e)) (b := a) (by omega) (by omega)).mpr q)
        refine wq_run1 (pc' := 39) (L' := [(0, .ref 2), (1, .int (nI a)), (2, .int (nI b)), (3, .int ((nI e) + 1))]) (S' := []) (f' := f) rfl ?_
        refine wq_L (L' := [(0, .ref 2), (1, .int (nI a)), (2, .int (nI b)), (3, .int (nI (e + 1)))]) (by rw [show nI e + 1 = nI (e + 1) from nI_add _ _]) ?_
        refine wq_run1 (pc' := 2) (L' := [(0, .ref 2), (1, .int (nI a)), (2, .int (nI b)), (3, .int (nI (e + 1)))]) (S' := []) (f' := f) rfl ?_
        exact ih (e + 1) (by omega) (fun e' he' q => by
          rcases Nat.lt_or_ge e' e with c | c
          · exact h9 e' c q
          · have e1 : e' = e := by omega
            subst e1
            exact k_19 q.1) (by omega)
theorem sp_hasWay {f : HI} {W : Nat → Nat → Nat} {w a b : Nat} (hL : LaC f W w) (ha : a < 10) (hb : b < 10) : Sp 1 14 [.ref 2, .int (nI a), .int (nI b)] f (fun v f' => ∃ r, v = some (.int r) ∧ f' = f ∧ ((r = 0 ∧ ∀ e, e < 2 * w → ¬ (eP W e = a ∧ eQ W e = b)) ∨ (r = 1 ∧ ∃ e, e < 2 * w ∧ eP W e = a ∧ eQ W e = b))) := by
  show wq 1 14 (fun v f' => ∃ r, v = some (.int r) ∧ f' = f ∧ ((r = 0 ∧ ∀ e, e < 2 * w → ¬ (eP W e = a ∧ eQ W e = b)) ∨ (r = 1 ∧ ∃ e, e < 2 * w ∧ eP W e = a ∧ eQ W e = b))) 0 [(0, .ref 2), (1, .int (nI a)), (2, .int (nI b))] [] f
  refine wq_run2 (pc' := 2) (L' := [(0, .ref 2), (1, .int (nI a)), (2, .int (nI b)), (3, .int 0)]) (S' := []) (f' := f) rfl ?_
  exact lp_hasWay hL ha hb (2 * w - 0 + 1) 0 (Nat.zero_le _) (fun _ h => absurd h (Nat.not_lt_zero _)) (Nat.lt_succ_self _)
