/-! walks of the class -/
theorem jp_range (f : HI) {n m : Nat} (hm : m ≤ n) (hn : n < 2 ^ 31) : Sp 1 224 [.int (nI n), .int 0, .int (nI m)] f (RetV f) := by
  show wq 1 224 (RetV f) 0 [(0, .int (nI n)), (1, .int 0), (2, .int (nI m))] [] f
  refine wq_run2 (pc' := 2) (L' := [(0, .int (nI n)), (1, .int 0), (2, .int (nI m))]) (S' := [.int (nI m), .int 0]) (f' := f) rfl ?_
  refine wq_if (c := 0 ≤ (nI m)) (p1 := 46) (L1 := [(0, .int (nI n)), (1, .int 0), (2, .int (nI m))]) (S1 := []) (p2 := 5) (L2 := [(0, .int (nI n)), (1, .int 0), (2, .int (nI m))]) (S2 := []) rfl (fun _ => ?_) (fun q => absurd (nI_pos' (by omega)) q)
  refine wq_run1 (pc' := 47) (L' := [(0, .int (nI n)), (1, .int 0), (2, .int (nI m))]) (S' := [.int 0]) (f' := f) rfl ?_
  refine wq_if (c := 0 ≤ 0) (p1 := 59) (L1 := [(0, .int (nI n)), (1, .int 0), (2, .int (nI m))]) (S1 := []) (p2 := 50) (L2 := [(0, .int (nI n)), (1, .int 0), (2, .int (nI m))]) (S2 := []) rfl (fun _ => ?_) (fun q => absurd (by decide) q)
  refine wq_run2 (pc' := 61) (L' := [(0, .int (nI n)), (1, .int 0), (2, .int (nI m))]) (S' := [.int (nI n), .int (nI m)]) (f' := f) rfl ?_
  refine wq_if (c := (nI m) ≤ (nI n)) (p1 := 73) (L1 := [(0, .int (nI n)), (1, .int 0), (2, .int (nI m))]) (S1 := []) (p2 := 64) (L2 := [(0, .int (nI n)), (1, .int 0), (2, .int (nI m))]) (S2 := []) rfl (fun _ => ?_) (fun q => absurd (nI_le hm hn) q)
  exact wq_ret rfl ⟨rfl, rfl⟩
theorem lp_fillW (f : HI) (v : Int32) {m : Nat} (hm : m ≤ 22528) : ∀ (m9 : Nat) (i : Nat), (i ≤ m) → m - i < m9 → wq 2 226 (RetV (up1 f 82 (flN v (f 82) m))) 10 [(0, .ref 82), (2, .int (nI m)), (3, .int v), (4, .int (nI i))] [] (up1 f 82 (flN v (f 82) i)) := by
  intro m9
  induction m9 with
  | zero => intro i hi hn; exact absurd hn (Nat.not_lt_zero _)
  | succ m9 ih =>
    intro i hi hn
    refine wq_run2 (pc' := 13) (L' := [(0, .ref 82), (2, .int (nI m)), (3, .int v), (4, .int (nI i))]) (S' := [.int (nI m), .int (nI i)]) (f' := (up1 f 82 (flN v (f 82) i))) rfl ?_
    refine wq_if (c := (nI m) ≤ (nI i)) (p1 := 27) (L1 := [(0, .ref 82), (2, .int (nI m)), (3, .int v), (4, .int (nI i))]) (S1 := []) (p2 := 16) (L2 := [(0, .ref 82), (2, .int (nI m)), (3, .int v), (4, .int (nI i))]) (S2 := []) rfl (fun c_13 => ?_) (fun c_13 => ?_)
    · have k_13 : m ≤ i := (nI_leI (a := m) (b := i) (by omega) (by omega)).mp c_13
      have e : i = m := by omega
      exact wq_ret rfl (RetV.of (by rw [e]))
    · have k_13 : ¬ m ≤ i := fun q => c_13 ((nI_leI (a := m) (b := i) (by omega) (by omega)).mpr q)
      refine wq_run3 (pc' := 20) (L' := [(0, .ref 82), (2, .int (nI m)), (3, .int v), (4, .int (nI i))]) (S' := [.int v, .int (nI i), .ref 82]) (f' := (up1 f 82 (flN v (f 82) i))) rfl ?_
      refine wq_ist (j := i) (n := 22528) rfl rfl rfl rfl (by omega) (Nat.le_of_ble_eq_true rfl) ?_
      refine wq_h (f' := (up1 f 82 (upd (flN v (f 82) i) i v))) ((up2_up1_eq f 82 (flN v (f 82) i) i v).trans (congrArg (fun z => up1 f 82 z) (rfl))) ?_
      refine wq_run1 (pc' := 24) (L' := [(0, .ref 82), (2, .int (nI m)), (3, .int v), (4, .int ((nI i) + 1))]) (S' := []) (f' := (up1 f 82 (upd (flN v (f 82) i) i v))) rfl ?_
      refine wq_L (L' := [(0, .ref 82), (2, .int (nI m)), (3, .int v), (4, .int (nI (i + 1)))]) (by rw [show nI i + 1 = nI (i + 1) from nI_add _ _]) ?_
      refine wq_run1 (pc' := 10) (L' := [(0, .ref 82), (2, .int (nI m)), (3, .int v), (4, .int (nI (i + 1)))]) (S' := []) (f' := (up1 f 82 (upd (flN v (f 82) i) i v))) rfl ?_
      rw [fl_s]
      exact ih (i + 1) (by omega) (by omega)
theorem jp_fillW (f : HI) (v : Int32) {m : Nat} (hm : m ≤ 22528) : Sp 2 226 [.ref 82, .int 0, .int (nI m), .int v] f (RetV (up1 f 82 (flN v (f 82) m))) := by
  show wq 2 226 (RetV (up1 f 82 (flN v (f 82) m))) 0 [(0, .ref 82), (1, .int 0), (2, .int (nI m)), (3, .int v)] [] f
  refine wq_run4 (pc' := 4) (L' := [(0, .ref 82), (1, .int 0), (2, .int (nI m)), (3, .int v)]) (S' := [.int (nI m), .int 0, .int (nI 22528)]) (f' := f) rfl ?_
  refine wq_callV (g := f) (jp_range f (n := 22528) hm (Nat.le_of_ble_eq_true rfl)) (Nat.le_of_ble_eq_true rfl) (pc' := 7) (L' := [(0, .ref 82), (1, .int 0), (2, .int (nI m)), (3, .int v)]) (S' := []) rfl (Nat.le_of_ble_eq_true rfl) rfl rfl (Nat.le_of_ble_eq_true rfl) (Nat.le_of_ble_eq_true rfl) ?_
  refine wq_run2 (pc' := 10) (L' := [(0, .ref 82), (2, .int (nI m)), (3, .int v), (4, .int 0)]) (S' := []) (f' := f) rfl ?_
  have h := lp_fillW f v hm (m + 1) 0 (Nat.zero_le _) (Nat.lt_succ_self _)
  rw [fl_0, up1_id] at h
  exact h
theorem st_fin {D : Nat → Nat → Nat} {a b : Nat} (hD : Mt 12 100000000 30 D) (ha : a < 12) (hb : b < 12) (h1 : D 0 a < 100000000) (h2 : D 0 b < 100000000) : D a b < 100000000 := by
  have t := hD.2.2.1 a 0 b ha (by omega) hb
  have s := hD.1 a 0 ha (by omega)
  have b1 := mt_b hD (show 0 < 12 by omega) ha h1
  have b2 := mt_b hD (show 0 < 12 by omega) hb h2
  omega
theorem all_b {k i : Nat} (h : i < k) : bN (2 ^ k - 1) i = 1 := by
  rw [bN_tb, Nat.testBit_two_pow_sub_one]
  exact decide_eq_true h
theorem pic_up {k m0 i0 v : Nat} {g : Nat → Int32} {A : Nat → Nat → Nat} (hk : k ≤ 11) (hi : i0 < k) (h : ∀ m i, m < 2 ^ k → i < k → g (m * 11 + i) = nI (A m i)) : ∀ m i, m < 2 ^ k → i < k → upd g (m0 * 11 + i0) (nI v) (m * 11 + i) = nI ((updE A m0 i0 v) m i) := by
  intro m i hm hi2
  unfold upd updE
  by_cases c : m = m0 ∧ i = i0
  · rw [if_pos c, c.1, c.2]; exact if_pos rfl
  · rw [if_neg c, if_neg (by omega)]; exact h m i hm hi2
theorem lp_goOn {f : HI} {D : Nat → Nat → Nat} {P : Nat → Nat} {k : Nat} (hk11 : k ≤ 11) (hsz : f 78 0 = 12) (hD : Mt 12 100000000 30 D) (hr : ∀ p q, p < 12 → q < 12 → f 79 (p * 12 + q) = nI (D p q)) (hP : ∀ i, i < k → P i < 12 ∧ D 0 (P i) < 100000000 ∧ f 81 i = nI (P i)) {s j L0 : Nat} (hs : s < 2 ^ k) (hj : j < k) : ∀ (m9 : Nat) (e : Nat) (g : Nat → Int32) (A : Nat → Nat → Nat), (e ≤ k) → (∀ m i, m < 2 ^ k → i < k → g (m * 11 + i) = nI (A m i)) → (SndT D P k (2 ^ k - 1) 100000000 A) → (A s j = L0) → (Cpl D P k (2 ^ k - 1) A (fun _ => True) (dnP s j e)) → k - e < m9 → wq 2 63 (fun v f' => ∃ g' A', v = none ∧ f' = up1 f 82 g' ∧ (∀ m i, m < 2 ^ k → i < k → g' (m * 11 + i) = nI (A' m i)) ∧ SndT D P k (2 ^ k - 1) 100000000 A' ∧ Cpl D P k (2 ^ k - 1) A' (fun _ => True) (dnP s j k)) 16 [(0, .ref 77), (1, .int (nI s)), (2, .int (nI j)), (3, .int (nI k)), (4, .int (nI L0)), (5, .int (nI e))] [] (up1 f 82 g) := by
  intro m9
  induction m9 with
  | zero => intro e g A he hg hS hAs hC hn; exact absurd hn (Nat.not_lt_zero _)
  | succ m9 ih =>
    intro e g A he hg hS hAs hC hn
    have hpk : 2 ^ k ≤ 2048 := pw_le hk11
    have hbb := bN_lt s e
    have hL0 := (hS s j hs hj).1
    refine wq_run2 (pc' := 19) (L' := [(0, .ref 77), (1, .int (nI s)), (2, .int (nI j)), (3, .int (nI k)), (4, .int (nI L0)), (5, .int (nI e))]) (S' := [.int (nI k), .int (nI e)]) (f' := (up1 f 82 g)) rfl ?_
    refine wq_if (c := (nI k) ≤ (nI e)) (p1 := 94) (L1 := [(0, .ref 77), (1, .int (nI s)), (2, .int (nI j)), (3, .int (nI k)), (4, .int (nI L0)), (5, .int (nI e))]) (S1 := []) (p2 := 22) (L2 := [(0, .ref 77), (1, .int (nI s)), (2, .int (nI j)), (3, .int (nI k)), (4, .int (nI L0)), (5, .int (nI e))]) (S2 := []) rfl (fun c_19 => ?_) (fun c_19 => ?_)
    · have k_19 : k ≤ e := (nI_leI (a := k) (b := e) (by omega) (by omega)).mp c_19
      have e1 : e = k := by omega
      rw [e1] at hC
      exact wq_ret rfl ⟨g, A, rfl, rfl, hg, hS, hC⟩
    · have k_19 : ¬ k ≤ e := fun q => c_19 ((nI_leI (a := k) (b := e) (by omega) (by omega)).mpr q)
      have hor := or_pw_lt hs (show e < k by omega)
      have hPj := hP j hj
      have hPe := hP e (by omega)
      have hfin := st_fin hD hPj.1 hPe.1 hPj.2.1 hPe.2.1
      refine wq_run5 (pc' := 28) (L' := [(0, .ref 77), (1, .int (nI s)), (2, .int (nI j)), (3, .int (nI k)), (4, .int (nI L0)), (5, .int (nI e))]) (S' := [.int (((nI s) >>> ((nI e) &&& 31)) &&& 1)]) (f' := (up1 f 82 g)) rfl ?_
      refine wq_v (y := (nI (bN s e))) (bitN (by omega) (by omega)) ?_
      refine wq_if (c := (nI (bN s e)) = 0) (p1 := 34) (L1 := [(0, .ref 77), (1, .int (nI s)), (2, .int (nI j)), (3, .int (nI k)), (4, .int (nI L0)), (5, .int (nI e))]) (S1 := []) (p2 := 31) (L2 := [(0, .ref 77), (1, .int (nI s)), (2, .int (nI j)), (3, .int (nI k)), (4, .int (nI L0)), (5, .int (nI e))]) (S2 := []) rfl (fun c_28 => ?_) (fun c_28 => ?_)
      · have k_28 : (bN s e) = 0 := (nI_eq (a := (bN s e)) (b := 0) (by omega) (by omega)).mp c_28
        refine wq_run4 (pc' := 39) (L' := [(0, .ref 77), (1, .int (nI s)), (2, .int (nI j)), (3, .int (nI k)), (4, .int (nI L0)), (5, .int (nI e))]) (S' := [.int ((1 : Int32) <<< ((nI e) &&& 31)), .int (nI s)]) (f' := (up1 f 82 g)) rfl ?_
        refine wq_v (y := (nI (2 ^ e))) (shl1 (n := e) (by omega)) ?_
        refine wq_run1 (pc' := 40) (L' := [(0, .ref 77), (1, .int (nI s)), (2, .int (nI j)), (3, .int (nI k)), (4, .int (nI L0)), (5, .int (nI e))]) (S' := [.int ((nI s) ||| (nI (2 ^ e)))]) (f' := (up1 f 82 g)) rfl ?_
        refine wq_v (y := (nI (s ||| (2 ^ e)))) (nx_or s (2 ^ e)) ?_
        refine wq_run2 (pc' := 43) (L' := [(0, .ref 77), (1, .int (nI s)), (2, .int (nI j)), (3, .int (nI k)), (4, .int (nI L0)), (5, .int (nI e))]) (S' := [.int ((nI (s ||| (2 ^ e))) * 11)]) (f' := (up1 f 82 g)) rfl ?_
        refine wq_v (y := (nI ((s ||| (2 ^ e)) * 11))) (pk_mul (s ||| (2 ^ e)) 11) ?_
        refine wq_run2 (pc' := 46) (L' := [(0, .ref 77), (1, .int (nI s)), (2, .int (nI j)), (3, .int (nI k)), (4, .int (nI L0)), (5, .int (nI e))]) (S' := [.int ((nI ((s ||| (2 ^ e)) * 11)) + (nI e))]) (f' := (up1 f 82 g)) rfl ?_
        refine wq_v (y := (nI (((s ||| (2 ^ e)) * 11) + e))) (nI_add ((s ||| (2 ^ e)) * 11) e) ?_
        refine wq_run7 (pc' := 60) (L' := [(0, .ref 77), (1, .int (nI s)), (2, .int (nI j)), (3, .int (nI k)), (4, .int (nI L0)), (5, .int (nI e)), (6, .int (nI (((s ||| (2 ^ e)) * 11) + e)))]) (S' := [.int (nI (((s ||| (2 ^ e)) * 11) + e)), .ref 82, .int (nI (((s ||| (2 ^ e)) * 11) + e)), .ref 82]) (f' := (up1 f 82 g)) rfl ?_
        have hA_ := (hS (s ||| (2 ^ e)) e (by omega) (by omega)).1
        refine wq_ald (j := (((s ||| (2 ^ e)) * 11) + e)) (n := 22528) (v := (nI (A (s ||| (2 ^ e)) e))) rfl rfl rfl rfl (by omega) (Nat.le_of_ble_eq_true rfl) (hg (s ||| (2 ^ e)) e (by omega) (by omega)) ?_
        refine wq_run6 (pc' := 72) (L' := [(0, .ref 77), (1, .int (nI s)), (2, .int (nI j)), (3, .int (nI k)), (4, .int (nI L0)), (5, .int (nI e)), (6, .int (nI (((s ||| (2 ^ e)) * 11) + e)))]) (S' := [.int (nI j), .ref 81, .ref 78, .int (nI L0), .int (nI (A (s ||| (2 ^ e)) e)), .int (nI (((s ||| (2 ^ e)) * 11) + e)), .ref 82]) (f' := (up1 f 82 g)) rfl ?_
        have hP_ := hP j (by omega)
        refine wq_ald (j := j) (n := 11) (v := (nI (P j))) rfl rfl rfl rfl (by omega) (Nat.le_of_ble_eq_true rfl) ((hP j (by omega)).2.2) ?_
        refine wq_run3 (pc' := 79) (L' := [(0, .ref 77), (1, .int (nI s)), (2, .int (nI j)), (3, .int (nI k)), (4, .int (nI L0)), (5, .int (nI e)), (6, .int (nI (((s ||| (2 ^ e)) * 11) + e)))]) (S' := [.int (nI e), .ref 81, .int (nI (P j)), .ref 78, .int (nI L0), .int (nI (A (s ||| (2 ^ e)) e)), .int (nI (((s ||| (2 ^ e)) * 11) + e)), .ref 82]) (f' := (up1 f 82 g)) rfl ?_
        have hP_ := hP e (by omega)
        refine wq_ald (j := e) (n := 11) (v := (nI (P e))) rfl rfl rfl rfl (by omega) (Nat.le_of_ble_eq_true rfl) ((hP e (by omega)).2.2) ?_
        refine wq_callI (r := (nI (D (P j) (P e)))) ((show Sp 1 12 [.ref 78, .int (nI (P j)), .int (nI (P e))] (up1 f 82 g) (Ret (nI (D (P j) (P e))) (up1 f 82 g)) by have h := sp_betweenS (f := (up1 f 82 g)) (a := (P j)) (b := (P e)) hsz hD (by omega) (by omega) hr; rw [dJ_v hfin] at h; exact h)) (Nat.le_of_ble_eq_true rfl) (pc' := 83) (L' := [(0, .ref 77), (1, .int (nI s)), (2, .int (nI j)), (3, .int (nI k)), (4, .int (nI L0)), (5, .int (nI e)), (6, .int (nI (((s ||| (2 ^ e)) * 11) + e)))]) (S' := [.int (nI L0), .int (nI (A (s ||| (2 ^ e)) e)), .int (nI (((s ||| (2 ^ e)) * 11) + e)), .ref 82]) rfl (Nat.le_of_ble_eq_true rfl) rfl rfl (Nat.le_of_ble_eq_true rfl) (Nat.le_of_ble_eq_true rfl) ?_
        refine wq_run1 (pc' := 84) (L' := [(0, .ref 77), (1, .int (nI s)), (2, .int (nI j)), (3, .int (nI k)), (4, .int (nI L0)), (5, .int (nI e)), (6, .int (nI (((s ||| (2 ^ e)) * 11) + e)))]) (S' := [.int ((nI L0) + (nI (D (P j) (P e)))), .int (nI (A (s ||| (2 ^ e)) e)), .int (nI (((s ||| (2 ^ e)) * 11) + e)), .ref 82]) (f' := (up1 f 82 g)) rfl ?_
        refine wq_v (y := (nI (L0 + (D (P j) (P e))))) (nI_add L0 (D (P j) (P e))) ?_
        refine wq_callI (r := (nI (min (A (s ||| (2 ^ e)) e) (L0 + (D (P j) (P e)))))) ((show Sp 1 217 [.int (nI (A (s ||| (2 ^ e)) e)), .int (nI (L0 + (D (P j) (P e))))] (up1 f 82 g) (Ret (nI (min (A (s ||| (2 ^ e)) e) (L0 + (D (P j) (P e))))) (up1 f 82 g)) by have h := jp_min (up1 f 82 g) (nI (A (s ||| (2 ^ e)) e)) (nI (L0 + (D (P j) (P e)))); rw [imin_N (by omega) (by omega)] at h; exact h)) (Nat.le_of_ble_eq_true rfl) (pc' := 87) (L' := [(0, .ref 77), (1, .int (nI s)), (2, .int (nI j)), (3, .int (nI k)), (4, .int (nI L0)), (5, .int (nI e)), (6, .int (nI (((s ||| (2 ^ e)) * 11) + e)))]) (S' := [.int (nI (((s ||| (2 ^ e)) * 11) + e)), .ref 82]) rfl (Nat.le_of_ble_eq_true rfl) rfl rfl (Nat.le_of_ble_eq_true rfl) (Nat.le_of_ble_eq_true rfl) ?_
        refine wq_ist (j := (((s ||| (2 ^ e)) * 11) + e)) (n := 22528) rfl rfl rfl rfl (by omega) (Nat.le_of_ble_eq_true rfl) ?_
        refine wq_h (f' := (up1 f 82 (upd g (((s ||| (2 ^ e)) * 11) + e) (nI (min (A (s ||| (2 ^ e)) e) (L0 + (D (P j) (P e)))))))) ((up2_up1_eq f 82 g (((s ||| (2 ^ e)) * 11) + e) (nI (min (A (s ||| (2 ^ e)) e) (L0 + (D (P j) (P e)))))).trans (congrArg (fun z => up1 f 82 z) (rfl))) ?_
        refine wq_run1 (pc' := 91) (L' := [(0, .ref 77), (1, .int (nI s)), (2, .int (nI j)), (3, .int (nI k)), (4, .int (nI L0)), (5, .int ((nI e) + 1)), (6, .int (nI (((s ||| (2 ^ e)) * 11) + e)))]) (S' := []) (f' := (up1 f 82 (upd g (((s ||| (2 ^ e)) * 11) + e) (nI (min (A (s ||| (2 ^ e)) e) (L0 + (D (P j) (P e)))))))) rfl ?_
        refine wq_L (L' := [(0, .ref 77), (1, .int (nI s)), (2, .int (nI j)), (3, .int (nI k)), (4, .int (nI L0)), (5, .int (nI (e + 1))), (6, .int (nI (((s ||| (2 ^ e)) * 11) + e)))]) (by rw [show nI e + 1 = nI (e + 1) from nI_add _ _]) ?_
        refine wq_run1 (pc' := 16) (L' := [(0, .ref 77), (1, .int (nI s)), (2, .int (nI j)), (3, .int (nI k)), (4, .int (nI L0)), (5, .int (nI (e + 1)))]) (S' := []) (f' := (up1 f 82 (upd g (((s ||| (2 ^ e)) * 11) + e) (nI (min (A (s ||| (2 ^ e)) e) (L0 + (D (P j) (P e)))))))) rfl ?_
        have hbe : ¬ bN s e = 1 := by omega
        have hgt := or_gt hbe
        exact ih (e + 1) _ _ (by omega) (pic_up hk11 (by omega) hg) (sn_rlx hs (by omega) (by omega) hbe (all_b (by omega)) (by rw [hAs]) hS) (by
          unfold updE
          rw [if_neg (fun q => by omega)]
          exact hAs) (cp_rlx (fun _ _ => trivial) hs (by omega) hbe (by rw [hAs]) hC) (by omega)
      · have k_28 : ¬ (bN s e) = 0 := fun q => c_28 ((nI_eq (a := (bN s e)) (b := 0) (by omega) (by omega)).mpr q)
        refine wq_run2 (pc' := 91) (L' := [(0, .ref 77), (1, .int (nI s)), (2, .int (nI j)), (3, .int (nI k)), (4, .int (nI L0)), (5, .int ((nI e) + 1))]) (S' := []) (f' := (up1 f 82 g)) rfl ?_
        refine wq_L (L' := [(0, .ref 77), (1, .int (nI s)), (2, .int (nI j)), (3, .int (nI k)), (4, .int (nI L0)), (5, .int (nI (e + 1)))]) (by rw [show nI e + 1 = nI (e + 1) from nI_add _ _]) ?_
        refine wq_run1 (pc' := 16) (L' := [(0, .ref 77), (1, .int (nI s)), (2, .int (nI j)), (3, .int (nI k)), (4, .int (nI L0)), (5, .int (nI (e + 1)))]) (S' := []) (f' := (up1 f 82 g)) rfl ?_
        exact ih (e + 1) g A (by omega) hg hS hAs (cp_mono hC (fun _ _ _ z => z) (fun p j2 i l' hp hv hj2 hi hb1 hb2 hbS hd => by
          have z : ¬ (p = s ∧ i = e) := fun q => by rw [q.1, q.2] at hb2; omega
          unfold dnP at hd ⊢
          omega)) (by omega)
theorem sp_goOn {f : HI} {D : Nat → Nat → Nat} {P : Nat → Nat} {k : Nat} (hk11 : k ≤ 11) (hsz : f 78 0 = 12) (hD : Mt 12 100000000 30 D) (hr : ∀ p q, p < 12 → q < 12 → f 79 (p * 12 + q) = nI (D p q)) (hP : ∀ i, i < k → P i < 12 ∧ D 0 (P i) < 100000000 ∧ f 81 i = nI (P i)) {s j : Nat} {g : Nat → Int32} {A : Nat → Nat → Nat} (hs : s < 2 ^ k) (hj : j < k) (hg : ∀ m i, m < 2 ^ k → i < k → g (m * 11 + i) = nI (A m i)) (hS : SndT D P k (2 ^ k - 1) 100000000 A) (hC : Cpl D P k (2 ^ k - 1) A (fun _ => True) (dnP s j 0)) : Sp 2 63 [.ref 77, .int (nI s), .int (nI j), .int (nI k)] (up1 f 82 g) (fun v f' => ∃ g' A', v = none ∧ f' = up1 f 82 g' ∧ (∀ m i, m < 2 ^ k → i < k → g' (m * 11 + i) = nI (A' m i)) ∧ SndT D P k (2 ^ k - 1) 100000000 A' ∧ Cpl D P k (2 ^ k - 1) A' (fun _ => True) (dnP s j k)) := by
  have hpk : 2 ^ k ≤ 2048 := pw_le hk11
  show wq 2 63 (fun v f' => ∃ g' A', v = none ∧ f' = up1 f 82 g' ∧ (∀ m i, m < 2 ^ k → i < k → g' (m * 11 + i) = nI (A' m i)) ∧ SndT D P k (2 ^ k - 1) 100000000 A' ∧ Cpl D P k (2 ^ k - 1) A' (fun _ => True) (dnP s j k)) 0 [(0, .ref 77), (1, .int (nI s)), (2, .int (nI j)), (3, .int (nI k))] [] (up1 f 82 g)
  refine wq_run5 (pc' := 8) (L' := [(0, .ref 77), (1, .int (nI s)), (2, .int (nI j)), (3, .int (nI k))]) (S' := [.int ((nI s) * 11), .ref 82]) (f' := (up1 f 82 g)) rfl ?_
  refine wq_v (y := (nI (s * 11))) (pk_mul s 11) ?_
  refine wq_run2 (pc' := 10) (L' := [(0, .ref 77), (1, .int (nI s)), (2, .int (nI j)), (3, .int (nI k))]) (S' := [.int ((nI (s * 11)) + (nI j)), .ref 82]) (f' := (up1 f 82 g)) rfl ?_
  refine wq_v (y := (nI ((s * 11) + j))) (nI_add (s * 11) j) ?_
  have hA_ := (hS s j (by omega) (by omega)).1
  refine wq_ald (j := ((s * 11) + j)) (n := 22528) (v := (nI (A s j))) rfl rfl rfl rfl (by omega) (Nat.le_of_ble_eq_true rfl) (hg s j (by omega) (by omega)) ?_
  refine wq_run3 (pc' := 16) (L' := [(0, .ref 77), (1, .int (nI s)), (2, .int (nI j)), (3, .int (nI k)), (4, .int (nI (A s j))), (5, .int 0)]) (S' := []) (f' := (up1 f 82 g)) rfl ?_
  exact lp_goOn hk11 hsz hD hr hP hs hj (k - 0 + 1) 0 g A (Nat.zero_le _) hg hS rfl hC (Nat.lt_succ_self _)
def mnN (h : Nat → Nat) : Nat → Nat
  | 0 => 100000000
  | t + 1 => min (mnN h t) (h t)
theorem mn_le {h : Nat → Nat} : ∀ k, mnN h k ≤ 100000000 ∧ ∀ i, i < k → mnN h k ≤ h i := by
  intro k
  induction k with
  | zero => exact ⟨Nat.le_refl _, fun i h => absurd h (Nat.not_lt_zero _)⟩
  | succ k ih =>
    refine ⟨Nat.le_trans (Nat.min_le_left _ _) ih.1, fun i hi => ?_⟩
    rcases Nat.lt_or_ge i k with c | c
    · exact Nat.le_trans (Nat.min_le_left _ _) (ih.2 i c)
    · have e : i = k := by omega
      rw [e]; exact Nat.min_le_right _ _
theorem mn_at {h : Nat → Nat} : ∀ k, mnN h k = 100000000 ∨ ∃ i, i < k ∧ mnN h k = h i := by
  intro k
  induction k with
  | zero => exact Or.inl rfl
  | succ k ih =>
    rcases Nat.le_total (mnN h k) (h k) with c | c
    · rw [show mnN h (k + 1) = mnN h k from Nat.min_eq_left c]
      rcases ih with q | ⟨i, hi, q⟩
      · exact Or.inl q
      · exact Or.inr ⟨i, by omega, q⟩
    · exact Or.inr ⟨k, Nat.lt_succ_self k, Nat.min_eq_right c⟩
theorem va_nil (K : Nat) : vaL K 0 [] := ⟨List.nodup_nil, fun i => ⟨fun h => (by cases h), fun h => absurd h.2 (bN_zero i)⟩⟩
theorem va_one {K i : Nat} (h : i < K) : vaL K (2 ^ i) [i] := by
  have := va_or (va_nil K) h (bN_zero i)
  rw [Nat.zero_or] at this
  exact this
def a0N (D : Nat → Nat → Nat) (P : Nat → Nat) (t m i : Nat) : Nat := if m = 2 ^ i ∧ i < t then D 0 (P i) else 100000000
theorem snT_0 {D : Nat → Nat → Nat} {P : Nat → Nat} {k : Nat} (h : ∀ i, i < k → D 0 (P i) < 100000000) : SndT D P k (2 ^ k - 1) 100000000 (a0N D P k) := by
  intro m i hm hi
  unfold a0N
  by_cases c : m = 2 ^ i ∧ i < k
  · rw [if_pos c]
    refine ⟨Nat.le_of_lt (h i hi), Or.inr ⟨[], ?_, fun x hx => ?_, rfl⟩⟩
    · rw [c.1]; exact va_one hi
    · rw [List.mem_singleton.mp hx]; exact all_b hi
  · rw [if_neg c]; exact ⟨Nat.le_refl _, Or.inl rfl⟩
theorem cpT_0 {D : Nat → Nat → Nat} {P : Nat → Nat} {k : Nat} : Cpl D P k (2 ^ k - 1) (a0N D P k) (fun _ => True) (dnP 1 0 0) := by
  intro m i l hm hv _ _ hn
  obtain ⟨p, hp, hvp, e, hb, hi⟩ := vl_tail hm hv
  cases l with
  | nil =>
    have e2 := va_u hm (Nat.pow_lt_pow_right (by decide) hi) hv (va_one hi)
    unfold a0N
    rw [if_pos ⟨e2, hi⟩]
    exact Nat.le_refl _
  | cons j l' =>
    have h1 := hn j l' rfl p hp hvp
    have h2 : p = 0 := by unfold dnP at h1; omega
    rw [h2] at hvp
    exact absurd ((hvp.2 j).mp List.mem_cons_self).2 (bN_zero j)
