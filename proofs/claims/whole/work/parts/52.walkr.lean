/-! walk of the reference: the run -/
theorem pic_um {n m0 i0 v : Nat} {g : Nat → Int32} {A : Nat → Nat → Nat} (hn : n ≤ 12) (hm : 0 < m0) (hi : i0 < n) (h : ∀ m i, m < 2 ^ n → i < n → g (12 * m + i) = nI (vTN A m i)) : ∀ m i, m < 2 ^ n → i < n → upd g (12 * m0 + i0) (nI v) (12 * m + i) = nI (vTN (updE A m0 i0 v) m i) := by
  intro m i hm2 hi2
  unfold upd
  by_cases c : m = m0 ∧ i = i0
  · rw [if_pos (by omega)]
    unfold vTN updE
    rw [if_neg (by omega), if_pos c]
  · rw [if_neg (by omega), h m i hm2 hi2]
    unfold vTN updE
    rw [if_neg c]
theorem cp_1f {D : Nat → Nat → Nat} {n S U : Nat} {A : Nat → Nat → Nat} {e : Nat} (hA : SndT D idN n S U A) (hU : U ≤ D 0 e) (h : Cpl D idN n S A (fun i => i < e) (dnP 0 0 e)) : Cpl D idN n S A (fun i => i < e + 1) (dnP 0 0 (e + 1)) := by
  intro m i l hm hv hS hd hn
  obtain ⟨p, hp, hvp, e1, hb, hi⟩ := vl_tail hm hv
  cases l with
  | cons j l' =>
    have h1 := hn j l' rfl p hp hvp
    have h2 : p = 0 := by unfold dnP at h1; omega
    rw [h2] at hvp
    exact absurd hvp vl_0
  | nil =>
    by_cases c : i = e
    · have h3 := (hA m i hm hi).1
      show A m i ≤ D 0 i
      rw [c] at h3 ⊢
      omega
    · exact h m i [] hm hv hS (fun _ => by have := hd rfl; omega) (fun j l' q => by cases q)
theorem vt_le {D : Nat → Nat → Nat} {n S U : Nat} {A : Nat → Nat → Nat} {s d : Nat} (hA : SndT D idN n S U A) (hs : s < 2 ^ n) (hd : d < n) : vTN A s d ≤ U := by
  unfold vTN
  split
  · exact Nat.zero_le _
  · exact (hA s d hs hd).1
theorem mlp_e1 {f : HI} {D : Nat → Nat → Nat} {n S : Nat} (hn12 : n ≤ 12) (hn1 : 1 ≤ n) (hS2 : S < 2 ^ n) (h53 : f 92 53 = nI n) (hD : Mt n 268435456 30 D) (hr : ∀ p q, p < n → q < n → f 129 (12 * p + q) = nI (D p q)) {s d b b0 : Nat} (hs : s < 2 ^ n) (hs1 : 0 < s) (hd : d < n) (hb0 : b0 < 268435456) (K : ∀ (g : Nat → Int32) (A : Nat → Nat → Nat), (∀ m i, m < 2 ^ n → i < n → g (12 * m + i) = nI (vTN A m i)) → SndT D idN n S 268435456 A → Cpl D idN n S A (fun _ => True) (dnP s (d + 1) 0) → wq 2 196 (fun v f' => ∃ g r0, v = some (.int r0) ∧ f' = up1 f 141 g ∧ WkM D n S r0) 93 [(0, .ref 92), (1, .int (nI S)), (2, .int (nI b)), (3, .int (nI s)), (4, .int (nI (d + 1)))] [] (up1 f 141 g)) : ∀ (m9 : Nat) (e : Nat) (g : Nat → Int32) (A : Nat → Nat → Nat), (e ≤ n) → (∀ m i, m < 2 ^ n → i < n → g (12 * m + i) = nI (vTN A m i)) → (SndT D idN n S 268435456 A) → (A s d = b0) → (Cpl D idN n S A (fun _ => True) (dnP s d e)) → n - e < m9 → wq 2 196 (fun v f' => ∃ g r0, v = some (.int r0) ∧ f' = up1 f 141 g ∧ WkM D n S r0) 149 [(0, .ref 92), (1, .int (nI S)), (2, .int (nI b)), (3, .int (nI s)), (4, .int (nI d)), (5, .int (nI b0)), (6, .int (nI e))] [] (up1 f 141 g) := by
  intro m9
  induction m9 with
  | zero => intro e g A he hg hS hAs hC hn; exact absurd hn (Nat.not_lt_zero _)
  | succ m9 ih =>
    intro e g A he hg hS hAs hC hn
    have h12 := p12 hn12
    have hp0 := p0 n
    have hpe : e < n → s ||| 2 ^ e < 2 ^ n := fun q => or_pw_lt hs q
    have hbb := bN_lt (S &&& (4095 ^^^ s)) e
    refine wq_run3 (pc' := 155) (L' := [(0, .ref 92), (1, .int (nI S)), (2, .int (nI b)), (3, .int (nI s)), (4, .int (nI d)), (5, .int (nI b0)), (6, .int (nI e))]) (S' := [.int (f 92 53), .int (nI e)]) (f' := (up1 f 141 g)) rfl ?_
    refine wq_v (y := (nI n)) (h53) ?_
    refine wq_if (c := (nI n) ≤ (nI e)) (p1 := 250) (L1 := [(0, .ref 92), (1, .int (nI S)), (2, .int (nI b)), (3, .int (nI s)), (4, .int (nI d)), (5, .int (nI b0)), (6, .int (nI e))]) (S1 := []) (p2 := 158) (L2 := [(0, .ref 92), (1, .int (nI S)), (2, .int (nI b)), (3, .int (nI s)), (4, .int (nI d)), (5, .int (nI b0)), (6, .int (nI e))]) (S2 := []) rfl (fun c_155 => ?_) (fun c_155 => ?_)
    · have k_155 : n ≤ e := (nI_leI (a := n) (b := e) (by omega) (by omega)).mp c_155
      refine wq_run1 (pc' := 253) (L' := [(0, .ref 92), (1, .int (nI S)), (2, .int (nI b)), (3, .int (nI s)), (4, .int ((nI d) + 1)), (5, .int (nI b0)), (6, .int (nI e))]) (S' := []) (f' := (up1 f 141 g)) rfl ?_
      refine wq_L (L' := [(0, .ref 92), (1, .int (nI S)), (2, .int (nI b)), (3, .int (nI s)), (4, .int (nI (d + 1))), (5, .int (nI b0)), (6, .int (nI e))]) (by rw [show nI d + 1 = nI (d + 1) from nI_add _ _]) ?_
      refine wq_run1 (pc' := 93) (L' := [(0, .ref 92), (1, .int (nI S)), (2, .int (nI b)), (3, .int (nI s)), (4, .int (nI (d + 1)))]) (S' := []) (f' := (up1 f 141 g)) rfl ?_
      have e1 : e = n := by omega
      rw [e1] at hC
      exact K g A hg hS (cp_mono hC (fun _ _ _ z => z) (fun p j2 i l' hp hv hj2 hi hb1 hb2 hbS hd => by
        unfold dnP at hd ⊢
        omega))
    · have k_155 : ¬ n ≤ e := fun q => c_155 ((nI_leI (a := n) (b := e) (by omega) (by omega)).mpr q)
      have hpe2 := hpe (by omega)
      refine wq_run2 (pc' := 162) (L' := [(0, .ref 92), (1, .int (nI S)), (2, .int (nI b)), (3, .int (nI s)), (4, .int (nI d)), (5, .int (nI b0)), (6, .int (nI e))]) (S' := [.int 268435456, .int (nI b0)]) (f' := (up1 f 141 g)) rfl ?_
      refine wq_if (c := 268435456 ≤ (nI b0)) (p1 := 250) (L1 := [(0, .ref 92), (1, .int (nI S)), (2, .int (nI b)), (3, .int (nI s)), (4, .int (nI d)), (5, .int (nI b0)), (6, .int (nI e))]) (S1 := []) (p2 := 165) (L2 := [(0, .ref 92), (1, .int (nI S)), (2, .int (nI b)), (3, .int (nI s)), (4, .int (nI d)), (5, .int (nI b0)), (6, .int (nI e))]) (S2 := []) rfl (fun q => absurd q (fun q => absurd ((nI_leI (a := 268435456) (b := b0) (by omega) (by omega)).mp q) (by omega))) (fun _ => ?_)
      refine wq_run9 (pc' := 175) (L' := [(0, .ref 92), (1, .int (nI S)), (2, .int (nI b)), (3, .int (nI s)), (4, .int (nI d)), (5, .int (nI b0)), (6, .int (nI e))]) (S' := [.int ((((nI S) &&& ((nI s) ^^^ (-1))) >>> ((nI e) &&& 31)) &&& 1)]) (f' := (up1 f 141 g)) rfl ?_
      refine wq_v (y := (nI (bN (S &&& (4095 ^^^ s)) e))) (bit2N (by omega) (by omega)) ?_
      refine wq_run1 (pc' := 176) (L' := [(0, .ref 92), (1, .int (nI S)), (2, .int (nI b)), (3, .int (nI s)), (4, .int (nI d)), (5, .int (nI b0)), (6, .int (nI e))]) (S' := [.int 1, .int (nI (bN (S &&& (4095 ^^^ s)) e))]) (f' := (up1 f 141 g)) rfl ?_
      refine wq_if (c := (nI (bN (S &&& (4095 ^^^ s)) e)) = 1) (p1 := 179) (L1 := [(0, .ref 92), (1, .int (nI S)), (2, .int (nI b)), (3, .int (nI s)), (4, .int (nI d)), (5, .int (nI b0)), (6, .int (nI e))]) (S1 := []) (p2 := 244) (L2 := [(0, .ref 92), (1, .int (nI S)), (2, .int (nI b)), (3, .int (nI s)), (4, .int (nI d)), (5, .int (nI b0)), (6, .int (nI e))]) (S2 := []) rfl (fun c_176 => ?_) (fun c_176 => ?_)
      · have k_176 : (bN (S &&& (4095 ^^^ s)) e) = 1 := (nI_eq (a := (bN (S &&& (4095 ^^^ s)) e)) (b := 1) (by omega) (by omega)).mp c_176
        refine wq_run5 (pc' := 188) (L' := [(0, .ref 92), (1, .int (nI S)), (2, .int (nI b)), (3, .int (nI s)), (4, .int (nI d)), (5, .int (nI b0)), (6, .int (nI e))]) (S' := [.int (12 * (nI d)), .ref 129]) (f' := (up1 f 141 g)) rfl ?_
        refine wq_v (y := (nI (12 * d))) (pk_mul 12 d) ?_
        refine wq_run2 (pc' := 191) (L' := [(0, .ref 92), (1, .int (nI S)), (2, .int (nI b)), (3, .int (nI s)), (4, .int (nI d)), (5, .int (nI b0)), (6, .int (nI e))]) (S' := [.int ((nI (12 * d)) + (nI e)), .ref 129]) (f' := (up1 f 141 g)) rfl ?_
        refine wq_v (y := (nI ((12 * d) + e))) (nI_add (12 * d) e) ?_
        have hk_ := hD.2.2.2.1 d e (by omega) (by omega)
        refine wq_ald (j := ((12 * d) + e)) (n := 144) (v := (nI (D d e))) rfl rfl rfl rfl (by omega) (Nat.le_of_ble_eq_true rfl) (hr d e (by omega) (by omega)) ?_
        refine wq_run1 (pc' := 194) (L' := [(0, .ref 92), (1, .int (nI S)), (2, .int (nI b)), (3, .int (nI s)), (4, .int (nI d)), (5, .int (nI b0)), (6, .int (nI e))]) (S' := [.int 268435456, .int (nI (D d e))]) (f' := (up1 f 141 g)) rfl ?_
        refine wq_if (c := 268435456 ≤ (nI (D d e))) (p1 := 244) (L1 := [(0, .ref 92), (1, .int (nI S)), (2, .int (nI b)), (3, .int (nI s)), (4, .int (nI d)), (5, .int (nI b0)), (6, .int (nI e))]) (S1 := []) (p2 := 197) (L2 := [(0, .ref 92), (1, .int (nI S)), (2, .int (nI b)), (3, .int (nI s)), (4, .int (nI d)), (5, .int (nI b0)), (6, .int (nI e))]) (S2 := []) rfl (fun c_194 => ?_) (fun c_194 => ?_)
        · have k_194 : 268435456 ≤ (D d e) := (nI_leI (a := 268435456) (b := (D d e)) (by omega) (by omega)).mp c_194
          refine wq_run1 (pc' := 247) (L' := [(0, .ref 92), (1, .int (nI S)), (2, .int (nI b)), (3, .int (nI s)), (4, .int (nI d)), (5, .int (nI b0)), (6, .int ((nI e) + 1))]) (S' := []) (f' := (up1 f 141 g)) rfl ?_
          refine wq_L (L' := [(0, .ref 92), (1, .int (nI S)), (2, .int (nI b)), (3, .int (nI s)), (4, .int (nI d)), (5, .int (nI b0)), (6, .int (nI (e + 1)))]) (by rw [show nI e + 1 = nI (e + 1) from nI_add _ _]) ?_
          refine wq_run1 (pc' := 149) (L' := [(0, .ref 92), (1, .int (nI S)), (2, .int (nI b)), (3, .int (nI s)), (4, .int (nI d)), (5, .int (nI b0)), (6, .int (nI (e + 1)))]) (S' := []) (f' := (up1 f 141 g)) rfl ?_
          exact ih (e + 1) g A (by omega) hg hS hAs (cp_far (fun _ _ => trivial) hs hS (by unfold idN; omega) hC) (by omega)
        · have k_194 : ¬ 268435456 ≤ (D d e) := fun q => c_194 ((nI_leI (a := 268435456) (b := (D d e)) (by omega) (by omega)).mpr q)
          refine wq_run5 (pc' := 204) (L' := [(0, .ref 92), (1, .int (nI S)), (2, .int (nI b)), (3, .int (nI s)), (4, .int (nI d)), (5, .int (nI b0)), (6, .int (nI e))]) (S' := [.int ((1 : Int32) <<< ((nI e) &&& 31)), .int (nI s), .int 12]) (f' := (up1 f 141 g)) rfl ?_
          refine wq_v (y := (nI (2 ^ e))) (shl1 (n := e) (by omega)) ?_
          refine wq_run1 (pc' := 205) (L' := [(0, .ref 92), (1, .int (nI S)), (2, .int (nI b)), (3, .int (nI s)), (4, .int (nI d)), (5, .int (nI b0)), (6, .int (nI e))]) (S' := [.int ((nI s) ||| (nI (2 ^ e))), .int 12]) (f' := (up1 f 141 g)) rfl ?_
          refine wq_v (y := (nI (s ||| (2 ^ e)))) (nx_or s (2 ^ e)) ?_
          refine wq_run1 (pc' := 206) (L' := [(0, .ref 92), (1, .int (nI S)), (2, .int (nI b)), (3, .int (nI s)), (4, .int (nI d)), (5, .int (nI b0)), (6, .int (nI e))]) (S' := [.int (12 * (nI (s ||| (2 ^ e))))]) (f' := (up1 f 141 g)) rfl ?_
          refine wq_v (y := (nI (12 * (s ||| (2 ^ e))))) (pk_mul 12 (s ||| (2 ^ e))) ?_
          refine wq_run2 (pc' := 209) (L' := [(0, .ref 92), (1, .int (nI S)), (2, .int (nI b)), (3, .int (nI s)), (4, .int (nI d)), (5, .int (nI b0)), (6, .int (nI e))]) (S' := [.int ((nI (12 * (s ||| (2 ^ e)))) + (nI e))]) (f' := (up1 f 141 g)) rfl ?_
          refine wq_v (y := (nI ((12 * (s ||| (2 ^ e))) + e))) (nI_add (12 * (s ||| (2 ^ e))) e) ?_
          refine wq_run7 (pc' := 223) (L' := [(0, .ref 92), (1, .int (nI S)), (2, .int (nI b)), (3, .int (nI s)), (4, .int (nI d)), (5, .int (nI b0)), (6, .int (nI e)), (7, .int (nI ((12 * (s ||| (2 ^ e))) + e)))]) (S' := [.int (nI ((12 * (s ||| (2 ^ e))) + e)), .ref 141, .int (nI ((12 * (s ||| (2 ^ e))) + e)), .ref 141]) (f' := (up1 f 141 g)) rfl ?_
          have hv_ := vt_le (s := (s ||| (2 ^ e))) (d := e) hS (by omega) (by omega)
          refine wq_ald (j := ((12 * (s ||| (2 ^ e))) + e)) (n := 49152) (v := (nI (vTN A (s ||| (2 ^ e)) e))) rfl rfl rfl rfl (by omega) (Nat.le_of_ble_eq_true rfl) (hg (s ||| (2 ^ e)) e (by omega) (by omega)) ?_
          refine wq_run6 (pc' := 235) (L' := [(0, .ref 92), (1, .int (nI S)), (2, .int (nI b)), (3, .int (nI s)), (4, .int (nI d)), (5, .int (nI b0)), (6, .int (nI e)), (7, .int (nI ((12 * (s ||| (2 ^ e))) + e)))]) (S' := [.int (12 * (nI d)), .ref 129, .int (nI b0), .int (nI (vTN A (s ||| (2 ^ e)) e)), .int (nI ((12 * (s ||| (2 ^ e))) + e)), .ref 141]) (f' := (up1 f 141 g)) rfl ?_
          refine wq_v (y := (nI (12 * d))) (pk_mul 12 d) ?_
          refine wq_run2 (pc' := 238) (L' := [(0, .ref 92), (1, .int (nI S)), (2, .int (nI b)), (3, .int (nI s)), (4, .int (nI d)), (5, .int (nI b0)), (6, .int (nI e)), (7, .int (nI ((12 * (s ||| (2 ^ e))) + e)))]) (S' := [.int ((nI (12 * d)) + (nI e)), .ref 129, .int (nI b0), .int (nI (vTN A (s ||| (2 ^ e)) e)), .int (nI ((12 * (s ||| (2 ^ e))) + e)), .ref 141]) (f' := (up1 f 141 g)) rfl ?_
          refine wq_v (y := (nI ((12 * d) + e))) (nI_add (12 * d) e) ?_
          have hk_ := hD.2.2.2.1 d e (by omega) (by omega)
          refine wq_ald (j := ((12 * d) + e)) (n := 144) (v := (nI (D d e))) rfl rfl rfl rfl (by omega) (Nat.le_of_ble_eq_true rfl) (hr d e (by omega) (by omega)) ?_
          refine wq_run1 (pc' := 240) (L' := [(0, .ref 92), (1, .int (nI S)), (2, .int (nI b)), (3, .int (nI s)), (4, .int (nI d)), (5, .int (nI b0)), (6, .int (nI e)), (7, .int (nI ((12 * (s ||| (2 ^ e))) + e)))]) (S' := [.int ((nI b0) + (nI (D d e))), .int (nI (vTN A (s ||| (2 ^ e)) e)), .int (nI ((12 * (s ||| (2 ^ e))) + e)), .ref 141]) (f' := (up1 f 141 g)) rfl ?_
          refine wq_v (y := (nI (b0 + (D d e)))) (nI_add b0 (D d e)) ?_
          refine wq_callI (r := (nI (min (vTN A (s ||| (2 ^ e)) e) (b0 + (D d e))))) ((show Sp 1 131 [.int (nI (vTN A (s ||| (2 ^ e)) e)), .int (nI (b0 + (D d e)))] (up1 f 141 g) (Ret (nI (min (vTN A (s ||| (2 ^ e)) e) (b0 + (D d e)))) (up1 f 141 g)) by have h := mp_least (up1 f 141 g) (nI (vTN A (s ||| (2 ^ e)) e)) (nI (b0 + (D d e))); rw [imin_N (by omega) (by omega)] at h; exact h)) (Nat.le_of_ble_eq_true rfl) (pc' := 243) (L' := [(0, .ref 92), (1, .int (nI S)), (2, .int (nI b)), (3, .int (nI s)), (4, .int (nI d)), (5, .int (nI b0)), (6, .int (nI e)), (7, .int (nI ((12 * (s ||| (2 ^ e))) + e)))]) (S' := [.int (nI ((12 * (s ||| (2 ^ e))) + e)), .ref 141]) rfl (Nat.le_of_ble_eq_true rfl) rfl rfl (Nat.le_of_ble_eq_true rfl) (Nat.le_of_ble_eq_true rfl) ?_
          refine wq_ist (j := ((12 * (s ||| (2 ^ e))) + e)) (n := 49152) rfl rfl rfl rfl (by omega) (Nat.le_of_ble_eq_true rfl) ?_
          refine wq_h (f' := (up1 f 141 (upd g ((12 * (s ||| (2 ^ e))) + e) (nI (min (vTN A (s ||| (2 ^ e)) e) (b0 + (D d e))))))) ((up2_up1_eq f 141 g ((12 * (s ||| (2 ^ e))) + e) (nI (min (vTN A (s ||| (2 ^ e)) e) (b0 + (D d e))))).trans (congrArg (fun z => up1 f 141 z) (rfl))) ?_
          refine wq_run1 (pc' := 247) (L' := [(0, .ref 92), (1, .int (nI S)), (2, .int (nI b)), (3, .int (nI s)), (4, .int (nI d)), (5, .int (nI b0)), (6, .int ((nI e) + 1)), (7, .int (nI ((12 * (s ||| (2 ^ e))) + e)))]) (S' := []) (f' := (up1 f 141 (upd g ((12 * (s ||| (2 ^ e))) + e) (nI (min (vTN A (s ||| (2 ^ e)) e) (b0 + (D d e))))))) rfl ?_
          refine wq_L (L' := [(0, .ref 92), (1, .int (nI S)), (2, .int (nI b)), (3, .int (nI s)), (4, .int (nI d)), (5, .int (nI b0)), (6, .int (nI (e + 1))), (7, .int (nI ((12 * (s ||| (2 ^ e))) + e)))]) (by rw [show nI e + 1 = nI (e + 1) from nI_add _ _]) ?_
          refine wq_run1 (pc' := 149) (L' := [(0, .ref 92), (1, .int (nI S)), (2, .int (nI b)), (3, .int (nI s)), (4, .int (nI d)), (5, .int (nI b0)), (6, .int (nI (e + 1)))]) (S' := []) (f' := (up1 f 141 (upd g ((12 * (s ||| (2 ^ e))) + e) (nI (min (vTN A (s ||| (2 ^ e)) e) (b0 + (D d e))))))) rfl ?_
          have hbe := (bN_an (by omega)).mp k_176
          have hgt := or_gt hbe.2
          have hvt : vTN A (s ||| 2 ^ e) e = A (s ||| 2 ^ e) e := if_neg (by omega)
          exact ih (e + 1) _ _ (by omega) (pic_um hn12 (by omega) (by omega) hg) (sn_rlx hs hd (by omega) hbe.2 hbe.1 (by rw [hvt, hAs]; rfl) hS) (by
            unfold updE
            rw [if_neg (fun q => by omega)]
            exact hAs) (cp_rlx (fun _ _ => trivial) hs (by omega) hbe.2 (by rw [hvt, hAs]; rfl) hC) (by omega)
      · have k_176 : ¬ (bN (S &&& (4095 ^^^ s)) e) = 1 := fun q => c_176 ((nI_eq (a := (bN (S &&& (4095 ^^^ s)) e)) (b := 1) (by omega) (by omega)).mpr q)
        refine wq_run1 (pc' := 247) (L' := [(0, .ref 92), (1, .int (nI S)), (2, .int (nI b)), (3, .int (nI s)), (4, .int (nI d)), (5, .int (nI b0)), (6, .int ((nI e) + 1))]) (S' := []) (f' := (up1 f 141 g)) rfl ?_
        refine wq_L (L' := [(0, .ref 92), (1, .int (nI S)), (2, .int (nI b)), (3, .int (nI s)), (4, .int (nI d)), (5, .int (nI b0)), (6, .int (nI (e + 1)))]) (by rw [show nI e + 1 = nI (e + 1) from nI_add _ _]) ?_
        refine wq_run1 (pc' := 149) (L' := [(0, .ref 92), (1, .int (nI S)), (2, .int (nI b)), (3, .int (nI s)), (4, .int (nI d)), (5, .int (nI b0)), (6, .int (nI (e + 1)))]) (S' := []) (f' := (up1 f 141 g)) rfl ?_
        exact ih (e + 1) g A (by omega) hg hS hAs (cp_mono hC (fun _ _ _ z => z) (fun p j2 i l' hp hv hj2 hi hb1 hb2 hbS hd => by
          have z : ¬ (p = s ∧ i = e) := fun q => by
            rw [q.1] at hb2
            rw [q.2] at hb2 hbS
            exact k_176 ((bN_an (by omega)).mpr ⟨hbS, hb2⟩)
          unfold dnP at hd ⊢
          omega)) (by omega)
theorem mlp_e0 {f : HI} {D : Nat → Nat → Nat} {n S : Nat} (hn12 : n ≤ 12) (hn1 : 1 ≤ n) (hS2 : S < 2 ^ n) (h53 : f 92 53 = nI n) (hD : Mt n 268435456 30 D) (hr : ∀ p q, p < n → q < n → f 129 (12 * p + q) = nI (D p q)) {b : Nat} (K : ∀ (g : Nat → Int32) (A : Nat → Nat → Nat), (∀ m i, m < 2 ^ n → i < n → g (12 * m + i) = nI (vTN A m i)) → SndT D idN n S 268435456 A → Cpl D idN n S A (fun _ => True) (dnP 0 (0 + 1) 0) → wq 2 196 (fun v f' => ∃ g r0, v = some (.int r0) ∧ f' = up1 f 141 g ∧ WkM D n S r0) 93 [(0, .ref 92), (1, .int (nI S)), (2, .int (nI b)), (3, .int (nI 0)), (4, .int (nI (0 + 1)))] [] (up1 f 141 g)) : ∀ (m9 : Nat) (e : Nat) (g : Nat → Int32) (A : Nat → Nat → Nat), (e ≤ n) → (∀ m i, m < 2 ^ n → i < n → g (12 * m + i) = nI (vTN A m i)) → (SndT D idN n S 268435456 A) → (Cpl D idN n S A (fun i => i < e) (dnP 0 0 e)) → n - e < m9 → wq 2 196 (fun v f' => ∃ g r0, v = some (.int r0) ∧ f' = up1 f 141 g ∧ WkM D n S r0) 149 [(0, .ref 92), (1, .int (nI S)), (2, .int (nI b)), (3, .int (nI 0)), (4, .int (nI 0)), (5, .int (nI 0)), (6, .int (nI e))] [] (up1 f 141 g) := by
  intro m9
  induction m9 with
  | zero => intro e g A he hg hS hC hn; exact absurd hn (Nat.not_lt_zero _)
  | succ m9 ih =>
    intro e g A he hg hS hC hn
    have h12 := p12 hn12
    have hp0 := p0 n
    have hpe : e < n → 0 ||| 2 ^ e < 2 ^ n := fun q => or_pw_lt (Nat.two_pow_pos n) q
    have hbb := bN_lt (S &&& (4095 ^^^ 0)) e
    refine wq_run3 (pc' := 155) (L' := [(0, .ref 92), (1, .int (nI S)), (2, .int (nI b)), (3, .int (nI 0)), (4, .int (nI 0)), (5, .int (nI 0)), (6, .int (nI e))]) (S' := [.int (f 92 53), .int (nI e)]) (f' := (up1 f 141 g)) rfl ?_
    refine wq_v (y := (nI n)) (h53) ?_
    refine wq_if (c := (nI n) ≤ (nI e)) (p1 := 250) (L1 := [(0, .ref 92), (1, .int (nI S)), (2, .int (nI b)), (3, .int (nI 0)), (4, .int (nI 0)), (5, .int (nI 0)), (6, .int (nI e))]) (S1 := []) (p2 := 158) (L2 := [(0, .ref 92), (1, .int (nI S)), (2, .int (nI b)), (3, .int (nI 0)), (4, .int (nI 0)), (5, .int (nI 0)), (6, .int (nI e))]) (S2 := []) rfl (fun c_155 => ?_) (fun c_155 => ?_)
    · have k_155 : n ≤ e := (nI_leI (a := n) (b := e) (by omega) (by omega)).mp c_155
      refine wq_run1 (pc' := 253) (L' := [(0, .ref 92), (1, .int (nI S)), (2, .int (nI b)), (3, .int (nI 0)), (4, .int ((nI 0) + 1)), (5, .int (nI 0)), (6, .int (nI e))]) (S' := []) (f' := (up1 f 141 g)) rfl ?_
      refine wq_L (L' := [(0, .ref 92), (1, .int (nI S)), (2, .int (nI b)), (3, .int (nI 0)), (4, .int (nI (0 + 1))), (5, .int (nI 0)), (6, .int (nI e))]) (by rw [show nI 0 + 1 = nI (0 + 1) from nI_add _ _]) ?_
      refine wq_run1 (pc' := 93) (L' := [(0, .ref 92), (1, .int (nI S)), (2, .int (nI b)), (3, .int (nI 0)), (4, .int (nI (0 + 1)))]) (S' := []) (f' := (up1 f 141 g)) rfl ?_
      have e1 : e = n := by omega
      rw [e1] at hC
      exact K g A hg hS (cp_mono hC (fun i hi _ _ => hi) (fun p j2 i l' hp hv hj2 hi hb1 hb2 hbS hd => by
        unfold dnP at hd ⊢
        omega))
    · have k_155 : ¬ n ≤ e := fun q => c_155 ((nI_leI (a := n) (b := e) (by omega) (by omega)).mpr q)
      have hpe2 := hpe (by omega)
      refine wq_run2 (pc' := 162) (L' := [(0, .ref 92), (1, .int (nI S)), (2, .int (nI b)), (3, .int (nI 0)), (4, .int (nI 0)), (5, .int (nI 0)), (6, .int (nI e))]) (S' := [.int 268435456, .int (nI 0)]) (f' := (up1 f 141 g)) rfl ?_
      refine wq_if (c := 268435456 ≤ (nI 0)) (p1 := 250) (L1 := [(0, .ref 92), (1, .int (nI S)), (2, .int (nI b)), (3, .int (nI 0)), (4, .int (nI 0)), (5, .int (nI 0)), (6, .int (nI e))]) (S1 := []) (p2 := 165) (L2 := [(0, .ref 92), (1, .int (nI S)), (2, .int (nI b)), (3, .int (nI 0)), (4, .int (nI 0)), (5, .int (nI 0)), (6, .int (nI e))]) (S2 := []) rfl (fun q => absurd q (fun q => absurd ((nI_leI (a := 268435456) (b := 0) (by omega) (by omega)).mp q) (by omega))) (fun _ => ?_)
      refine wq_run9 (pc' := 175) (L' := [(0, .ref 92), (1, .int (nI S)), (2, .int (nI b)), (3, .int (nI 0)), (4, .int (nI 0)), (5, .int (nI 0)), (6, .int (nI e))]) (S' := [.int ((((nI S) &&& ((nI 0) ^^^ (-1))) >>> ((nI e) &&& 31)) &&& 1)]) (f' := (up1 f 141 g)) rfl ?_
      refine wq_v (y := (nI (bN (S &&& (4095 ^^^ 0)) e))) (bit2N (s := 0) (by omega) (by omega)) ?_
      refine wq_run1 (pc' := 176) (L' := [(0, .ref 92), (1, .int (nI S)), (2, .int (nI b)), (3, .int (nI 0)), (4, .int (nI 0)), (5, .int (nI 0)), (6, .int (nI e))]) (S' := [.int 1, .int (nI (bN (S &&& (4095 ^^^ 0)) e))]) (f' := (up1 f 141 g)) rfl ?_
      refine wq_if (c := (nI (bN (S &&& (4095 ^^^ 0)) e)) = 1) (p1 := 179) (L1 := [(0, .ref 92), (1, .int (nI S)), (2, .int (nI b)), (3, .int (nI 0)), (4, .int (nI 0)), (5, .int (nI 0)), (6, .int (nI e))]) (S1 := []) (p2 := 244) (L2 := [(0, .ref 92), (1, .int (nI S)), (2, .int (nI b)), (3, .int (nI 0)), (4, .int (nI 0)), (5, .int (nI 0)), (6, .int (nI e))]) (S2 := []) rfl (fun c_176 => ?_) (fun c_176 => ?_)
      · have k_176 : (bN (S &&& (4095 ^^^ 0)) e) = 1 := (nI_eq (a := (bN (S &&& (4095 ^^^ 0)) e)) (b := 1) (by omega) (by omega)).mp c_176
        refine wq_run5 (pc' := 188) (L' := [(0, .ref 92), (1, .int (nI S)), (2, .int (nI b)), (3, .int (nI 0)), (4, .int (nI 0)), (5, .int (nI 0)), (6, .int (nI e))]) (S' := [.int (12 * (nI 0)), .ref 129]) (f' := (up1 f 141 g)) rfl ?_
        refine wq_v (y := (nI (12 * 0))) (pk_mul 12 0) ?_
        refine wq_run2 (pc' := 191) (L' := [(0, .ref 92), (1, .int (nI S)), (2, .int (nI b)), (3, .int (nI 0)), (4, .int (nI 0)), (5, .int (nI 0)), (6, .int (nI e))]) (S' := [.int ((nI (12 * 0)) + (nI e)), .ref 129]) (f' := (up1 f 141 g)) rfl ?_
        refine wq_v (y := (nI ((12 * 0) + e))) (nI_add (12 * 0) e) ?_
        have hk_ := hD.2.2.2.1 0 e (by omega) (by omega)
        refine wq_ald (j := ((12 * 0) + e)) (n := 144) (v := (nI (D 0 e))) rfl rfl rfl rfl (by omega) (Nat.le_of_ble_eq_true rfl) (hr 0 e (by omega) (by omega)) ?_
        refine wq_run1 (pc' := 194) (L' := [(0, .ref 92), (1, .int (nI S)), (2, .int (nI b)), (3, .int (nI 0)), (4, .int (nI 0)), (5, .int (nI 0)), (6, .int (nI e))]) (S' := [.int 268435456, .int (nI (D 0 e))]) (f' := (up1 f 141 g)) rfl ?_
        refine wq_if (c := 268435456 ≤ (nI (D 0 e))) (p1 := 244) (L1 := [(0, .ref 92), (1, .int (nI S)), (2, .int (nI b)), (3, .int (nI 0)), (4, .int (nI 0)), (5, .int (nI 0)), (6, .int (nI e))]) (S1 := []) (p2 := 197) (L2 := [(0, .ref 92), (1, .int (nI S)), (2, .int (nI b)), (3, .int (nI 0)), (4, .int (nI 0)), (5, .int (nI 0)), (6, .int (nI e))]) (S2 := []) rfl (fun c_194 => ?_) (fun c_194 => ?_)
        · have k_194 : 268435456 ≤ (D 0 e) := (nI_leI (a := 268435456) (b := (D 0 e)) (by omega) (by omega)).mp c_194
          refine wq_run1 (pc' := 247) (L' := [(0, .ref 92), (1, .int (nI S)), (2, .int (nI b)), (3, .int (nI 0)), (4, .int (nI 0)), (5, .int (nI 0)), (6, .int ((nI e) + 1))]) (S' := []) (f' := (up1 f 141 g)) rfl ?_
          refine wq_L (L' := [(0, .ref 92), (1, .int (nI S)), (2, .int (nI b)), (3, .int (nI 0)), (4, .int (nI 0)), (5, .int (nI 0)), (6, .int (nI (e + 1)))]) (by rw [show nI e + 1 = nI (e + 1) from nI_add _ _]) ?_
          refine wq_run1 (pc' := 149) (L' := [(0, .ref 92), (1, .int (nI S)), (2, .int (nI b)), (3, .int (nI 0)), (4, .int (nI 0)), (5, .int (nI 0)), (6, .int (nI (e + 1)))]) (S' := []) (f' := (up1 f 141 g)) rfl ?_
          exact ih (e + 1) g A (by omega) hg hS (cp_1f hS k_194 hC) (by omega)
        · have k_194 : ¬ 268435456 ≤ (D 0 e) := fun q => c_194 ((nI_leI (a := 268435456) (b := (D 0 e)) (by omega) (by omega)).mpr q)
          refine wq_run5 (pc' := 204) (L' := [(0, .ref 92), (1, .int (nI S)), (2, .int (nI b)), (3, .int (nI 0)), (4, .int (nI 0)), (5, .int (nI 0)), (6, .int (nI e))]) (S' := [.int ((1 : Int32) <<< ((nI e) &&& 31)), .int (nI 0), .int 12]) (f' := (up1 f 141 g)) rfl ?_
          refine wq_v (y := (nI (2 ^ e))) (shl1 (n := e) (by omega)) ?_
          refine wq_run1 (pc' := 205) (L' := [(0, .ref 92), (1, .int (nI S)), (2, .int (nI b)), (3, .int (nI 0)), (4, .int (nI 0)), (5, .int (nI 0)), (6, .int (nI e))]) (S' := [.int ((nI 0) ||| (nI (2 ^ e))), .int 12]) (f' := (up1 f 141 g)) rfl ?_
          refine wq_v (y := (nI (0 ||| (2 ^ e)))) (nx_or 0 (2 ^ e)) ?_
          refine wq_run1 (pc' := 206) (L' := [(0, .ref 92), (1, .int (nI S)), (2, .int (nI b)), (3, .int (nI 0)), (4, .int (nI 0)), (5, .int (nI 0)), (6, .int (nI e))]) (S' := [.int (12 * (nI (0 ||| (2 ^ e))))]) (f' := (up1 f 141 g)) rfl ?_
          refine wq_v (y := (nI (12 * (0 ||| (2 ^ e))))) (pk_mul 12 (0 ||| (2 ^ e))) ?_
          refine wq_run2 (pc' := 209) (L' := [(0, .ref 92), (1, .int (nI S)), (2, .int (nI b)), (3, .int (nI 0)), (4, .int (nI 0)), (5, .int (nI 0)), (6, .int (nI e))]) (S' := [.int ((nI (12 * (0 ||| (2 ^ e)))) + (nI e))]) (f' := (up1 f 141 g)) rfl ?_
          refine wq_v (y := (nI ((12 * (0 ||| (2 ^ e))) + e))) (nI_add (12 * (0 ||| (2 ^ e))) e) ?_
          refine wq_run7 (pc' := 223) (L' := [(0, .ref 92), (1, .int (nI S)), (2, .int (nI b)), (3, .int (nI 0)), (4, .int (nI 0)), (5, .int (nI 0)), (6, .int (nI e)), (7, .int (nI ((12 * (0 ||| (2 ^ e))) + e)))]) (S' := [.int (nI ((12 * (0 ||| (2 ^ e))) + e)), .ref 141, .int (nI ((12 * (0 ||| (2 ^ e))) + e)), .ref 141]) (f' := (up1 f 141 g)) rfl ?_
          have hv_ := vt_le (s := (0 ||| (2 ^ e))) (d := e) hS (by omega) (by omega)
          refine wq_ald (j := ((12 * (0 ||| (2 ^ e))) + e)) (n := 49152) (v := (nI (vTN A (0 ||| (2 ^ e)) e))) rfl rfl rfl rfl (by omega) (Nat.le_of_ble_eq_true rfl) (hg (0 ||| (2 ^ e)) e (by omega) (by omega)) ?_
          refine wq_run6 (pc' := 235) (L' := [(0, .ref 92), (1, .int (nI S)), (2, .int (nI b)), (3, .int (nI 0)), (4, .int (nI 0)), (5, .int (nI 0)), (6, .int (nI e)), (7, .int (nI ((12 * (0 ||| (2 ^ e))) + e)))]) (S' := [.int (12 * (nI 0)), .ref 129, .int (nI 0), .int (nI (vTN A (0 ||| (2 ^ e)) e)), .int (nI ((12 * (0 ||| (2 ^ e))) + e)), .ref 141]) (f' := (up1 f 141 g)) rfl ?_
          refine wq_v (y := (nI (12 * 0))) (pk_mul 12 0) ?_
          refine wq_run2 (pc' := 238) (L' := [(0, .ref 92), (1, .int (nI S)), (2, .int (nI b)), (3, .int (nI 0)), (4, .int (nI 0)), (5, .int (nI 0)), (6, .int (nI e)), (7, .int (nI ((12 * (0 ||| (2 ^ e))) + e)))]) (S' := [.int ((nI (12 * 0)) + (nI e)), .ref 129, .int (nI 0), .int (nI (vTN A (0 ||| (2 ^ e)) e)), .int (nI ((12 * (0 ||| (2 ^ e))) + e)), .ref 141]) (f' := (up1 f 141 g)) rfl ?_
          refine wq_v (y := (nI ((12 * 0) + e))) (nI_add (12 * 0) e) ?_
          have hk_ := hD.2.2.2.1 0 e (by omega) (by omega)
          refine wq_ald (j := ((12 * 0) + e)) (n := 144) (v := (nI (D 0 e))) rfl rfl rfl rfl (by omega) (Nat.le_of_ble_eq_true rfl) (hr 0 e (by omega) (by omega)) ?_
          refine wq_run1 (pc' := 240) (L' := [(0, .ref 92), (1, .int (nI S)), (2, .int (nI b)), (3, .int (nI 0)), (4, .int (nI 0)), (5, .int (nI 0)), (6, .int (nI e)), (7, .int (nI ((12 * (0 ||| (2 ^ e))) + e)))]) (S' := [.int ((nI 0) + (nI (D 0 e))), .int (nI (vTN A (0 ||| (2 ^ e)) e)), .int (nI ((12 * (0 ||| (2 ^ e))) + e)), .ref 141]) (f' := (up1 f 141 g)) rfl ?_
          refine wq_v (y := (nI (0 + (D 0 e)))) (nI_add 0 (D 0 e)) ?_
          refine wq_callI (r := (nI (min (vTN A (0 ||| (2 ^ e)) e) (0 + (D 0 e))))) ((show Sp 1 131 [.int (nI (vTN A (0 ||| (2 ^ e)) e)), .int (nI (0 + (D 0 e)))] (up1 f 141 g) (Ret (nI (min (vTN A (0 ||| (2 ^ e)) e) (0 + (D 0 e)))) (up1 f 141 g)) by have h := mp_least (up1 f 141 g) (nI (vTN A (0 ||| (2 ^ e)) e)) (nI (0 + (D 0 e))); rw [imin_N (by omega) (by omega)] at h; exact h)) (Nat.le_of_ble_eq_true rfl) (pc' := 243) (L' := [(0, .ref 92), (1, .int (nI S)), (2, .int (nI b)), (3, .int (nI 0)), (4, .int (nI 0)), (5, .int (nI 0)), (6, .int (nI e)), (7, .int (nI ((12 * (0 ||| (2 ^ e))) + e)))]) (S' := [.int (nI ((12 * (0 ||| (2 ^ e))) + e)), .ref 141]) rfl (Nat.le_of_ble_eq_true rfl) rfl rfl (Nat.le_of_ble_eq_true rfl) (Nat.le_of_ble_eq_true rfl) ?_
          refine wq_ist (j := ((12 * (0 ||| (2 ^ e))) + e)) (n := 49152) rfl rfl rfl rfl (by omega) (Nat.le_of_ble_eq_true rfl) ?_
          refine wq_h (f' := (up1 f 141 (upd g ((12 * (0 ||| (2 ^ e))) + e) (nI (min (vTN A (0 ||| (2 ^ e)) e) (0 + (D 0 e))))))) ((up2_up1_eq f 141 g ((12 * (0 ||| (2 ^ e))) + e) (nI (min (vTN A (0 ||| (2 ^ e)) e) (0 + (D 0 e))))).trans (congrArg (fun z => up1 f 141 z) (rfl))) ?_
          refine wq_run1 (pc' := 247) (L' := [(0, .ref 92), (1, .int (nI S)), (2, .int (nI b)), (3, .int (nI 0)), (4, .int (nI 0)), (5, .int (nI 0)), (6, .int ((nI e) + 1)), (7, .int (nI ((12 * (0 ||| (2 ^ e))) + e)))]) (S' := []) (f' := (up1 f 141 (upd g ((12 * (0 ||| (2 ^ e))) + e) (nI (min (vTN A (0 ||| (2 ^ e)) e) (0 + (D 0 e))))))) rfl ?_
          refine wq_L (L' := [(0, .ref 92), (1, .int (nI S)), (2, .int (nI b)), (3, .int (nI 0)), (4, .int (nI 0)), (5, .int (nI 0)), (6, .int (nI (e + 1))), (7, .int (nI ((12 * (0 ||| (2 ^ e))) + e)))]) (by rw [show nI e + 1 = nI (e + 1) from nI_add _ _]) ?_
          refine wq_run1 (pc' := 149) (L' := [(0, .ref 92), (1, .int (nI S)), (2, .int (nI b)), (3, .int (nI 0)), (4, .int (nI 0)), (5, .int (nI 0)), (6, .int (nI (e + 1)))]) (S' := []) (f' := (up1 f 141 (upd g ((12 * (0 ||| (2 ^ e))) + e) (nI (min (vTN A (0 ||| (2 ^ e)) e) (0 + (D 0 e))))))) rfl ?_
          have hbe := (bN_an (by omega)).mp k_176
          have hgt := or_gt hbe.2
          have hvt : vTN A (0 ||| 2 ^ e) e = A (0 ||| 2 ^ e) e := if_neg (by omega)
          have h8 := pic_um (v := min (vTN A (0 ||| 2 ^ e) e) (0 + D 0 e)) hn12 (show 0 < 0 ||| 2 ^ e by omega) (show e < n by omega) hg
          rw [hvt, Nat.zero_add] at h8
          have h9 := ih (e + 1) _ _ (by omega) h8 (snT_1 (by omega) hbe.1 hS) (cp_1 (by omega) hC) (by omega)
          rw [hvt, Nat.zero_add]
          exact h9
      · have k_176 : ¬ (bN (S &&& (4095 ^^^ 0)) e) = 1 := fun q => c_176 ((nI_eq (a := (bN (S &&& (4095 ^^^ 0)) e)) (b := 1) (by omega) (by omega)).mpr q)
        refine wq_run1 (pc' := 247) (L' := [(0, .ref 92), (1, .int (nI S)), (2, .int (nI b)), (3, .int (nI 0)), (4, .int (nI 0)), (5, .int (nI 0)), (6, .int ((nI e) + 1))]) (S' := []) (f' := (up1 f 141 g)) rfl ?_
        refine wq_L (L' := [(0, .ref 92), (1, .int (nI S)), (2, .int (nI b)), (3, .int (nI 0)), (4, .int (nI 0)), (5, .int (nI 0)), (6, .int (nI (e + 1)))]) (by rw [show nI e + 1 = nI (e + 1) from nI_add _ _]) ?_
        refine wq_run1 (pc' := 149) (L' := [(0, .ref 92), (1, .int (nI S)), (2, .int (nI b)), (3, .int (nI 0)), (4, .int (nI 0)), (5, .int (nI 0)), (6, .int (nI (e + 1)))]) (S' := []) (f' := (up1 f 141 g)) rfl ?_
        exact ih (e + 1) g A (by omega) hg hS (cp_mono hC (fun i hi hbS z => by
          have z2 : ¬ i = e := fun q => by rw [q] at hbS; exact k_176 ((bN_an (by omega)).mpr ⟨hbS, bN_zero e⟩)
          omega) (fun p j2 i l' hp hv hj2 hi hb1 hb2 hbS hd => by
          have z : p = 0 := by unfold dnP at hd; omega
          rw [z] at hb1
          exact absurd hb1 (bN_zero j2))) (by omega)
theorem mlp_eX {f : HI} {D : Nat → Nat → Nat} {n S : Nat} (hn12 : n ≤ 12) (hn1 : 1 ≤ n) (hS2 : S < 2 ^ n) (h53 : f 92 53 = nI n) (hD : Mt n 268435456 30 D) (hr : ∀ p q, p < n → q < n → f 129 (12 * p + q) = nI (D p q)) {s d b b0 : Nat} {g : Nat → Int32} (hd : d < n) (hb0 : 268435456 ≤ b0) (hb1 : b0 < 2 ^ 31) (K : wq 2 196 (fun v f' => ∃ g r0, v = some (.int r0) ∧ f' = up1 f 141 g ∧ WkM D n S r0) 93 [(0, .ref 92), (1, .int (nI S)), (2, .int (nI b)), (3, .int (nI s)), (4, .int (nI (d + 1)))] [] (up1 f 141 g)) : wq 2 196 (fun v f' => ∃ g r0, v = some (.int r0) ∧ f' = up1 f 141 g ∧ WkM D n S r0) 149 [(0, .ref 92), (1, .int (nI S)), (2, .int (nI b)), (3, .int (nI s)), (4, .int (nI d)), (5, .int (nI b0)), (6, .int 0)] [] (up1 f 141 g) := by
  refine wq_run3 (pc' := 155) (L' := [(0, .ref 92), (1, .int (nI S)), (2, .int (nI b)), (3, .int (nI s)), (4, .int (nI d)), (5, .int (nI b0)), (6, .int 0)]) (S' := [.int (f 92 53), .int 0]) (f' := (up1 f 141 g)) rfl ?_
  refine wq_v (y := (nI n)) (h53) ?_
  refine wq_if (c := (nI n) ≤ 0) (p1 := 250) (L1 := [(0, .ref 92), (1, .int (nI S)), (2, .int (nI b)), (3, .int (nI s)), (4, .int (nI d)), (5, .int (nI b0)), (6, .int 0)]) (S1 := []) (p2 := 158) (L2 := [(0, .ref 92), (1, .int (nI S)), (2, .int (nI b)), (3, .int (nI s)), (4, .int (nI d)), (5, .int (nI b0)), (6, .int 0)]) (S2 := []) rfl (fun q => absurd q (fun q => absurd ((nI_leI (a := n) (b := 0) (by omega) (by omega)).mp q) (by omega))) (fun _ => ?_)
  refine wq_run2 (pc' := 162) (L' := [(0, .ref 92), (1, .int (nI S)), (2, .int (nI b)), (3, .int (nI s)), (4, .int (nI d)), (5, .int (nI b0)), (6, .int 0)]) (S' := [.int 268435456, .int (nI b0)]) (f' := (up1 f 141 g)) rfl ?_
  refine wq_if (c := 268435456 ≤ (nI b0)) (p1 := 250) (L1 := [(0, .ref 92), (1, .int (nI S)), (2, .int (nI b)), (3, .int (nI s)), (4, .int (nI d)), (5, .int (nI b0)), (6, .int 0)]) (S1 := []) (p2 := 165) (L2 := [(0, .ref 92), (1, .int (nI S)), (2, .int (nI b)), (3, .int (nI s)), (4, .int (nI d)), (5, .int (nI b0)), (6, .int 0)]) (S2 := []) rfl (fun _ => ?_) (fun q => absurd ((nI_leI (a := 268435456) (b := b0) (by omega) (by omega)).mpr (by omega)) q)
  refine wq_run1 (pc' := 253) (L' := [(0, .ref 92), (1, .int (nI S)), (2, .int (nI b)), (3, .int (nI s)), (4, .int ((nI d) + 1)), (5, .int (nI b0)), (6, .int 0)]) (S' := []) (f' := (up1 f 141 g)) rfl ?_
  refine wq_L (L' := [(0, .ref 92), (1, .int (nI S)), (2, .int (nI b)), (3, .int (nI s)), (4, .int (nI (d + 1))), (5, .int (nI b0)), (6, .int 0)]) (by rw [show nI d + 1 = nI (d + 1) from nI_add _ _]) ?_
  refine wq_run1 (pc' := 93) (L' := [(0, .ref 92), (1, .int (nI S)), (2, .int (nI b)), (3, .int (nI s)), (4, .int (nI (d + 1)))]) (S' := []) (f' := (up1 f 141 g)) rfl ?_
  exact K
theorem mlp_wkD {f : HI} {D : Nat → Nat → Nat} {n S : Nat} (hn12 : n ≤ 12) (hn1 : 1 ≤ n) (hS2 : S < 2 ^ n) (h53 : f 92 53 = nI n) (hD : Mt n 268435456 30 D) (hr : ∀ p q, p < n → q < n → f 129 (12 * p + q) = nI (D p q)) {s : Nat} (hs : s < 2 ^ n) (K : ∀ (g : Nat → Int32) (A : Nat → Nat → Nat) (b : Nat), b ≤ 268435456 → (∀ m i, m < 2 ^ n → i < n → g (12 * m + i) = nI (vTN A m i)) → SndT D idN n S 268435456 A → Cpl D idN n S A (fun _ => True) (dnP (s + 1) 0 0) → ((s + 1 ≤ S → b = 268435456) ∧ (S < s + 1 → PB D n S 268435456 n b)) → wq 2 196 (fun v f' => ∃ g r0, v = some (.int r0) ∧ f' = up1 f 141 g ∧ WkM D n S r0) 80 [(0, .ref 92), (1, .int (nI S)), (2, .int (nI b)), (3, .int (nI (s + 1)))] [] (up1 f 141 g)) : ∀ (m9 : Nat) (d : Nat) (g : Nat → Int32) (A : Nat → Nat → Nat) (b : Nat), (d ≤ n) → (b ≤ 268435456) → (∀ m i, m < 2 ^ n → i < n → g (12 * m + i) = nI (vTN A m i)) → (SndT D idN n S 268435456 A) → ((s = 0 ∧ d = 0 ∧ Cpl D idN n S A (fun i => i < 0) (dnP 0 0 0)) ∨ ((0 < s ∨ 0 < d) ∧ Cpl D idN n S A (fun _ => True) (dnP s d 0))) → ((s < S → b = 268435456) ∧ (s = S → PB D n S 268435456 d b) ∧ (S < s → PB D n S 268435456 n b)) → n - d < m9 → wq 2 196 (fun v f' => ∃ g r0, v = some (.int r0) ∧ f' = up1 f 141 g ∧ WkM D n S r0) 93 [(0, .ref 92), (1, .int (nI S)), (2, .int (nI b)), (3, .int (nI s)), (4, .int (nI d))] [] (up1 f 141 g) := by
  intro m9
  induction m9 with
  | zero => intro d g A b hd hb hg hS hC hB hn; exact absurd hn (Nat.not_lt_zero _)
  | succ m9 ih =>
    intro d g A b hd hb hg hS hC hB hn
    have h12 := p12 hn12
    have hp0 := p0 n
    have hD00 := hD.2.1 0 (by omega)
    refine wq_run3 (pc' := 99) (L' := [(0, .ref 92), (1, .int (nI S)), (2, .int (nI b)), (3, .int (nI s)), (4, .int (nI d))]) (S' := [.int (f 92 53), .int (nI d)]) (f' := (up1 f 141 g)) rfl ?_
    refine wq_v (y := (nI n)) (h53) ?_
    refine wq_if (c := (nI n) ≤ (nI d)) (p1 := 256) (L1 := [(0, .ref 92), (1, .int (nI S)), (2, .int (nI b)), (3, .int (nI s)), (4, .int (nI d))]) (S1 := []) (p2 := 102) (L2 := [(0, .ref 92), (1, .int (nI S)), (2, .int (nI b)), (3, .int (nI s)), (4, .int (nI d))]) (S2 := []) rfl (fun c_99 => ?_) (fun c_99 => ?_)
    · have k_99 : n ≤ d := (nI_leI (a := n) (b := d) (by omega) (by omega)).mp c_99
      refine wq_run1 (pc' := 259) (L' := [(0, .ref 92), (1, .int (nI S)), (2, .int (nI b)), (3, .int ((nI s) + 1)), (4, .int (nI d))]) (S' := []) (f' := (up1 f 141 g)) rfl ?_
      refine wq_L (L' := [(0, .ref 92), (1, .int (nI S)), (2, .int (nI b)), (3, .int (nI (s + 1))), (4, .int (nI d))]) (by rw [show nI s + 1 = nI (s + 1) from nI_add _ _]) ?_
      refine wq_run1 (pc' := 80) (L' := [(0, .ref 92), (1, .int (nI S)), (2, .int (nI b)), (3, .int (nI (s + 1)))]) (S' := []) (f' := (up1 f 141 g)) rfl ?_
      have e : d = n := by omega
      subst e
      have hC2 := hC.resolve_left (fun q => by have := q.2.1; omega)
      exact K g A b hb hg hS (cp_mono hC2.2 (fun _ _ _ z => z) (fun p j2 i l' hp hv hj2 hi hb1 hb2 hbS hd => by
        unfold dnP at hd ⊢
        omega)) ⟨fun q => hB.1 (by omega), fun q => by
        rcases Nat.lt_or_ge S s with c | c
        · exact hB.2.2 c
        · exact hB.2.1 (by omega)⟩
    · have k_99 : ¬ n ≤ d := fun q => c_99 ((nI_leI (a := n) (b := d) (by omega) (by omega)).mpr q)
      refine wq_run5 (pc' := 110) (L' := [(0, .ref 92), (1, .int (nI S)), (2, .int (nI b)), (3, .int (nI s)), (4, .int (nI d))]) (S' := [.int (12 * (nI s)), .ref 141]) (f' := (up1 f 141 g)) rfl ?_
      refine wq_v (y := (nI (12 * s))) (pk_mul 12 s) ?_
      refine wq_run2 (pc' := 113) (L' := [(0, .ref 92), (1, .int (nI S)), (2, .int (nI b)), (3, .int (nI s)), (4, .int (nI d))]) (S' := [.int ((nI (12 * s)) + (nI d)), .ref 141]) (f' := (up1 f 141 g)) rfl ?_
      refine wq_v (y := (nI ((12 * s) + d))) (nI_add (12 * s) d) ?_
      have hv_ := vt_le (s := s) (d := d) hS (by omega) (by omega)
      refine wq_ald (j := ((12 * s) + d)) (n := 49152) (v := (nI (vTN A s d))) rfl rfl rfl rfl (by omega) (Nat.le_of_ble_eq_true rfl) (hg s d (by omega) (by omega)) ?_
      refine wq_run3 (pc' := 120) (L' := [(0, .ref 92), (1, .int (nI S)), (2, .int (nI b)), (3, .int (nI s)), (4, .int (nI d)), (5, .int (nI (vTN A s d)))]) (S' := [.int 268435456, .int (nI (vTN A s d))]) (f' := (up1 f 141 g)) rfl ?_
      refine wq_if (c := 268435456 ≤ (nI (vTN A s d))) (p1 := 146) (L1 := [(0, .ref 92), (1, .int (nI S)), (2, .int (nI b)), (3, .int (nI s)), (4, .int (nI d)), (5, .int (nI (vTN A s d)))]) (S1 := []) (p2 := 123) (L2 := [(0, .ref 92), (1, .int (nI S)), (2, .int (nI b)), (3, .int (nI s)), (4, .int (nI d)), (5, .int (nI (vTN A s d)))]) (S2 := []) rfl (fun c_120 => ?_) (fun c_120 => ?_)
      · have k_120 : 268435456 ≤ (vTN A s d) := (nI_leI (a := 268435456) (b := (vTN A s d)) (by omega) (by omega)).mp c_120
        refine wq_run2 (pc' := 149) (L' := [(0, .ref 92), (1, .int (nI S)), (2, .int (nI b)), (3, .int (nI s)), (4, .int (nI d)), (5, .int (nI (vTN A s d))), (6, .int 0)]) (S' := []) (f' := (up1 f 141 g)) rfl ?_
        have hHB : (s < S → b = 268435456) ∧ (s = S → PB D n S 268435456 (d + 1) b) ∧ (S < s → PB D n S 268435456 n b) := by
          refine ⟨hB.1, fun q => ?_, hB.2.2⟩
          have h8 := pb_s (U := 268435456) (A := A) (d := d) hD00 hS2 (by omega) hS (fun z => by
            rcases hC with ⟨h1, h2, _⟩ | ⟨_, h2⟩
            · exact absurd ⟨q ▸ h1, h2⟩ z
            · rw [q] at h2; exact h2) (hB.2.1 q)
          rw [if_neg (by rw [← q]; omega)] at h8
          exact h8
        have hBle : b ≤ 268435456 := by omega
        rcases hC with ⟨h1, h2, h3⟩ | ⟨h1, h3⟩
        · subst h1
          subst h2
          exact mlp_e0 hn12 hn1 hS2 h53 hD hr (fun gzz Azz z1 z2 z3 => ih (0 + 1) gzz Azz b (by omega) hBle z1 z2 (Or.inr ⟨Or.inr (Nat.succ_pos 0), z3⟩) hHB (by omega)) (n - 0 + 1) 0 g A (Nat.zero_le _) hg hS h3 (Nat.lt_succ_self _)
        · by_cases c : vTN A s d < 268435456
          · have hz : ¬ (s = 0 ∧ d = 0) := by omega
            have hvt : vTN A s d = A s d := if_neg hz
            have hs0 : 0 < s := by
              rcases Nat.eq_zero_or_pos s with q | q
              · rw [hvt, q] at c
                exact absurd (sn_bit hS (Nat.two_pow_pos n) (by omega) c).1 (bN_zero d)
              · exact q
            exact mlp_e1 hn12 hn1 hS2 h53 hD hr hs hs0 (by omega) c (fun gzz Azz z1 z2 z3 => ih (d + 1) gzz Azz b (by omega) hBle z1 z2 (Or.inr ⟨Or.inr (Nat.succ_pos d), z3⟩) hHB (by omega)) (n - 0 + 1) 0 g A (Nat.zero_le _) hg hS hvt.symm h3 (Nat.lt_succ_self _)
          · have hz : ¬ (s = 0 ∧ d = 0) := by omega
            have hvt : vTN A s d = A s d := if_neg hz
            exact mlp_eX hn12 hn1 hS2 h53 hD hr (by omega) (Nat.le_of_not_lt c) (by omega) (ih (d + 1) g A b (by omega) hBle hg hS (Or.inr ⟨Or.inr (Nat.succ_pos d), cp_mono (cp_far2 (fun _ _ => trivial) hs hS (by omega) h3) (fun _ _ _ z => z) (fun p j2 i l' hp hv hj2 hi hb1 hb2 hbS hd => by
          unfold dnP at hd ⊢
          omega)⟩) hHB (by omega))
      · have k_120 : ¬ 268435456 ≤ (vTN A s d) := fun q => c_120 ((nI_leI (a := 268435456) (b := (vTN A s d)) (by omega) (by omega)).mpr q)
        refine wq_run2 (pc' := 125) (L' := [(0, .ref 92), (1, .int (nI S)), (2, .int (nI b)), (3, .int (nI s)), (4, .int (nI d)), (5, .int (nI (vTN A s d)))]) (S' := [.int (nI S), .int (nI s)]) (f' := (up1 f 141 g)) rfl ?_
        refine wq_if (c := (nI s) = (nI S)) (p1 := 128) (L1 := [(0, .ref 92), (1, .int (nI S)), (2, .int (nI b)), (3, .int (nI s)), (4, .int (nI d)), (5, .int (nI (vTN A s d)))]) (S1 := []) (p2 := 146) (L2 := [(0, .ref 92), (1, .int (nI S)), (2, .int (nI b)), (3, .int (nI s)), (4, .int (nI d)), (5, .int (nI (vTN A s d)))]) (S2 := []) rfl (fun c_125 => ?_) (fun c_125 => ?_)
        · have k_125 : s = S := (nI_eq (a := s) (b := S) (by omega) (by omega)).mp c_125
          have hkd0 := hD.2.2.2.1 d 0 (by omega) (by omega)
          refine wq_run7 (pc' := 140) (L' := [(0, .ref 92), (1, .int (nI S)), (2, .int (nI b)), (3, .int (nI s)), (4, .int (nI d)), (5, .int (nI (vTN A s d)))]) (S' := [.int (12 * (nI d)), .ref 129, .int (nI (vTN A s d)), .int (nI b)]) (f' := (up1 f 141 g)) rfl ?_
          refine wq_v (y := (nI (12 * d))) (pk_mul 12 d) ?_
          refine wq_ald (j := (12 * d)) (n := 144) (v := (nI (D d 0))) rfl rfl rfl rfl (by omega) (Nat.le_of_ble_eq_true rfl) (hr d 0 (by omega) (by omega)) ?_
          refine wq_run1 (pc' := 142) (L' := [(0, .ref 92), (1, .int (nI S)), (2, .int (nI b)), (3, .int (nI s)), (4, .int (nI d)), (5, .int (nI (vTN A s d)))]) (S' := [.int ((nI (vTN A s d)) + (nI (D d 0))), .int (nI b)]) (f' := (up1 f 141 g)) rfl ?_
          refine wq_v (y := (nI ((vTN A s d) + (D d 0)))) (nI_add (vTN A s d) (D d 0)) ?_
          refine wq_callI (r := (nI (min b ((vTN A s d) + (D d 0))))) ((show Sp 1 131 [.int (nI b), .int (nI ((vTN A s d) + (D d 0)))] (up1 f 141 g) (Ret (nI (min b ((vTN A s d) + (D d 0)))) (up1 f 141 g)) by have h := mp_least (up1 f 141 g) (nI b) (nI ((vTN A s d) + (D d 0))); rw [imin_N (by omega) (by omega)] at h; exact h)) (Nat.le_of_ble_eq_true rfl) (pc' := 145) (L' := [(0, .ref 92), (1, .int (nI S)), (2, .int (nI b)), (3, .int (nI s)), (4, .int (nI d)), (5, .int (nI (vTN A s d)))]) (S' := []) rfl (Nat.le_of_ble_eq_true rfl) rfl rfl (Nat.le_of_ble_eq_true rfl) (Nat.le_of_ble_eq_true rfl) ?_
          refine wq_run3 (pc' := 149) (L' := [(0, .ref 92), (1, .int (nI S)), (2, .int (nI (min b ((vTN A s d) + (D d 0))))), (3, .int (nI s)), (4, .int (nI d)), (5, .int (nI (vTN A s d))), (6, .int 0)]) (S' := []) (f' := (up1 f 141 g)) rfl ?_
          have hHB : (s < S → (min b ((vTN A s d) + (D d 0))) = 268435456) ∧ (s = S → PB D n S 268435456 (d + 1) (min b ((vTN A s d) + (D d 0)))) ∧ (S < s → PB D n S 268435456 n (min b ((vTN A s d) + (D d 0)))) := by
            refine ⟨fun q => absurd k_125 (by omega), fun q => ?_, fun q => absurd k_125 (by omega)⟩
            have h8 := pb_s (U := 268435456) (A := A) (d := d) hD00 hS2 (by omega) hS (fun z => by
              rcases hC with ⟨h1, h2, _⟩ | ⟨_, h2⟩
              · exact absurd ⟨q ▸ h1, h2⟩ z
              · rw [q] at h2; exact h2) (hB.2.1 q)
            rw [if_pos (by rw [← q]; omega)] at h8
            rw [q]
            exact h8
          have hBle : (min b ((vTN A s d) + (D d 0))) ≤ 268435456 := by omega
          rcases hC with ⟨h1, h2, h3⟩ | ⟨h1, h3⟩
          · subst h1
            subst h2
            exact mlp_e0 hn12 hn1 hS2 h53 hD hr (fun gzz Azz z1 z2 z3 => ih (0 + 1) gzz Azz (min b ((vTN A 0 0) + (D 0 0))) (by omega) hBle z1 z2 (Or.inr ⟨Or.inr (Nat.succ_pos 0), z3⟩) hHB (by omega)) (n - 0 + 1) 0 g A (Nat.zero_le _) hg hS h3 (Nat.lt_succ_self _)
          · by_cases c : vTN A s d < 268435456
            · have hz : ¬ (s = 0 ∧ d = 0) := by omega
              have hvt : vTN A s d = A s d := if_neg hz
              have hs0 : 0 < s := by
                rcases Nat.eq_zero_or_pos s with q | q
                · rw [hvt, q] at c
                  exact absurd (sn_bit hS (Nat.two_pow_pos n) (by omega) c).1 (bN_zero d)
                · exact q
              exact mlp_e1 hn12 hn1 hS2 h53 hD hr hs hs0 (by omega) c (fun gzz Azz z1 z2 z3 => ih (d + 1) gzz Azz (min b ((vTN A s d) + (D d 0))) (by omega) hBle z1 z2 (Or.inr ⟨Or.inr (Nat.succ_pos d), z3⟩) hHB (by omega)) (n - 0 + 1) 0 g A (Nat.zero_le _) hg hS hvt.symm h3 (Nat.lt_succ_self _)
            · have hz : ¬ (s = 0 ∧ d = 0) := by omega
              have hvt : vTN A s d = A s d := if_neg hz
              exact mlp_eX hn12 hn1 hS2 h53 hD hr (by omega) (Nat.le_of_not_lt c) (by omega) (ih (d + 1) g A (min b ((vTN A s d) + (D d 0))) (by omega) hBle hg hS (Or.inr ⟨Or.inr (Nat.succ_pos d), cp_mono (cp_far2 (fun _ _ => trivial) hs hS (by omega) h3) (fun _ _ _ z => z) (fun p j2 i l' hp hv hj2 hi hb1 hb2 hbS hd => by
            unfold dnP at hd ⊢
            omega)⟩) hHB (by omega))
        · have k_125 : ¬ s = S := fun q => c_125 ((nI_eq (a := s) (b := S) (by omega) (by omega)).mpr q)
          refine wq_run2 (pc' := 149) (L' := [(0, .ref 92), (1, .int (nI S)), (2, .int (nI b)), (3, .int (nI s)), (4, .int (nI d)), (5, .int (nI (vTN A s d))), (6, .int 0)]) (S' := []) (f' := (up1 f 141 g)) rfl ?_
          have hHB : (s < S → b = 268435456) ∧ (s = S → PB D n S 268435456 (d + 1) b) ∧ (S < s → PB D n S 268435456 n b) := by
            refine ⟨hB.1, fun q => ?_, hB.2.2⟩
            exact absurd q k_125
          have hBle : b ≤ 268435456 := by omega
          rcases hC with ⟨h1, h2, h3⟩ | ⟨h1, h3⟩
          · subst h1
            subst h2
            exact mlp_e0 hn12 hn1 hS2 h53 hD hr (fun gzz Azz z1 z2 z3 => ih (0 + 1) gzz Azz b (by omega) hBle z1 z2 (Or.inr ⟨Or.inr (Nat.succ_pos 0), z3⟩) hHB (by omega)) (n - 0 + 1) 0 g A (Nat.zero_le _) hg hS h3 (Nat.lt_succ_self _)
          · by_cases c : vTN A s d < 268435456
            · have hz : ¬ (s = 0 ∧ d = 0) := by omega
              have hvt : vTN A s d = A s d := if_neg hz
              have hs0 : 0 < s := by
                rcases Nat.eq_zero_or_pos s with q | q
                · rw [hvt, q] at c
                  exact absurd (sn_bit hS (Nat.two_pow_pos n) (by omega) c).1 (bN_zero d)
                · exact q
              exact mlp_e1 hn12 hn1 hS2 h53 hD hr hs hs0 (by omega) c (fun gzz Azz z1 z2 z3 => ih (d + 1) gzz Azz b (by omega) hBle z1 z2 (Or.inr ⟨Or.inr (Nat.succ_pos d), z3⟩) hHB (by omega)) (n - 0 + 1) 0 g A (Nat.zero_le _) hg hS hvt.symm h3 (Nat.lt_succ_self _)
            · have hz : ¬ (s = 0 ∧ d = 0) := by omega
              have hvt : vTN A s d = A s d := if_neg hz
              exact mlp_eX hn12 hn1 hS2 h53 hD hr (by omega) (Nat.le_of_not_lt c) (by omega) (ih (d + 1) g A b (by omega) hBle hg hS (Or.inr ⟨Or.inr (Nat.succ_pos d), cp_mono (cp_far2 (fun _ _ => trivial) hs hS (by omega) h3) (fun _ _ _ z => z) (fun p j2 i l' hp hv hj2 hi hb1 hb2 hbS hd => by
            unfold dnP at hd ⊢
            omega)⟩) hHB (by omega))
theorem mlp_wkS {f : HI} {D : Nat → Nat → Nat} {n S : Nat} (hn12 : n ≤ 12) (hn1 : 1 ≤ n) (hS2 : S < 2 ^ n) (h53 : f 92 53 = nI n) (hD : Mt n 268435456 30 D) (hr : ∀ p q, p < n → q < n → f 129 (12 * p + q) = nI (D p q)) : ∀ (m9 : Nat) (s : Nat) (g : Nat → Int32) (A : Nat → Nat → Nat) (b : Nat), (s ≤ 2 ^ n) → (b ≤ 268435456) → (∀ m i, m < 2 ^ n → i < n → g (12 * m + i) = nI (vTN A m i)) → (SndT D idN n S 268435456 A) → ((s = 0 ∧ Cpl D idN n S A (fun i => i < 0) (dnP 0 0 0)) ∨ (0 < s ∧ Cpl D idN n S A (fun _ => True) (dnP s 0 0))) → ((s ≤ S → b = 268435456) ∧ (S < s → PB D n S 268435456 n b)) → 2 ^ n - s < m9 → wq 2 196 (fun v f' => ∃ g r0, v = some (.int r0) ∧ f' = up1 f 141 g ∧ WkM D n S r0) 80 [(0, .ref 92), (1, .int (nI S)), (2, .int (nI b)), (3, .int (nI s))] [] (up1 f 141 g) := by
  intro m9
  induction m9 with
  | zero => intro s g A b hs hb hg hS hC hB hn; exact absurd hn (Nat.not_lt_zero _)
  | succ m9 ih =>
    intro s g A b hs hb hg hS hC hB hn
    have h12 := p12 hn12
    have hp0 := p0 n
    have hD00 := hD.2.1 0 (by omega)
    refine wq_run4 (pc' := 86) (L' := [(0, .ref 92), (1, .int (nI S)), (2, .int (nI b)), (3, .int (nI s))]) (S' := [.int (f 92 53), .int 1, .int (nI s)]) (f' := (up1 f 141 g)) rfl ?_
    refine wq_v (y := (nI n)) (h53) ?_
    refine wq_run1 (pc' := 87) (L' := [(0, .ref 92), (1, .int (nI S)), (2, .int (nI b)), (3, .int (nI s))]) (S' := [.int ((1 : Int32) <<< ((nI n) &&& 31)), .int (nI s)]) (f' := (up1 f 141 g)) rfl ?_
    refine wq_v (y := (nI (2 ^ n))) (shl1 (n := n) (by omega)) ?_
    refine wq_if (c := (nI (2 ^ n)) ≤ (nI s)) (p1 := 262) (L1 := [(0, .ref 92), (1, .int (nI S)), (2, .int (nI b)), (3, .int (nI s))]) (S1 := []) (p2 := 90) (L2 := [(0, .ref 92), (1, .int (nI S)), (2, .int (nI b)), (3, .int (nI s))]) (S2 := []) rfl (fun c_87 => ?_) (fun c_87 => ?_)
    · have k_87 : (2 ^ n) ≤ s := (nI_leI (a := (2 ^ n)) (b := s) (by omega) (by omega)).mp c_87
      refine wq_run2 (pc' := 265) (L' := [(0, .ref 92), (1, .int (nI S)), (2, .int (nI b)), (3, .int (nI s))]) (S' := [.int 268435456, .int (nI b)]) (f' := (up1 f 141 g)) rfl ?_
      refine wq_if (c := (nI b) < 268435456) (p1 := 272) (L1 := [(0, .ref 92), (1, .int (nI S)), (2, .int (nI b)), (3, .int (nI s))]) (S1 := []) (p2 := 268) (L2 := [(0, .ref 92), (1, .int (nI S)), (2, .int (nI b)), (3, .int (nI s))]) (S2 := []) rfl (fun c_265 => ?_) (fun c_265 => ?_)
      · have k_265 : b < 268435456 := (nI_ltI (a := b) (b := 268435456) (by omega) (by omega)).mp c_265
        refine wq_run1 (pc' := 273) (L' := [(0, .ref 92), (1, .int (nI S)), (2, .int (nI b)), (3, .int (nI s))]) (S' := [.int (nI b)]) (f' := (up1 f 141 g)) rfl ?_
        have e1 : s = 2 ^ n := by omega
        exact wq_ret rfl ⟨g, _, rfl, rfl, by have h9 := wk_end (D := D) (by omega) hD00 hS2 (hB.2 (by omega)); rw [if_pos k_265] at h9; exact h9⟩
      · have k_265 : ¬ b < 268435456 := fun q => c_265 ((nI_ltI (a := b) (b := 268435456) (by omega) (by omega)).mpr q)
        refine wq_run2 (pc' := 273) (L' := [(0, .ref 92), (1, .int (nI S)), (2, .int (nI b)), (3, .int (nI s))]) (S' := [.int (-1)]) (f' := (up1 f 141 g)) rfl ?_
        have e1 : s = 2 ^ n := by omega
        exact wq_ret rfl ⟨g, _, rfl, rfl, by have h9 := wk_end (D := D) (by omega) hD00 hS2 (hB.2 (by omega)); rw [if_neg k_265] at h9; exact h9⟩
    · have k_87 : ¬ (2 ^ n) ≤ s := fun q => c_87 ((nI_leI (a := (2 ^ n)) (b := s) (by omega) (by omega)).mpr q)
      refine wq_run2 (pc' := 93) (L' := [(0, .ref 92), (1, .int (nI S)), (2, .int (nI b)), (3, .int (nI s)), (4, .int 0)]) (S' := []) (f' := (up1 f 141 g)) rfl ?_
      exact mlp_wkD hn12 hn1 hS2 h53 hD hr (s := s) (by omega) (fun g A b h0 h1 h2 h3 h4 => ih (s + 1) g A b (by omega) h0 h1 h2 (Or.inr ⟨Nat.succ_pos s, h3⟩) ⟨h4.1, h4.2⟩ (by omega)) (n - 0 + 1) 0 g A b (Nat.zero_le _) hb hg hS (hC.elim (fun q => Or.inl ⟨q.1, rfl, q.2⟩) (fun q => Or.inr ⟨Or.inl q.1, q.2⟩)) ⟨fun q => hB.1 (by omega), fun q => by rw [hB.1 (by omega)]; exact pb_0 D n S 268435456, hB.2⟩ (Nat.lt_succ_self _)
theorem mlp_in1 {f : HI} {D : Nat → Nat → Nat} {n S : Nat} (hn12 : n ≤ 12) (hn1 : 1 ≤ n) (hS2 : S < 2 ^ n) (h53 : f 92 53 = nI n) (hD : Mt n 268435456 30 D) (hr : ∀ p q, p < n → q < n → f 129 (12 * p + q) = nI (D p q)) {s : Nat} (hs : s < 2 ^ n) (K : ∀ (g : Nat → Int32), (∀ m i, m < 2 ^ n → i < n → (m < s + 1) → g (12 * m + i) = nI 268435456) → wq 2 196 (fun v f' => ∃ g r0, v = some (.int r0) ∧ f' = up1 f 141 g ∧ WkM D n S r0) 23 [(0, .ref 92), (1, .int (nI S)), (2, .int (nI (s + 1)))] [] (up1 f 141 g)) : ∀ (m9 : Nat) (d : Nat) (g : Nat → Int32), (d ≤ n) → (∀ m i, m < 2 ^ n → i < n → (m < s ∨ m = s ∧ i < d) → g (12 * m + i) = nI 268435456) → n - d < m9 → wq 2 196 (fun v f' => ∃ g r0, v = some (.int r0) ∧ f' = up1 f 141 g ∧ WkM D n S r0) 35 [(0, .ref 92), (1, .int (nI S)), (2, .int (nI s)), (3, .int (nI d))] [] (up1 f 141 g) := by
  intro m9
  induction m9 with
  | zero => intro d g hd hg hn; exact absurd hn (Nat.not_lt_zero _)
  | succ m9 ih =>
    intro d g hd hg hn
    have h12 := p12 hn12
    have hp0 := p0 n
    refine wq_run3 (pc' := 40) (L' := [(0, .ref 92), (1, .int (nI S)), (2, .int (nI s)), (3, .int (nI d))]) (S' := [.int (f 92 53), .int (nI d)]) (f' := (up1 f 141 g)) rfl ?_
    refine wq_v (y := (nI n)) (h53) ?_
    refine wq_if (c := (nI n) ≤ (nI d)) (p1 := 62) (L1 := [(0, .ref 92), (1, .int (nI S)), (2, .int (nI s)), (3, .int (nI d))]) (S1 := []) (p2 := 43) (L2 := [(0, .ref 92), (1, .int (nI S)), (2, .int (nI s)), (3, .int (nI d))]) (S2 := []) rfl (fun c_40 => ?_) (fun c_40 => ?_)
    · have k_40 : n ≤ d := (nI_leI (a := n) (b := d) (by omega) (by omega)).mp c_40
      refine wq_run1 (pc' := 65) (L' := [(0, .ref 92), (1, .int (nI S)), (2, .int ((nI s) + 1)), (3, .int (nI d))]) (S' := []) (f' := (up1 f 141 g)) rfl ?_
      refine wq_L (L' := [(0, .ref 92), (1, .int (nI S)), (2, .int (nI (s + 1))), (3, .int (nI d))]) (by rw [show nI s + 1 = nI (s + 1) from nI_add _ _]) ?_
      refine wq_run1 (pc' := 23) (L' := [(0, .ref 92), (1, .int (nI S)), (2, .int (nI (s + 1)))]) (S' := []) (f' := (up1 f 141 g)) rfl ?_
      exact K g (fun m i hm hi z => hg m i hm hi (by omega))
    · have k_40 : ¬ n ≤ d := fun q => c_40 ((nI_leI (a := n) (b := d) (by omega) (by omega)).mpr q)
      refine wq_run5 (pc' := 51) (L' := [(0, .ref 92), (1, .int (nI S)), (2, .int (nI s)), (3, .int (nI d))]) (S' := [.int (12 * (nI s)), .ref 141]) (f' := (up1 f 141 g)) rfl ?_
      refine wq_v (y := (nI (12 * s))) (pk_mul 12 s) ?_
      refine wq_run2 (pc' := 53) (L' := [(0, .ref 92), (1, .int (nI S)), (2, .int (nI s)), (3, .int (nI d))]) (S' := [.int ((nI (12 * s)) + (nI d)), .ref 141]) (f' := (up1 f 141 g)) rfl ?_
      refine wq_v (y := (nI ((12 * s) + d))) (nI_add (12 * s) d) ?_
      refine wq_run1 (pc' := 55) (L' := [(0, .ref 92), (1, .int (nI S)), (2, .int (nI s)), (3, .int (nI d))]) (S' := [.int 268435456, .int (nI ((12 * s) + d)), .ref 141]) (f' := (up1 f 141 g)) rfl ?_
      refine wq_ist (j := ((12 * s) + d)) (n := 49152) rfl rfl rfl rfl (by omega) (Nat.le_of_ble_eq_true rfl) ?_
      refine wq_h (f' := (up1 f 141 (upd g ((12 * s) + d) 268435456))) ((up2_up1_eq f 141 g ((12 * s) + d) 268435456).trans (congrArg (fun z => up1 f 141 z) (rfl))) ?_
      refine wq_run1 (pc' := 59) (L' := [(0, .ref 92), (1, .int (nI S)), (2, .int (nI s)), (3, .int ((nI d) + 1))]) (S' := []) (f' := (up1 f 141 (upd g ((12 * s) + d) 268435456))) rfl ?_
      refine wq_L (L' := [(0, .ref 92), (1, .int (nI S)), (2, .int (nI s)), (3, .int (nI (d + 1)))]) (by rw [show nI d + 1 = nI (d + 1) from nI_add _ _]) ?_
      refine wq_run1 (pc' := 35) (L' := [(0, .ref 92), (1, .int (nI S)), (2, .int (nI s)), (3, .int (nI (d + 1)))]) (S' := []) (f' := (up1 f 141 (upd g ((12 * s) + d) 268435456))) rfl ?_
      exact ih (d + 1) _ (by omega) (fun m i hm hi z => by
        unfold upd
        by_cases c : 12 * m + i = 12 * s + d
        · rw [if_pos c]; rfl
        · rw [if_neg c]; exact hg m i hm hi (by omega)) (by omega)
theorem mlp_in0 {f : HI} {D : Nat → Nat → Nat} {n S : Nat} (hn12 : n ≤ 12) (hn1 : 1 ≤ n) (hS2 : S < 2 ^ n) (h53 : f 92 53 = nI n) (hD : Mt n 268435456 30 D) (hr : ∀ p q, p < n → q < n → f 129 (12 * p + q) = nI (D p q)) : ∀ (m9 : Nat) (s : Nat) (g : Nat → Int32), (s ≤ 2 ^ n) → (∀ m i, m < 2 ^ n → i < n → (m < s) → g (12 * m + i) = nI 268435456) → 2 ^ n - s < m9 → wq 2 196 (fun v f' => ∃ g r0, v = some (.int r0) ∧ f' = up1 f 141 g ∧ WkM D n S r0) 23 [(0, .ref 92), (1, .int (nI S)), (2, .int (nI s))] [] (up1 f 141 g) := by
  intro m9
  induction m9 with
  | zero => intro s g hs hg hn; exact absurd hn (Nat.not_lt_zero _)
  | succ m9 ih =>
    intro s g hs hg hn
    have h12 := p12 hn12
    have hp0 := p0 n
    refine wq_run4 (pc' := 29) (L' := [(0, .ref 92), (1, .int (nI S)), (2, .int (nI s))]) (S' := [.int (f 92 53), .int 1, .int (nI s)]) (f' := (up1 f 141 g)) rfl ?_
    refine wq_v (y := (nI n)) (h53) ?_
    refine wq_run1 (pc' := 30) (L' := [(0, .ref 92), (1, .int (nI S)), (2, .int (nI s))]) (S' := [.int ((1 : Int32) <<< ((nI n) &&& 31)), .int (nI s)]) (f' := (up1 f 141 g)) rfl ?_
    refine wq_v (y := (nI (2 ^ n))) (shl1 (n := n) (by omega)) ?_
    refine wq_if (c := (nI (2 ^ n)) ≤ (nI s)) (p1 := 68) (L1 := [(0, .ref 92), (1, .int (nI S)), (2, .int (nI s))]) (S1 := []) (p2 := 33) (L2 := [(0, .ref 92), (1, .int (nI S)), (2, .int (nI s))]) (S2 := []) rfl (fun c_30 => ?_) (fun c_30 => ?_)
    · have k_30 : (2 ^ n) ≤ s := (nI_leI (a := (2 ^ n)) (b := s) (by omega) (by omega)).mp c_30
      refine wq_run4 (pc' := 74) (L' := [(0, .ref 92), (1, .int (nI S)), (2, .int (nI s))]) (S' := [.int 0, .int 0, .ref 141]) (f' := (up1 f 141 g)) rfl ?_
      refine wq_ist (j := 0) (n := 49152) rfl rfl rfl rfl (Nat.le_of_ble_eq_true rfl) (Nat.le_of_ble_eq_true rfl) ?_
      refine wq_h (f' := (up1 f 141 (upd g 0 0))) ((up2_up1_eq f 141 g 0 0).trans (congrArg (fun z => up1 f 141 z) (rfl))) ?_
      refine wq_run4 (pc' := 80) (L' := [(0, .ref 92), (1, .int (nI S)), (2, .int 268435456), (3, .int 0)]) (S' := []) (f' := (up1 f 141 (upd g 0 0))) rfl ?_
      exact mlp_wkS hn12 hn1 hS2 h53 hD hr (2 ^ n - 0 + 1) 0 _ (fun _ _ => 268435456) 268435456 (Nat.zero_le _) (Nat.le_refl _) (fun m i hm hi => by
        unfold vTN
        by_cases c : m = 0 ∧ i = 0
        · rw [if_pos c, c.1, c.2]; rfl
        · rw [if_neg c]; exact (upd_n (by omega)).trans (hg m i hm hi (by omega))) (fun m i _ _ => ⟨Nat.le_refl _, Or.inl rfl⟩) (Or.inl ⟨rfl, fun m i l hm hv _ hd hn => by
        cases l with
        | nil => exact absurd (hd rfl) (Nat.not_lt_zero _)
        | cons j l' =>
          obtain ⟨p, hp, hvp, _, _, _⟩ := vl_tail hm hv
          have h1 := hn j l' rfl p hp hvp
          have h2 : p = 0 := by unfold dnP at h1; omega
          rw [h2] at hvp
          exact absurd hvp vl_0⟩) ⟨fun _ => rfl, fun q => absurd q (Nat.not_lt_zero _)⟩ (Nat.lt_succ_self _)
    · have k_30 : ¬ (2 ^ n) ≤ s := fun q => c_30 ((nI_leI (a := (2 ^ n)) (b := s) (by omega) (by omega)).mpr q)
      refine wq_run2 (pc' := 35) (L' := [(0, .ref 92), (1, .int (nI S)), (2, .int (nI s)), (3, .int 0)]) (S' := []) (f' := (up1 f 141 g)) rfl ?_
      exact mlp_in1 hn12 hn1 hS2 h53 hD hr (s := s) (by omega) (fun g h => ih (s + 1) g (by omega) h (by omega)) (n - 0 + 1) 0 g (Nat.zero_le _) (fun m i hm hi z => hg m i hm hi (by omega)) (Nat.lt_succ_self _)
theorem mp_walk2 {f : HI} {D : Nat → Nat → Nat} {n S : Nat} (hn12 : n ≤ 12) (hn1 : 1 ≤ n) (hS2 : S < 2 ^ n) (h53 : f 92 53 = nI n) (hD : Mt n 268435456 30 D) (hr : ∀ p q, p < n → q < n → f 129 (12 * p + q) = nI (D p q)) : Sp 2 196 [.ref 92, .int (nI S)] f (fun v f' => ∃ g r0, v = some (.int r0) ∧ f' = up1 f 141 g ∧ WkM D n S r0) := by
  show wq 2 196 (fun v f' => ∃ g r0, v = some (.int r0) ∧ f' = up1 f 141 g ∧ WkM D n S r0) 0 [(0, .ref 92), (1, .int (nI S))] [] f
  have hp0 := p0 n
  have h12 := p12 hn12
  have hin : inR (nI S) 0 (nI (2 ^ n - 1)) := ⟨nI_pos' (by omega), (nI_leI (a := S) (b := 2 ^ n - 1) (by omega) (by omega)).mpr (by omega)⟩
  refine wq_run6 (pc' := 8) (L' := [(0, .ref 92), (1, .int (nI S))]) (S' := [.int (f 92 53), .int 1, .long 0, .long (nI S).toInt64]) (f' := f) rfl ?_
  refine wq_v (y := (nI n)) (h53) ?_
  refine wq_run1 (pc' := 9) (L' := [(0, .ref 92), (1, .int (nI S))]) (S' := [.int ((1 : Int32) <<< ((nI n) &&& 31)), .long 0, .long (nI S).toInt64]) (f' := f) rfl ?_
  refine wq_v (y := (nI (2 ^ n))) (shl1 (n := n) (by omega)) ?_
  refine wq_run2 (pc' := 11) (L' := [(0, .ref 92), (1, .int (nI S))]) (S' := [.int ((nI (2 ^ n)) - 1), .long 0, .long (nI S).toInt64]) (f' := f) rfl ?_
  refine wq_v (y := (nI ((2 ^ n) - 1))) (pk_sub (a := (2 ^ n)) (b := 1) (by omega)) ?_
  refine wq_run1 (pc' := 12) (L' := [(0, .ref 92), (1, .int (nI S))]) (S' := [.long (nI ((2 ^ n) - 1)).toInt64, .long 0, .long (nI S).toInt64]) (f' := f) rfl ?_
  refine wq_callI (r := (b2i (inR (nI S) 0 (nI ((2 ^ n) - 1))))) (mp_in f (nI S) 0 (nI ((2 ^ n) - 1))) (Nat.le_of_ble_eq_true rfl) (pc' := 15) (L' := [(0, .ref 92), (1, .int (nI S))]) (S' := []) rfl (Nat.le_of_ble_eq_true rfl) rfl rfl (Nat.le_of_ble_eq_true rfl) (Nat.le_of_ble_eq_true rfl) ?_
  refine wq_if (c := (b2i (inR (nI S) 0 (nI ((2 ^ n) - 1)))) = 0) (p1 := 18) (L1 := [(0, .ref 92), (1, .int (nI S))]) (S1 := []) (p2 := 21) (L2 := [(0, .ref 92), (1, .int (nI S))]) (S2 := []) rfl (fun q => absurd q (b2i_n0.mpr hin)) (fun _ => ?_)
  refine wq_run2 (pc' := 23) (L' := [(0, .ref 92), (1, .int (nI S)), (2, .int 0)]) (S' := []) (f' := f) rfl ?_
  have h9 := mlp_in0 hn12 hn1 hS2 h53 hD hr (2 ^ n - 0 + 1) 0 (f 141) (Nat.zero_le _) (fun _ _ _ _ h => absurd h (Nat.not_lt_zero _)) (Nat.lt_succ_self _)
  rw [up1_id] at h9
  exact h9
theorem mp_walk1 {f : HI} {n : Nat} {s : Int32} (hn12 : n ≤ 12) (h53 : f 92 53 = nI n) (h1 : ¬ inR s 0 (nI (2 ^ n - 1))) : Sp 2 196 [.ref 92, .int s] f (Ret (-3) f) := by
  show wq 2 196 (Ret (-3) f) 0 [(0, .ref 92), (1, .int s)] [] f
  have hp0 := p0 n
  have h12 := p12 hn12
  refine wq_run6 (pc' := 8) (L' := [(0, .ref 92), (1, .int s)]) (S' := [.int (f 92 53), .int 1, .long 0, .long s.toInt64]) (f' := f) rfl ?_
  refine wq_v (y := (nI n)) (h53) ?_
  refine wq_run1 (pc' := 9) (L' := [(0, .ref 92), (1, .int s)]) (S' := [.int ((1 : Int32) <<< ((nI n) &&& 31)), .long 0, .long s.toInt64]) (f' := f) rfl ?_
  refine wq_v (y := (nI (2 ^ n))) (shl1 (n := n) (by omega)) ?_
  refine wq_run2 (pc' := 11) (L' := [(0, .ref 92), (1, .int s)]) (S' := [.int ((nI (2 ^ n)) - 1), .long 0, .long s.toInt64]) (f' := f) rfl ?_
  refine wq_v (y := (nI ((2 ^ n) - 1))) (pk_sub (a := (2 ^ n)) (b := 1) (by omega)) ?_
  refine wq_run1 (pc' := 12) (L' := [(0, .ref 92), (1, .int s)]) (S' := [.long (nI ((2 ^ n) - 1)).toInt64, .long 0, .long s.toInt64]) (f' := f) rfl ?_
  refine wq_callI (r := (b2i (inR s 0 (nI ((2 ^ n) - 1))))) (mp_in f s 0 (nI ((2 ^ n) - 1))) (Nat.le_of_ble_eq_true rfl) (pc' := 15) (L' := [(0, .ref 92), (1, .int s)]) (S' := []) rfl (Nat.le_of_ble_eq_true rfl) rfl rfl (Nat.le_of_ble_eq_true rfl) (Nat.le_of_ble_eq_true rfl) ?_
  refine wq_if (c := (b2i (inR s 0 (nI ((2 ^ n) - 1)))) = 0) (p1 := 18) (L1 := [(0, .ref 92), (1, .int s)]) (S1 := []) (p2 := 21) (L2 := [(0, .ref 92), (1, .int s)]) (S2 := []) rfl (fun _ => ?_) (fun q => absurd (b2i_0.mpr h1) q)
  refine wq_run1 (pc' := 20) (L' := [(0, .ref 92), (1, .int s)]) (S' := [.int (-3)]) (f' := f) rfl ?_
  exact wq_ret rfl ⟨rfl, rfl⟩
