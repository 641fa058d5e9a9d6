/-! the land of the reference -/
theorem sub_add_I {a b c : Nat} (h : b ≤ a + c) (ha : a < 2 ^ 29) (hb : b < 2 ^ 29) (hc : c < 2 ^ 29) : nI a - nI b + nI c = nI (a + c - b) := by
  apply Int32.toInt_inj.mp
  rw [Int32.toInt_add, pk_sub_toInt (by omega) (by omega), nI_toInt (by omega), nI_toInt (by omega)]
  rw [Int.bmod_eq_of_le (by omega) (by omega)]
  omega
theorem mp_leaves {f : HI} {W : Nat → Nat → Nat} {w i x : Nat} (hM : LaM f W w) (hi : i < w) (hx : x < 2 ^ 29) : Sp 1 137 [.ref 92, .int (nI i), .int (nI x)] f (Ret (nI (lvN (W 3 i) (W 4 i) x)) f) := by
  show wq 1 137 (Ret (nI (lvN (W 3 i) (W 4 i) x)) f) 0 [(0, .ref 92), (1, .int (nI i)), (2, .int (nI x))] [] f
  have hw16 := hM.2.1
  have hb := hM.2.2.2 i hi
  have hm := Nat.mod_lt x (show 0 < W 3 i by omega)
  refine wq_run3 (pc' := 5) (L' := [(0, .ref 92), (1, .int (nI i)), (2, .int (nI x))]) (S' := [.int (nI i), .ref 98]) (f' := f) rfl ?_
  refine wq_ald (j := i) (n := 16) (v := (nI (W 4 i))) rfl rfl rfl rfl (by omega) (Nat.le_of_ble_eq_true rfl) ((hM.2.2.1 i (by omega)).2.2.2.2) ?_
  refine wq_run4 (pc' := 12) (L' := [(0, .ref 92), (1, .int (nI i)), (2, .int (nI x))]) (S' := [.int (nI i), .ref 97, .int (nI x), .int (nI (W 4 i))]) (f' := f) rfl ?_
  refine wq_ald (j := i) (n := 16) (v := (nI (W 3 i))) rfl rfl rfl rfl (by omega) (Nat.le_of_ble_eq_true rfl) ((hM.2.2.1 i (by omega)).2.2.2.1) ?_
  refine wq_rem rfl (nI_ne0 (by omega) (by omega)) ?_
  refine wq_v (y := (nI (x % (W 3 i)))) (pk_rem (a := x) (d := (W 3 i)) (by omega) (by omega) (by omega)) ?_
  refine wq_run4 (pc' := 20) (L' := [(0, .ref 92), (1, .int (nI i)), (2, .int (nI x))]) (S' := [.int (nI i), .ref 97, .int ((nI (W 4 i)) - (nI (x % (W 3 i))))]) (f' := f) rfl ?_
  refine wq_ald (j := i) (n := 16) (v := (nI (W 3 i))) rfl rfl rfl rfl (by omega) (Nat.le_of_ble_eq_true rfl) ((hM.2.2.1 i (by omega)).2.2.2.1) ?_
  refine wq_run1 (pc' := 22) (L' := [(0, .ref 92), (1, .int (nI i)), (2, .int (nI x))]) (S' := [.int (((nI (W 4 i)) - (nI (x % (W 3 i)))) + (nI (W 3 i)))]) (f' := f) rfl ?_
  refine wq_v (y := (nI (W 4 i + W 3 i - x % W 3 i))) (sub_add_I (by omega) (by omega) (by omega) (by omega)) ?_
  refine wq_run3 (pc' := 27) (L' := [(0, .ref 92), (1, .int (nI i)), (2, .int (nI x))]) (S' := [.int (nI i), .ref 97, .int (nI (W 4 i + W 3 i - x % W 3 i))]) (f' := f) rfl ?_
  refine wq_ald (j := i) (n := 16) (v := (nI (W 3 i))) rfl rfl rfl rfl (by omega) (Nat.le_of_ble_eq_true rfl) ((hM.2.2.1 i (by omega)).2.2.2.1) ?_
  refine wq_rem rfl (nI_ne0 (by omega) (by omega)) ?_
  refine wq_v (y := (nI ((W 4 i + W 3 i - x % W 3 i) % (W 3 i)))) (pk_rem (a := (W 4 i + W 3 i - x % W 3 i)) (d := (W 3 i)) (by omega) (by omega) (by omega)) ?_
  refine wq_run4 (pc' := 33) (L' := [(0, .ref 92), (1, .int (nI i)), (2, .int (nI x)), (3, .int (nI ((W 4 i + W 3 i - x % W 3 i) % (W 3 i))))]) (S' := [.int ((nI x) + (nI ((W 4 i + W 3 i - x % W 3 i) % (W 3 i))))]) (f' := f) rfl ?_
  refine wq_v (y := (nI (x + ((W 4 i + W 3 i - x % W 3 i) % (W 3 i))))) (nI_add x ((W 4 i + W 3 i - x % W 3 i) % (W 3 i))) ?_
  exact wq_ret rfl ⟨rfl, rfl⟩
theorem mlp_dueIn {f : HI} {W : Nat → Nat → Nat} {w a h : Nat} (hM : LaM f W w) (ha : a < 10) (hh : h ≤ 60000) {k : Nat} {G0 : Nat → Nat} {c0 : Nat} (hB0 : BdN c0 G0) (hc0 : c0 < 260000000) (K : ∀ (g : Nat → Int32) (mo : Int32), (∀ t, t < 10 → g t = nI (fdN W (2 * w) G0 t)) → (mo = 0 → fdN W (2 * w) G0 = G0) → (¬ mo = 0 → ¬ fdN W (2 * w) G0 = G0) → wq 2 138 (fun v f' => ∃ g, v = none ∧ f' = up1 f 136 g ∧ ∀ t, t < 10 → g t = nI (arN W w a h t)) 33 [(0, .ref 92), (3, .int mo)] [] (up1 f 136 g)) : ∀ (m9 : Nat) (e : Nat) (g : Nat → Int32) (G : Nat → Nat) (mo : Int32), (e ≤ 2 * w) → (G = fdN W e G0) → (∀ t, t < 10 → g t = nI (G t)) → (mo = 0 → G = G0) → (¬ mo = 0 → ∃ t, G t < G0 t) → 2 * w - e < m9 → wq 2 138 (fun v f' => ∃ g, v = none ∧ f' = up1 f 136 g ∧ ∀ t, t < 10 → g t = nI (arN W w a h t)) 42 [(0, .ref 92), (3, .int mo), (4, .int (nI e))] [] (up1 f 136 g) := by
  intro m9
  induction m9 with
  | zero => intro e g G mo he hGe hg hs hs2 hn; exact absurd hn (Nat.not_lt_zero _)
  | succ m9 ih =>
    intro e g G mo he hGe hg hs hs2 hn
    have hw16 := hM.2.1
    have hB := bd_f hM.2.2.2 hB0 e he (by omega)
    rw [← hGe] at hB
    refine wq_run4 (pc' := 49) (L' := [(0, .ref 92), (3, .int mo), (4, .int (nI e))]) (S' := [.int (f 92 7), .int 2, .int (nI e)]) (f' := (up1 f 136 g)) rfl ?_
    refine wq_v (y := (nI w)) (hM.1) ?_
    refine wq_run1 (pc' := 50) (L' := [(0, .ref 92), (3, .int mo), (4, .int (nI e))]) (S' := [.int (2 * (nI w)), .int (nI e)]) (f' := (up1 f 136 g)) rfl ?_
    refine wq_v (y := (nI (2 * w))) (pk_mul 2 w) ?_
    refine wq_if (c := (nI (2 * w)) ≤ (nI e)) (p1 := 180) (L1 := [(0, .ref 92), (3, .int mo), (4, .int (nI e))]) (S1 := []) (p2 := 53) (L2 := [(0, .ref 92), (3, .int mo), (4, .int (nI e))]) (S2 := []) rfl (fun c_50 => ?_) (fun c_50 => ?_)
    · have k_50 : (2 * w) ≤ e := (nI_leI (a := (2 * w)) (b := e) (by omega) (by omega)).mp c_50
      refine wq_run1 (pc' := 33) (L' := [(0, .ref 92), (3, .int mo)]) (S' := []) (f' := (up1 f 136 g)) rfl ?_
      have e1 : e = 2 * w := by omega
      rw [e1] at hGe
      rw [hGe] at hg hs hs2
      exact K g mo hg hs (fun q c => by obtain ⟨t, ht⟩ := hs2 q; rw [c] at ht; exact Nat.lt_irrefl _ ht)
    · have k_50 : ¬ (2 * w) ≤ e := fun q => c_50 ((nI_leI (a := (2 * w)) (b := e) (by omega) (by omega)).mpr q)
      have hq := wy_Q hM.2.2.2 (e := e) (by omega)
      have hp := wy_P hM.2.2.2 (e := e) (by omega)
      refine wq_run2 (pc' := 56) (L' := [(0, .ref 92), (3, .int mo), (4, .int (nI e))]) (S' := [.int 2, .int (nI e)]) (f' := (up1 f 136 g)) rfl ?_
      refine wq_div rfl (by decide) ?_
      refine wq_v (y := (nI (e / 2))) (pk_div (a := e) (d := 2) (by omega) (by omega) (by omega)) ?_
      refine wq_run3 (pc' := 62) (L' := [(0, .ref 92), (3, .int mo), (4, .int (nI e)), (5, .int (nI (e / 2)))]) (S' := [.int 2, .int (nI e)]) (f' := (up1 f 136 g)) rfl ?_
      refine wq_rem rfl (by decide) ?_
      refine wq_v (y := (nI (e % 2))) (pk_rem (a := e) (d := 2) (by omega) (by omega) (by omega)) ?_
      refine wq_if (c := (nI (e % 2)) = 0) (p1 := 66) (L1 := [(0, .ref 92), (3, .int mo), (4, .int (nI e)), (5, .int (nI (e / 2)))]) (S1 := []) (p2 := 76) (L2 := [(0, .ref 92), (3, .int mo), (4, .int (nI e)), (5, .int (nI (e / 2)))]) (S2 := []) rfl (fun c_63 => ?_) (fun c_63 => ?_)
      · have k_63 : (e % 2) = 0 := (nI_eq (a := (e % 2)) (b := 0) (by omega) (by omega)).mp c_63
        refine wq_run3 (pc' := 72) (L' := [(0, .ref 92), (3, .int mo), (4, .int (nI e)), (5, .int (nI (e / 2)))]) (S' := [.int (nI (e / 2)), .ref 93]) (f' := (up1 f 136 g)) rfl ?_
        refine wq_ald (j := (e / 2)) (n := 16) (v := (nI (eP W e))) rfl rfl rfl rfl (by omega) (Nat.le_of_ble_eq_true rfl) ((hM.2.2.1 (e / 2) (by omega)).1.trans (congrArg nI (show W 0 (e / 2) = W (e % 2) (e / 2) by rw [k_63]))) ?_
        refine wq_run4 (pc' := 88) (L' := [(0, .ref 92), (3, .int mo), (4, .int (nI e)), (5, .int (nI (e / 2))), (6, .int (nI (eP W e)))]) (S' := [.int 2, .int (nI e)]) (f' := (up1 f 136 g)) rfl ?_
        refine wq_rem rfl (by decide) ?_
        refine wq_v (y := (nI (e % 2))) (pk_rem (a := e) (d := 2) (by omega) (by omega) (by omega)) ?_
        refine wq_if (c := (nI (e % 2)) = 0) (p1 := 92) (L1 := [(0, .ref 92), (3, .int mo), (4, .int (nI e)), (5, .int (nI (e / 2))), (6, .int (nI (eP W e)))]) (S1 := []) (p2 := 102) (L2 := [(0, .ref 92), (3, .int mo), (4, .int (nI e)), (5, .int (nI (e / 2))), (6, .int (nI (eP W e)))]) (S2 := []) rfl (fun _ => ?_) (fun q => absurd ((nI_eq (a := (e % 2)) (b := 0) (by omega) (by omega)).mpr (by omega)) q)
        refine wq_run3 (pc' := 98) (L' := [(0, .ref 92), (3, .int mo), (4, .int (nI e)), (5, .int (nI (e / 2))), (6, .int (nI (eP W e)))]) (S' := [.int (nI (e / 2)), .ref 94]) (f' := (up1 f 136 g)) rfl ?_
        refine wq_ald (j := (e / 2)) (n := 16) (v := (nI (eQ W e))) rfl rfl rfl rfl (by omega) (Nat.le_of_ble_eq_true rfl) ((hM.2.2.1 (e / 2) (by omega)).2.1.trans (congrArg nI (show W 1 (e / 2) = W (1 - e % 2) (e / 2) by rw [k_63]))) ?_
        refine wq_run5 (pc' := 117) (L' := [(0, .ref 92), (3, .int mo), (4, .int (nI e)), (5, .int (nI (e / 2))), (6, .int (nI (eP W e))), (7, .int (nI (eQ W e)))]) (S' := [.int (nI (eP W e)), .ref 136]) (f' := (up1 f 136 g)) rfl ?_
        have hb_ := hB (eP W e)
        refine wq_ald (j := (eP W e)) (n := 10) (v := (nI (G (eP W e)))) rfl rfl rfl rfl (by omega) (Nat.le_of_ble_eq_true rfl) (hg (eP W e) (by omega)) ?_
        refine wq_run1 (pc' := 120) (L' := [(0, .ref 92), (3, .int mo), (4, .int (nI e)), (5, .int (nI (e / 2))), (6, .int (nI (eP W e))), (7, .int (nI (eQ W e)))]) (S' := [.int 268435456, .int (nI (G (eP W e)))]) (f' := (up1 f 136 g)) rfl ?_
        refine wq_if (c := (nI (G (eP W e))) < 268435456) (p1 := 128) (L1 := [(0, .ref 92), (3, .int mo), (4, .int (nI e)), (5, .int (nI (e / 2))), (6, .int (nI (eP W e))), (7, .int (nI (eQ W e)))]) (S1 := []) (p2 := 123) (L2 := [(0, .ref 92), (3, .int mo), (4, .int (nI e)), (5, .int (nI (e / 2))), (6, .int (nI (eP W e))), (7, .int (nI (eQ W e)))]) (S2 := []) rfl (fun c_120 => ?_) (fun c_120 => ?_)
        · have k_120 : (G (eP W e)) < 268435456 := (nI_ltI (a := (G (eP W e))) (b := 268435456) (by omega) (by omega)).mp c_120
          have r_120 := rl_val hM.2.2.2 (e := e) (show e < 2 * w by omega) (x := G (eP W e)) (by have := hB (eP W e); omega)
          refine wq_run5 (pc' := 137) (L' := [(0, .ref 92), (3, .int mo), (4, .int (nI e)), (5, .int (nI (e / 2))), (6, .int (nI (eP W e))), (7, .int (nI (eQ W e)))]) (S' := [.int (nI (eP W e)), .ref 136, .int (nI (e / 2)), .ref 92]) (f' := (up1 f 136 g)) rfl ?_
          have hb_ := hB (eP W e)
          refine wq_ald (j := (eP W e)) (n := 10) (v := (nI (G (eP W e)))) rfl rfl rfl rfl (by omega) (Nat.le_of_ble_eq_true rfl) (hg (eP W e) (by omega)) ?_
          refine wq_callI (r := (nI (lvN (W 3 (e / 2)) (W 4 (e / 2)) (G (eP W e))))) (mp_leaves (f := (up1 f 136 g)) (W := W) (w := w) (i := (e / 2)) (x := (G (eP W e))) hM (by omega) (by omega)) (Nat.le_of_ble_eq_true rfl) (pc' := 141) (L' := [(0, .ref 92), (3, .int mo), (4, .int (nI e)), (5, .int (nI (e / 2))), (6, .int (nI (eP W e))), (7, .int (nI (eQ W e)))]) (S' := []) rfl (Nat.le_of_ble_eq_true rfl) rfl rfl (Nat.le_of_ble_eq_true rfl) (Nat.le_of_ble_eq_true rfl) ?_
          refine wq_run3 (pc' := 147) (L' := [(0, .ref 92), (3, .int mo), (4, .int (nI e)), (5, .int (nI (e / 2))), (6, .int (nI (eP W e))), (7, .int (nI (eQ W e)))]) (S' := [.int (nI (e / 2)), .ref 96, .int (nI (lvN (W 3 (e / 2)) (W 4 (e / 2)) (G (eP W e))))]) (f' := (up1 f 136 g)) rfl ?_
          refine wq_ald (j := (e / 2)) (n := 16) (v := (nI (W 2 (e / 2)))) rfl rfl rfl rfl (by omega) (Nat.le_of_ble_eq_true rfl) ((hM.2.2.1 (e / 2) (by omega)).2.2.1) ?_
          refine wq_run1 (pc' := 149) (L' := [(0, .ref 92), (3, .int mo), (4, .int (nI e)), (5, .int (nI (e / 2))), (6, .int (nI (eP W e))), (7, .int (nI (eQ W e)))]) (S' := [.int ((nI (lvN (W 3 (e / 2)) (W 4 (e / 2)) (G (eP W e)))) + (nI (W 2 (e / 2))))]) (f' := (up1 f 136 g)) rfl ?_
          refine wq_v (y := (nI ((lvN (W 3 (e / 2)) (W 4 (e / 2)) (G (eP W e))) + (W 2 (e / 2))))) (nI_add (lvN (W 3 (e / 2)) (W 4 (e / 2)) (G (eP W e))) (W 2 (e / 2))) ?_
          refine wq_run5 (pc' := 159) (L' := [(0, .ref 92), (3, .int mo), (4, .int (nI e)), (5, .int (nI (e / 2))), (6, .int (nI (eP W e))), (7, .int (nI (eQ W e))), (8, .int (nI ((lvN (W 3 (e / 2)) (W 4 (e / 2)) (G (eP W e))) + (W 2 (e / 2)))))]) (S' := [.int (nI (eQ W e)), .ref 136, .int (nI ((lvN (W 3 (e / 2)) (W 4 (e / 2)) (G (eP W e))) + (W 2 (e / 2))))]) (f' := (up1 f 136 g)) rfl ?_
          have hb_ := hB (eQ W e)
          refine wq_ald (j := (eQ W e)) (n := 10) (v := (nI (G (eQ W e)))) rfl rfl rfl rfl (by omega) (Nat.le_of_ble_eq_true rfl) (hg (eQ W e) (by omega)) ?_
          refine wq_if (c := (nI (G (eQ W e))) ≤ (nI ((lvN (W 3 (e / 2)) (W 4 (e / 2)) (G (eP W e))) + (W 2 (e / 2))))) (p1 := 174) (L1 := [(0, .ref 92), (3, .int mo), (4, .int (nI e)), (5, .int (nI (e / 2))), (6, .int (nI (eP W e))), (7, .int (nI (eQ W e))), (8, .int (nI ((lvN (W 3 (e / 2)) (W 4 (e / 2)) (G (eP W e))) + (W 2 (e / 2)))))]) (S1 := []) (p2 := 163) (L2 := [(0, .ref 92), (3, .int mo), (4, .int (nI e)), (5, .int (nI (e / 2))), (6, .int (nI (eP W e))), (7, .int (nI (eQ W e))), (8, .int (nI ((lvN (W 3 (e / 2)) (W 4 (e / 2)) (G (eP W e))) + (W 2 (e / 2)))))]) (S2 := []) rfl (fun c_160 => ?_) (fun c_160 => ?_)
          · have k_160 : (G (eQ W e)) ≤ ((lvN (W 3 (e / 2)) (W 4 (e / 2)) (G (eP W e))) + (W 2 (e / 2))) := (nI_leI (a := (G (eQ W e))) (b := ((lvN (W 3 (e / 2)) (W 4 (e / 2)) (G (eP W e))) + (W 2 (e / 2)))) (by omega) (by omega)).mp c_160
            refine wq_run1 (pc' := 177) (L' := [(0, .ref 92), (3, .int mo), (4, .int ((nI e) + 1)), (5, .int (nI (e / 2))), (6, .int (nI (eP W e))), (7, .int (nI (eQ W e))), (8, .int (nI ((lvN (W 3 (e / 2)) (W 4 (e / 2)) (G (eP W e))) + (W 2 (e / 2)))))]) (S' := []) (f' := (up1 f 136 g)) rfl ?_
            refine wq_L (L' := [(0, .ref 92), (3, .int mo), (4, .int (nI (e + 1))), (5, .int (nI (e / 2))), (6, .int (nI (eP W e))), (7, .int (nI (eQ W e))), (8, .int (nI ((lvN (W 3 (e / 2)) (W 4 (e / 2)) (G (eP W e))) + (W 2 (e / 2)))))]) (by rw [show nI e + 1 = nI (e + 1) from nI_add _ _]) ?_
            refine wq_run1 (pc' := 42) (L' := [(0, .ref 92), (3, .int mo), (4, .int (nI (e + 1)))]) (S' := []) (f' := (up1 f 136 g)) rfl ?_
            have hk := hB (eQ W e)
            exact ih (e + 1) g (st1 W e G) mo (by omega) (by rw [hGe]; rfl) (keep_r (N := nI) (by omega) hg) (fun q => (st1_id (by omega)).trans (hs q)) (fun q => by rw [st1_id (by omega)]; exact hs2 q) (by omega)
          · have k_160 : ¬ (G (eQ W e)) ≤ ((lvN (W 3 (e / 2)) (W 4 (e / 2)) (G (eP W e))) + (W 2 (e / 2))) := fun q => c_160 ((nI_leI (a := (G (eQ W e))) (b := ((lvN (W 3 (e / 2)) (W 4 (e / 2)) (G (eP W e))) + (W 2 (e / 2)))) (by omega) (by omega)).mpr q)
            refine wq_run4 (pc' := 171) (L' := [(0, .ref 92), (3, .int mo), (4, .int (nI e)), (5, .int (nI (e / 2))), (6, .int (nI (eP W e))), (7, .int (nI (eQ W e))), (8, .int (nI ((lvN (W 3 (e / 2)) (W 4 (e / 2)) (G (eP W e))) + (W 2 (e / 2)))))]) (S' := [.int (nI ((lvN (W 3 (e / 2)) (W 4 (e / 2)) (G (eP W e))) + (W 2 (e / 2)))), .int (nI (eQ W e)), .ref 136]) (f' := (up1 f 136 g)) rfl ?_
            refine wq_ist (j := (eQ W e)) (n := 10) rfl rfl rfl rfl (by omega) (Nat.le_of_ble_eq_true rfl) ?_
            refine wq_h (f' := (up1 f 136 (upd g (eQ W e) (nI ((lvN (W 3 (e / 2)) (W 4 (e / 2)) (G (eP W e))) + (W 2 (e / 2))))))) ((up2_up1_eq f 136 g (eQ W e) (nI ((lvN (W 3 (e / 2)) (W 4 (e / 2)) (G (eP W e))) + (W 2 (e / 2))))).trans (congrArg (fun z => up1 f 136 z) (rfl))) ?_
            refine wq_run3 (pc' := 177) (L' := [(0, .ref 92), (3, .int 1), (4, .int ((nI e) + 1)), (5, .int (nI (e / 2))), (6, .int (nI (eP W e))), (7, .int (nI (eQ W e))), (8, .int (nI ((lvN (W 3 (e / 2)) (W 4 (e / 2)) (G (eP W e))) + (W 2 (e / 2)))))]) (S' := []) (f' := (up1 f 136 (upd g (eQ W e) (nI ((lvN (W 3 (e / 2)) (W 4 (e / 2)) (G (eP W e))) + (W 2 (e / 2))))))) rfl ?_
            refine wq_L (L' := [(0, .ref 92), (3, .int 1), (4, .int (nI (e + 1))), (5, .int (nI (e / 2))), (6, .int (nI (eP W e))), (7, .int (nI (eQ W e))), (8, .int (nI ((lvN (W 3 (e / 2)) (W 4 (e / 2)) (G (eP W e))) + (W 2 (e / 2)))))]) (by rw [show nI e + 1 = nI (e + 1) from nI_add _ _]) ?_
            refine wq_run1 (pc' := 42) (L' := [(0, .ref 92), (3, .int 1), (4, .int (nI (e + 1)))]) (S' := []) (f' := (up1 f 136 (upd g (eQ W e) (nI ((lvN (W 3 (e / 2)) (W 4 (e / 2)) (G (eP W e))) + (W 2 (e / 2))))))) rfl ?_
            have hk := hB (eQ W e)
            have hc := chg_r (N := nI) r_120.1 (by omega) (n := nI (lvN (W 3 (e / 2)) (W 4 (e / 2)) (G (eP W e)) + W 2 (e / 2))) rfl hg
            exact ih (e + 1) _ (st1 W e G) 1 (by omega) (by rw [hGe]; rfl) hc (fun q => absurd q (by decide)) (fun _ => ⟨eQ W e, by have h5 := st1_q (W := W) (e := e) (G := G); have h6 := fd_le (W := W) (G := G0) e (eQ W e); rw [← hGe] at h6; omega⟩) (by omega)
        · have k_120 : ¬ (G (eP W e)) < 268435456 := fun q => c_120 ((nI_ltI (a := (G (eP W e))) (b := 268435456) (by omega) (by omega)).mpr q)
          refine wq_run7 (pc' := 159) (L' := [(0, .ref 92), (3, .int mo), (4, .int (nI e)), (5, .int (nI (e / 2))), (6, .int (nI (eP W e))), (7, .int (nI (eQ W e))), (8, .int 268435456)]) (S' := [.int (nI (eQ W e)), .ref 136, .int 268435456]) (f' := (up1 f 136 g)) rfl ?_
          have hb_ := hB (eQ W e)
          refine wq_ald (j := (eQ W e)) (n := 10) (v := (nI (G (eQ W e)))) rfl rfl rfl rfl (by omega) (Nat.le_of_ble_eq_true rfl) (hg (eQ W e) (by omega)) ?_
          refine wq_if (c := (nI (G (eQ W e))) ≤ 268435456) (p1 := 174) (L1 := [(0, .ref 92), (3, .int mo), (4, .int (nI e)), (5, .int (nI (e / 2))), (6, .int (nI (eP W e))), (7, .int (nI (eQ W e))), (8, .int 268435456)]) (S1 := []) (p2 := 163) (L2 := [(0, .ref 92), (3, .int mo), (4, .int (nI e)), (5, .int (nI (e / 2))), (6, .int (nI (eP W e))), (7, .int (nI (eQ W e))), (8, .int 268435456)]) (S2 := []) rfl (fun c_160 => ?_) (fun c_160 => ?_)
          · have k_160 : (G (eQ W e)) ≤ 268435456 := (nI_leI (a := (G (eQ W e))) (b := 268435456) (by omega) (by omega)).mp c_160
            refine wq_run1 (pc' := 177) (L' := [(0, .ref 92), (3, .int mo), (4, .int ((nI e) + 1)), (5, .int (nI (e / 2))), (6, .int (nI (eP W e))), (7, .int (nI (eQ W e))), (8, .int 268435456)]) (S' := []) (f' := (up1 f 136 g)) rfl ?_
            refine wq_L (L' := [(0, .ref 92), (3, .int mo), (4, .int (nI (e + 1))), (5, .int (nI (e / 2))), (6, .int (nI (eP W e))), (7, .int (nI (eQ W e))), (8, .int 268435456)]) (by rw [show nI e + 1 = nI (e + 1) from nI_add _ _]) ?_
            refine wq_run1 (pc' := 42) (L' := [(0, .ref 92), (3, .int mo), (4, .int (nI (e + 1)))]) (S' := []) (f' := (up1 f 136 g)) rfl ?_
            have hk := hB (eQ W e)
            have hr : rlN W e (G (eP W e)) = 268435456 := if_pos (Nat.le_of_not_lt k_120)
            exact ih (e + 1) g (st1 W e G) mo (by omega) (by rw [hGe]; rfl) (keep_r (N := nI) (by omega) hg) (fun q => (st1_id (by omega)).trans (hs q)) (fun q => by rw [st1_id (by omega)]; exact hs2 q) (by omega)
          · have k_160 : ¬ (G (eQ W e)) ≤ 268435456 := fun q => c_160 ((nI_leI (a := (G (eQ W e))) (b := 268435456) (by omega) (by omega)).mpr q)
            refine wq_run4 (pc' := 171) (L' := [(0, .ref 92), (3, .int mo), (4, .int (nI e)), (5, .int (nI (e / 2))), (6, .int (nI (eP W e))), (7, .int (nI (eQ W e))), (8, .int 268435456)]) (S' := [.int 268435456, .int (nI (eQ W e)), .ref 136]) (f' := (up1 f 136 g)) rfl ?_
            refine wq_ist (j := (eQ W e)) (n := 10) rfl rfl rfl rfl (by omega) (Nat.le_of_ble_eq_true rfl) ?_
            refine wq_h (f' := (up1 f 136 (upd g (eQ W e) 268435456))) ((up2_up1_eq f 136 g (eQ W e) 268435456).trans (congrArg (fun z => up1 f 136 z) (rfl))) ?_
            refine wq_run3 (pc' := 177) (L' := [(0, .ref 92), (3, .int 1), (4, .int ((nI e) + 1)), (5, .int (nI (e / 2))), (6, .int (nI (eP W e))), (7, .int (nI (eQ W e))), (8, .int 268435456)]) (S' := []) (f' := (up1 f 136 (upd g (eQ W e) 268435456))) rfl ?_
            refine wq_L (L' := [(0, .ref 92), (3, .int 1), (4, .int (nI (e + 1))), (5, .int (nI (e / 2))), (6, .int (nI (eP W e))), (7, .int (nI (eQ W e))), (8, .int 268435456)]) (by rw [show nI e + 1 = nI (e + 1) from nI_add _ _]) ?_
            refine wq_run1 (pc' := 42) (L' := [(0, .ref 92), (3, .int 1), (4, .int (nI (e + 1)))]) (S' := []) (f' := (up1 f 136 (upd g (eQ W e) 268435456))) rfl ?_
            have hk := hB (eQ W e)
            have hr : rlN W e (G (eP W e)) = 268435456 := if_pos (Nat.le_of_not_lt k_120)
            exact absurd k_160 (by omega)
      · have k_63 : ¬ (e % 2) = 0 := fun q => c_63 ((nI_eq (a := (e % 2)) (b := 0) (by omega) (by omega)).mpr q)
        refine wq_run3 (pc' := 82) (L' := [(0, .ref 92), (3, .int mo), (4, .int (nI e)), (5, .int (nI (e / 2)))]) (S' := [.int (nI (e / 2)), .ref 94]) (f' := (up1 f 136 g)) rfl ?_
        refine wq_ald (j := (e / 2)) (n := 16) (v := (nI (eP W e))) rfl rfl rfl rfl (by omega) (Nat.le_of_ble_eq_true rfl) ((hM.2.2.1 (e / 2) (by omega)).2.1.trans (congrArg nI (show W 1 (e / 2) = W (e % 2) (e / 2) by rw [show e % 2 = 1 by omega]))) ?_
        refine wq_run3 (pc' := 88) (L' := [(0, .ref 92), (3, .int mo), (4, .int (nI e)), (5, .int (nI (e / 2))), (6, .int (nI (eP W e)))]) (S' := [.int 2, .int (nI e)]) (f' := (up1 f 136 g)) rfl ?_
        refine wq_rem rfl (by decide) ?_
        refine wq_v (y := (nI (e % 2))) (pk_rem (a := e) (d := 2) (by omega) (by omega) (by omega)) ?_
        refine wq_if (c := (nI (e % 2)) = 0) (p1 := 92) (L1 := [(0, .ref 92), (3, .int mo), (4, .int (nI e)), (5, .int (nI (e / 2))), (6, .int (nI (eP W e)))]) (S1 := []) (p2 := 102) (L2 := [(0, .ref 92), (3, .int mo), (4, .int (nI e)), (5, .int (nI (e / 2))), (6, .int (nI (eP W e)))]) (S2 := []) rfl (fun q => absurd q (fun q => absurd ((nI_eq (a := (e % 2)) (b := 0) (by omega) (by omega)).mp q) (by omega))) (fun _ => ?_)
        refine wq_run3 (pc' := 108) (L' := [(0, .ref 92), (3, .int mo), (4, .int (nI e)), (5, .int (nI (e / 2))), (6, .int (nI (eP W e)))]) (S' := [.int (nI (e / 2)), .ref 93]) (f' := (up1 f 136 g)) rfl ?_
        refine wq_ald (j := (e / 2)) (n := 16) (v := (nI (eQ W e))) rfl rfl rfl rfl (by omega) (Nat.le_of_ble_eq_true rfl) ((hM.2.2.1 (e / 2) (by omega)).1.trans (congrArg nI (show W 0 (e / 2) = W (1 - e % 2) (e / 2) by rw [show e % 2 = 1 by omega]))) ?_
        refine wq_run4 (pc' := 117) (L' := [(0, .ref 92), (3, .int mo), (4, .int (nI e)), (5, .int (nI (e / 2))), (6, .int (nI (eP W e))), (7, .int (nI (eQ W e)))]) (S' := [.int (nI (eP W e)), .ref 136]) (f' := (up1 f 136 g)) rfl ?_
        have hb_ := hB (eP W e)
        refine wq_ald (j := (eP W e)) (n := 10) (v := (nI (G (eP W e)))) rfl rfl rfl rfl (by omega) (Nat.le_of_ble_eq_true rfl) (hg (eP W e) (by omega)) ?_
        refine wq_run1 (pc' := 120) (L' := [(0, .ref 92), (3, .int mo), (4, .int (nI e)), (5, .int (nI (e / 2))), (6, .int (nI (eP W e))), (7, .int (nI (eQ W e)))]) (S' := [.int 268435456, .int (nI (G (eP W e)))]) (f' := (up1 f 136 g)) rfl ?_
        refine wq_if (c := (nI (G (eP W e))) < 268435456) (p1 := 128) (L1 := [(0, .ref 92), (3, .int mo), (4, .int (nI e)), (5, .int (nI (e / 2))), (6, .int (nI (eP W e))), (7, .int (nI (eQ W e)))]) (S1 := []) (p2 := 123) (L2 := [(0, .ref 92), (3, .int mo), (4, .int (nI e)), (5, .int (nI (e / 2))), (6, .int (nI (eP W e))), (7, .int (nI (eQ W e)))]) (S2 := []) rfl (fun c_120 => ?_) (fun c_120 => ?_)
        · have k_120 : (G (eP W e)) < 268435456 := (nI_ltI (a := (G (eP W e))) (b := 268435456) (by omega) (by omega)).mp c_120
          have r_120 := rl_val hM.2.2.2 (e := e) (show e < 2 * w by omega) (x := G (eP W e)) (by have := hB (eP W e); omega)
          refine wq_run5 (pc' := 137) (L' := [(0, .ref 92), (3, .int mo), (4, .int (nI e)), (5, .int (nI (e / 2))), (6, .int (nI (eP W e))), (7, .int (nI (eQ W e)))]) (S' := [.int (nI (eP W e)), .ref 136, .int (nI (e / 2)), .ref 92]) (f' := (up1 f 136 g)) rfl ?_
          have hb_ := hB (eP W e)
          refine wq_ald (j := (eP W e)) (n := 10) (v := (nI (G (eP W e)))) rfl rfl rfl rfl (by omega) (Nat.le_of_ble_eq_true rfl) (hg (eP W e) (by omega)) ?_
          refine wq_callI (r := (nI (lvN (W 3 (e / 2)) (W 4 (e / 2)) (G (eP W e))))) (mp_leaves (f := (up1 f 136 g)) (W := W) (w := w) (i := (e / 2)) (x := (G (eP W e))) hM (by omega) (by omega)) (Nat.le_of_ble_eq_true rfl) (pc' := 141) (L' := [(0, .ref 92), (3, .int mo), (4, .int (nI e)), (5, .int (nI (e / 2))), (6, .int (nI (eP W e))), (7, .int (nI (eQ W e)))]) (S' := []) rfl (Nat.le_of_ble_eq_true rfl) rfl rfl (Nat.le_of_ble_eq_true rfl) (Nat.le_of_ble_eq_true rfl) ?_
          refine wq_run3 (pc' := 147) (L' := [(0, .ref 92), (3, .int mo), (4, .int (nI e)), (5, .int (nI (e / 2))), (6, .int (nI (eP W e))), (7, .int (nI (eQ W e)))]) (S' := [.int (nI (e / 2)), .ref 96, .int (nI (lvN (W 3 (e / 2)) (W 4 (e / 2)) (G (eP W e))))]) (f' := (up1 f 136 g)) rfl ?_
          refine wq_ald (j := (e / 2)) (n := 16) (v := (nI (W 2 (e / 2)))) rfl rfl rfl rfl (by omega) (Nat.le_of_ble_eq_true rfl) ((hM.2.2.1 (e / 2) (by omega)).2.2.1) ?_
          refine wq_run1 (pc' := 149) (L' := [(0, .ref 92), (3, .int mo), (4, .int (nI e)), (5, .int (nI (e / 2))), (6, .int (nI (eP W e))), (7, .int (nI (eQ W e)))]) (S' := [.int ((nI (lvN (W 3 (e / 2)) (W 4 (e / 2)) (G (eP W e)))) + (nI (W 2 (e / 2))))]) (f' := (up1 f 136 g)) rfl ?_
          refine wq_v (y := (nI ((lvN (W 3 (e / 2)) (W 4 (e / 2)) (G (eP W e))) + (W 2 (e / 2))))) (nI_add (lvN (W 3 (e / 2)) (W 4 (e / 2)) (G (eP W e))) (W 2 (e / 2))) ?_
          refine wq_run5 (pc' := 159) (L' := [(0, .ref 92), (3, .int mo), (4, .int (nI e)), (5, .int (nI (e / 2))), (6, .int (nI (eP W e))), (7, .int (nI (eQ W e))), (8, .int (nI ((lvN (W 3 (e / 2)) (W 4 (e / 2)) (G (eP W e))) + (W 2 (e / 2)))))]) (S' := [.int (nI (eQ W e)), .ref 136, .int (nI ((lvN (W 3 (e / 2)) (W 4 (e / 2)) (G (eP W e))) + (W 2 (e / 2))))]) (f' := (up1 f 136 g)) rfl ?_
          have hb_ := hB (eQ W e)
          refine wq_ald (j := (eQ W e)) (n := 10) (v := (nI (G (eQ W e)))) rfl rfl rfl rfl (by omega) (Nat.le_of_ble_eq_true rfl) (hg (eQ W e) (by omega)) ?_
          refine wq_if (c := (nI (G (eQ W e))) ≤ (nI ((lvN (W 3 (e / 2)) (W 4 (e / 2)) (G (eP W e))) + (W 2 (e / 2))))) (p1 := 174) (L1 := [(0, .ref 92), (3, .int mo), (4, .int (nI e)), (5, .int (nI (e / 2))), (6, .int (nI (eP W e))), (7, .int (nI (eQ W e))), (8, .int (nI ((lvN (W 3 (e / 2)) (W 4 (e / 2)) (G (eP W e))) + (W 2 (e / 2)))))]) (S1 := []) (p2 := 163) (L2 := [(0, .ref 92), (3, .int mo), (4, .int (nI e)), (5, .int (nI (e / 2))), (6, .int (nI (eP W e))), (7, .int (nI (eQ W e))), (8, .int (nI ((lvN (W 3 (e / 2)) (W 4 (e / 2)) (G (eP W e))) + (W 2 (e / 2)))))]) (S2 := []) rfl (fun c_160 => ?_) (fun c_160 => ?_)
          · have k_160 : (G (eQ W e)) ≤ ((lvN (W 3 (e / 2)) (W 4 (e / 2)) (G (eP W e))) + (W 2 (e / 2))) := (nI_leI (a := (G (eQ W e))) (b := ((lvN (W 3 (e / 2)) (W 4 (e / 2)) (G (eP W e))) + (W 2 (e / 2)))) (by omega) (by omega)).mp c_160
            refine wq_run1 (pc' := 177) (L' := [(0, .ref 92), (3, .int mo), (4, .int ((nI e) + 1)), (5, .int (nI (e / 2))), (6, .int (nI (eP W e))), (7, .int (nI (eQ W e))), (8, .int (nI ((lvN (W 3 (e / 2)) (W 4 (e / 2)) (G (eP W e))) + (W 2 (e / 2)))))]) (S' := []) (f' := (up1 f 136 g)) rfl ?_
            refine wq_L (L' := [(0, .ref 92), (3, .int mo), (4, .int (nI (e + 1))), (5, .int (nI (e / 2))), (6, .int (nI (eP W e))), (7, .int (nI (eQ W e))), (8, .int (nI ((lvN (W 3 (e / 2)) (W 4 (e / 2)) (G (eP W e))) + (W 2 (e / 2)))))]) (by rw [show nI e + 1 = nI (e + 1) from nI_add _ _]) ?_
            refine wq_run1 (pc' := 42) (L' := [(0, .ref 92), (3, .int mo), (4, .int (nI (e + 1)))]) (S' := []) (f' := (up1 f 136 g)) rfl ?_
            have hk := hB (eQ W e)
            exact ih (e + 1) g (st1 W e G) mo (by omega) (by rw [hGe]; rfl) (keep_r (N := nI) (by omega) hg) (fun q => (st1_id (by omega)).trans (hs q)) (fun q => by rw [st1_id (by omega)]; exact hs2 q) (by omega)
          · have k_160 : ¬ (G (eQ W e)) ≤ ((lvN (W 3 (e / 2)) (W 4 (e / 2)) (G (eP W e))) + (W 2 (e / 2))) := fun q => c_160 ((nI_leI (a := (G (eQ W e))) (b := ((lvN (W 3 (e / 2)) (W 4 (e / 2)) (G (eP W e))) + (W 2 (e / 2)))) (by omega) (by omega)).mpr q)
            refine wq_run4 (pc' := 171) (L' := [(0, .ref 92), (3, .int mo), (4, .int (nI e)), (5, .int (nI (e / 2))), (6, .int (nI (eP W e))), (7, .int (nI (eQ W e))), (8, .int (nI ((lvN (W 3 (e / 2)) (W 4 (e / 2)) (G (eP W e))) + (W 2 (e / 2)))))]) (S' := [.int (nI ((lvN (W 3 (e / 2)) (W 4 (e / 2)) (G (eP W e))) + (W 2 (e / 2)))), .int (nI (eQ W e)), .ref 136]) (f' := (up1 f 136 g)) rfl ?_
            refine wq_ist (j := (eQ W e)) (n := 10) rfl rfl rfl rfl (by omega) (Nat.le_of_ble_eq_true rfl) ?_
            refine wq_h (f' := (up1 f 136 (upd g (eQ W e) (nI ((lvN (W 3 (e / 2)) (W 4 (e / 2)) (G (eP W e))) + (W 2 (e / 2))))))) ((up2_up1_eq f 136 g (eQ W e) (nI ((lvN (W 3 (e / 2)) (W 4 (e / 2)) (G (eP W e))) + (W 2 (e / 2))))).trans (congrArg (fun z => up1 f 136 z) (rfl))) ?_
            refine wq_run3 (pc' := 177) (L' := [(0, .ref 92), (3, .int 1), (4, .int ((nI e) + 1)), (5, .int (nI (e / 2))), (6, .int (nI (eP W e))), (7, .int (nI (eQ W e))), (8, .int (nI ((lvN (W 3 (e / 2)) (W 4 (e / 2)) (G (eP W e))) + (W 2 (e / 2)))))]) (S' := []) (f' := (up1 f 136 (upd g (eQ W e) (nI ((lvN (W 3 (e / 2)) (W 4 (e / 2)) (G (eP W e))) + (W 2 (e / 2))))))) rfl ?_
            refine wq_L (L' := [(0, .ref 92), (3, .int 1), (4, .int (nI (e + 1))), (5, .int (nI (e / 2))), (6, .int (nI (eP W e))), (7, .int (nI (eQ W e))), (8, .int (nI ((lvN (W 3 (e / 2)) (W 4 (e / 2)) (G (eP W e))) + (W 2 (e / 2)))))]) (by rw [show nI e + 1 = nI (e + 1) from nI_add _ _]) ?_
            refine wq_run1 (pc' := 42) (L' := [(0, .ref 92), (3, .int 1), (4, .int (nI (e + 1)))]) (S' := []) (f' := (up1 f 136 (upd g (eQ W e) (nI ((lvN (W 3 (e / 2)) (W 4 (e / 2)) (G (eP W e))) + (W 2 (e / 2))))))) rfl ?_
            have hk := hB (eQ W e)
            have hc := chg_r (N := nI) r_120.1 (by omega) (n := nI (lvN (W 3 (e / 2)) (W 4 (e / 2)) (G (eP W e)) + W 2 (e / 2))) rfl hg
            exact ih (e + 1) _ (st1 W e G) 1 (by omega) (by rw [hGe]; rfl) hc (fun q => absurd q (by decide)) (fun _ => ⟨eQ W e, by have h5 := st1_q (W := W) (e := e) (G := G); have h6 := fd_le (W := W) (G := G0) e (eQ W e); rw [← hGe] at h6; omega⟩) (by omega)
        · have k_120 : ¬ (G (eP W e)) < 268435456 := fun q => c_120 ((nI_ltI (a := (G (eP W e))) (b := 268435456) (by omega) (by omega)).mpr q)
          refine wq_run7 (pc' := 159) (L' := [(0, .ref 92), (3, .int mo), (4, .int (nI e)), (5, .int (nI (e / 2))), (6, .int (nI (eP W e))), (7, .int (nI (eQ W e))), (8, .int 268435456)]) (S' := [.int (nI (eQ W e)), .ref 136, .int 268435456]) (f' := (up1 f 136 g)) rfl ?_
          have hb_ := hB (eQ W e)
          refine wq_ald (j := (eQ W e)) (n := 10) (v := (nI (G (eQ W e)))) rfl rfl rfl rfl (by omega) (Nat.le_of_ble_eq_true rfl) (hg (eQ W e) (by omega)) ?_
          refine wq_if (c := (nI (G (eQ W e))) ≤ 268435456) (p1 := 174) (L1 := [(0, .ref 92), (3, .int mo), (4, .int (nI e)), (5, .int (nI (e / 2))), (6, .int (nI (eP W e))), (7, .int (nI (eQ W e))), (8, .int 268435456)]) (S1 := []) (p2 := 163) (L2 := [(0, .ref 92), (3, .int mo), (4, .int (nI e)), (5, .int (nI (e / 2))), (6, .int (nI (eP W e))), (7, .int (nI (eQ W e))), (8, .int 268435456)]) (S2 := []) rfl (fun c_160 => ?_) (fun c_160 => ?_)
          · have k_160 : (G (eQ W e)) ≤ 268435456 := (nI_leI (a := (G (eQ W e))) (b := 268435456) (by omega) (by omega)).mp c_160
            refine wq_run1 (pc' := 177) (L' := [(0, .ref 92), (3, .int mo), (4, .int ((nI e) + 1)), (5, .int (nI (e / 2))), (6, .int (nI (eP W e))), (7, .int (nI (eQ W e))), (8, .int 268435456)]) (S' := []) (f' := (up1 f 136 g)) rfl ?_
            refine wq_L (L' := [(0, .ref 92), (3, .int mo), (4, .int (nI (e + 1))), (5, .int (nI (e / 2))), (6, .int (nI (eP W e))), (7, .int (nI (eQ W e))), (8, .int 268435456)]) (by rw [show nI e + 1 = nI (e + 1) from nI_add _ _]) ?_
            refine wq_run1 (pc' := 42) (L' := [(0, .ref 92), (3, .int mo), (4, .int (nI (e + 1)))]) (S' := []) (f' := (up1 f 136 g)) rfl ?_
            have hk := hB (eQ W e)
            have hr : rlN W e (G (eP W e)) = 268435456 := if_pos (Nat.le_of_not_lt k_120)
            exact ih (e + 1) g (st1 W e G) mo (by omega) (by rw [hGe]; rfl) (keep_r (N := nI) (by omega) hg) (fun q => (st1_id (by omega)).trans (hs q)) (fun q => by rw [st1_id (by omega)]; exact hs2 q) (by omega)
          · have k_160 : ¬ (G (eQ W e)) ≤ 268435456 := fun q => c_160 ((nI_leI (a := (G (eQ W e))) (b := 268435456) (by omega) (by omega)).mpr q)
            refine wq_run4 (pc' := 171) (L' := [(0, .ref 92), (3, .int mo), (4, .int (nI e)), (5, .int (nI (e / 2))), (6, .int (nI (eP W e))), (7, .int (nI (eQ W e))), (8, .int 268435456)]) (S' := [.int 268435456, .int (nI (eQ W e)), .ref 136]) (f' := (up1 f 136 g)) rfl ?_
            refine wq_ist (j := (eQ W e)) (n := 10) rfl rfl rfl rfl (by omega) (Nat.le_of_ble_eq_true rfl) ?_
            refine wq_h (f' := (up1 f 136 (upd g (eQ W e) 268435456))) ((up2_up1_eq f 136 g (eQ W e) 268435456).trans (congrArg (fun z => up1 f 136 z) (rfl))) ?_
            refine wq_run3 (pc' := 177) (L' := [(0, .ref 92), (3, .int 1), (4, .int ((nI e) + 1)), (5, .int (nI (e / 2))), (6, .int (nI (eP W e))), (7, .int (nI (eQ W e))), (8, .int 268435456)]) (S' := []) (f' := (up1 f 136 (upd g (eQ W e) 268435456))) rfl ?_
            refine wq_L (L' := [(0, .ref 92), (3, .int 1), (4, .int (nI (e + 1))), (5, .int (nI (e / 2))), (6, .int (nI (eP W e))), (7, .int (nI (eQ W e))), (8, .int 268435456)]) (by rw [show nI e + 1 = nI (e + 1) from nI_add _ _]) ?_
            refine wq_run1 (pc' := 42) (L' := [(0, .ref 92), (3, .int 1), (4, .int (nI (e + 1)))]) (S' := []) (f' := (up1 f 136 (upd g (eQ W e) 268435456))) rfl ?_
            have hk := hB (eQ W e)
            have hr : rlN W e (G (eP W e)) = 268435456 := if_pos (Nat.le_of_not_lt k_120)
            exact absurd k_160 (by omega)
theorem mlp_dueOut {f : HI} {W : Nat → Nat → Nat} {w a h : Nat} (hM : LaM f W w) (ha : a < 10) (hh : h ≤ 60000) : ∀ (m9 : Nat) (k : Nat) (g : Nat → Int32) (mo : Int32), (k ≤ 11) → (∀ t, t < 10 → g t = nI ((itN W (2 * w) k (s0N a h)) t)) → (mo = 0 → fdN W (2 * w) (itN W (2 * w) k (s0N a h)) = (itN W (2 * w) k (s0N a h))) → (¬ mo = 0 → k ≤ 10) → 12 - k < m9 → wq 2 138 (fun v f' => ∃ g, v = none ∧ f' = up1 f 136 g ∧ ∀ t, t < 10 → g t = nI (arN W w a h t)) 33 [(0, .ref 92), (3, .int mo)] [] (up1 f 136 g) := by
  intro m9
  induction m9 with
  | zero => intro k g mo hk hg hs hs2 hn; exact absurd hn (Nat.not_lt_zero _)
  | succ m9 ih =>
    intro k g mo hk hg hs hs2 hn
    refine wq_run1 (pc' := 34) (L' := [(0, .ref 92), (3, .int mo)]) (S' := [.int mo]) (f' := (up1 f 136 g)) rfl ?_
    refine wq_if (c := mo = 0) (p1 := 183) (L1 := [(0, .ref 92), (3, .int mo)]) (S1 := []) (p2 := 37) (L2 := [(0, .ref 92), (3, .int mo)]) (S2 := []) rfl (fun c_34 => ?_) (fun c_34 => ?_)
    · have e1 := it_10 (by omega) hM.2.2.2 ha (by omega) (hs c_34)
      rw [e1] at hg
      exact wq_ret rfl ⟨g, rfl, rfl, hg⟩
    · have hk10 := hs2 c_34
      refine wq_run4 (pc' := 42) (L' := [(0, .ref 92), (3, .int 0), (4, .int 0)]) (S' := []) (f' := (up1 f 136 g)) rfl ?_
      exact mlp_dueIn hM ha hh (k := k) (G0 := (itN W (2 * w) k (s0N a h))) (c0 := h + 2048 * k) (bd_i hM.2.2.2 hM.2.1 bd_0 k (by omega)) (by omega) (fun g mo h1 h2 h3 => ih (k + 1) g mo (by omega) h1 (fun q => congrArg (fdN W (2 * w)) (h2 q)) (fun q => by
        rcases Nat.lt_or_ge k 9 with c | c
        · omega
        · exact absurd (it_same c hM.2.2.2 ha (by omega)) (h3 q)) (by omega)) (2 * w - 0 + 1) 0 g (itN W (2 * w) k (s0N a h)) 0 (Nat.zero_le _) rfl hg (fun _ => rfl) (fun q => absurd rfl q) (Nat.lt_succ_self _)
theorem mlp_dueInit {f : HI} {W : Nat → Nat → Nat} {w a h : Nat} (hM : LaM f W w) (ha : a < 10) (hh : h ≤ 60000) : ∀ (m9 : Nat) (j : Nat) (g : Nat → Int32), (j ≤ 10) → (∀ t, t < j → g t = nI (s0N a h t)) → 10 - j < m9 → wq 2 138 (fun v f' => ∃ g, v = none ∧ f' = up1 f 136 g ∧ ∀ t, t < 10 → g t = nI (arN W w a h t)) 2 [(0, .ref 92), (1, .int (nI a)), (2, .int (nI h)), (3, .int (nI j))] [] (up1 f 136 g) := by
  intro m9
  induction m9 with
  | zero => intro j g hj hg hn; exact absurd hn (Nat.not_lt_zero _)
  | succ m9 ih =>
    intro j g hj hg hn
    refine wq_run2 (pc' := 5) (L' := [(0, .ref 92), (1, .int (nI a)), (2, .int (nI h)), (3, .int (nI j))]) (S' := [.int 10, .int (nI j)]) (f' := (up1 f 136 g)) rfl ?_
    refine wq_if (c := 10 ≤ (nI j)) (p1 := 31) (L1 := [(0, .ref 92), (1, .int (nI a)), (2, .int (nI h)), (3, .int (nI j))]) (S1 := []) (p2 := 8) (L2 := [(0, .ref 92), (1, .int (nI a)), (2, .int (nI h)), (3, .int (nI j))]) (S2 := []) rfl (fun c_5 => ?_) (fun c_5 => ?_)
    · have k_5 : 10 ≤ j := (nI_leI (a := 10) (b := j) (by omega) (by omega)).mp c_5
      refine wq_run2 (pc' := 33) (L' := [(0, .ref 92), (3, .int 1)]) (S' := []) (f' := (up1 f 136 g)) rfl ?_
      exact mlp_dueOut hM ha hh (12 - 0 + 1) 0 g 1 (Nat.zero_le _) (fun t ht => hg t (by omega)) (fun q => absurd q (by decide)) (fun _ => Nat.zero_le _) (Nat.lt_succ_self _)
    · have k_5 : ¬ 10 ≤ j := fun q => c_5 ((nI_leI (a := 10) (b := j) (by omega) (by omega)).mpr q)
      refine wq_run5 (pc' := 15) (L' := [(0, .ref 92), (1, .int (nI a)), (2, .int (nI h)), (3, .int (nI j))]) (S' := [.int (nI a), .int (nI j), .int (nI j), .ref 136]) (f' := (up1 f 136 g)) rfl ?_
      refine wq_if (c := (nI j) = (nI a)) (p1 := 18) (L1 := [(0, .ref 92), (1, .int (nI a)), (2, .int (nI h)), (3, .int (nI j))]) (S1 := [.int (nI j), .ref 136]) (p2 := 22) (L2 := [(0, .ref 92), (1, .int (nI a)), (2, .int (nI h)), (3, .int (nI j))]) (S2 := [.int (nI j), .ref 136]) rfl (fun c_15 => ?_) (fun c_15 => ?_)
      · have k_15 : j = a := (nI_eq (a := j) (b := a) (by omega) (by omega)).mp c_15
        refine wq_run2 (pc' := 24) (L' := [(0, .ref 92), (1, .int (nI a)), (2, .int (nI h)), (3, .int (nI j))]) (S' := [.int (nI h), .int (nI j), .ref 136]) (f' := (up1 f 136 g)) rfl ?_
        refine wq_ist (j := j) (n := 10) rfl rfl rfl rfl (by omega) (Nat.le_of_ble_eq_true rfl) ?_
        refine wq_h (f' := (up1 f 136 (upd g j (nI h)))) ((up2_up1_eq f 136 g j (nI h)).trans (congrArg (fun z => up1 f 136 z) (rfl))) ?_
        refine wq_run1 (pc' := 28) (L' := [(0, .ref 92), (1, .int (nI a)), (2, .int (nI h)), (3, .int ((nI j) + 1))]) (S' := []) (f' := (up1 f 136 (upd g j (nI h)))) rfl ?_
        refine wq_L (L' := [(0, .ref 92), (1, .int (nI a)), (2, .int (nI h)), (3, .int (nI (j + 1)))]) (by rw [show nI j + 1 = nI (j + 1) from nI_add _ _]) ?_
        refine wq_run1 (pc' := 2) (L' := [(0, .ref 92), (1, .int (nI a)), (2, .int (nI h)), (3, .int (nI (j + 1)))]) (S' := []) (f' := (up1 f 136 (upd g j (nI h)))) rfl ?_
        exact ih (j + 1) _ (by omega) (fun t ht => by
          unfold upd
          by_cases c : t = j
          · rw [if_pos c, c]; exact congrArg nI ((if_pos k_15) : s0N a h j = _).symm
          · rw [if_neg c]; exact hg t (by omega)) (by omega)
      · have k_15 : ¬ j = a := fun q => c_15 ((nI_eq (a := j) (b := a) (by omega) (by omega)).mpr q)
        refine wq_run1 (pc' := 24) (L' := [(0, .ref 92), (1, .int (nI a)), (2, .int (nI h)), (3, .int (nI j))]) (S' := [.int 268435456, .int (nI j), .ref 136]) (f' := (up1 f 136 g)) rfl ?_
        refine wq_ist (j := j) (n := 10) rfl rfl rfl rfl (by omega) (Nat.le_of_ble_eq_true rfl) ?_
        refine wq_h (f' := (up1 f 136 (upd g j 268435456))) ((up2_up1_eq f 136 g j 268435456).trans (congrArg (fun z => up1 f 136 z) (rfl))) ?_
        refine wq_run1 (pc' := 28) (L' := [(0, .ref 92), (1, .int (nI a)), (2, .int (nI h)), (3, .int ((nI j) + 1))]) (S' := []) (f' := (up1 f 136 (upd g j 268435456))) rfl ?_
        refine wq_L (L' := [(0, .ref 92), (1, .int (nI a)), (2, .int (nI h)), (3, .int (nI (j + 1)))]) (by rw [show nI j + 1 = nI (j + 1) from nI_add _ _]) ?_
        refine wq_run1 (pc' := 2) (L' := [(0, .ref 92), (1, .int (nI a)), (2, .int (nI h)), (3, .int (nI (j + 1)))]) (S' := []) (f' := (up1 f 136 (upd g j 268435456))) rfl ?_
        exact ih (j + 1) _ (by omega) (fun t ht => by
          unfold upd
          by_cases c : t = j
          · rw [if_pos c, c]; exact congrArg nI ((if_neg k_15) : s0N a h j = _).symm
          · rw [if_neg c]; exact hg t (by omega)) (by omega)
theorem mp_layDue {f : HI} {W : Nat → Nat → Nat} {w a h : Nat} (hM : LaM f W w) (ha : a < 10) (hh : h ≤ 60000) : Sp 2 138 [.ref 92, .int (nI a), .int (nI h)] f (fun v f' => ∃ g, v = none ∧ f' = up1 f 136 g ∧ ∀ t, t < 10 → g t = nI (arN W w a h t)) := by
  show wq 2 138 (fun v f' => ∃ g, v = none ∧ f' = up1 f 136 g ∧ ∀ t, t < 10 → g t = nI (arN W w a h t)) 0 [(0, .ref 92), (1, .int (nI a)), (2, .int (nI h))] [] f
  refine wq_run2 (pc' := 2) (L' := [(0, .ref 92), (1, .int (nI a)), (2, .int (nI h)), (3, .int 0)]) (S' := []) (f' := f) rfl ?_
  rw [← up1_id f 136]
  have h9 := mlp_dueInit hM ha hh (10 - 0 + 1) 0 (f 136) (Nat.zero_le _) (fun _ q => absurd q (Nat.not_lt_zero _)) (Nat.lt_succ_self _)
  rw [up1_id] at h9 ⊢
  exact h9
theorem mp_dueOf {f : HI} {W : Nat → Nat → Nat} {w a b h : Nat} (hM : LaM f W w) (ha : a < 10) (hb : b < 10) (hh : h ≤ 60000) : Sp 3 139 [.ref 92, .int (nI a), .int (nI b), .int (nI h)] f (fun v f' => ∃ g, v = some (.int (dI (arN W w a h b))) ∧ f' = up1 f 136 g) := by
  show wq 3 139 (fun v f' => ∃ g, v = some (.int (dI (arN W w a h b))) ∧ f' = up1 f 136 g) 0 [(0, .ref 92), (1, .int (nI a)), (2, .int (nI b)), (3, .int (nI h))] [] f
  refine wq_run3 (pc' := 3) (L' := [(0, .ref 92), (1, .int (nI a)), (2, .int (nI b)), (3, .int (nI h))]) (S' := [.int (nI h), .int (nI a), .ref 92]) (f' := f) rfl ?_
  refine wq_call (mp_layDue (f := f) (a := a) (h := h) hM (by omega) (by omega)) (Nat.le_of_ble_eq_true rfl) (pc' := 6) (L' := [(0, .ref 92), (1, .int (nI a)), (2, .int (nI b)), (3, .int (nI h))]) (S' := []) rfl (Nat.le_of_ble_eq_true rfl) rfl rfl (Nat.le_of_ble_eq_true rfl) (Nat.le_of_ble_eq_true rfl) ?_
  rintro v f9 ⟨g, e0, ef, hg⟩
  subst e0
  subst ef
  refine wq_run3 (pc' := 11) (L' := [(0, .ref 92), (1, .int (nI a)), (2, .int (nI b)), (3, .int (nI h))]) (S' := [.int (nI b), .ref 136]) (f' := (up1 f 136 g)) rfl ?_
  have hB := ar_bd (a := a) hM.2.2.2 hM.2.1 hh b
  refine wq_ald (j := b) (n := 10) (v := (nI (arN W w a h b))) rfl rfl rfl rfl (by omega) (Nat.le_of_ble_eq_true rfl) (hg b (by omega)) ?_
  refine wq_run1 (pc' := 14) (L' := [(0, .ref 92), (1, .int (nI a)), (2, .int (nI b)), (3, .int (nI h))]) (S' := [.int 268435456, .int (nI (arN W w a h b))]) (f' := (up1 f 136 g)) rfl ?_
  refine wq_if (c := (nI (arN W w a h b)) < 268435456) (p1 := 21) (L1 := [(0, .ref 92), (1, .int (nI a)), (2, .int (nI b)), (3, .int (nI h))]) (S1 := []) (p2 := 17) (L2 := [(0, .ref 92), (1, .int (nI a)), (2, .int (nI b)), (3, .int (nI h))]) (S2 := []) rfl (fun c_14 => ?_) (fun c_14 => ?_)
  · have k_14 : (arN W w a h b) < 268435456 := (nI_ltI (a := (arN W w a h b)) (b := 268435456) (by omega) (by omega)).mp c_14
    refine wq_run3 (pc' := 26) (L' := [(0, .ref 92), (1, .int (nI a)), (2, .int (nI b)), (3, .int (nI h))]) (S' := [.int (nI b), .ref 136]) (f' := (up1 f 136 g)) rfl ?_
    have hB := ar_bd (a := a) hM.2.2.2 hM.2.1 hh b
    refine wq_ald (j := b) (n := 10) (v := (nI (arN W w a h b))) rfl rfl rfl rfl (by omega) (Nat.le_of_ble_eq_true rfl) (hg b (by omega)) ?_
    exact wq_ret rfl ⟨g, by rw [dI_n k_14], rfl⟩
  · have k_14 : ¬ (arN W w a h b) < 268435456 := fun q => c_14 ((nI_ltI (a := (arN W w a h b)) (b := 268435456) (by omega) (by omega)).mpr q)
    refine wq_run2 (pc' := 27) (L' := [(0, .ref 92), (1, .int (nI a)), (2, .int (nI b)), (3, .int (nI h))]) (S' := [.int (-1)]) (f' := (up1 f 136 g)) rfl ?_
    exact wq_ret rfl ⟨g, by rw [dI_0.mpr (Nat.le_of_not_lt k_14)], rfl⟩
def otI (W : Nat → Nat → Nat) (i a : Nat) : Int32 := if W 0 i = a then nI (W 1 i) else if W 1 i = a then nI (W 0 i) else -1
theorem ot_y {W : Nat → Nat → Nat} {i a : Nat} (h : ¬ otI W i a = -1) : ∃ e, e / 2 = i ∧ eP W e = a ∧ otI W i a = nI (eQ W e) := by
  unfold otI at h ⊢
  by_cases c : W 0 i = a
  · refine ⟨2 * i, by omega, ?_, ?_⟩
    · unfold eP; rw [show 2 * i % 2 = 0 by omega, show 2 * i / 2 = i by omega]; exact c
    · rw [if_pos c]; unfold eQ; rw [show 2 * i % 2 = 0 by omega, show 2 * i / 2 = i by omega]
  · rw [if_neg c] at h ⊢
    by_cases c2 : W 1 i = a
    · refine ⟨2 * i + 1, by omega, ?_, ?_⟩
      · unfold eP; rw [show (2 * i + 1) % 2 = 1 by omega, show (2 * i + 1) / 2 = i by omega]; exact c2
      · rw [if_pos c2]; unfold eQ; rw [show (2 * i + 1) % 2 = 1 by omega, show (2 * i + 1) / 2 = i by omega]
    · rw [if_neg c2] at h; exact absurd rfl h
theorem ot_n {W : Nat → Nat → Nat} {w i a : Nat} (hW : WyN W w) (hi : i < w) (h : otI W i a = -1) (e : Nat) (he : e / 2 = i) : ¬ eP W e = a := by
  intro q
  have hb := hW i hi
  unfold otI at h
  unfold eP at q
  rw [he] at q
  rcases Nat.mod_two_eq_zero_or_one e with c | c
  · rw [c] at q
    rw [if_pos q] at h
    exact nI_nm (by omega) h
  · rw [c] at q
    by_cases c3 : W 0 i = a
    · rw [if_pos c3] at h; exact nI_nm (by omega) h
    · rw [if_neg c3, if_pos q] at h; exact nI_nm (by omega) h
theorem ot_u {W : Nat → Nat → Nat} {w a e e' : Nat} (hW : WyN W w) (he : e < 2 * w) (h : e' / 2 = e / 2) (h1 : eP W e = a) (h2 : eP W e' = a) : e' = e := by
  have hb := hW (e / 2) (by omega)
  unfold eP at h1 h2
  rw [h] at h2
  rcases Nat.mod_two_eq_zero_or_one e with c | c <;> rcases Nat.mod_two_eq_zero_or_one e' with c2 | c2
  · omega
  · rw [c] at h1; rw [c2] at h2; exact absurd (h1.trans h2.symm) hb.2.2.1
  · rw [c] at h1; rw [c2] at h2; exact absurd (h2.trans h1.symm) hb.2.2.1
  · omega
theorem mp_otherEnd {f : HI} {W : Nat → Nat → Nat} {w i a : Nat} (hM : LaM f W w) (hi : i < w) (ha : a < 10) : Sp 1 133 [.ref 92, .int (nI i), .int (nI a)] f (Ret (otI W i a) f) := by
  show wq 1 133 (Ret (otI W i a) f) 0 [(0, .ref 92), (1, .int (nI i)), (2, .int (nI a))] [] f
  have hw16 := hM.2.1
  have hb := hM.2.2.2 i hi
  refine wq_run3 (pc' := 5) (L' := [(0, .ref 92), (1, .int (nI i)), (2, .int (nI a))]) (S' := [.int (nI i), .ref 93]) (f' := f) rfl ?_
  refine wq_ald (j := i) (n := 16) (v := (nI (W 0 i))) rfl rfl rfl rfl (by omega) (Nat.le_of_ble_eq_true rfl) ((hM.2.2.1 i (by omega)).1) ?_
  refine wq_run1 (pc' := 7) (L' := [(0, .ref 92), (1, .int (nI i)), (2, .int (nI a))]) (S' := [.int (nI a), .int (nI (W 0 i))]) (f' := f) rfl ?_
  refine wq_if (c := (nI (W 0 i)) = (nI a)) (p1 := 10) (L1 := [(0, .ref 92), (1, .int (nI i)), (2, .int (nI a))]) (S1 := []) (p2 := 19) (L2 := [(0, .ref 92), (1, .int (nI i)), (2, .int (nI a))]) (S2 := []) rfl (fun c_7 => ?_) (fun c_7 => ?_)
  · have k_7 : (W 0 i) = a := (nI_eq (a := (W 0 i)) (b := a) (by omega) (by omega)).mp c_7
    refine wq_run3 (pc' := 15) (L' := [(0, .ref 92), (1, .int (nI i)), (2, .int (nI a))]) (S' := [.int (nI i), .ref 94]) (f' := f) rfl ?_
    refine wq_ald (j := i) (n := 16) (v := (nI (W 1 i))) rfl rfl rfl rfl (by omega) (Nat.le_of_ble_eq_true rfl) ((hM.2.2.1 i (by omega)).2.1) ?_
    refine wq_run1 (pc' := 39) (L' := [(0, .ref 92), (1, .int (nI i)), (2, .int (nI a))]) (S' := [.int (nI (W 1 i))]) (f' := f) rfl ?_
    exact wq_ret rfl (Ret.of (by unfold otI; rw [if_pos k_7]) rfl)
  · have k_7 : ¬ (W 0 i) = a := fun q => c_7 ((nI_eq (a := (W 0 i)) (b := a) (by omega) (by omega)).mpr q)
    refine wq_run3 (pc' := 24) (L' := [(0, .ref 92), (1, .int (nI i)), (2, .int (nI a))]) (S' := [.int (nI i), .ref 94]) (f' := f) rfl ?_
    refine wq_ald (j := i) (n := 16) (v := (nI (W 1 i))) rfl rfl rfl rfl (by omega) (Nat.le_of_ble_eq_true rfl) ((hM.2.2.1 i (by omega)).2.1) ?_
    refine wq_run1 (pc' := 26) (L' := [(0, .ref 92), (1, .int (nI i)), (2, .int (nI a))]) (S' := [.int (nI a), .int (nI (W 1 i))]) (f' := f) rfl ?_
    refine wq_if (c := (nI (W 1 i)) = (nI a)) (p1 := 29) (L1 := [(0, .ref 92), (1, .int (nI i)), (2, .int (nI a))]) (S1 := []) (p2 := 38) (L2 := [(0, .ref 92), (1, .int (nI i)), (2, .int (nI a))]) (S2 := []) rfl (fun c_26 => ?_) (fun c_26 => ?_)
    · have k_26 : (W 1 i) = a := (nI_eq (a := (W 1 i)) (b := a) (by omega) (by omega)).mp c_26
      refine wq_run3 (pc' := 34) (L' := [(0, .ref 92), (1, .int (nI i)), (2, .int (nI a))]) (S' := [.int (nI i), .ref 93]) (f' := f) rfl ?_
      refine wq_ald (j := i) (n := 16) (v := (nI (W 0 i))) rfl rfl rfl rfl (by omega) (Nat.le_of_ble_eq_true rfl) ((hM.2.2.1 i (by omega)).1) ?_
      refine wq_run1 (pc' := 39) (L' := [(0, .ref 92), (1, .int (nI i)), (2, .int (nI a))]) (S' := [.int (nI (W 0 i))]) (f' := f) rfl ?_
      exact wq_ret rfl (Ret.of (by unfold otI; rw [if_neg k_7, if_pos k_26]) rfl)
    · have k_26 : ¬ (W 1 i) = a := fun q => c_26 ((nI_eq (a := (W 1 i)) (b := a) (by omega) (by omega)).mpr q)
      refine wq_run1 (pc' := 39) (L' := [(0, .ref 92), (1, .int (nI i)), (2, .int (nI a))]) (S' := [.int (-1)]) (f' := f) rfl ?_
      exact wq_ret rfl (Ret.of (by unfold otI; rw [if_neg k_7, if_neg k_26]) rfl)
/-- the way by which one leaves -/
def bsM (W : Nat → Nat → Nat) (w a b h : Nat) : Option Nat := (bsE W w a b h).map (fun e => e / 2)
theorem fs_2 {p : Nat → Bool} {i : Nat} (h : fsN p (2 * i) = none) (h1 : ∀ e, e / 2 = i → p e = false) : fsN p (2 * (i + 1)) = none := fs_z (n := 2 * i + 1) (fs_z h (h1 _ (by omega))) (h1 _ (by omega))
theorem mlp_nextOf {f : HI} {W : Nat → Nat → Nat} {w a b h : Nat} (hM : LaM f W w) (ha : a < 10) (hb : b < 10) (hh : h ≤ 30000) (hS : arN W w a h b < 268435456) (hbs : bsE W w a b h = fsN (bpE W w a b h) (2 * w)) : ∀ (m9 : Nat) (i : Nat) (g : Nat → Int32), (i ≤ w) → (fsN (bpE W w a b h) (2 * i) = none) → w - i < m9 → wq 4 141 (fun v f' => ∃ g, v = some (.int (obI (bsM W w a b h))) ∧ f' = up1 f 136 g) 25 [(0, .ref 92), (1, .int (nI a)), (2, .int (nI b)), (3, .int (nI h)), (4, .int (nI (arN W w a h b))), (5, .int (nI i))] [] (up1 f 136 g) := by
  intro m9
  induction m9 with
  | zero => intro i g hi hn0 hn; exact absurd hn (Nat.not_lt_zero _)
  | succ m9 ih =>
    intro i g hi hn0 hn
    have hw16 := hM.2.1
    refine wq_run3 (pc' := 31) (L' := [(0, .ref 92), (1, .int (nI a)), (2, .int (nI b)), (3, .int (nI h)), (4, .int (nI (arN W w a h b))), (5, .int (nI i))]) (S' := [.int (f 92 7), .int (nI i)]) (f' := (up1 f 136 g)) rfl ?_
    refine wq_v (y := (nI w)) (hM.1) ?_
    refine wq_if (c := (nI w) ≤ (nI i)) (p1 := 85) (L1 := [(0, .ref 92), (1, .int (nI a)), (2, .int (nI b)), (3, .int (nI h)), (4, .int (nI (arN W w a h b))), (5, .int (nI i))]) (S1 := []) (p2 := 34) (L2 := [(0, .ref 92), (1, .int (nI a)), (2, .int (nI b)), (3, .int (nI h)), (4, .int (nI (arN W w a h b))), (5, .int (nI i))]) (S2 := []) rfl (fun c_31 => ?_) (fun c_31 => ?_)
    · have k_31 : w ≤ i := (nI_leI (a := w) (b := i) (by omega) (by omega)).mp c_31
      refine wq_run1 (pc' := 86) (L' := [(0, .ref 92), (1, .int (nI a)), (2, .int (nI b)), (3, .int (nI h)), (4, .int (nI (arN W w a h b))), (5, .int (nI i))]) (S' := [.int (-1)]) (f' := (up1 f 136 g)) rfl ?_
      have e1 : i = w := by omega
      rw [e1] at hn0
      exact wq_ret rfl ⟨g, by rw [bsM, hbs, hn0]; rfl, rfl⟩
    · have k_31 : ¬ w ≤ i := fun q => c_31 ((nI_leI (a := w) (b := i) (by omega) (by omega)).mpr q)
      refine wq_run3 (pc' := 38) (L' := [(0, .ref 92), (1, .int (nI a)), (2, .int (nI b)), (3, .int (nI h)), (4, .int (nI (arN W w a h b))), (5, .int (nI i))]) (S' := [.int (nI a), .int (nI i), .ref 92]) (f' := (up1 f 136 g)) rfl ?_
      refine wq_callI (r := (otI W i a)) (mp_otherEnd (f := (up1 f 136 g)) (W := W) (w := w) (i := i) (a := a) hM (by omega) (by omega)) (Nat.le_of_ble_eq_true rfl) (pc' := 41) (L' := [(0, .ref 92), (1, .int (nI a)), (2, .int (nI b)), (3, .int (nI h)), (4, .int (nI (arN W w a h b))), (5, .int (nI i))]) (S' := []) rfl (Nat.le_of_ble_eq_true rfl) rfl rfl (Nat.le_of_ble_eq_true rfl) (Nat.le_of_ble_eq_true rfl) ?_
      refine wq_run3 (pc' := 46) (L' := [(0, .ref 92), (1, .int (nI a)), (2, .int (nI b)), (3, .int (nI h)), (4, .int (nI (arN W w a h b))), (5, .int (nI i)), (6, .int (otI W i a))]) (S' := [.int (-1), .int (otI W i a)]) (f' := (up1 f 136 g)) rfl ?_
      refine wq_if (c := (otI W i a) = (-1)) (p1 := 79) (L1 := [(0, .ref 92), (1, .int (nI a)), (2, .int (nI b)), (3, .int (nI h)), (4, .int (nI (arN W w a h b))), (5, .int (nI i)), (6, .int (otI W i a))]) (S1 := []) (p2 := 49) (L2 := [(0, .ref 92), (1, .int (nI a)), (2, .int (nI b)), (3, .int (nI h)), (4, .int (nI (arN W w a h b))), (5, .int (nI i)), (6, .int (otI W i a))]) (S2 := []) rfl (fun c_46 => ?_) (fun c_46 => ?_)
      · refine wq_run1 (pc' := 82) (L' := [(0, .ref 92), (1, .int (nI a)), (2, .int (nI b)), (3, .int (nI h)), (4, .int (nI (arN W w a h b))), (5, .int ((nI i) + 1)), (6, .int (otI W i a))]) (S' := []) (f' := (up1 f 136 g)) rfl ?_
        refine wq_L (L' := [(0, .ref 92), (1, .int (nI a)), (2, .int (nI b)), (3, .int (nI h)), (4, .int (nI (arN W w a h b))), (5, .int (nI (i + 1))), (6, .int (otI W i a))]) (by rw [show nI i + 1 = nI (i + 1) from nI_add _ _]) ?_
        refine wq_run1 (pc' := 25) (L' := [(0, .ref 92), (1, .int (nI a)), (2, .int (nI b)), (3, .int (nI h)), (4, .int (nI (arN W w a h b))), (5, .int (nI (i + 1)))]) (S' := []) (f' := (up1 f 136 g)) rfl ?_
        exact ih (i + 1) g (by omega) (fs_2 hn0 (fun e he => bp_n (fun q => ot_n hM.2.2.2 (show i < w by omega) c_46 e he q.1))) (by omega)
      · obtain ⟨e, he1, he2, he3⟩ := ot_y c_46
        have hq := wy_Q hM.2.2.2 (e := e) (by omega)
        have r_40 := rl_val hM.2.2.2 (e := e) (show e < 2 * w by omega) (x := h) (by omega)
        rw [he1] at r_40
        refine wq_L (L' := [(0, .ref 92), (1, .int (nI a)), (2, .int (nI b)), (3, .int (nI h)), (4, .int (nI (arN W w a h b))), (5, .int (nI i)), (6, .int (nI (eQ W e)))]) (by rw [he3]) ?_
        refine wq_run6 (pc' := 57) (L' := [(0, .ref 92), (1, .int (nI a)), (2, .int (nI b)), (3, .int (nI h)), (4, .int (nI (arN W w a h b))), (5, .int (nI i)), (6, .int (nI (eQ W e)))]) (S' := [.int (nI h), .int (nI i), .ref 92, .int (nI b), .int (nI (eQ W e)), .ref 92]) (f' := (up1 f 136 g)) rfl ?_
        refine wq_callI (r := (nI (lvN (W 3 i) (W 4 i) h))) (mp_leaves (f := (up1 f 136 g)) (W := W) (w := w) (i := i) (x := h) hM (by omega) (by omega)) (Nat.le_of_ble_eq_true rfl) (pc' := 60) (L' := [(0, .ref 92), (1, .int (nI a)), (2, .int (nI b)), (3, .int (nI h)), (4, .int (nI (arN W w a h b))), (5, .int (nI i)), (6, .int (nI (eQ W e)))]) (S' := [.int (nI b), .int (nI (eQ W e)), .ref 92]) rfl (Nat.le_of_ble_eq_true rfl) rfl rfl (Nat.le_of_ble_eq_true rfl) (Nat.le_of_ble_eq_true rfl) ?_
        refine wq_run3 (pc' := 66) (L' := [(0, .ref 92), (1, .int (nI a)), (2, .int (nI b)), (3, .int (nI h)), (4, .int (nI (arN W w a h b))), (5, .int (nI i)), (6, .int (nI (eQ W e)))]) (S' := [.int (nI i), .ref 96, .int (nI (lvN (W 3 i) (W 4 i) h)), .int (nI b), .int (nI (eQ W e)), .ref 92]) (f' := (up1 f 136 g)) rfl ?_
        refine wq_ald (j := i) (n := 16) (v := (nI (W 2 i))) rfl rfl rfl rfl (by omega) (Nat.le_of_ble_eq_true rfl) ((hM.2.2.1 i (by omega)).2.2.1) ?_
        refine wq_run1 (pc' := 68) (L' := [(0, .ref 92), (1, .int (nI a)), (2, .int (nI b)), (3, .int (nI h)), (4, .int (nI (arN W w a h b))), (5, .int (nI i)), (6, .int (nI (eQ W e)))]) (S' := [.int ((nI (lvN (W 3 i) (W 4 i) h)) + (nI (W 2 i))), .int (nI b), .int (nI (eQ W e)), .ref 92]) (f' := (up1 f 136 g)) rfl ?_
        refine wq_v (y := (nI ((lvN (W 3 i) (W 4 i) h) + (W 2 i)))) (nI_add (lvN (W 3 i) (W 4 i) h) (W 2 i)) ?_
        refine wq_call (mp_dueOf (f := (up1 f 136 g)) (a := (eQ W e)) (b := b) (h := ((lvN (W 3 i) (W 4 i) h) + (W 2 i))) hM (by omega) (by omega) (by omega)) (Nat.le_of_ble_eq_true rfl) (pc' := 71) (L' := [(0, .ref 92), (1, .int (nI a)), (2, .int (nI b)), (3, .int (nI h)), (4, .int (nI (arN W w a h b))), (5, .int (nI i)), (6, .int (nI (eQ W e)))]) (S' := []) rfl (Nat.le_of_ble_eq_true rfl) rfl rfl (Nat.le_of_ble_eq_true rfl) (Nat.le_of_ble_eq_true rfl) ?_
        rintro v f9 ⟨g2, e0, ef⟩
        subst e0
        rw [up1_up1] at ef
        subst ef
        refine wq_run1 (pc' := 73) (L' := [(0, .ref 92), (1, .int (nI a)), (2, .int (nI b)), (3, .int (nI h)), (4, .int (nI (arN W w a h b))), (5, .int (nI i)), (6, .int (nI (eQ W e)))]) (S' := [.int (nI (arN W w a h b)), .int (dI (arN W w (eQ W e) ((lvN (W 3 i) (W 4 i) h) + (W 2 i)) b))]) (f' := (up1 f 136 g2)) rfl ?_
        refine wq_if (c := (dI (arN W w (eQ W e) ((lvN (W 3 i) (W 4 i) h) + (W 2 i)) b)) = (nI (arN W w a h b))) (p1 := 76) (L1 := [(0, .ref 92), (1, .int (nI a)), (2, .int (nI b)), (3, .int (nI h)), (4, .int (nI (arN W w a h b))), (5, .int (nI i)), (6, .int (nI (eQ W e)))]) (S1 := []) (p2 := 79) (L2 := [(0, .ref 92), (1, .int (nI a)), (2, .int (nI b)), (3, .int (nI h)), (4, .int (nI (arN W w a h b))), (5, .int (nI i)), (6, .int (nI (eQ W e)))]) (S2 := []) rfl (fun c_73 => ?_) (fun c_73 => ?_)
        · have k_73 : arN W w (eQ W e) (thN W h e) b = arN W w a h b := by unfold thN; rw [he1]; exact (dI_eq hS).mp c_73
          refine wq_run1 (pc' := 78) (L' := [(0, .ref 92), (1, .int (nI a)), (2, .int (nI b)), (3, .int (nI h)), (4, .int (nI (arN W w a h b))), (5, .int (nI i)), (6, .int (nI (eQ W e)))]) (S' := [.int (nI i)]) (f' := (up1 f 136 g2)) rfl ?_
          have hy := bp_y he2 k_73
          have h5 : fsN (bpE W w a b h) e = none := by
            rcases Nat.lt_or_ge (2 * i) e with c | c
            · have e2 : e = 2 * i + 1 := by omega
              rw [e2]
              exact fs_z hn0 (bp_n (fun q => by have := ot_u hM.2.2.2 (show e < 2 * w by omega) (e' := 2 * i) (by omega) he2 q.1; omega))
            · have e2 : e = 2 * i := by omega
              rw [e2]; exact hn0
          exact wq_ret rfl ⟨g2, by rw [bsM, hbs, fs_at h5 hy (by omega)]; show some (Value.int (nI i)) = some (Value.int (nI (e / 2))); rw [he1], rfl⟩
        · have k_73 : ¬ arN W w (eQ W e) (thN W h e) b = arN W w a h b := fun q => c_73 ((dI_eq hS).mpr (by unfold thN at q; rw [he1] at q; exact q))
          refine wq_run1 (pc' := 82) (L' := [(0, .ref 92), (1, .int (nI a)), (2, .int (nI b)), (3, .int (nI h)), (4, .int (nI (arN W w a h b))), (5, .int ((nI i) + 1)), (6, .int (nI (eQ W e)))]) (S' := []) (f' := (up1 f 136 g2)) rfl ?_
          refine wq_L (L' := [(0, .ref 92), (1, .int (nI a)), (2, .int (nI b)), (3, .int (nI h)), (4, .int (nI (arN W w a h b))), (5, .int (nI (i + 1))), (6, .int (nI (eQ W e)))]) (by rw [show nI i + 1 = nI (i + 1) from nI_add _ _]) ?_
          refine wq_run1 (pc' := 25) (L' := [(0, .ref 92), (1, .int (nI a)), (2, .int (nI b)), (3, .int (nI h)), (4, .int (nI (arN W w a h b))), (5, .int (nI (i + 1)))]) (S' := []) (f' := (up1 f 136 g2)) rfl ?_
          exact ih (i + 1) g2 (by omega) (fs_2 hn0 (fun e' he' => bp_n (fun q => by
            have e2 := ot_u hM.2.2.2 (show e < 2 * w by omega) (e' := e') (by omega) he2 q.1
            rw [e2] at q
            exact k_73 q.2))) (by omega)
theorem mp_nextOf {f : HI} {W : Nat → Nat → Nat} {w a b h : Nat} (hM : LaM f W w) (ha : a < 10) (hb : b < 10) (hh : h ≤ 30000) : Sp 4 141 [.ref 92, .int (nI a), .int (nI b), .int (nI h)] f (fun v f' => ∃ g, v = some (.int (obI (bsM W w a b h))) ∧ f' = up1 f 136 g) := by
  show wq 4 141 (fun v f' => ∃ g, v = some (.int (obI (bsM W w a b h))) ∧ f' = up1 f 136 g) 0 [(0, .ref 92), (1, .int (nI a)), (2, .int (nI b)), (3, .int (nI h))] [] f
  refine wq_run4 (pc' := 4) (L' := [(0, .ref 92), (1, .int (nI a)), (2, .int (nI b)), (3, .int (nI h))]) (S' := [.int (nI h), .int (nI b), .int (nI a), .ref 92]) (f' := f) rfl ?_
  refine wq_call (mp_dueOf (f := f) (a := a) (b := b) (h := h) hM (by omega) (by omega) (by omega)) (Nat.le_of_ble_eq_true rfl) (pc' := 7) (L' := [(0, .ref 92), (1, .int (nI a)), (2, .int (nI b)), (3, .int (nI h))]) (S' := []) rfl (Nat.le_of_ble_eq_true rfl) rfl rfl (Nat.le_of_ble_eq_true rfl) (Nat.le_of_ble_eq_true rfl) ?_
  rintro v f9 ⟨g, e0, ef⟩
  subst e0
  subst ef
  refine wq_run3 (pc' := 11) (L' := [(0, .ref 92), (1, .int (nI a)), (2, .int (nI b)), (3, .int (nI h)), (4, .int (dI (arN W w a h b)))]) (S' := [.int (nI b), .int (nI a)]) (f' := (up1 f 136 g)) rfl ?_
  refine wq_if (c := (nI a) = (nI b)) (p1 := 20) (L1 := [(0, .ref 92), (1, .int (nI a)), (2, .int (nI b)), (3, .int (nI h)), (4, .int (dI (arN W w a h b)))]) (S1 := []) (p2 := 14) (L2 := [(0, .ref 92), (1, .int (nI a)), (2, .int (nI b)), (3, .int (nI h)), (4, .int (dI (arN W w a h b)))]) (S2 := []) rfl (fun c_11 => ?_) (fun c_11 => ?_)
  · have k_11 : a = b := (nI_eq (a := a) (b := b) (by omega) (by omega)).mp c_11
    refine wq_run1 (pc' := 21) (L' := [(0, .ref 92), (1, .int (nI a)), (2, .int (nI b)), (3, .int (nI h)), (4, .int (dI (arN W w a h b)))]) (S' := [.int (-1)]) (f' := (up1 f 136 g)) rfl ?_
    exact wq_ret rfl ⟨g, by rw [bsM, bsE, if_pos (Or.inl k_11)]; rfl, rfl⟩
  · have k_11 : ¬ a = b := fun q => c_11 ((nI_eq (a := a) (b := b) (by omega) (by omega)).mpr q)
    refine wq_run2 (pc' := 17) (L' := [(0, .ref 92), (1, .int (nI a)), (2, .int (nI b)), (3, .int (nI h)), (4, .int (dI (arN W w a h b)))]) (S' := [.int (-1), .int (dI (arN W w a h b))]) (f' := (up1 f 136 g)) rfl ?_
    refine wq_if (c := (dI (arN W w a h b)) = (-1)) (p1 := 20) (L1 := [(0, .ref 92), (1, .int (nI a)), (2, .int (nI b)), (3, .int (nI h)), (4, .int (dI (arN W w a h b)))]) (S1 := []) (p2 := 22) (L2 := [(0, .ref 92), (1, .int (nI a)), (2, .int (nI b)), (3, .int (nI h)), (4, .int (dI (arN W w a h b)))]) (S2 := []) rfl (fun c_17 => ?_) (fun c_17 => ?_)
    · have k_17 := dI_0.mp c_17
      refine wq_run1 (pc' := 21) (L' := [(0, .ref 92), (1, .int (nI a)), (2, .int (nI b)), (3, .int (nI h)), (4, .int (dI (arN W w a h b)))]) (S' := [.int (-1)]) (f' := (up1 f 136 g)) rfl ?_
      exact wq_ret rfl ⟨g, by rw [bsM, bsE, if_pos (Or.inr k_17)]; rfl, rfl⟩
    · have k_17 : arN W w a h b < 268435456 := Nat.lt_of_not_le (fun q => c_17 (dI_0.mpr q))
      refine wq_L (L' := [(0, .ref 92), (1, .int (nI a)), (2, .int (nI b)), (3, .int (nI h)), (4, .int (nI (arN W w a h b)))]) (by rw [dI_n k_17]) ?_
      refine wq_run2 (pc' := 25) (L' := [(0, .ref 92), (1, .int (nI a)), (2, .int (nI b)), (3, .int (nI h)), (4, .int (nI (arN W w a h b))), (5, .int 0)]) (S' := []) (f' := (up1 f 136 g)) rfl ?_
      exact mlp_nextOf hM ha hb hh k_17 (if_neg (by omega)) (w - 0 + 1) 0 g (Nat.zero_le _) rfl (Nat.lt_succ_self _)
