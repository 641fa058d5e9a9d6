/-! the law runs: its loop, its start, the whole -/
def lwT : List Nat := [192, 279, 312, 355, 398, 461, 474, 487, 510, 543, 586, 665, 698, 785, 808, 841, 874, 917, 950, 993, 1016, 1049, 1072, 1095, 1118, 1161, 1194, 1217, 1280, 1313, 1326, 1359, 1382, 1415, 1448, 1521]
theorem ft_33 : fetch 228 33 = oTab 0 35 lwT 1544 := rfl
theorem ft_1551 : fetch 228 1551 = oRetZ := rfl
theorem ft_0 : fetch 228 0 = den (25, (10, 8, 0, 3), 0, []) := rfl
theorem ft_8 : fetch 228 8 = den (25, (11, 84, 0, 11), 0, []) := rfl
theorem fs25_n {x : Nat × Nat × Nat × Nat} {X : CX} {st : IS} {F : FH} (h : ¬ (X.2.1 < F.1 + 1 ∨ X.2.2 < F.2.1 + x.2.1 ∨ 999999 < F.1)) : fs25 x X st F = some ((x.2.2.2, st.2.1, .ref F.1 :: st.2.2), fNw F x.2.1 (0, x.1)) := if_neg h
theorem mk_n (F : FH) (h : F.1 = 92) : kN (aH (fNw F 84 (0, 11))) + mcT 128 [.ref 92] = 144 := by
  show F.1 + 1 + mcT 128 [.ref 92] = 144
  rw [h]
  decide +kernel
theorem mk_s (F : FH) (h : F.2.1 = 24139) : kS (aH (fNw F 84 (0, 11))) + msT 128 [.ref 92] = 74715 := by
  show F.2.1 + 84 + msT 128 [.ref 92] = 74715
  rw [h]
  decide +kernel
theorem ix_ok {L i : Nat} (h : i + 8 ≤ L) (hL : L ≤ 4096) : ∀ k : Nat, k ≤ 7 → ¬ (nI i + nI k < 0 ∨ L ≤ (nI i + nI k).toNatClampNeg) := by
  intro k hk
  rw [nI_add, nI_clamp (by omega)]
  intro q
  rcases q with q | q
  · exact absurd (nI_pos' (by omega)) (Int32.not_le.mpr q)
  · omega
theorem law_at {L d : Nat} {xs : Nat → Int32} (hd : 40 ≤ d) (hL : L ≤ 4096) : ∀ (m9 i : Nat) (f : HI), i ≤ L → CpZ f → L - i < m9 → wl L xs (d + 1) 18 (LV (nI i)) [] f := by
  intro m9
  induction m9 with
  | zero => intro i f _ _ h; exact absurd h (Nat.not_lt_zero _)
  | succ m9 ih =>
    intro i f hi cp hm
    refine wl_run5 (pc' := 24) (Lo' := LV (nI i)) (S' := [.int (nI L - 8), .int (nI i)]) rfl ?_
    refine wl_br (S1 := []) (S2 := []) (p1 := 1550) (p2 := 27) (c := nI L - 8 < nI i) rfl (fun _ => ?_) (fun c => ?_)
    · refine wl_run1 (pc' := 1551) (Lo' := LV (nI i)) (S' := [.int 1]) rfl ?_
      exact wp_ret (st := (1551, LV (nI i), [.int 1])) (v := some (.int 1)) (by
        show fetch 228 1551 (XL L xs) (1551, LV (nI i), [.int 1]) (K0, f) = _
        rw [ft_1551]
        unfold oRetZ
        dsimp only
        rw [if_pos (Or.inr rfl)]) rfl rfl rfl
    · have h8 : i + 8 ≤ L := by
        have c2 := Int32.le_iff_toInt_le.mp (Int32.not_lt.mp c)
        rw [nI_toInt (by omega)] at c2
        by_cases h : 8 ≤ L
        · have e : nI L - 8 = nI (L - 8) := pk_sub (a := L) (b := 8) h
          rw [e, nI_toInt (by omega)] at c2
          omega
        · have hL8 : L < 8 := by omega
          have e : ∀ l, l < 8 → (nI l - 8).toInt < 0 := by decide +kernel
          have := e L hL8
          omega
      have hA := ix_ok (L := L) (i := i) h8 hL
      have K : ∀ f1 : HI, CpZ f1 → wl L xs (d + 1) 1544 (LV (nI i)) [] f1 := by
        intro f1 cp1
        refine wl_run2 (pc' := 18) (Lo' := LV (nI i + 8)) (S' := []) rfl ?_
        rw [show nI i + 8 = nI (i + 8) from nI_add i 8]
        exact ih (i + 8) f1 h8 cp1 (by omega)
      refine wl_run2 (pc' := 29) (Lo' := LV (nI i)) (S' := [.int (nI i), .ref 1000000]) rfl ?_
      refine wl_ld (pc' := 30) (fun q => ?_) rfl ?_
      · have := hA 0 (by decide)
        rw [show nI i + nI 0 = nI i from nI_add i 0] at this
        exact this q
      · refine wl_run2 (pc' := 33) (Lo' := LV (nI i)) (S' := [.int (xs (nI i).toNatClampNeg &&& 63)]) rfl ?_
        generalize xs (nI i).toNatClampNeg &&& 63 = y
        refine wp_if (st := (33, LV (nI i), [.int y])) (c := y.toInt < 0 ∨ 35 < y.toInt) (st1 := (1544, LV (nI i), [])) (st2 := (lwT.getD (y.toInt - 0).toNat 0, LV (nI i), [])) (by
          show fetch 228 33 (XL L xs) (33, LV (nI i), [.int y]) (K0, f) = _
          rw [ft_33]
          rfl) (fun _ => K f cp) (fun q => ?_)
        have hj : (y.toInt - 0).toNat ≤ 35 := by omega
        generalize (y.toInt - 0).toNat = j at hj
        match j, hj with
        | 0, _ => exact law_0 hd cp hA K
        | 1, _ => exact law_1 hd cp hA K
        | 2, _ => exact law_2 hd cp hA K
        | 3, _ => exact law_3 hd cp hA K
        | 4, _ => exact law_4 hd cp hA K
        | 5, _ => exact law_5 hd cp hA K
        | 6, _ => exact law_6 hd cp hA K
        | 7, _ => exact law_7 hd cp hA K
        | 8, _ => exact law_8 hd cp hA K
        | 9, _ => exact law_9 hd cp hA K
        | 10, _ => exact law_10 hd cp hA K
        | 11, _ => exact law_11 hd cp hA K
        | 12, _ => exact law_12 hd cp hA K
        | 13, _ => exact law_13 hd cp hA K
        | 14, _ => exact law_14 hd cp hA K
        | 15, _ => exact law_15 hd cp hA K
        | 16, _ => exact law_16 hd cp hA K
        | 17, _ => exact law_17 hd cp hA K
        | 18, _ => exact law_18 hd cp hA K
        | 19, _ => exact law_19 hd cp hA K
        | 20, _ => exact law_20 hd cp hA K
        | 21, _ => exact law_21 hd cp hA K
        | 22, _ => exact law_22 hd cp hA K
        | 23, _ => exact law_23 hd cp hA K
        | 24, _ => exact law_24 hd cp hA K
        | 25, _ => exact law_25 hd cp hA K
        | 26, _ => exact law_26 hd cp hA K
        | 27, _ => exact law_27 hd cp hA K
        | 28, _ => exact law_28 hd cp hA K
        | 29, _ => exact law_29 hd cp hA K
        | 30, _ => exact law_30 hd cp hA K
        | 31, _ => exact law_31 hd cp hA K
        | 32, _ => exact law_32 hd cp hA K
        | 33, _ => exact law_33 hd cp hA K
        | 34, _ => exact law_34 hd cp hA K
        | 35, _ => exact law_35 hd cp hA K
        | j + 36, hj => exact absurd hj (by omega)
theorem law_from {L : Nat} {xs : Nat → Int32} (hL : L ≤ 4096) : wpS 61 228 (XL L xs) (fun v _ => v = some (.int 1)) (0, [(0, .ref 1000000)], []) h00 := by
  obtain ⟨F, hn, hs, hA, hB⟩ := mk_1
  obtain ⟨n, s, a, b, c⟩ := F
  have hn : n = 92 := hn
  have hs : s = 24139 := hs
  subst hn
  subst hs
  rw [h00_F]
  refine wp_next (st := (0, [(0, .ref 1000000)], [])) (st' := (3, [(0, .ref 1000000)], [.ref 0])) (h' := aH (fNw F00 8 (0, 10))) (by
    show fetch 228 0 (XL L xs) (0, [(0, .ref 1000000)], []) (aH F00) = _
    rw [ft_0]
    exact fs_ok (25, (10, 8, 0, 3), 0, []) (X := XL L xs) (st := (0, [(0, .ref 1000000)], [])) (fs25_n (x := (10, 8, 0, 3)) (X := XL L xs) (st := (0, [(0, .ref 1000000)], [])) (F := F00) (by show ¬ (144 < 0 + 1 ∨ 74715 < 0 + 8 ∨ 999999 < 0); decide))) ?_
  refine wp_next (st := (3, [(0, .ref 1000000)], [.ref 0])) (st' := (4, [(0, .ref 1000000)], [.ref 0, .ref 0])) (h' := aH (fNw F00 8 (0, 10))) rfl ?_
  refine wp_call (st := (4, [(0, .ref 1000000)], [.ref 0, .ref 0])) (m' := 81) (as := [.ref 0]) (st' := (7, [(0, .ref 1000000)], [.ref 0])) rfl (Nat.le_of_ble_eq_true rfl) (Nat.le_of_ble_eq_true rfl) (Nat.le_of_ble_eq_true rfl) (Nat.le_of_ble_eq_true rfl) (Nat.le_of_ble_eq_true rfl) ?_
  refine wpS_le (d := 9) (by decide) (ex_ok 4000 8 81 (92, 24139) (0, [(0, .ref 0)], []) (fNw F00 8 (0, 10)) none (92, 24139, a, b, c) _ hA ?_)
  refine wp_next (st := (7, [(0, .ref 1000000)], [.ref 0])) (st' := (8, [(0, .ref 1000000), (1, .ref 0)], [])) (h' := aH (92, 24139, a, b, c)) rfl ?_
  refine wp_next (st := (8, [(0, .ref 1000000), (1, .ref 0)], [])) (st' := (11, [(0, .ref 1000000), (1, .ref 0)], [.ref 92])) (h' := aH (fNw (92, 24139, a, b, c) 84 (0, 11))) (by
    show fetch 228 8 (XL L xs) (8, [(0, .ref 1000000), (1, .ref 0)], []) (aH (92, 24139, a, b, c)) = _
    rw [ft_8]
    exact fs_ok (25, (11, 84, 0, 11), 0, []) (X := XL L xs) (st := (8, [(0, .ref 1000000), (1, .ref 0)], [])) (fs25_n (x := (11, 84, 0, 11)) (X := XL L xs) (st := (8, [(0, .ref 1000000), (1, .ref 0)], [])) (F := (92, 24139, a, b, c)) (by show ¬ (144 < 92 + 1 ∨ 74715 < 24139 + 84 ∨ 999999 < 92); decide))) ?_
  refine wp_next (st := (11, [(0, .ref 1000000), (1, .ref 0)], [.ref 92])) (st' := (12, [(0, .ref 1000000), (1, .ref 0)], [.ref 92, .ref 92])) (h' := aH (fNw (92, 24139, a, b, c) 84 (0, 11))) rfl ?_
  have hI : isO (aH (fNw (92, 24139, a, b, c) 84 (0, 11))) 92 11 = true := by
    show (Nat.blt 92 93 && (Nat.beq (gt2 (iU (9, 0) a 92 (0, 11)) 92 (9, 0)).1 0 && Nat.beq (gt2 (iU (9, 0) a 92 (0, 11)) 92 (9, 0)).2 11)) = true
    rw [iU_s]
    rfl
  refine wp_call (st := (12, [(0, .ref 1000000), (1, .ref 0)], [.ref 92, .ref 92])) (m' := 128) (as := [.ref 92]) (st' := (15, [(0, .ref 1000000), (1, .ref 0)], [.ref 92])) ?_ (Nat.le_of_ble_eq_true rfl) (by rw [mk_n _ rfl]; exact Nat.le_refl _) (by rw [mk_s _ rfl]; exact Nat.le_refl _) (Nat.le_of_ble_eq_true rfl) (Nat.le_of_ble_eq_true rfl) ?_
  · show (match isO (aH (fNw (92, 24139, a, b, c) 84 (0, 11))) 92 11 with
      | true => some (.inr (.inr (128, .ref 92 :: [], (15, [(0, .ref 1000000), (1, .ref 0)], [.ref 92]))))
      | false => none : IR) = _
    rw [hI]
  rw [mk_n _ rfl, mk_s _ rfl]
  refine wpS_le (d := 9) (by decide) (ex_ok 4000 8 128 (144, 74715) (0, [(0, .ref 92)], []) (fNw (92, 24139, a, b, c) 84 (0, 11)) none F99 _ hB ?_)
  rw [F99_K]
  refine wl_run3 (d := 60) (pc := 15) (pc' := 18) (Lo := [(0, .ref 1000000), (1, .ref 0)]) (Lo' := LV (nI 0)) (S := [.ref 92]) (S' := []) rfl ?_
  exact law_at (by decide) hL (L + 1) 0 fN0 (Nat.zero_le _) cp_0 (by omega)
