/-! acts of the reference -/
theorem mlp_actOf (f : HI) (h day : Int32) {t m : Nat} (ht : t < 10) (hm2 : f 92 17 = nI m) (hm5 : m ≤ 5) : ∀ (m9 : Nat) (c : Nat), (c ≤ m) → m - c < m9 → wq 1 155 (Ret (obI (toA (fun c => f 106 (10 * c + t)) (f 105) h day m)) f) 6 [(0, .ref 92), (1, .int (nI t)), (2, .int h), (3, .int day), (4, .int (obI (toA (fun c => f 106 (10 * c + t)) (f 105) h day c))), (5, .int (nI c))] [] f := by
  intro m9
  induction m9 with
  | zero => intro c hc0 hn; exact absurd hn (Nat.not_lt_zero _)
  | succ m9 ih =>
    intro c hc0 hn
    refine wq_run3 (pc' := 12) (L' := [(0, .ref 92), (1, .int (nI t)), (2, .int h), (3, .int day), (4, .int (obI (toA (fun c => f 106 (10 * c + t)) (f 105) h day c))), (5, .int (nI c))]) (S' := [.int (f 92 17), .int (nI c)]) (f' := f) rfl ?_
    refine wq_if (c := (f 92 17) ≤ (nI c)) (p1 := 102) (L1 := [(0, .ref 92), (1, .int (nI t)), (2, .int h), (3, .int day), (4, .int (obI (toA (fun c => f 106 (10 * c + t)) (f 105) h day c))), (5, .int (nI c))]) (S1 := []) (p2 := 15) (L2 := [(0, .ref 92), (1, .int (nI t)), (2, .int h), (3, .int day), (4, .int (obI (toA (fun c => f 106 (10 * c + t)) (f 105) h day c))), (5, .int (nI c))]) (S2 := []) rfl (fun c_12 => ?_) (fun c_12 => ?_)
    · have e : c = m := Nat.le_antisymm hc0 (Nat.not_lt.mp (fun q => absurd (show f 92 17 ≤ nI c from c_12) (by rw [hm2]; exact nI_ge q (by omega))))
      refine wq_run1 (pc' := 104) (L' := [(0, .ref 92), (1, .int (nI t)), (2, .int h), (3, .int day), (4, .int (obI (toA (fun c => f 106 (10 * c + t)) (f 105) h day c))), (5, .int (nI c))]) (S' := [.int (obI (toA (fun c => f 106 (10 * c + t)) (f 105) h day c))]) (f' := f) rfl ?_
      rw [e]
      exact wq_ret rfl ⟨rfl, rfl⟩
    · have hcn : c < m := Nat.lt_of_not_le (fun q => c_12 (by show f 92 17 ≤ nI c; rw [hm2]; exact nI_le q (by omega)))
      refine wq_run7 (pc' := 26) (L' := [(0, .ref 92), (1, .int (nI t)), (2, .int h), (3, .int day), (4, .int (obI (toA (fun c => f 106 (10 * c + t)) (f 105) h day c))), (5, .int (nI c))]) (S' := [.int ((10 * (nI c)) + (nI t)), .ref 106]) (f' := f) rfl ?_
      refine wq_ald (j := (10 * c + t)) (n := 50) (v := (f 106 (10 * c + t))) rfl rfl rfl (ix10r c t) (by omega) (Nat.le_of_ble_eq_true rfl) rfl ?_
      refine wq_run3 (pc' := 32) (L' := [(0, .ref 92), (1, .int (nI t)), (2, .int h), (3, .int day), (4, .int (obI (toA (fun c => f 106 (10 * c + t)) (f 105) h day c))), (5, .int (nI c)), (6, .int (f 106 (10 * c + t)))]) (S' := [.int (-1), .int (f 106 (10 * c + t))]) (f' := f) rfl ?_
      refine wq_if (c := (f 106 (10 * c + t)) = (-1)) (p1 := 56) (L1 := [(0, .ref 92), (1, .int (nI t)), (2, .int h), (3, .int day), (4, .int (obI (toA (fun c => f 106 (10 * c + t)) (f 105) h day c))), (5, .int (nI c)), (6, .int (f 106 (10 * c + t)))]) (S1 := []) (p2 := 35) (L2 := [(0, .ref 92), (1, .int (nI t)), (2, .int h), (3, .int day), (4, .int (obI (toA (fun c => f 106 (10 * c + t)) (f 105) h day c))), (5, .int (nI c)), (6, .int (f 106 (10 * c + t)))]) (S2 := []) rfl (fun c_32 => ?_) (fun c_32 => ?_)
      · refine wq_run3 (pc' := 61) (L' := [(0, .ref 92), (1, .int (nI t)), (2, .int h), (3, .int day), (4, .int (obI (toA (fun c => f 106 (10 * c + t)) (f 105) h day c))), (5, .int (nI c)), (6, .int (f 106 (10 * c + t))), (7, .int 0)]) (S' := [.int 0]) (f' := f) rfl ?_
        refine wq_if (c := 0 = 0) (p1 := 92) (L1 := [(0, .ref 92), (1, .int (nI t)), (2, .int h), (3, .int day), (4, .int (obI (toA (fun c => f 106 (10 * c + t)) (f 105) h day c))), (5, .int (nI c)), (6, .int (f 106 (10 * c + t))), (7, .int 0)]) (S1 := []) (p2 := 64) (L2 := [(0, .ref 92), (1, .int (nI t)), (2, .int h), (3, .int day), (4, .int (obI (toA (fun c => f 106 (10 * c + t)) (f 105) h day c))), (5, .int (nI c)), (6, .int (f 106 (10 * c + t))), (7, .int 0)]) (S2 := []) rfl (fun _ => ?_) (fun q => absurd rfl q)
        refine wq_run4 (pc' := 6) (L' := [(0, .ref 92), (1, .int (nI t)), (2, .int h), (3, .int day), (4, .int (obI (toA (fun c => f 106 (10 * c + t)) (f 105) h day c))), (5, .int ((nI c) + 1))]) (S' := []) (f' := f) rfl ?_
        have e1 : (toA (fun c => f 106 (10 * c + t)) (f 105) h day (c + 1)) = (toA (fun c => f 106 (10 * c + t)) (f 105) h day c) := toA_z (fun q => q.1 c_32)
        have h9 := ih (c + 1) (by omega) (by omega)
        rw [e1] at h9
        rw [nI_1]
        exact h9
      · refine wq_run2 (pc' := 38) (L' := [(0, .ref 92), (1, .int (nI t)), (2, .int h), (3, .int day), (4, .int (obI (toA (fun c => f 106 (10 * c + t)) (f 105) h day c))), (5, .int (nI c)), (6, .int (f 106 (10 * c + t)))]) (S' := [.int h, .int (f 106 (10 * c + t))]) (f' := f) rfl ?_
        refine wq_if (c := h < (f 106 (10 * c + t))) (p1 := 56) (L1 := [(0, .ref 92), (1, .int (nI t)), (2, .int h), (3, .int day), (4, .int (obI (toA (fun c => f 106 (10 * c + t)) (f 105) h day c))), (5, .int (nI c)), (6, .int (f 106 (10 * c + t)))]) (S1 := []) (p2 := 41) (L2 := [(0, .ref 92), (1, .int (nI t)), (2, .int h), (3, .int day), (4, .int (obI (toA (fun c => f 106 (10 * c + t)) (f 105) h day c))), (5, .int (nI c)), (6, .int (f 106 (10 * c + t)))]) (S2 := []) rfl (fun c_38 => ?_) (fun c_38 => ?_)
        · refine wq_run3 (pc' := 61) (L' := [(0, .ref 92), (1, .int (nI t)), (2, .int h), (3, .int day), (4, .int (obI (toA (fun c => f 106 (10 * c + t)) (f 105) h day c))), (5, .int (nI c)), (6, .int (f 106 (10 * c + t))), (7, .int 0)]) (S' := [.int 0]) (f' := f) rfl ?_
          refine wq_if (c := 0 = 0) (p1 := 92) (L1 := [(0, .ref 92), (1, .int (nI t)), (2, .int h), (3, .int day), (4, .int (obI (toA (fun c => f 106 (10 * c + t)) (f 105) h day c))), (5, .int (nI c)), (6, .int (f 106 (10 * c + t))), (7, .int 0)]) (S1 := []) (p2 := 64) (L2 := [(0, .ref 92), (1, .int (nI t)), (2, .int h), (3, .int day), (4, .int (obI (toA (fun c => f 106 (10 * c + t)) (f 105) h day c))), (5, .int (nI c)), (6, .int (f 106 (10 * c + t))), (7, .int 0)]) (S2 := []) rfl (fun _ => ?_) (fun q => absurd rfl q)
          refine wq_run4 (pc' := 6) (L' := [(0, .ref 92), (1, .int (nI t)), (2, .int h), (3, .int day), (4, .int (obI (toA (fun c => f 106 (10 * c + t)) (f 105) h day c))), (5, .int ((nI c) + 1))]) (S' := []) (f' := f) rfl ?_
          have e1 : (toA (fun c => f 106 (10 * c + t)) (f 105) h day (c + 1)) = (toA (fun c => f 106 (10 * c + t)) (f 105) h day c) := toA_z (fun q => absurd q.2.1 (Int32.not_le.mpr c_38))
          have h9 := ih (c + 1) (by omega) (by omega)
          rw [e1] at h9
          rw [nI_1]
          exact h9
        · refine wq_run3 (pc' := 47) (L' := [(0, .ref 92), (1, .int (nI t)), (2, .int h), (3, .int day), (4, .int (obI (toA (fun c => f 106 (10 * c + t)) (f 105) h day c))), (5, .int (nI c)), (6, .int (f 106 (10 * c + t)))]) (S' := [.int (nI c), .ref 105]) (f' := f) rfl ?_
          refine wq_ald (j := c) (n := 5) (v := (f 105 c)) rfl rfl rfl rfl (by omega) (Nat.le_of_ble_eq_true rfl) rfl ?_
          refine wq_run1 (pc' := 49) (L' := [(0, .ref 92), (1, .int (nI t)), (2, .int h), (3, .int day), (4, .int (obI (toA (fun c => f 106 (10 * c + t)) (f 105) h day c))), (5, .int (nI c)), (6, .int (f 106 (10 * c + t)))]) (S' := [.int day, .int (f 105 c)]) (f' := f) rfl ?_
          refine wq_if (c := day < (f 105 c)) (p1 := 56) (L1 := [(0, .ref 92), (1, .int (nI t)), (2, .int h), (3, .int day), (4, .int (obI (toA (fun c => f 106 (10 * c + t)) (f 105) h day c))), (5, .int (nI c)), (6, .int (f 106 (10 * c + t)))]) (S1 := []) (p2 := 52) (L2 := [(0, .ref 92), (1, .int (nI t)), (2, .int h), (3, .int day), (4, .int (obI (toA (fun c => f 106 (10 * c + t)) (f 105) h day c))), (5, .int (nI c)), (6, .int (f 106 (10 * c + t)))]) (S2 := []) rfl (fun c_49 => ?_) (fun c_49 => ?_)
          · refine wq_run3 (pc' := 61) (L' := [(0, .ref 92), (1, .int (nI t)), (2, .int h), (3, .int day), (4, .int (obI (toA (fun c => f 106 (10 * c + t)) (f 105) h day c))), (5, .int (nI c)), (6, .int (f 106 (10 * c + t))), (7, .int 0)]) (S' := [.int 0]) (f' := f) rfl ?_
            refine wq_if (c := 0 = 0) (p1 := 92) (L1 := [(0, .ref 92), (1, .int (nI t)), (2, .int h), (3, .int day), (4, .int (obI (toA (fun c => f 106 (10 * c + t)) (f 105) h day c))), (5, .int (nI c)), (6, .int (f 106 (10 * c + t))), (7, .int 0)]) (S1 := []) (p2 := 64) (L2 := [(0, .ref 92), (1, .int (nI t)), (2, .int h), (3, .int day), (4, .int (obI (toA (fun c => f 106 (10 * c + t)) (f 105) h day c))), (5, .int (nI c)), (6, .int (f 106 (10 * c + t))), (7, .int 0)]) (S2 := []) rfl (fun _ => ?_) (fun q => absurd rfl q)
            refine wq_run4 (pc' := 6) (L' := [(0, .ref 92), (1, .int (nI t)), (2, .int h), (3, .int day), (4, .int (obI (toA (fun c => f 106 (10 * c + t)) (f 105) h day c))), (5, .int ((nI c) + 1))]) (S' := []) (f' := f) rfl ?_
            have e1 : (toA (fun c => f 106 (10 * c + t)) (f 105) h day (c + 1)) = (toA (fun c => f 106 (10 * c + t)) (f 105) h day c) := toA_z (fun q => absurd q.2.2.1 (Int32.not_le.mpr c_49))
            have h9 := ih (c + 1) (by omega) (by omega)
            rw [e1] at h9
            rw [nI_1]
            exact h9
          · refine wq_run4 (pc' := 61) (L' := [(0, .ref 92), (1, .int (nI t)), (2, .int h), (3, .int day), (4, .int (obI (toA (fun c => f 106 (10 * c + t)) (f 105) h day c))), (5, .int (nI c)), (6, .int (f 106 (10 * c + t))), (7, .int 1)]) (S' := [.int 1]) (f' := f) rfl ?_
            refine wq_if (c := 1 = 0) (p1 := 92) (L1 := [(0, .ref 92), (1, .int (nI t)), (2, .int h), (3, .int day), (4, .int (obI (toA (fun c => f 106 (10 * c + t)) (f 105) h day c))), (5, .int (nI c)), (6, .int (f 106 (10 * c + t))), (7, .int 1)]) (S1 := []) (p2 := 64) (L2 := [(0, .ref 92), (1, .int (nI t)), (2, .int h), (3, .int day), (4, .int (obI (toA (fun c => f 106 (10 * c + t)) (f 105) h day c))), (5, .int (nI c)), (6, .int (f 106 (10 * c + t))), (7, .int 1)]) (S2 := []) rfl (fun q => absurd q (by decide)) (fun _ => ?_)
            refine wq_run2 (pc' := 67) (L' := [(0, .ref 92), (1, .int (nI t)), (2, .int h), (3, .int day), (4, .int (obI (toA (fun c => f 106 (10 * c + t)) (f 105) h day c))), (5, .int (nI c)), (6, .int (f 106 (10 * c + t))), (7, .int 1)]) (S' := [.int (-1), .int (obI (toA (fun c => f 106 (10 * c + t)) (f 105) h day c))]) (f' := f) rfl ?_
            refine wq_if (c := (obI (toA (fun c => f 106 (10 * c + t)) (f 105) h day c)) = (-1)) (p1 := 87) (L1 := [(0, .ref 92), (1, .int (nI t)), (2, .int h), (3, .int day), (4, .int (obI (toA (fun c => f 106 (10 * c + t)) (f 105) h day c))), (5, .int (nI c)), (6, .int (f 106 (10 * c + t))), (7, .int 1)]) (S1 := []) (p2 := 70) (L2 := [(0, .ref 92), (1, .int (nI t)), (2, .int h), (3, .int day), (4, .int (obI (toA (fun c => f 106 (10 * c + t)) (f 105) h day c))), (5, .int (nI c)), (6, .int (f 106 (10 * c + t))), (7, .int 1)]) (S2 := []) rfl (fun c_67 => ?_) (fun c_67 => ?_)
            · refine wq_run5 (pc' := 6) (L' := [(0, .ref 92), (1, .int (nI t)), (2, .int h), (3, .int day), (4, .int (nI c)), (5, .int ((nI c) + 1))]) (S' := []) (f' := f) rfl ?_
              have e1 : (toA (fun c => f 106 (10 * c + t)) (f 105) h day (c + 1)) = some c := toA_y ⟨c_32, Int32.not_lt.mp c_38, Int32.not_lt.mp c_49, by rw [(toA_0 (by omega)).mp c_67]; rfl⟩
              have h9 := ih (c + 1) (by omega) (by omega)
              rw [e1] at h9
              rw [nI_1]
              exact h9
            · obtain ⟨b, hb⟩ := obI_y c_67
              have hb5 : b < 5 := by have := toA_lt hb; omega
              refine wq_run3 (pc' := 76) (L' := [(0, .ref 92), (1, .int (nI t)), (2, .int h), (3, .int day), (4, .int (obI (toA (fun c => f 106 (10 * c + t)) (f 105) h day c))), (5, .int (nI c)), (6, .int (f 106 (10 * c + t))), (7, .int 1)]) (S' := [.int (nI c), .ref 105]) (f' := f) rfl ?_
              refine wq_ald (j := c) (n := 5) (v := (f 105 c)) rfl rfl rfl rfl (by omega) (Nat.le_of_ble_eq_true rfl) rfl ?_
              refine wq_run3 (pc' := 83) (L' := [(0, .ref 92), (1, .int (nI t)), (2, .int h), (3, .int day), (4, .int (obI (toA (fun c => f 106 (10 * c + t)) (f 105) h day c))), (5, .int (nI c)), (6, .int (f 106 (10 * c + t))), (7, .int 1)]) (S' := [.int (obI (toA (fun c => f 106 (10 * c + t)) (f 105) h day c)), .ref 105, .int (f 105 c)]) (f' := f) rfl ?_
              refine wq_ald (j := b) (n := 5) (v := (f 105 b)) rfl rfl rfl (by rw [hb]; rfl) (by omega) (Nat.le_of_ble_eq_true rfl) rfl ?_
              refine wq_if (c := (f 105 c) < (f 105 b)) (p1 := 92) (L1 := [(0, .ref 92), (1, .int (nI t)), (2, .int h), (3, .int day), (4, .int (obI (toA (fun c => f 106 (10 * c + t)) (f 105) h day c))), (5, .int (nI c)), (6, .int (f 106 (10 * c + t))), (7, .int 1)]) (S1 := []) (p2 := 87) (L2 := [(0, .ref 92), (1, .int (nI t)), (2, .int h), (3, .int day), (4, .int (obI (toA (fun c => f 106 (10 * c + t)) (f 105) h day c))), (5, .int (nI c)), (6, .int (f 106 (10 * c + t))), (7, .int 1)]) (S2 := []) rfl (fun c_84 => ?_) (fun c_84 => ?_)
              · refine wq_run4 (pc' := 6) (L' := [(0, .ref 92), (1, .int (nI t)), (2, .int h), (3, .int day), (4, .int (obI (toA (fun c => f 106 (10 * c + t)) (f 105) h day c))), (5, .int ((nI c) + 1))]) (S' := []) (f' := f) rfl ?_
                have e1 : (toA (fun c => f 106 (10 * c + t)) (f 105) h day (c + 1)) = (toA (fun c => f 106 (10 * c + t)) (f 105) h day c) := toA_z (fun q => absurd (show f 105 b ≤ f 105 c by have q := q.2.2.2; rw [hb] at q; exact of_decide_eq_true q) (Int32.not_le.mpr c_84))
                have h9 := ih (c + 1) (by omega) (by omega)
                rw [e1] at h9
                rw [nI_1]
                exact h9
              · refine wq_run5 (pc' := 6) (L' := [(0, .ref 92), (1, .int (nI t)), (2, .int h), (3, .int day), (4, .int (nI c)), (5, .int ((nI c) + 1))]) (S' := []) (f' := f) rfl ?_
                have e1 : (toA (fun c => f 106 (10 * c + t)) (f 105) h day (c + 1)) = some c := toA_y ⟨c_32, Int32.not_lt.mp c_38, Int32.not_lt.mp c_49, by rw [hb]; exact decide_eq_true (Int32.not_lt.mp c_84)⟩
                have h9 := ih (c + 1) (by omega) (by omega)
                rw [e1] at h9
                rw [nI_1]
                exact h9
theorem mp_actOf (f : HI) (h day : Int32) {t m : Nat} (ht : t < 10) (hm2 : f 92 17 = nI m) (hm5 : m ≤ 5) : Sp 1 155 [.ref 92, .int (nI t), .int h, .int day] f (Ret (obI (toA (fun c => f 106 (10 * c + t)) (f 105) h day m)) f) := by
  show wq 1 155 (Ret (obI (toA (fun c => f 106 (10 * c + t)) (f 105) h day m)) f) 0 [(0, .ref 92), (1, .int (nI t)), (2, .int h), (3, .int day)] [] f
  refine wq_run4 (pc' := 6) (L' := [(0, .ref 92), (1, .int (nI t)), (2, .int h), (3, .int day), (4, .int (-1)), (5, .int 0)]) (S' := []) (f' := f) rfl ?_
  exact mlp_actOf f h day ht hm2 hm5 (m - 0 + 1) 0 (Nat.zero_le _) (Nat.lt_succ_self _)
