/-! acts of the reference -/
theorem mlp_actOf (f : HI) (h day : Int32) {t m : Nat} (ht : t < 10) (hm2 : f 92 17 = nI m) (hm5 : m ≤ 5) : ∀ (m9 : Nat) (c : Nat), (c ≤ m) → m - c < m9 → wq 1 155 (Ret (obI (toA (fun c => f 106 (10 * c + t)) (f 105) h day m)) f) 6 [(0, .ref 92), (1, .int (nI t)), (2, .int h), (3, .int day), (4, .int (obI (toA (fun c => f 106 (10 * c + t)) (f 105) h day c))), (5, .int (nI c))] [] f := by
  intro m9
  induction m9 with
  | zero => intro c hc0 hn; exact absurd hn (Nat.not_lt_zero _)
  | succ m9 ih =>
    intro c hc0 hn
    refine wq_run3 (pc' := 12) (L' := [(0, .ref 92), (1, .int (nI t)), (2, .int h), (3, .int day), (4, .int (obI (toA (fun c => f 106 (10 * c + t)) (f 105) h day c))), (5, .int (nI c))]) (S' := [.int (f 92 17), .int (nI c)]) (f' := f) rfl ?_
    refine wq_if (c := (f 92 17) ≤ (nI c)) (p1 := 102) (L1 := [(0, .ref 92), (1, .int (nI t)), (2, .int h), (3, .int day), (4, .int (obI (toA (fun c => f 106 (10 * c + t)) (f 105) h day c))), (5, .int (nI c))]) (S1 := []) (p2 := 15) (L2 := [(0, .ref 92), (1, .int (nI t)), (2, .int h), (3, .int day), (4, .int (obI (toA (fun c => f 106 (10 * c + t)) (f 105) h day c))), (5, .int (nI c))]) (S2 := []) rfl (fun c_12 => ?_) (fun c_12 => ?_)
    · have e : c = m := Nat.le_antisymm hc0 (Nat.not_lt.mp (fun q => absurd (show f 92 17 ≤ nI c from c_12) (by rw [hm2]; exact nI_ge q (by omega))))
      refine wq_run1 (pc' := 104) (L' := [(0, .ref 92), (1, .int (nI t)), (2, .int h), (3, .int day), (4, .int (obI (toA (fun c => f 106 (10 * c + t)) (f 105) h day c))), (5, .int (nI c))]) (S' := [.int (obI (toA (fun c => f 106 (10 * c + t)) (f 105) h day c))]) (f' := f) rfl ?_
      rw [e]
      exact wq_ret rfl ⟨rfl, rfl⟩
    · have hcn : c < m := Nat.lt_of_not_le (fun q => c_12 (by show f 92 17 ≤ nI c; rw [hm2]; exact nI_le q (by omega)))
      refine wq_run7 (pc' := 26) (L' := [(0, .ref 92), (1, .int (nI t)), (2, .int h), (3, .int day), (4, .int (obI (toA (fun c => f 106 (10 * c + t)) (f 105) h day c))), (5, .int (nI c))]) (S' := [.int ((10 * (nI c)) + (nI t)), .ref 106]) (f' := f) rfl ?_
      refine wq_ald (j := (10 * c + t)) (n := 50) (v := (f 106 (10 * c + t))) rfl rfl rfl (ix10r c t) (by omega) (Nat.le_of_ble_eq_true rfl) rfl ?_
      refine wq_run3 (pc' := 32) (L' := [(0, .ref 92), (1, .int (nI t)), (2, .int h), (3, .int day), (4, .int (obI (toA (fun c => f 106 (10 * c + t)) (f 105) h day c))), (5, .int (nI c)), (6, .int (f 106 (10 * c + t)))]) (S' := [.int (-1), .int (f 106 (10 * c + t))]) (f' := f) rfl ?_
      refine wq_if (c := (f 106 (10 * c + t)) = (-1)) (p1 := 56) (L1 := [(0, .ref 92), (1, .int (nI t)), (2, .int h), (3, .int day), (4, .int (obI (toA (fun c => f 106 (10 * c + t)) (f 105) h day c))), (5, .int (nI c)), (6, .int (f 106 (10 * c + t)))]) (S1 := []) (p2 := 35) (L2 := [(0, .ref 92), (1, .int (nI t)), (2, .int h), (3, .int day), (4, .int (obI (toA (fun c => f 106 (10 * c + t)) (f 105) h day c))), (5, .int (nI c)), (6, .int (f 106 (10 * c + t)))]) (S2 := []) rfl (fun c_32 => ?_) (fun c_32 => ?_)
      · refine wq_run3 (pc' := 61) (L' := [(0, .ref 92), (1, .int (nI t)), (2, .int h), (3, .int day), (4, .int (obI (toA (fun c => f 106 (10 * c + t)) (f 105) h day c))), (5, .int (nI c)), (6, .int (f 106 (10 * c + t))), (7, .int 0)]) (S' := [.int 0]) (f' := f) rfl ?_
        refine wq_if (c := 0 = 0) (p1 := 92) (L1 := [(0, .ref 92), (1, .int (nI t)), (2, .int h), (3, .int day), (4, .int (obI (toA (fun c => f 106 (10 * c + t)) (f 105) h day c))), (5, .int (nI c)), (6, .int (f 106 (10 * c + t))), (7, .int 0)]) (S1 := []) (p2 := 64) (L2 := [(0, .ref 92), (1, .int (nI t)), (2, .int h), (3, .int day), (4, .int (obI (toA (fun c => f 106 (10 * c + t)) (f 105) h day c))), (5, .int (nI c)), (6, .int (f 106 (10 * c + t))), (7, .int 0)]) (S2 := []) rfl (fun _ => ?_) (fun q => absurd rfl q)
        refine wq_run4 (pc' := 6) (L' := [(0, .ref 92), (1, .int (nI t)), (2, .int h), (3, .int day), (4, .int (obI (toA (fun c => f 106 (10 * c + t)) (f 105) h day c))), (5, .int ((nI c) + 1))]) (S' := []) (f' := f) rfl ?_
        have e1 : (toA (fun c => f 106 (10 * c + t)) (f 105) h day (c + 1)) = (toA (fun c => f 106 (10 * c + t)) (f 105) h day c) := toA_z (fun q => q.1 c_32)
        have h9 := ih (c + 1) (by omega) (by omega)
        rw [e1] at h9
        rw [nI_1]
        exact h9
      · refine wq_run2 (pc' := 38) (L' := [(0, .ref 92), (1, .int (nI t)), (2, .int h), (3, .int day), (4, .int (obI (toA (fun c => f 106 (10 * c + t)) (f 105) h day c))), (5, .int (nI c)), (6, .int (f 106 (10 * c + t)))]) (S' := [.int h, .int (f 106 (10 * c + t))]) (f' := f) rfl ?_
        refine wq_if (c := h < (f 106 (10 * c + t))) (p1 := 56) (L1 := [(0, .ref 92), (1, .int (nI t)), (2, .int h), (3, .int day), (4, .int (obI (toA (fun c => f 106 (10 * c + t)) (f 105) h day c))), (5, .int (nI c)), (6, .int (f 106 (10 * c + t)))]) (S1 := []) (p2 := 41) (L2 := [(0, .ref 92), (1, .int (nI t)), (2, .int h), (3, .int day), (4, .int (obI (toA (fun c => f 106 (10 * c + t)) (f 105) h day c))), (5, .int (nI c)), (6, .int (f 106 (10 * c + t)))]) (S2 := []) rfl (fun c_38 => ?_) (fun c_38 => ?_)
        · refine wq_run3 (pc' := 61) (L' := [(0, .ref 92), (1, .int (nI t)), (2, .int h), (3, .int day), (4, .int (obI (toA (fun c => f 106 (10 * c + t)) (f 105) h day c))), (5, .int (nI c)), (6, .int (f 106 (10 * c + t))), (7, .int 0)]) (S' := [.int 0]) (f' := f) rfl ?_
          refine wq_if (c := 0 = 0) (p1 := 92) (L1 := [(0, .ref 92), (1, .int (nI t)), (2, .int h), (3, .int day), (4, .int (obI (toA (fun c => f 106 (10 * c + t)) (f 105) h day c))), (5, .int (nI c)), (6, .int (f 106 (10 * c + t))), (7, .int 0)]) (S1 := []) (p2 := 64) (L2 := [(0, .ref 92), (1, .int (nI t)), (2, .int h), (3, .int day), (4, .int (obI (toA (fun c => f 106 (10 * c + t)) (f 105) h day c))), (5, .int (nI c)), (6, .int (f 106 (10 * c + t))), (7, .int 0)]) (S2 := []) rfl (fun _ => ?_) (fun q => absurd rfl q)
          refine wq_run4 (pc' := 6) (L' := [(0, .ref 92), (1, .int (nI t)), (2, .int h), (3, .int day), (4, .int (obI (toA (fun c => f 106 (10 * c + t)) (f 105) h day c))), (5, .int ((nI c) + 1))]) (S' := []) (f' := f) rfl ?_
          have e1 : (toA (fun c => f 106 (10 * c + t)) (f 105) h day (c + 1)) = (toA (fun c => f 106 (10 * c + t)) (f 105) h day c) := toA_z (fun q => absurd q.2.1 (Int32.not_le.mpr c_38))
          have h9 := ih (c + 1) (by omega) (by omega)
          rw [e1] at h9
          rw [nI_1]
          exact h9
        · refine wq_run3 (pc' := 47) (L' := [(0, .ref 92), (1, .int (nI t)), (2, .int h), (3, .int day), (4, .int (obI (toA (fun c => f 106 (10 * c + t)) (f 105) h day c))), (5, .int (nI c)), (6, .int (f 106 (10 * c + t)))]) (S' := [.int (nI c), .ref 105]) (f' := f) rfl ?_
          refine wq_ald (j := c) (n := 5) (v := (f 105 c)) rfl rfl rfl rfl (by omega) (Nat.le_of_ble_eq_true rfl) rfl ?_
          refine wq_run1 (pc' := 49) (L' := [(0, .ref 92), (1, .int (nI t)), (2, .int h), (3, .int day), (4, .int (obI (toA (fun c => f 106 (10 * c + t)) (f 105) h day c))), (5, .int (nI c)), (6, .int (f 106 (10 * c + t)))]) (S' := [.int day, .int (f 105 c)]) (f' := f) rfl ?_
          refine wq_if (c := day < (f 105 c)) (p1 := 56) (L1 := [(0, .ref 92), (1, .int (nI t)), (2, .int h), (3, .int day), (4, .int (obI (toA (fun c => f 106 (10 * c + t)) (f 105) h day c))), (5, .int (nI c)), (6, .int (f 106 (10 * c + t)))]) (S1 := []) (p2 := 52) (L2 := [(0, .ref 92), (1, .int (nI t)), (2, .int h), (3, .int day), (4, .int (obI (toA (fun c => f 106 (10 * c + t)) (f 105) h day c))), (5, .int (nI c)), (6, .int (f 106 (10 * c + t)))]) (S2 := []) rfl (fun c_49 => ?_) (fun c_49 => ?_)
          · refine wq_run3 (pc' := 61) (L' := [(0, .ref 92), (1, .int (nI t)), (2, .int h), (3, .int day), (4, .int (obI (toA (fun c => f 106 (10 * c + t)) (f 105) h day c))), (5, .int (nI c)), (6, .int (f 106 (10 * c + t))), (7, .int 0)]) (S' := [.int 0]) (f' := f) rfl ?_
            refine wq_if (c := 0 = 0) (p1 := 92) (L1 := [(0, .ref 92), (1, .int (nI t)), (2, .int h), (3, .int day), (4, .int (obI (toA (fun c => f 106 (10 * c + t)) (f 105) h day c))), (5, .int (nI c)), (6, .int (f 106 (10 * c + t))), (7, .int 0)]) (S1 := []) (p2 := 64) (L2 := [(0, .ref 92), (1, .int (nI t)), (2, .int h), (3, .int day), (4, .int (obI (toA (fun c => f 106 (10 * c + t)) (f 105) h day c))), (5, .int (nI c)), (6, .int (f 106 (10 * c + t))), (7, .int 0)]) (S2 := []) rfl (fun _ => ?_) (fun q => absurd rfl q)
            refine wq_run4 (pc' := 6) (L' := [(0, .ref 92), (1, .int (nI t)), (2, .int h), (3, .int day), (4, .int (obI (toA (fun c => f 106 (10 * c + t)) (f 105) h day c))), (5, .int ((nI c) + 1))]) (S' := []) (f' := f) rfl ?_
            have e1 : (toA (fun c => f 106 (10 * c + t)) (f 105) h day (c + 1)) = (toA (fun c => f 106 (10 * c + t)) (f 105) h day c) := toA_z (fun q => absurd q.2.2.1 (Int32.not_le.mpr c_49))
            have h9 := ih (c + 1) (by omega) (by omega)
            rw [e1] at h9
            rw [nI_1]
            exact h9
          · refine wq_run4 (pc' := 61) (L' := [(0, .ref 92), (1, .int (nI t)), (2, .int h), (3, .int day), (4, .int (obI (toA (fun c => f 106 (10 * c + t)) (f 105) h day c))), (5, .int (nI c)), (6, .int (f 106 (10 * c + t))), (7, .int 1)]) (S' := [.int 1]) (f' := f) rfl ?_
            refine wq_if (c := 1 = 0) (p1 := 92) (L1 := [(0, .ref 92), (1, .int (nI t)), (2, .int h), (3, .int day), (4, .int (obI (toA (fun c => f 106 (10 * c + t)) (f 105) h day c))), (5, .int (nI c)), (6, .int (f 106 (10 * c + t))), (7, .int 1)]) (S1 := []) (p2 := 64) (L2 := [(0, .ref 92), (1, .int (nI t)), (2, .int h), (3, .int day), (4, .int (obI (toA (fun c => f 106 (10 * c + t)) (f 105) h day c))), (5, .int (nI c)), (6, .int (f 106 (10 * c + t))), (7, .int 1)]) (S2 := []) rfl (fun q => absurd q (by decide)) (fun _ => ?_)
            refine wq_run2 (pc' := 67) (L' := [(0, .ref 92), (1, .int (nI t)), (2, .int h), (3, .int day), (4, .int (obI (toA (fun c => f 106 (10 * c + t)) (f 105) h day c))), (5, .int (nI c)), (6, .int (f 106 (10 * c + t))), (7, .int 1)]) (S' := [.int (-1), .int (obI (toA (fun c => f 106 (10 * c + t)) (f 105) h day c))]) (f' := f) rfl ?_
            refine wq_if (c := (obI (toA (fun c => f 106 (10 * c + t)) (f 105) h day c)) = (-1)) (p1 := 87) (L1 := [(0, .ref 92), (1, .int (nI t)), (2, .int h), (3, .int day), (4, .int (obI (toA (fun c => f 106 (10 * c + t)) (f 105) h day c))), (5, .int (nI c)), (6, .int (f 106 (10 * c + t))), (7, .int 1)]) (S1 := []) (p2 := 70) (L2 := [(0, .ref 92), (1, .int (nI t)), (2, .int h), (3, .int day), (4, .int (obI (toA (fun c => f 106 (10 * c + t)) (f 105) h day c))), (5, .int (nI c)), (6, .int (f 106 (10 * c + t))), (7, .int 1)]) (S2 := []) rfl (fun c_67 => ?_) (fun c_67 => ?_)
            · refine wq_run5 (pc' := 6) (L' := [(0, .ref 92), (1, .int (nI t)), (2, .int h), (3, .int day), (4, .int (nI c)), (5, .int ((nI c) + 1))]) (S' := []) (f' := f) rfl ?_
              have e1 : (toA (fun c => f 106 (10 * c + t)) (f 105) h day (c + 1)) = some c := toA_y ⟨c_32, Int32.not_lt.mp c_38, Int32.not_lt.mp c_49, by rw [(toA_0 (by omega)).mp c_67]; rfl⟩
              have h9 := ih (c + 1) (by omega) (by omega)
              rw [e1] at h9
              rw [nI_1]
              exact h9
            · obtain ⟨b, hb⟩ := obI_y c_67
              have hb5 : b < 5 := by have := toA_lt hb; omega
              refine wq_run3 (pc' := 76) (L' := [(0, .ref 92), (1, .int (nI t)), (2, .int h), (3, .int day), (4, .int (obI (toA (fun c => f 106 (10 * c + t)) (f 105) h day c))), (5, .int (nI c)), (6, .int (f 106 (10 * c + t))), (7, .int 1)]) (S' := [.int (nI c), .ref 105]) (f' := f) rfl ?_
              refine wq_ald (j := c) (n := 5) (v := (f 105 c)) rfl rfl rfl rfl (by omega) (Nat.le_of_ble_eq_true rfl) rfl ?_
              refine wq_run3 (pc' := 83) (L' := [(0, .ref 92), (1, .int (nI t)), (2, .int h), (3, .int day), (4, .int (obI (toA (fun c => f 106 (10 * c + t)) (f 105) h day c))), (5, .int (nI c)), (6, .int (f 106 (10 * c + t))), (7, .int 1)]) (S' := [.int (obI (toA (fun c => f 106 (10 * c + t)) (f 105) h day c)), .ref 105, .int (f 105 c)]) (f' := f) rfl ?_
              refine wq_ald (j := b) (n := 5) (v := (f 105 b)) rfl rfl rfl (by rw [hb]; rfl) (by omega) (Nat.le_of_ble_eq_true rfl) rfl ?_
              refine wq_if (c := (f 105 c) < (f 105 b)) (p1 := 92) (L1 := [(0, .ref 92), (1, .int (nI t)), (2, .int h), (3, .int day), (4, .int (obI (toA (fun c => f 106 (10 * c + t)) (f 105) h day c))), (5, .int (nI c)), (6, .int (f 106 (10 * c + t))), (7, .int 1)]) (S1 := []) (p2 := 87) (L2 := [(0, .ref 92), (1, .int (nI t)), (2, .int h), (3, .int day), (4, .int (obI (toA (fun c => f 106 (10 * c + t)) (f 105) h day c))), (5, .int (nI c)), (6, .int (f 106 (10 * c + t))), (7, .int 1)]) (S2 := []) rfl (fun c_84 => ?_) (fun c_84 => ?_)
              · refine wq_run4 (pc' := 6) (L' := [(0, .ref 92), (1, .int (nI t)), (2, .int h), (3, .int day), (4, .int (obI (toA (fun c => f 106 (10 * c + t)) (f 105) h day c))), (5, .int ((nI c) + 1))]) (S' := []) (f' := f) rfl ?_
                have e1 : (toA (fun c => f 106 (10 * c + t)) (f 105) h day (c + 1)) = (toA (fun c => f 106 (10 * c + t)) (f 105) h day c) := toA_z (fun q => absurd (show f 105 b ≤ f 105 c by have q := q.2.2.2; rw [hb] at q; exact of_decide_eq_true q) (Int32.not_le.mpr c_84))
                have h9 := ih (c + 1) (by omega) (by omega)
                rw [e1] at h9
                rw [nI_1]
                exact h9
              · refine wq_run5 (pc' := 6) (L' := [(0, .ref 92), (1, .int (nI t)), (2, .int h), (3, .int day), (4, .int (nI c)), (5, .int ((nI c) + 1))]) (S' := []) (f' := f) rfl ?_
                have e1 : (toA (fun c => f 106 (10 * c + t)) (f 105) h day (c + 1)) = some c := toA_y ⟨c_32, Int32.not_lt.mp c_38, Int32.not_lt.mp c_49, by rw [hb]; exact decide_eq_true (Int32.not_lt.mp c_84)⟩
                have h9 := ih (c + 1) (by omega) (by omega)
                rw [e1] at h9
                rw [nI_1]
                exact h9
theorem mp_actOf (f : HI) (h day : Int32) {t m : Nat} (ht : t < 10) (hm2 : f 92 17 = nI m) (hm5 : m ≤ 5) : Sp 1 155 [.ref 92, .int (nI t), .int h, .int day] f (Ret (obI (toA (fun c => f 106 (10 * c + t)) (f 105) h day m)) f) := by
  show wq 1 155 (Ret (obI (toA (fun c => f 106 (10 * c + t)) (f 105) h day m)) f) 0 [(0, .ref 92), (1, .int (nI t)), (2, .int h), (3, .int day)] [] f
  refine wq_run4 (pc' := 6) (L' := [(0, .ref 92), (1, .int (nI t)), (2, .int h), (3, .int day), (4, .int (-1)), (5, .int 0)]) (S' := []) (f' := f) rfl ?_
  exact mlp_actOf f h day ht hm2 hm5 (m - 0 + 1) 0 (Nat.zero_le _) (Nat.lt_succ_self _)
def obJ (a : Nat) : Option Nat → Int32
  | none => -1
  | some b => nI (8 * a + b)
theorem obJ_0 {a n : Nat} {o : Option Nat} (hn : 8 * a + n ≤ 2 ^ 31) (h : ∀ b, o = some b → b < n) : obJ a o = -1 ↔ o = none := by
  cases o with
  | none => exact ⟨fun _ => rfl, fun _ => rfl⟩
  | some b =>
    refine ⟨fun e => ?_, fun e => by cases e⟩
    have h2 := nI_pos' (n := 8 * a + b) (by have := h b rfl; omega)
    rw [show nI (8 * a + b) = -1 from e] at h2
    exact absurd h2 (by decide)
theorem obJ_y {a : Nat} {o : Option Nat} (h : ¬ obJ a o = -1) : ∃ b, o = some b := by
  cases o with
  | none => exact absurd rfl h
  | some b => exact ⟨b, rfl⟩
theorem mlp_clauseOf (f : HI) (x : Int32) {a n : Nat} (ha : a < 5) (hn2 : f 101 a = nI n) (hn8 : n ≤ 8) : ∀ (m9 : Nat) (c : Nat), (c ≤ n) → n - c < m9 → wq 1 157 (Ret (obJ a (clA (fun c => f 102 (8 * a + c)) (fun c => f 103 (8 * a + c)) x n)) f) 11 [(0, .ref 92), (1, .int (nI a)), (2, .int x), (3, .int (obJ a (bTo (fun c => f 102 (8 * a + c)) (fun c => f 103 (8 * a + c)) x c))), (4, .int (obJ a (fOv 1 (fun c => f 102 (8 * a + c)) c))), (5, .int (nI (8 * a + c)))] [] f := by
  intro m9
  induction m9 with
  | zero => intro c hc0 hn; exact absurd hn (Nat.not_lt_zero _)
  | succ m9 ih =>
    intro c hc0 hn
    refine wq_run7 (pc' := 22) (L' := [(0, .ref 92), (1, .int (nI a)), (2, .int x), (3, .int (obJ a (bTo (fun c => f 102 (8 * a + c)) (fun c => f 103 (8 * a + c)) x c))), (4, .int (obJ a (fOv 1 (fun c => f 102 (8 * a + c)) c))), (5, .int (nI (8 * a + c)))]) (S' := [.int (nI a), .ref 101, .int (8 * (nI a)), .int (nI (8 * a + c))]) (f' := f) rfl ?_
    refine wq_ald (j := a) (n := 6) (v := (f 101 a)) rfl rfl rfl rfl (by omega) (Nat.le_of_ble_eq_true rfl) rfl ?_
    refine wq_run1 (pc' := 24) (L' := [(0, .ref 92), (1, .int (nI a)), (2, .int x), (3, .int (obJ a (bTo (fun c => f 102 (8 * a + c)) (fun c => f 103 (8 * a + c)) x c))), (4, .int (obJ a (fOv 1 (fun c => f 102 (8 * a + c)) c))), (5, .int (nI (8 * a + c)))]) (S' := [.int ((8 * (nI a)) + (f 101 a)), .int (nI (8 * a + c))]) (f' := f) rfl ?_
    refine wq_v (y := (nI (8 * a + n))) (show 8 * nI a + f 101 a = nI (8 * a + n) by rw [hn2, show (8 : Int32) = nI 8 from rfl, pk_mul, nI_add]) ?_
    refine wq_if (c := (nI (8 * a + n)) ≤ (nI (8 * a + c))) (p1 := 104) (L1 := [(0, .ref 92), (1, .int (nI a)), (2, .int x), (3, .int (obJ a (bTo (fun c => f 102 (8 * a + c)) (fun c => f 103 (8 * a + c)) x c))), (4, .int (obJ a (fOv 1 (fun c => f 102 (8 * a + c)) c))), (5, .int (nI (8 * a + c)))]) (S1 := []) (p2 := 27) (L2 := [(0, .ref 92), (1, .int (nI a)), (2, .int x), (3, .int (obJ a (bTo (fun c => f 102 (8 * a + c)) (fun c => f 103 (8 * a + c)) x c))), (4, .int (obJ a (fOv 1 (fun c => f 102 (8 * a + c)) c))), (5, .int (nI (8 * a + c)))]) (S2 := []) rfl (fun c_24 => ?_) (fun c_24 => ?_)
    · have e : c = n := Nat.le_antisymm hc0 (Nat.not_lt.mp (fun q => absurd c_24 (nI_ge (a := 8 * a + c) (b := 8 * a + n) (by omega) (by omega))))
      refine wq_run2 (pc' := 106) (L' := [(0, .ref 92), (1, .int (nI a)), (2, .int x), (3, .int (obJ a (bTo (fun c => f 102 (8 * a + c)) (fun c => f 103 (8 * a + c)) x c))), (4, .int (obJ a (fOv 1 (fun c => f 102 (8 * a + c)) c))), (5, .int (nI (8 * a + c)))]) (S' := [.int (-1), .int (obJ a (bTo (fun c => f 102 (8 * a + c)) (fun c => f 103 (8 * a + c)) x c))]) (f' := f) rfl ?_
      refine wq_if (c := (obJ a (bTo (fun c => f 102 (8 * a + c)) (fun c => f 103 (8 * a + c)) x c)) = (-1)) (p1 := 109) (L1 := [(0, .ref 92), (1, .int (nI a)), (2, .int x), (3, .int (obJ a (bTo (fun c => f 102 (8 * a + c)) (fun c => f 103 (8 * a + c)) x c))), (4, .int (obJ a (fOv 1 (fun c => f 102 (8 * a + c)) c))), (5, .int (nI (8 * a + c)))]) (S1 := []) (p2 := 114) (L2 := [(0, .ref 92), (1, .int (nI a)), (2, .int x), (3, .int (obJ a (bTo (fun c => f 102 (8 * a + c)) (fun c => f 103 (8 * a + c)) x c))), (4, .int (obJ a (fOv 1 (fun c => f 102 (8 * a + c)) c))), (5, .int (nI (8 * a + c)))]) (S2 := []) rfl (fun c_106 => ?_) (fun c_106 => ?_)
      · refine wq_run2 (pc' := 115) (L' := [(0, .ref 92), (1, .int (nI a)), (2, .int x), (3, .int (obJ a (bTo (fun c => f 102 (8 * a + c)) (fun c => f 103 (8 * a + c)) x c))), (4, .int (obJ a (fOv 1 (fun c => f 102 (8 * a + c)) c))), (5, .int (nI (8 * a + c)))]) (S' := [.int (obJ a (fOv 1 (fun c => f 102 (8 * a + c)) c))]) (f' := f) rfl ?_
        rw [e] at *
        exact wq_ret rfl ⟨by rw [clA, if_pos ((obJ_0 (a := a) (n := n) (by omega) (fun _ h => bTo_lt h)).mp c_106)], rfl⟩
      · refine wq_run1 (pc' := 115) (L' := [(0, .ref 92), (1, .int (nI a)), (2, .int x), (3, .int (obJ a (bTo (fun c => f 102 (8 * a + c)) (fun c => f 103 (8 * a + c)) x c))), (4, .int (obJ a (fOv 1 (fun c => f 102 (8 * a + c)) c))), (5, .int (nI (8 * a + c)))]) (S' := [.int (obJ a (bTo (fun c => f 102 (8 * a + c)) (fun c => f 103 (8 * a + c)) x c))]) (f' := f) rfl ?_
        rw [e] at *
        exact wq_ret rfl ⟨by rw [clA, if_neg (fun q => c_106 ((obJ_0 (a := a) (n := n) (by omega) (fun _ h => bTo_lt h)).mpr q))], rfl⟩
    · have hcn : c < n := Nat.lt_of_not_le (fun q => c_24 (nI_le (by omega) (by omega)))
      refine wq_run3 (pc' := 33) (L' := [(0, .ref 92), (1, .int (nI a)), (2, .int x), (3, .int (obJ a (bTo (fun c => f 102 (8 * a + c)) (fun c => f 103 (8 * a + c)) x c))), (4, .int (obJ a (fOv 1 (fun c => f 102 (8 * a + c)) c))), (5, .int (nI (8 * a + c)))]) (S' := [.int (nI (8 * a + c)), .ref 102]) (f' := f) rfl ?_
      refine wq_ald (j := (8 * a + c)) (n := 48) (v := (f 102 (8 * a + c))) rfl rfl rfl rfl (by omega) (Nat.le_of_ble_eq_true rfl) rfl ?_
      refine wq_if (c := (f 102 (8 * a + c)) = 0) (p1 := 37) (L1 := [(0, .ref 92), (1, .int (nI a)), (2, .int x), (3, .int (obJ a (bTo (fun c => f 102 (8 * a + c)) (fun c => f 103 (8 * a + c)) x c))), (4, .int (obJ a (fOv 1 (fun c => f 102 (8 * a + c)) c))), (5, .int (nI (8 * a + c)))]) (S1 := []) (p2 := 72) (L2 := [(0, .ref 92), (1, .int (nI a)), (2, .int x), (3, .int (obJ a (bTo (fun c => f 102 (8 * a + c)) (fun c => f 103 (8 * a + c)) x c))), (4, .int (obJ a (fOv 1 (fun c => f 102 (8 * a + c)) c))), (5, .int (nI (8 * a + c)))]) (S2 := []) rfl (fun c_34 => ?_) (fun c_34 => ?_)
      · refine wq_run3 (pc' := 43) (L' := [(0, .ref 92), (1, .int (nI a)), (2, .int x), (3, .int (obJ a (bTo (fun c => f 102 (8 * a + c)) (fun c => f 103 (8 * a + c)) x c))), (4, .int (obJ a (fOv 1 (fun c => f 102 (8 * a + c)) c))), (5, .int (nI (8 * a + c)))]) (S' := [.int (nI (8 * a + c)), .ref 103]) (f' := f) rfl ?_
        refine wq_ald (j := (8 * a + c)) (n := 48) (v := (f 103 (8 * a + c))) rfl rfl rfl rfl (by omega) (Nat.le_of_ble_eq_true rfl) rfl ?_
        refine wq_run1 (pc' := 45) (L' := [(0, .ref 92), (1, .int (nI a)), (2, .int x), (3, .int (obJ a (bTo (fun c => f 102 (8 * a + c)) (fun c => f 103 (8 * a + c)) x c))), (4, .int (obJ a (fOv 1 (fun c => f 102 (8 * a + c)) c))), (5, .int (nI (8 * a + c)))]) (S' := [.int x, .int (f 103 (8 * a + c))]) (f' := f) rfl ?_
        refine wq_if (c := (f 103 (8 * a + c)) < x) (p1 := 72) (L1 := [(0, .ref 92), (1, .int (nI a)), (2, .int x), (3, .int (obJ a (bTo (fun c => f 102 (8 * a + c)) (fun c => f 103 (8 * a + c)) x c))), (4, .int (obJ a (fOv 1 (fun c => f 102 (8 * a + c)) c))), (5, .int (nI (8 * a + c)))]) (S1 := []) (p2 := 48) (L2 := [(0, .ref 92), (1, .int (nI a)), (2, .int x), (3, .int (obJ a (bTo (fun c => f 102 (8 * a + c)) (fun c => f 103 (8 * a + c)) x c))), (4, .int (obJ a (fOv 1 (fun c => f 102 (8 * a + c)) c))), (5, .int (nI (8 * a + c)))]) (S2 := []) rfl (fun c_45 => ?_) (fun c_45 => ?_)
        · refine wq_run2 (pc' := 75) (L' := [(0, .ref 92), (1, .int (nI a)), (2, .int x), (3, .int (obJ a (bTo (fun c => f 102 (8 * a + c)) (fun c => f 103 (8 * a + c)) x c))), (4, .int (obJ a (fOv 1 (fun c => f 102 (8 * a + c)) c))), (5, .int (nI (8 * a + c)))]) (S' := [.int (-1), .int (obJ a (fOv 1 (fun c => f 102 (8 * a + c)) c))]) (f' := f) rfl ?_
          refine wq_if (c := (obJ a (fOv 1 (fun c => f 102 (8 * a + c)) c)) = (-1)) (p1 := 78) (L1 := [(0, .ref 92), (1, .int (nI a)), (2, .int x), (3, .int (obJ a (bTo (fun c => f 102 (8 * a + c)) (fun c => f 103 (8 * a + c)) x c))), (4, .int (obJ a (fOv 1 (fun c => f 102 (8 * a + c)) c))), (5, .int (nI (8 * a + c)))]) (S1 := []) (p2 := 94) (L2 := [(0, .ref 92), (1, .int (nI a)), (2, .int x), (3, .int (obJ a (bTo (fun c => f 102 (8 * a + c)) (fun c => f 103 (8 * a + c)) x c))), (4, .int (obJ a (fOv 1 (fun c => f 102 (8 * a + c)) c))), (5, .int (nI (8 * a + c)))]) (S2 := []) rfl (fun c_75 => ?_) (fun c_75 => ?_)
          · refine wq_run3 (pc' := 84) (L' := [(0, .ref 92), (1, .int (nI a)), (2, .int x), (3, .int (obJ a (bTo (fun c => f 102 (8 * a + c)) (fun c => f 103 (8 * a + c)) x c))), (4, .int (obJ a (fOv 1 (fun c => f 102 (8 * a + c)) c))), (5, .int (nI (8 * a + c)))]) (S' := [.int (nI (8 * a + c)), .ref 102]) (f' := f) rfl ?_
            refine wq_ald (j := (8 * a + c)) (n := 48) (v := (f 102 (8 * a + c))) rfl rfl rfl rfl (by omega) (Nat.le_of_ble_eq_true rfl) rfl ?_
            refine wq_run1 (pc' := 86) (L' := [(0, .ref 92), (1, .int (nI a)), (2, .int x), (3, .int (obJ a (bTo (fun c => f 102 (8 * a + c)) (fun c => f 103 (8 * a + c)) x c))), (4, .int (obJ a (fOv 1 (fun c => f 102 (8 * a + c)) c))), (5, .int (nI (8 * a + c)))]) (S' := [.int 1, .int (f 102 (8 * a + c))]) (f' := f) rfl ?_
            refine wq_if (c := (f 102 (8 * a + c)) = 1) (p1 := 89) (L1 := [(0, .ref 92), (1, .int (nI a)), (2, .int x), (3, .int (obJ a (bTo (fun c => f 102 (8 * a + c)) (fun c => f 103 (8 * a + c)) x c))), (4, .int (obJ a (fOv 1 (fun c => f 102 (8 * a + c)) c))), (5, .int (nI (8 * a + c)))]) (S1 := []) (p2 := 94) (L2 := [(0, .ref 92), (1, .int (nI a)), (2, .int x), (3, .int (obJ a (bTo (fun c => f 102 (8 * a + c)) (fun c => f 103 (8 * a + c)) x c))), (4, .int (obJ a (fOv 1 (fun c => f 102 (8 * a + c)) c))), (5, .int (nI (8 * a + c)))]) (S2 := []) rfl (fun c_86 => ?_) (fun c_86 => ?_)
            · refine wq_run5 (pc' := 11) (L' := [(0, .ref 92), (1, .int (nI a)), (2, .int x), (3, .int (obJ a (bTo (fun c => f 102 (8 * a + c)) (fun c => f 103 (8 * a + c)) x c))), (4, .int (nI (8 * a + c))), (5, .int ((nI (8 * a + c)) + 1))]) (S' := []) (f' := f) rfl ?_
              have e1 : (bTo (fun c => f 102 (8 * a + c)) (fun c => f 103 (8 * a + c)) x (c + 1)) = (bTo (fun c => f 102 (8 * a + c)) (fun c => f 103 (8 * a + c)) x c) := bTo_z (fun q => absurd q.2.1 (Int32.not_le.mpr c_45))
              have e2 : (fOv 1 (fun c => f 102 (8 * a + c)) (c + 1)) = some c := fOv_y ⟨c_86, (obJ_0 (n := c) (by omega) (fun _ h => fOv_lt h)).mp c_75⟩
              have h9 := ih (c + 1) (by omega) (by omega)
              rw [e1, e2] at h9
              rw [nI_1]
              exact h9
            · refine wq_run4 (pc' := 11) (L' := [(0, .ref 92), (1, .int (nI a)), (2, .int x), (3, .int (obJ a (bTo (fun c => f 102 (8 * a + c)) (fun c => f 103 (8 * a + c)) x c))), (4, .int (obJ a (fOv 1 (fun c => f 102 (8 * a + c)) c))), (5, .int ((nI (8 * a + c)) + 1))]) (S' := []) (f' := f) rfl ?_
              have e1 : (bTo (fun c => f 102 (8 * a + c)) (fun c => f 103 (8 * a + c)) x (c + 1)) = (bTo (fun c => f 102 (8 * a + c)) (fun c => f 103 (8 * a + c)) x c) := bTo_z (fun q => absurd q.2.1 (Int32.not_le.mpr c_45))
              have e2 : (fOv 1 (fun c => f 102 (8 * a + c)) (c + 1)) = (fOv 1 (fun c => f 102 (8 * a + c)) c) := fOv_z (fun q => c_86 q.1)
              have h9 := ih (c + 1) (by omega) (by omega)
              rw [e1, e2] at h9
              rw [nI_1]
              exact h9
          · refine wq_run4 (pc' := 11) (L' := [(0, .ref 92), (1, .int (nI a)), (2, .int x), (3, .int (obJ a (bTo (fun c => f 102 (8 * a + c)) (fun c => f 103 (8 * a + c)) x c))), (4, .int (obJ a (fOv 1 (fun c => f 102 (8 * a + c)) c))), (5, .int ((nI (8 * a + c)) + 1))]) (S' := []) (f' := f) rfl ?_
            have e1 : (bTo (fun c => f 102 (8 * a + c)) (fun c => f 103 (8 * a + c)) x (c + 1)) = (bTo (fun c => f 102 (8 * a + c)) (fun c => f 103 (8 * a + c)) x c) := bTo_z (fun q => absurd q.2.1 (Int32.not_le.mpr c_45))
            have e2 : (fOv 1 (fun c => f 102 (8 * a + c)) (c + 1)) = (fOv 1 (fun c => f 102 (8 * a + c)) c) := fOv_z (fun q => c_75 ((obJ_0 (n := c) (by omega) (fun _ h => fOv_lt h)).mpr q.2))
            have h9 := ih (c + 1) (by omega) (by omega)
            rw [e1, e2] at h9
            rw [nI_1]
            exact h9
        · refine wq_run2 (pc' := 50) (L' := [(0, .ref 92), (1, .int (nI a)), (2, .int x), (3, .int (obJ a (bTo (fun c => f 102 (8 * a + c)) (fun c => f 103 (8 * a + c)) x c))), (4, .int (obJ a (fOv 1 (fun c => f 102 (8 * a + c)) c))), (5, .int (nI (8 * a + c)))]) (S' := [.int (-1), .int (obJ a (bTo (fun c => f 102 (8 * a + c)) (fun c => f 103 (8 * a + c)) x c))]) (f' := f) rfl ?_
          refine wq_if (c := (obJ a (bTo (fun c => f 102 (8 * a + c)) (fun c => f 103 (8 * a + c)) x c)) = (-1)) (p1 := 69) (L1 := [(0, .ref 92), (1, .int (nI a)), (2, .int x), (3, .int (obJ a (bTo (fun c => f 102 (8 * a + c)) (fun c => f 103 (8 * a + c)) x c))), (4, .int (obJ a (fOv 1 (fun c => f 102 (8 * a + c)) c))), (5, .int (nI (8 * a + c)))]) (S1 := []) (p2 := 53) (L2 := [(0, .ref 92), (1, .int (nI a)), (2, .int x), (3, .int (obJ a (bTo (fun c => f 102 (8 * a + c)) (fun c => f 103 (8 * a + c)) x c))), (4, .int (obJ a (fOv 1 (fun c => f 102 (8 * a + c)) c))), (5, .int (nI (8 * a + c)))]) (S2 := []) rfl (fun c_50 => ?_) (fun c_50 => ?_)
          · refine wq_run4 (pc' := 75) (L' := [(0, .ref 92), (1, .int (nI a)), (2, .int x), (3, .int (nI (8 * a + c))), (4, .int (obJ a (fOv 1 (fun c => f 102 (8 * a + c)) c))), (5, .int (nI (8 * a + c)))]) (S' := [.int (-1), .int (obJ a (fOv 1 (fun c => f 102 (8 * a + c)) c))]) (f' := f) rfl ?_
            refine wq_if (c := (obJ a (fOv 1 (fun c => f 102 (8 * a + c)) c)) = (-1)) (p1 := 78) (L1 := [(0, .ref 92), (1, .int (nI a)), (2, .int x), (3, .int (nI (8 * a + c))), (4, .int (obJ a (fOv 1 (fun c => f 102 (8 * a + c)) c))), (5, .int (nI (8 * a + c)))]) (S1 := []) (p2 := 94) (L2 := [(0, .ref 92), (1, .int (nI a)), (2, .int x), (3, .int (nI (8 * a + c))), (4, .int (obJ a (fOv 1 (fun c => f 102 (8 * a + c)) c))), (5, .int (nI (8 * a + c)))]) (S2 := []) rfl (fun c_75 => ?_) (fun c_75 => ?_)
            · refine wq_run3 (pc' := 84) (L' := [(0, .ref 92), (1, .int (nI a)), (2, .int x), (3, .int (nI (8 * a + c))), (4, .int (obJ a (fOv 1 (fun c => f 102 (8 * a + c)) c))), (5, .int (nI (8 * a + c)))]) (S' := [.int (nI (8 * a + c)), .ref 102]) (f' := f) rfl ?_
              refine wq_ald (j := (8 * a + c)) (n := 48) (v := (f 102 (8 * a + c))) rfl rfl rfl rfl (by omega) (Nat.le_of_ble_eq_true rfl) rfl ?_
              refine wq_run1 (pc' := 86) (L' := [(0, .ref 92), (1, .int (nI a)), (2, .int x), (3, .int (nI (8 * a + c))), (4, .int (obJ a (fOv 1 (fun c => f 102 (8 * a + c)) c))), (5, .int (nI (8 * a + c)))]) (S' := [.int 1, .int (f 102 (8 * a + c))]) (f' := f) rfl ?_
              refine wq_if (c := (f 102 (8 * a + c)) = 1) (p1 := 89) (L1 := [(0, .ref 92), (1, .int (nI a)), (2, .int x), (3, .int (nI (8 * a + c))), (4, .int (obJ a (fOv 1 (fun c => f 102 (8 * a + c)) c))), (5, .int (nI (8 * a + c)))]) (S1 := []) (p2 := 94) (L2 := [(0, .ref 92), (1, .int (nI a)), (2, .int x), (3, .int (nI (8 * a + c))), (4, .int (obJ a (fOv 1 (fun c => f 102 (8 * a + c)) c))), (5, .int (nI (8 * a + c)))]) (S2 := []) rfl (fun c_86 => ?_) (fun c_86 => ?_)
              · refine wq_run5 (pc' := 11) (L' := [(0, .ref 92), (1, .int (nI a)), (2, .int x), (3, .int (nI (8 * a + c))), (4, .int (nI (8 * a + c))), (5, .int ((nI (8 * a + c)) + 1))]) (S' := []) (f' := f) rfl ?_
                have e1 : (bTo (fun c => f 102 (8 * a + c)) (fun c => f 103 (8 * a + c)) x (c + 1)) = some c := bTo_y ⟨c_34, Int32.not_lt.mp c_45, by rw [(obJ_0 (n := c) (by omega) (fun _ h => bTo_lt h)).mp c_50]; rfl⟩
                have e2 : (fOv 1 (fun c => f 102 (8 * a + c)) (c + 1)) = some c := fOv_y ⟨c_86, (obJ_0 (n := c) (by omega) (fun _ h => fOv_lt h)).mp c_75⟩
                have h9 := ih (c + 1) (by omega) (by omega)
                rw [e1, e2] at h9
                rw [nI_1]
                exact h9
              · refine wq_run4 (pc' := 11) (L' := [(0, .ref 92), (1, .int (nI a)), (2, .int x), (3, .int (nI (8 * a + c))), (4, .int (obJ a (fOv 1 (fun c => f 102 (8 * a + c)) c))), (5, .int ((nI (8 * a + c)) + 1))]) (S' := []) (f' := f) rfl ?_
                have e1 : (bTo (fun c => f 102 (8 * a + c)) (fun c => f 103 (8 * a + c)) x (c + 1)) = some c := bTo_y ⟨c_34, Int32.not_lt.mp c_45, by rw [(obJ_0 (n := c) (by omega) (fun _ h => bTo_lt h)).mp c_50]; rfl⟩
                have e2 : (fOv 1 (fun c => f 102 (8 * a + c)) (c + 1)) = (fOv 1 (fun c => f 102 (8 * a + c)) c) := fOv_z (fun q => c_86 q.1)
                have h9 := ih (c + 1) (by omega) (by omega)
                rw [e1, e2] at h9
                rw [nI_1]
                exact h9
            · refine wq_run4 (pc' := 11) (L' := [(0, .ref 92), (1, .int (nI a)), (2, .int x), (3, .int (nI (8 * a + c))), (4, .int (obJ a (fOv 1 (fun c => f 102 (8 * a + c)) c))), (5, .int ((nI (8 * a + c)) + 1))]) (S' := []) (f' := f) rfl ?_
              have e1 : (bTo (fun c => f 102 (8 * a + c)) (fun c => f 103 (8 * a + c)) x (c + 1)) = some c := bTo_y ⟨c_34, Int32.not_lt.mp c_45, by rw [(obJ_0 (n := c) (by omega) (fun _ h => bTo_lt h)).mp c_50]; rfl⟩
              have e2 : (fOv 1 (fun c => f 102 (8 * a + c)) (c + 1)) = (fOv 1 (fun c => f 102 (8 * a + c)) c) := fOv_z (fun q => c_75 ((obJ_0 (n := c) (by omega) (fun _ h => fOv_lt h)).mpr q.2))
              have h9 := ih (c + 1) (by omega) (by omega)
              rw [e1, e2] at h9
              rw [nI_1]
              exact h9
          · obtain ⟨b, hb⟩ := obJ_y c_50
            have hb8 := bTo_lt hb
            refine wq_run3 (pc' := 59) (L' := [(0, .ref 92), (1, .int (nI a)), (2, .int x), (3, .int (obJ a (bTo (fun c => f 102 (8 * a + c)) (fun c => f 103 (8 * a + c)) x c))), (4, .int (obJ a (fOv 1 (fun c => f 102 (8 * a + c)) c))), (5, .int (nI (8 * a + c)))]) (S' := [.int (nI (8 * a + c)), .ref 103]) (f' := f) rfl ?_
            refine wq_ald (j := (8 * a + c)) (n := 48) (v := (f 103 (8 * a + c))) rfl rfl rfl rfl (by omega) (Nat.le_of_ble_eq_true rfl) rfl ?_
            refine wq_run3 (pc' := 65) (L' := [(0, .ref 92), (1, .int (nI a)), (2, .int x), (3, .int (obJ a (bTo (fun c => f 102 (8 * a + c)) (fun c => f 103 (8 * a + c)) x c))), (4, .int (obJ a (fOv 1 (fun c => f 102 (8 * a + c)) c))), (5, .int (nI (8 * a + c)))]) (S' := [.int (obJ a (bTo (fun c => f 102 (8 * a + c)) (fun c => f 103 (8 * a + c)) x c)), .ref 103, .int (f 103 (8 * a + c))]) (f' := f) rfl ?_
            refine wq_ald (j := (8 * a + b)) (n := 48) (v := (f 103 (8 * a + b))) rfl rfl rfl (by rw [hb]; rfl) (by omega) (Nat.le_of_ble_eq_true rfl) rfl ?_
            refine wq_if (c := (f 103 (8 * a + b)) ≤ (f 103 (8 * a + c))) (p1 := 72) (L1 := [(0, .ref 92), (1, .int (nI a)), (2, .int x), (3, .int (obJ a (bTo (fun c => f 102 (8 * a + c)) (fun c => f 103 (8 * a + c)) x c))), (4, .int (obJ a (fOv 1 (fun c => f 102 (8 * a + c)) c))), (5, .int (nI (8 * a + c)))]) (S1 := []) (p2 := 69) (L2 := [(0, .ref 92), (1, .int (nI a)), (2, .int x), (3, .int (obJ a (bTo (fun c => f 102 (8 * a + c)) (fun c => f 103 (8 * a + c)) x c))), (4, .int (obJ a (fOv 1 (fun c => f 102 (8 * a + c)) c))), (5, .int (nI (8 * a + c)))]) (S2 := []) rfl (fun c_66 => ?_) (fun c_66 => ?_)
            · refine wq_run2 (pc' := 75) (L' := [(0, .ref 92), (1, .int (nI a)), (2, .int x), (3, .int (obJ a (bTo (fun c => f 102 (8 * a + c)) (fun c => f 103 (8 * a + c)) x c))), (4, .int (obJ a (fOv 1 (fun c => f 102 (8 * a + c)) c))), (5, .int (nI (8 * a + c)))]) (S' := [.int (-1), .int (obJ a (fOv 1 (fun c => f 102 (8 * a + c)) c))]) (f' := f) rfl ?_
              refine wq_if (c := (obJ a (fOv 1 (fun c => f 102 (8 * a + c)) c)) = (-1)) (p1 := 78) (L1 := [(0, .ref 92), (1, .int (nI a)), (2, .int x), (3, .int (obJ a (bTo (fun c => f 102 (8 * a + c)) (fun c => f 103 (8 * a + c)) x c))), (4, .int (obJ a (fOv 1 (fun c => f 102 (8 * a + c)) c))), (5, .int (nI (8 * a + c)))]) (S1 := []) (p2 := 94) (L2 := [(0, .ref 92), (1, .int (nI a)), (2, .int x), (3, .int (obJ a (bTo (fun c => f 102 (8 * a + c)) (fun c => f 103 (8 * a + c)) x c))), (4, .int (obJ a (fOv 1 (fun c => f 102 (8 * a + c)) c))), (5, .int (nI (8 * a + c)))]) (S2 := []) rfl (fun c_75 => ?_) (fun c_75 => ?_)
              · refine wq_run3 (pc' := 84) (L' := [(0, .ref 92), (1, .int (nI a)), (2, .int x), (3, .int (obJ a (bTo (fun c => f 102 (8 * a + c)) (fun c => f 103 (8 * a + c)) x c))), (4, .int (obJ a (fOv 1 (fun c => f 102 (8 * a + c)) c))), (5, .int (nI (8 * a + c)))]) (S' := [.int (nI (8 * a + c)), .ref 102]) (f' := f) rfl ?_
                refine wq_ald (j := (8 * a + c)) (n := 48) (v := (f 102 (8 * a + c))) rfl rfl rfl rfl (by omega) (Nat.le_of_ble_eq_true rfl) rfl ?_
                refine wq_run1 (pc' := 86) (L' := [(0, .ref 92), (1, .int (nI a)), (2, .int x), (3, .int (obJ a (bTo (fun c => f 102 (8 * a + c)) (fun c => f 103 (8 * a + c)) x c))), (4, .int (obJ a (fOv 1 (fun c => f 102 (8 * a + c)) c))), (5, .int (nI (8 * a + c)))]) (S' := [.int 1, .int (f 102 (8 * a + c))]) (f' := f) rfl ?_
                refine wq_if (c := (f 102 (8 * a + c)) = 1) (p1 := 89) (L1 := [(0, .ref 92), (1, .int (nI a)), (2, .int x), (3, .int (obJ a (bTo (fun c => f 102 (8 * a + c)) (fun c => f 103 (8 * a + c)) x c))), (4, .int (obJ a (fOv 1 (fun c => f 102 (8 * a + c)) c))), (5, .int (nI (8 * a + c)))]) (S1 := []) (p2 := 94) (L2 := [(0, .ref 92), (1, .int (nI a)), (2, .int x), (3, .int (obJ a (bTo (fun c => f 102 (8 * a + c)) (fun c => f 103 (8 * a + c)) x c))), (4, .int (obJ a (fOv 1 (fun c => f 102 (8 * a + c)) c))), (5, .int (nI (8 * a + c)))]) (S2 := []) rfl (fun c_86 => ?_) (fun c_86 => ?_)
                · refine wq_run5 (pc' := 11) (L' := [(0, .ref 92), (1, .int (nI a)), (2, .int x), (3, .int (obJ a (bTo (fun c => f 102 (8 * a + c)) (fun c => f 103 (8 * a + c)) x c))), (4, .int (nI (8 * a + c))), (5, .int ((nI (8 * a + c)) + 1))]) (S' := []) (f' := f) rfl ?_
                  have e1 : (bTo (fun c => f 102 (8 * a + c)) (fun c => f 103 (8 * a + c)) x (c + 1)) = (bTo (fun c => f 102 (8 * a + c)) (fun c => f 103 (8 * a + c)) x c) := bTo_z (fun q => absurd (show f 103 (8 * a + c) < f 103 (8 * a + b) by have q := q.2.2; rw [hb] at q; exact of_decide_eq_true q) (Int32.not_lt.mpr c_66))
                  have e2 : (fOv 1 (fun c => f 102 (8 * a + c)) (c + 1)) = some c := fOv_y ⟨c_86, (obJ_0 (n := c) (by omega) (fun _ h => fOv_lt h)).mp c_75⟩
                  have h9 := ih (c + 1) (by omega) (by omega)
                  rw [e1, e2] at h9
                  rw [nI_1]
                  exact h9
                · refine wq_run4 (pc' := 11) (L' := [(0, .ref 92), (1, .int (nI a)), (2, .int x), (3, .int (obJ a (bTo (fun c => f 102 (8 * a + c)) (fun c => f 103 (8 * a + c)) x c))), (4, .int (obJ a (fOv 1 (fun c => f 102 (8 * a + c)) c))), (5, .int ((nI (8 * a + c)) + 1))]) (S' := []) (f' := f) rfl ?_
                  have e1 : (bTo (fun c => f 102 (8 * a + c)) (fun c => f 103 (8 * a + c)) x (c + 1)) = (bTo (fun c => f 102 (8 * a + c)) (fun c => f 103 (8 * a + c)) x c) := bTo_z (fun q => absurd (show f 103 (8 * a + c) < f 103 (8 * a + b) by have q := q.2.2; rw [hb] at q; exact of_decide_eq_true q) (Int32.not_lt.mpr c_66))
                  have e2 : (fOv 1 (fun c => f 102 (8 * a + c)) (c + 1)) = (fOv 1 (fun c => f 102 (8 * a + c)) c) := fOv_z (fun q => c_86 q.1)
                  have h9 := ih (c + 1) (by omega) (by omega)
                  rw [e1, e2] at h9
                  rw [nI_1]
                  exact h9
              · refine wq_run4 (pc' := 11) (L' := [(0, .ref 92), (1, .int (nI a)), (2, .int x), (3, .int (obJ a (bTo (fun c => f 102 (8 * a + c)) (fun c => f 103 (8 * a + c)) x c))), (4, .int (obJ a (fOv 1 (fun c => f 102 (8 * a + c)) c))), (5, .int ((nI (8 * a + c)) + 1))]) (S' := []) (f' := f) rfl ?_
                have e1 : (bTo (fun c => f 102 (8 * a + c)) (fun c => f 103 (8 * a + c)) x (c + 1)) = (bTo (fun c => f 102 (8 * a + c)) (fun c => f 103 (8 * a + c)) x c) := bTo_z (fun q => absurd (show f 103 (8 * a + c) < f 103 (8 * a + b) by have q := q.2.2; rw [hb] at q; exact of_decide_eq_true q) (Int32.not_lt.mpr c_66))
                have e2 : (fOv 1 (fun c => f 102 (8 * a + c)) (c + 1)) = (fOv 1 (fun c => f 102 (8 * a + c)) c) := fOv_z (fun q => c_75 ((obJ_0 (n := c) (by omega) (fun _ h => fOv_lt h)).mpr q.2))
                have h9 := ih (c + 1) (by omega) (by omega)
                rw [e1, e2] at h9
                rw [nI_1]
                exact h9
            · refine wq_run4 (pc' := 75) (L' := [(0, .ref 92), (1, .int (nI a)), (2, .int x), (3, .int (nI (8 * a + c))), (4, .int (obJ a (fOv 1 (fun c => f 102 (8 * a + c)) c))), (5, .int (nI (8 * a + c)))]) (S' := [.int (-1), .int (obJ a (fOv 1 (fun c => f 102 (8 * a + c)) c))]) (f' := f) rfl ?_
              refine wq_if (c := (obJ a (fOv 1 (fun c => f 102 (8 * a + c)) c)) = (-1)) (p1 := 78) (L1 := [(0, .ref 92), (1, .int (nI a)), (2, .int x), (3, .int (nI (8 * a + c))), (4, .int (obJ a (fOv 1 (fun c => f 102 (8 * a + c)) c))), (5, .int (nI (8 * a + c)))]) (S1 := []) (p2 := 94) (L2 := [(0, .ref 92), (1, .int (nI a)), (2, .int x), (3, .int (nI (8 * a + c))), (4, .int (obJ a (fOv 1 (fun c => f 102 (8 * a + c)) c))), (5, .int (nI (8 * a + c)))]) (S2 := []) rfl (fun c_75 => ?_) (fun c_75 => ?_)
              · refine wq_run3 (pc' := 84) (L' := [(0, .ref 92), (1, .int (nI a)), (2, .int x), (3, .int (nI (8 * a + c))), (4, .int (obJ a (fOv 1 (fun c => f 102 (8 * a + c)) c))), (5, .int (nI (8 * a + c)))]) (S' := [.int (nI (8 * a + c)), .ref 102]) (f' := f) rfl ?_
                refine wq_ald (j := (8 * a + c)) (n := 48) (v := (f 102 (8 * a + c))) rfl rfl rfl rfl (by omega) (Nat.le_of_ble_eq_true rfl) rfl ?_
                refine wq_run1 (pc' := 86) (L' := [(0, .ref 92), (1, .int (nI a)), (2, .int x), (3, .int (nI (8 * a + c))), (4, .int (obJ a (fOv 1 (fun c => f 102 (8 * a + c)) c))), (5, .int (nI (8 * a + c)))]) (S' := [.int 1, .int (f 102 (8 * a + c))]) (f' := f) rfl ?_
                refine wq_if (c := (f 102 (8 * a + c)) = 1) (p1 := 89) (L1 := [(0, .ref 92), (1, .int (nI a)), (2, .int x), (3, .int (nI (8 * a + c))), (4, .int (obJ a (fOv 1 (fun c => f 102 (8 * a + c)) c))), (5, .int (nI (8 * a + c)))]) (S1 := []) (p2 := 94) (L2 := [(0, .ref 92), (1, .int (nI a)), (2, .int x), (3, .int (nI (8 * a + c))), (4, .int (obJ a (fOv 1 (fun c => f 102 (8 * a + c)) c))), (5, .int (nI (8 * a + c)))]) (S2 := []) rfl (fun c_86 => ?_) (fun c_86 => ?_)
                · refine wq_run5 (pc' := 11) (L' := [(0, .ref 92), (1, .int (nI a)), (2, .int x), (3, .int (nI (8 * a + c))), (4, .int (nI (8 * a + c))), (5, .int ((nI (8 * a + c)) + 1))]) (S' := []) (f' := f) rfl ?_
                  have e1 : (bTo (fun c => f 102 (8 * a + c)) (fun c => f 103 (8 * a + c)) x (c + 1)) = some c := bTo_y ⟨c_34, Int32.not_lt.mp c_45, by rw [hb]; exact decide_eq_true (Int32.not_le.mp c_66)⟩
                  have e2 : (fOv 1 (fun c => f 102 (8 * a + c)) (c + 1)) = some c := fOv_y ⟨c_86, (obJ_0 (n := c) (by omega) (fun _ h => fOv_lt h)).mp c_75⟩
                  have h9 := ih (c + 1) (by omega) (by omega)
                  rw [e1, e2] at h9
                  rw [nI_1]
                  exact h9
                · refine wq_run4 (pc' := 11) (L' := [(0, .ref 92), (1, .int (nI a)), (2, .int x), (3, .int (nI (8 * a + c))), (4, .int (obJ a (fOv 1 (fun c => f 102 (8 * a + c)) c))), (5, .int ((nI (8 * a + c)) + 1))]) (S' := []) (f' := f) rfl ?_
                  have e1 : (bTo (fun c => f 102 (8 * a + c)) (fun c => f 103 (8 * a + c)) x (c + 1)) = some c := bTo_y ⟨c_34, Int32.not_lt.mp c_45, by rw [hb]; exact decide_eq_true (Int32.not_le.mp c_66)⟩
                  have e2 : (fOv 1 (fun c => f 102 (8 * a + c)) (c + 1)) = (fOv 1 (fun c => f 102 (8 * a + c)) c) := fOv_z (fun q => c_86 q.1)
                  have h9 := ih (c + 1) (by omega) (by omega)
                  rw [e1, e2] at h9
                  rw [nI_1]
                  exact h9
              · refine wq_run4 (pc' := 11) (L' := [(0, .ref 92), (1, .int (nI a)), (2, .int x), (3, .int (nI (8 * a + c))), (4, .int (obJ a (fOv 1 (fun c => f 102 (8 * a + c)) c))), (5, .int ((nI (8 * a + c)) + 1))]) (S' := []) (f' := f) rfl ?_
                have e1 : (bTo (fun c => f 102 (8 * a + c)) (fun c => f 103 (8 * a + c)) x (c + 1)) = some c := bTo_y ⟨c_34, Int32.not_lt.mp c_45, by rw [hb]; exact decide_eq_true (Int32.not_le.mp c_66)⟩
                have e2 : (fOv 1 (fun c => f 102 (8 * a + c)) (c + 1)) = (fOv 1 (fun c => f 102 (8 * a + c)) c) := fOv_z (fun q => c_75 ((obJ_0 (n := c) (by omega) (fun _ h => fOv_lt h)).mpr q.2))
                have h9 := ih (c + 1) (by omega) (by omega)
                rw [e1, e2] at h9
                rw [nI_1]
                exact h9
      · refine wq_run2 (pc' := 75) (L' := [(0, .ref 92), (1, .int (nI a)), (2, .int x), (3, .int (obJ a (bTo (fun c => f 102 (8 * a + c)) (fun c => f 103 (8 * a + c)) x c))), (4, .int (obJ a (fOv 1 (fun c => f 102 (8 * a + c)) c))), (5, .int (nI (8 * a + c)))]) (S' := [.int (-1), .int (obJ a (fOv 1 (fun c => f 102 (8 * a + c)) c))]) (f' := f) rfl ?_
        refine wq_if (c := (obJ a (fOv 1 (fun c => f 102 (8 * a + c)) c)) = (-1)) (p1 := 78) (L1 := [(0, .ref 92), (1, .int (nI a)), (2, .int x), (3, .int (obJ a (bTo (fun c => f 102 (8 * a + c)) (fun c => f 103 (8 * a + c)) x c))), (4, .int (obJ a (fOv 1 (fun c => f 102 (8 * a + c)) c))), (5, .int (nI (8 * a + c)))]) (S1 := []) (p2 := 94) (L2 := [(0, .ref 92), (1, .int (nI a)), (2, .int x), (3, .int (obJ a (bTo (fun c => f 102 (8 * a + c)) (fun c => f 103 (8 * a + c)) x c))), (4, .int (obJ a (fOv 1 (fun c => f 102 (8 * a + c)) c))), (5, .int (nI (8 * a + c)))]) (S2 := []) rfl (fun c_75 => ?_) (fun c_75 => ?_)
        · refine wq_run3 (pc' := 84) (L' := [(0, .ref 92), (1, .int (nI a)), (2, .int x), (3, .int (obJ a (bTo (fun c => f 102 (8 * a + c)) (fun c => f 103 (8 * a + c)) x c))), (4, .int (obJ a (fOv 1 (fun c => f 102 (8 * a + c)) c))), (5, .int (nI (8 * a + c)))]) (S' := [.int (nI (8 * a + c)), .ref 102]) (f' := f) rfl ?_
          refine wq_ald (j := (8 * a + c)) (n := 48) (v := (f 102 (8 * a + c))) rfl rfl rfl rfl (by omega) (Nat.le_of_ble_eq_true rfl) rfl ?_
          refine wq_run1 (pc' := 86) (L' := [(0, .ref 92), (1, .int (nI a)), (2, .int x), (3, .int (obJ a (bTo (fun c => f 102 (8 * a + c)) (fun c => f 103 (8 * a + c)) x c))), (4, .int (obJ a (fOv 1 (fun c => f 102 (8 * a + c)) c))), (5, .int (nI (8 * a + c)))]) (S' := [.int 1, .int (f 102 (8 * a + c))]) (f' := f) rfl ?_
          refine wq_if (c := (f 102 (8 * a + c)) = 1) (p1 := 89) (L1 := [(0, .ref 92), (1, .int (nI a)), (2, .int x), (3, .int (obJ a (bTo (fun c => f 102 (8 * a + c)) (fun c => f 103 (8 * a + c)) x c))), (4, .int (obJ a (fOv 1 (fun c => f 102 (8 * a + c)) c))), (5, .int (nI (8 * a + c)))]) (S1 := []) (p2 := 94) (L2 := [(0, .ref 92), (1, .int (nI a)), (2, .int x), (3, .int (obJ a (bTo (fun c => f 102 (8 * a + c)) (fun c => f 103 (8 * a + c)) x c))), (4, .int (obJ a (fOv 1 (fun c => f 102 (8 * a + c)) c))), (5, .int (nI (8 * a + c)))]) (S2 := []) rfl (fun c_86 => ?_) (fun c_86 => ?_)
          · refine wq_run5 (pc' := 11) (L' := [(0, .ref 92), (1, .int (nI a)), (2, .int x), (3, .int (obJ a (bTo (fun c => f 102 (8 * a + c)) (fun c => f 103 (8 * a + c)) x c))), (4, .int (nI (8 * a + c))), (5, .int ((nI (8 * a + c)) + 1))]) (S' := []) (f' := f) rfl ?_
            have e1 : (bTo (fun c => f 102 (8 * a + c)) (fun c => f 103 (8 * a + c)) x (c + 1)) = (bTo (fun c => f 102 (8 * a + c)) (fun c => f 103 (8 * a + c)) x c) := bTo_z (fun q => c_34 q.1)
            have e2 : (fOv 1 (fun c => f 102 (8 * a + c)) (c + 1)) = some c := fOv_y ⟨c_86, (obJ_0 (n := c) (by omega) (fun _ h => fOv_lt h)).mp c_75⟩
            have h9 := ih (c + 1) (by omega) (by omega)
            rw [e1, e2] at h9
            rw [nI_1]
            exact h9
          · refine wq_run4 (pc' := 11) (L' := [(0, .ref 92), (1, .int (nI a)), (2, .int x), (3, .int (obJ a (bTo (fun c => f 102 (8 * a + c)) (fun c => f 103 (8 * a + c)) x c))), (4, .int (obJ a (fOv 1 (fun c => f 102 (8 * a + c)) c))), (5, .int ((nI (8 * a + c)) + 1))]) (S' := []) (f' := f) rfl ?_
            have e1 : (bTo (fun c => f 102 (8 * a + c)) (fun c => f 103 (8 * a + c)) x (c + 1)) = (bTo (fun c => f 102 (8 * a + c)) (fun c => f 103 (8 * a + c)) x c) := bTo_z (fun q => c_34 q.1)
            have e2 : (fOv 1 (fun c => f 102 (8 * a + c)) (c + 1)) = (fOv 1 (fun c => f 102 (8 * a + c)) c) := fOv_z (fun q => c_86 q.1)
            have h9 := ih (c + 1) (by omega) (by omega)
            rw [e1, e2] at h9
            rw [nI_1]
            exact h9
        · refine wq_run4 (pc' := 11) (L' := [(0, .ref 92), (1, .int (nI a)), (2, .int x), (3, .int (obJ a (bTo (fun c => f 102 (8 * a + c)) (fun c => f 103 (8 * a + c)) x c))), (4, .int (obJ a (fOv 1 (fun c => f 102 (8 * a + c)) c))), (5, .int ((nI (8 * a + c)) + 1))]) (S' := []) (f' := f) rfl ?_
          have e1 : (bTo (fun c => f 102 (8 * a + c)) (fun c => f 103 (8 * a + c)) x (c + 1)) = (bTo (fun c => f 102 (8 * a + c)) (fun c => f 103 (8 * a + c)) x c) := bTo_z (fun q => c_34 q.1)
          have e2 : (fOv 1 (fun c => f 102 (8 * a + c)) (c + 1)) = (fOv 1 (fun c => f 102 (8 * a + c)) c) := fOv_z (fun q => c_75 ((obJ_0 (n := c) (by omega) (fun _ h => fOv_lt h)).mpr q.2))
          have h9 := ih (c + 1) (by omega) (by omega)
          rw [e1, e2] at h9
          rw [nI_1]
          exact h9
theorem mp_clauseOf (f : HI) (x : Int32) {a n : Nat} (ha : a < 5) (hn2 : f 101 a = nI n) (hn8 : n ≤ 8) : Sp 1 157 [.ref 92, .int (nI a), .int x] f (Ret (obJ a (clA (fun c => f 102 (8 * a + c)) (fun c => f 103 (8 * a + c)) x n)) f) := by
  show wq 1 157 (Ret (obJ a (clA (fun c => f 102 (8 * a + c)) (fun c => f 103 (8 * a + c)) x n)) f) 0 [(0, .ref 92), (1, .int (nI a)), (2, .int x)] [] f
  refine wq_run7 (pc' := 9) (L' := [(0, .ref 92), (1, .int (nI a)), (2, .int x), (3, .int (-1)), (4, .int (-1))]) (S' := [.int (8 * (nI a))]) (f' := f) rfl ?_
  refine wq_v (y := (nI (8 * a + 0))) (by rw [show (8 : Int32) = nI 8 from rfl, pk_mul]; rfl) ?_
  refine wq_run1 (pc' := 11) (L' := [(0, .ref 92), (1, .int (nI a)), (2, .int x), (3, .int (-1)), (4, .int (-1)), (5, .int (nI (8 * a + 0)))]) (S' := []) (f' := f) rfl ?_
  exact mlp_clauseOf f x ha hn2 hn8 (n - 0 + 1) 0 (Nat.zero_le _) (Nat.lt_succ_self _)
