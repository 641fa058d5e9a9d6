/-! walk of the class -/
def GdS (n S : Nat) (L : List Nat) : Prop := L.Nodup ∧ ∀ x, x ∈ L ↔ 1 ≤ x ∧ x < n ∧ bN S x = 1
/-- the walk: none, or the least of all rounds -/
def WkR (D : Nat → Nat → Nat) (n S : Nat) (r0 : Int32) : Prop := (r0 = -1 ∧ ∃ d, 1 ≤ d ∧ d < n ∧ bN S d = 1 ∧ 100000000 ≤ D 0 d) ∨ ∃ r, r0 = nI r ∧ (∀ d, 1 ≤ d → d < n → bN S d = 1 → D 0 d < 100000000) ∧ (∃ L, GdS n S L ∧ r = tzN D L 0) ∧ ∀ L, GdS n S L → r ≤ tzN D L 0
theorem gd_iff {P : Nat → Nat} {t n S : Nat} (h1 : ∀ i, i < t → 1 ≤ P i ∧ P i < n ∧ bN S (P i) = 1) (h2 : ∀ x, 1 ≤ x → x < n → bN S x = 1 → ∃ i, i < t ∧ P i = x) (L : List Nat) : GdP P t L ↔ GdS n S L := by
  unfold GdP GdS
  have e : ∀ x, (∃ i, i < t ∧ P i = x) ↔ 1 ≤ x ∧ x < n ∧ bN S x = 1 := fun x => ⟨fun ⟨i, q1, q2⟩ => q2 ▸ h1 i q1, fun q => h2 x q.1 q.2.1 q.2.2⟩
  constructor
  · rintro ⟨q1, q2⟩; exact ⟨q1, fun x => (q2 x).trans (e x)⟩
  · rintro ⟨q1, q2⟩; exact ⟨q1, fun x => (q2 x).trans (e x).symm⟩
theorem lp_round {f : HI} {D : Nat → Nat → Nat} {n S : Nat} (hn12 : n ≤ 12) (hS2 : S < 2 ^ n) (hct : f 77 1 = nI n) (hsz : f 78 0 = 12) (hD : Mt 12 100000000 30 D) (hr : ∀ p q, p < 12 → q < 12 → f 79 (p * 12 + q) = nI (D p q)) : ∀ (m9 : Nat) (d : Nat) (t : Nat) (g : Nat → Int32) (P : Nat → Nat), (1 ≤ d) → (d ≤ n ∨ d = 1) → (t + 1 ≤ d) → (∀ i, i < t → 1 ≤ P i ∧ P i < d ∧ bN S (P i) = 1 ∧ D 0 (P i) < 100000000 ∧ g i = nI (P i)) → (∀ i j, i < t → j < t → P i = P j → i = j) → (∀ x, 1 ≤ x → x < d → bN S x = 1 → ∃ i, i < t ∧ P i = x) → n - d < m9 → wq 4 61 (fun v f' => ∃ g g2 r0, v = some (.int r0) ∧ f' = up1 (up1 f 81 g) 82 g2 ∧ WkR D n S r0) 4 [(0, .ref 77), (1, .int (nI S)), (2, .int (nI t)), (3, .int (nI d))] [] (up1 f 81 g) := by
  intro m9
  induction m9 with
  | zero => intro d t g P hd1 hd htd hPp hin hsu hn; exact absurd hn (Nat.not_lt_zero _)
  | succ m9 ih =>
    intro d t g P hd1 hd htd hPp hin hsu hn
    have h12 := p12 hn12
    have hbb := bN_lt S d
    refine wq_run3 (pc' := 9) (L' := [(0, .ref 77), (1, .int (nI S)), (2, .int (nI t)), (3, .int (nI d))]) (S' := [.int (f 77 1), .int (nI d)]) (f' := (up1 f 81 g)) rfl ?_
    refine wq_v (y := (nI n)) (hct) ?_
    refine wq_if (c := (nI n) ≤ (nI d)) (p1 := 54) (L1 := [(0, .ref 77), (1, .int (nI S)), (2, .int (nI t)), (3, .int (nI d))]) (S1 := []) (p2 := 12) (L2 := [(0, .ref 77), (1, .int (nI S)), (2, .int (nI t)), (3, .int (nI d))]) (S2 := []) rfl (fun c_9 => ?_) (fun c_9 => ?_)
    · have k_9 : n ≤ d := (nI_leI (a := n) (b := d) (by omega) (by omega)).mp c_9
      refine wq_run1 (pc' := 55) (L' := [(0, .ref 77), (1, .int (nI S)), (2, .int (nI t)), (3, .int (nI d))]) (S' := [.int (nI t)]) (f' := (up1 f 81 g)) rfl ?_
      refine wq_if (c := (nI t) = 0) (p1 := 58) (L1 := [(0, .ref 77), (1, .int (nI S)), (2, .int (nI t)), (3, .int (nI d))]) (S1 := []) (p2 := 62) (L2 := [(0, .ref 77), (1, .int (nI S)), (2, .int (nI t)), (3, .int (nI d))]) (S2 := []) rfl (fun c_55 => ?_) (fun c_55 => ?_)
      · have k_55 : t = 0 := (nI_eq (a := t) (b := 0) (by omega) (by omega)).mp c_55
        refine wq_run2 (pc' := 67) (L' := [(0, .ref 77), (1, .int (nI S)), (2, .int (nI t)), (3, .int (nI d))]) (S' := [.int 0]) (f' := (up1 f 81 g)) rfl ?_
        have e : d = n ∨ d = 1 ∧ n ≤ 1 := by omega
        refine wq_ret rfl ⟨g, f 82, 0, rfl, (up1_id (up1 f 81 g) 82).symm, Or.inr ⟨0, rfl, fun x q1 q2 q3 => ?_, ⟨[], ⟨List.nodup_nil, fun x => ⟨fun q => (by cases q), fun q => ?_⟩⟩, ?_⟩, fun _ _ => Nat.zero_le _⟩⟩
        · obtain ⟨i, q4, _⟩ := hsu x q1 (by omega) q3
          exact absurd q4 (by omega)
        · obtain ⟨i, q4, _⟩ := hsu x q.1 (by omega) q.2.2
          exact absurd q4 (by omega)
        · exact (hD.2.1 0 (by omega)).symm
      · have k_55 : ¬ t = 0 := fun q => c_55 ((nI_eq (a := t) (b := 0) (by omega) (by omega)).mpr q)
        refine wq_run2 (pc' := 64) (L' := [(0, .ref 77), (1, .int (nI S)), (2, .int (nI t)), (3, .int (nI d))]) (S' := [.int (nI t), .ref 77]) (f' := (up1 f 81 g)) rfl ?_
        refine wq_call (sp_roundOf (f := (up1 f 81 g)) (D := D) (P := P) (k := t) (by omega) hsz hD hr (fun i hi => by have := hPp i hi; exact ⟨by omega, this.2.2.2.1, this.2.2.2.2⟩) (by omega) hin) (Nat.le_of_ble_eq_true rfl) (pc' := 67) (L' := [(0, .ref 77), (1, .int (nI S)), (2, .int (nI t)), (3, .int (nI d))]) (S' := []) rfl (Nat.le_of_ble_eq_true rfl) rfl rfl (Nat.le_of_ble_eq_true rfl) (Nat.le_of_ble_eq_true rfl) ?_
        rintro v f9 ⟨g2, r, e0, ef, hR⟩
        subst e0
        subst ef
        have e : d = n ∨ d = 1 ∧ n ≤ 1 := by omega
        have hgi := gd_iff (P := P) (t := t) (n := n) (S := S) (fun i hi => by have := hPp i hi; exact ⟨this.1, by omega, this.2.2.1⟩) (fun x q1 q2 q3 => hsu x q1 (by omega) q3)
        refine wq_ret rfl ⟨g, g2, nI r, rfl, rfl, Or.inr ⟨r, rfl, fun x q1 q2 q3 => ?_, ?_, fun L hL => hR.2 L ((hgi L).mpr hL)⟩⟩
        · obtain ⟨i, q4, q5⟩ := hsu x q1 (by omega) q3
          rw [← q5]; exact (hPp i q4).2.2.2.1
        · obtain ⟨L, q1, q2⟩ := hR.1
          exact ⟨L, (hgi L).mp q1, q2⟩
    · have k_9 : ¬ n ≤ d := fun q => c_9 ((nI_leI (a := n) (b := d) (by omega) (by omega)).mpr q)
      refine wq_run5 (pc' := 17) (L' := [(0, .ref 77), (1, .int (nI S)), (2, .int (nI t)), (3, .int (nI d))]) (S' := [.int (((nI S) >>> ((nI d) &&& 31)) &&& 1)]) (f' := (up1 f 81 g)) rfl ?_
      refine wq_v (y := (nI (bN S d))) (bitN (by omega) (by omega)) ?_
      refine wq_if (c := (nI (bN S d)) = 0) (p1 := 20) (L1 := [(0, .ref 77), (1, .int (nI S)), (2, .int (nI t)), (3, .int (nI d))]) (S1 := []) (p2 := 23) (L2 := [(0, .ref 77), (1, .int (nI S)), (2, .int (nI t)), (3, .int (nI d))]) (S2 := []) rfl (fun c_17 => ?_) (fun c_17 => ?_)
      · have k_17 : (bN S d) = 0 := (nI_eq (a := (bN S d)) (b := 0) (by omega) (by omega)).mp c_17
        refine wq_run2 (pc' := 51) (L' := [(0, .ref 77), (1, .int (nI S)), (2, .int (nI t)), (3, .int ((nI d) + 1))]) (S' := []) (f' := (up1 f 81 g)) rfl ?_
        refine wq_L (L' := [(0, .ref 77), (1, .int (nI S)), (2, .int (nI t)), (3, .int (nI (d + 1)))]) (by rw [show nI d + 1 = nI (d + 1) from nI_add _ _]) ?_
        refine wq_run1 (pc' := 4) (L' := [(0, .ref 77), (1, .int (nI S)), (2, .int (nI t)), (3, .int (nI (d + 1)))]) (S' := []) (f' := (up1 f 81 g)) rfl ?_
        exact ih (d + 1) t g P (by omega) (by omega) (by omega) (fun i hi => by have := hPp i hi; exact ⟨this.1, by omega, this.2.2⟩) hin (fun x q1 q2 q3 => by
          rcases Nat.lt_or_ge x d with c | c
          · exact hsu x q1 c q3
          · have e : x = d := by omega
            rw [e] at q3; omega) (by omega)
      · have k_17 : ¬ (bN S d) = 0 := fun q => c_17 ((nI_eq (a := (bN S d)) (b := 0) (by omega) (by omega)).mpr q)
        refine wq_run4 (pc' := 29) (L' := [(0, .ref 77), (1, .int (nI S)), (2, .int (nI t)), (3, .int (nI d))]) (S' := [.int (nI d), .int 0, .ref 78]) (f' := (up1 f 81 g)) rfl ?_
        refine wq_callI (r := (dJ (D 0 d))) ((show Sp 1 12 [.ref 78, .int (nI 0), .int (nI d)] (up1 f 81 g) (Ret (dJ (D 0 d)) (up1 f 81 g)) from sp_betweenS (f := (up1 f 81 g)) (a := 0) (b := d) hsz hD (by omega) (by omega) hr)) (Nat.le_of_ble_eq_true rfl) (pc' := 32) (L' := [(0, .ref 77), (1, .int (nI S)), (2, .int (nI t)), (3, .int (nI d))]) (S' := []) rfl (Nat.le_of_ble_eq_true rfl) rfl rfl (Nat.le_of_ble_eq_true rfl) (Nat.le_of_ble_eq_true rfl) ?_
        refine wq_run1 (pc' := 33) (L' := [(0, .ref 77), (1, .int (nI S)), (2, .int (nI t)), (3, .int (nI d))]) (S' := [.int (-1), .int (dJ (D 0 d))]) (f' := (up1 f 81 g)) rfl ?_
        refine wq_if (c := (dJ (D 0 d)) = (-1)) (p1 := 36) (L1 := [(0, .ref 77), (1, .int (nI S)), (2, .int (nI t)), (3, .int (nI d))]) (S1 := []) (p2 := 38) (L2 := [(0, .ref 77), (1, .int (nI S)), (2, .int (nI t)), (3, .int (nI d))]) (S2 := []) rfl (fun c_33 => ?_) (fun c_33 => ?_)
        · refine wq_run1 (pc' := 37) (L' := [(0, .ref 77), (1, .int (nI S)), (2, .int (nI t)), (3, .int (nI d))]) (S' := [.int (-1)]) (f' := (up1 f 81 g)) rfl ?_
          exact wq_ret rfl ⟨g, f 82, -1, rfl, (up1_id (up1 f 81 g) 82).symm, Or.inl ⟨rfl, d, by omega, by omega, by omega, dJ_0.mp c_33⟩⟩
        · refine wq_run4 (pc' := 44) (L' := [(0, .ref 77), (1, .int (nI S)), (2, .int (nI t)), (3, .int (nI d))]) (S' := [.int (nI d), .int (nI t), .ref 81]) (f' := (up1 f 81 g)) rfl ?_
          refine wq_ist (j := t) (n := 11) rfl rfl rfl rfl (by omega) (Nat.le_of_ble_eq_true rfl) ?_
          refine wq_h (f' := (up1 f 81 (upd g t (nI d)))) ((up2_up1_eq f 81 g t (nI d)).trans (congrArg (fun z => up1 f 81 z) (rfl))) ?_
          refine wq_run1 (pc' := 48) (L' := [(0, .ref 77), (1, .int (nI S)), (2, .int ((nI t) + 1)), (3, .int (nI d))]) (S' := []) (f' := (up1 f 81 (upd g t (nI d)))) rfl ?_
          refine wq_L (L' := [(0, .ref 77), (1, .int (nI S)), (2, .int (nI (t + 1))), (3, .int (nI d))]) (by rw [show nI t + 1 = nI (t + 1) from nI_add _ _]) ?_
          refine wq_run1 (pc' := 51) (L' := [(0, .ref 77), (1, .int (nI S)), (2, .int (nI (t + 1))), (3, .int ((nI d) + 1))]) (S' := []) (f' := (up1 f 81 (upd g t (nI d)))) rfl ?_
          refine wq_L (L' := [(0, .ref 77), (1, .int (nI S)), (2, .int (nI (t + 1))), (3, .int (nI (d + 1)))]) (by rw [show nI d + 1 = nI (d + 1) from nI_add _ _]) ?_
          refine wq_run1 (pc' := 4) (L' := [(0, .ref 77), (1, .int (nI S)), (2, .int (nI (t + 1))), (3, .int (nI (d + 1)))]) (S' := []) (f' := (up1 f 81 (upd g t (nI d)))) rfl ?_
          have h33 : D 0 d < 100000000 := Nat.lt_of_not_le (fun q => c_33 (dJ_0.mpr q))
          exact ih (d + 1) (t + 1) _ (updN P t d) (by omega) (by omega) (by omega) (fun i hi => by
            unfold updN upd
            by_cases c : i = t
            · rw [if_pos c, if_pos c]; exact ⟨by omega, by omega, by omega, h33, rfl⟩
            · rw [if_neg c, if_neg c]; have := hPp i (by omega); exact ⟨this.1, by omega, this.2.2⟩) (fun i j hi hj q => by
            unfold updN at q
            by_cases c : i = t
            · by_cases c2 : j = t
              · rw [c, c2]
              · rw [if_pos c, if_neg c2] at q; have := hPp j (by omega); omega
            · by_cases c2 : j = t
              · rw [if_neg c, if_pos c2] at q; have := hPp i (by omega); omega
              · rw [if_neg c, if_neg c2] at q; exact hin i j (by omega) (by omega) q) (fun x q1 q2 q3 => by
            rcases Nat.lt_or_ge x d with c | c
            · obtain ⟨i, h1, h2⟩ := hsu x q1 c q3
              exact ⟨i, by omega, by unfold updN; rw [if_neg (by omega)]; exact h2⟩
            · exact ⟨t, by omega, by unfold updN; rw [if_pos rfl]; omega⟩) (by omega)
theorem sp_round {f : HI} {D : Nat → Nat → Nat} {n S : Nat} (hn12 : n ≤ 12) (hS2 : S < 2 ^ n) (hct : f 77 1 = nI n) (hsz : f 78 0 = 12) (hD : Mt 12 100000000 30 D) (hr : ∀ p q, p < 12 → q < 12 → f 79 (p * 12 + q) = nI (D p q)) : Sp 4 61 [.ref 77, .int (nI S)] f (fun v f' => ∃ g g2 r0, v = some (.int r0) ∧ f' = up1 (up1 f 81 g) 82 g2 ∧ WkR D n S r0) := by
  show wq 4 61 (fun v f' => ∃ g g2 r0, v = some (.int r0) ∧ f' = up1 (up1 f 81 g) 82 g2 ∧ WkR D n S r0) 0 [(0, .ref 77), (1, .int (nI S))] [] f
  refine wq_run4 (pc' := 4) (L' := [(0, .ref 77), (1, .int (nI S)), (2, .int 0), (3, .int 1)]) (S' := []) (f' := f) rfl ?_
  have h9 := lp_round hn12 hS2 hct hsz hD hr (n + 1) 1 0 (f 81) (fun _ => 0) (Nat.le_refl _) (Or.inr rfl) (Nat.le_refl _) (fun _ h => absurd h (Nat.not_lt_zero _)) (fun _ _ h => absurd h (Nat.not_lt_zero _)) (fun x q1 q2 => absurd q2 (by omega)) (by omega)
  rw [up1_id] at h9
  exact h9
theorem sp_walk2 {f : HI} {D : Nat → Nat → Nat} {n S : Nat} (hn12 : n ≤ 12) (hS2 : S < 2 ^ n) (hct : f 77 1 = nI n) (hsz : f 78 0 = 12) (hD : Mt 12 100000000 30 D) (hr : ∀ p q, p < 12 → q < 12 → f 79 (p * 12 + q) = nI (D p q)) : Sp 5 108 [.ref 0, .int (nI S)] f (fun v f' => ∃ g g2 r0, v = some (.int r0) ∧ f' = up1 (up1 f 81 g) 82 g2 ∧ WkR D n S r0) := by
  show wq 5 108 (fun v f' => ∃ g g2 r0, v = some (.int r0) ∧ f' = up1 (up1 f 81 g) 82 g2 ∧ WkR D n S r0) 0 [(0, .ref 0), (1, .int (nI S))] [] f
  have hp0 := p0 n
  have h12 := p12 hn12
  have hin : inR (nI S) 0 (nI (2 ^ n - 1)) := ⟨nI_pos' (by omega), (nI_leI (a := S) (b := 2 ^ n - 1) (by omega) (by omega)).mpr (by omega)⟩
  refine wq_run6 (pc' := 10) (L' := [(0, .ref 0), (1, .int (nI S))]) (S' := [.int (f 77 1), .int 1, .int 0, .int (nI S)]) (f' := f) rfl ?_
  refine wq_v (y := (nI n)) (hct) ?_
  refine wq_run1 (pc' := 11) (L' := [(0, .ref 0), (1, .int (nI S))]) (S' := [.int ((1 : Int32) <<< ((nI n) &&& 31)), .int 0, .int (nI S)]) (f' := f) rfl ?_
  refine wq_v (y := (nI (2 ^ n))) (shl1 (n := n) (by omega)) ?_
  refine wq_run2 (pc' := 13) (L' := [(0, .ref 0), (1, .int (nI S))]) (S' := [.int ((nI (2 ^ n)) - 1), .int 0, .int (nI S)]) (f' := f) rfl ?_
  refine wq_v (y := (nI ((2 ^ n) - 1))) (pk_sub (a := (2 ^ n)) (b := 1) (by omega)) ?_
  refine wq_callI (r := (b2i (inR (nI S) 0 (nI ((2 ^ n) - 1))))) (sp_within f (nI S) 0 (nI ((2 ^ n) - 1))) (Nat.le_of_ble_eq_true rfl) (pc' := 16) (L' := [(0, .ref 0), (1, .int (nI S))]) (S' := []) rfl (Nat.le_of_ble_eq_true rfl) rfl rfl (Nat.le_of_ble_eq_true rfl) (Nat.le_of_ble_eq_true rfl) ?_
  refine wq_if (c := (b2i (inR (nI S) 0 (nI ((2 ^ n) - 1)))) = 0) (p1 := 19) (L1 := [(0, .ref 0), (1, .int (nI S))]) (S1 := []) (p2 := 22) (L2 := [(0, .ref 0), (1, .int (nI S))]) (S2 := []) rfl (fun q => absurd q (b2i_n0.mpr hin)) (fun _ => ?_)
  refine wq_run3 (pc' := 27) (L' := [(0, .ref 0), (1, .int (nI S))]) (S' := [.int (nI S), .ref 77]) (f' := f) rfl ?_
  refine wq_call (sp_round hn12 hS2 hct hsz hD hr) (Nat.le_of_ble_eq_true rfl) (pc' := 30) (L' := [(0, .ref 0), (1, .int (nI S))]) (S' := []) rfl (Nat.le_of_ble_eq_true rfl) rfl rfl (Nat.le_of_ble_eq_true rfl) (Nat.le_of_ble_eq_true rfl) ?_
  rintro v f9 ⟨g, g2, r0, e0, ef, hW⟩
  subst e0
  subst ef
  exact wq_ret rfl ⟨g, g2, r0, rfl, rfl, hW⟩
theorem sp_walk1 {f : HI} {n : Nat} {s : Int32} (hn12 : n ≤ 12) (hct : f 77 1 = nI n) (h1 : ¬ inR s 0 (nI (2 ^ n - 1))) : Sp 5 108 [.ref 0, .int s] f (Ret (-3) f) := by
  show wq 5 108 (Ret (-3) f) 0 [(0, .ref 0), (1, .int s)] [] f
  have hp0 := p0 n
  have h12 := p12 hn12
  refine wq_run6 (pc' := 10) (L' := [(0, .ref 0), (1, .int s)]) (S' := [.int (f 77 1), .int 1, .int 0, .int s]) (f' := f) rfl ?_
  refine wq_v (y := (nI n)) (hct) ?_
  refine wq_run1 (pc' := 11) (L' := [(0, .ref 0), (1, .int s)]) (S' := [.int ((1 : Int32) <<< ((nI n) &&& 31)), .int 0, .int s]) (f' := f) rfl ?_
  refine wq_v (y := (nI (2 ^ n))) (shl1 (n := n) (by omega)) ?_
  refine wq_run2 (pc' := 13) (L' := [(0, .ref 0), (1, .int s)]) (S' := [.int ((nI (2 ^ n)) - 1), .int 0, .int s]) (f' := f) rfl ?_
  refine wq_v (y := (nI ((2 ^ n) - 1))) (pk_sub (a := (2 ^ n)) (b := 1) (by omega)) ?_
  refine wq_callI (r := (b2i (inR s 0 (nI ((2 ^ n) - 1))))) (sp_within f s 0 (nI ((2 ^ n) - 1))) (Nat.le_of_ble_eq_true rfl) (pc' := 16) (L' := [(0, .ref 0), (1, .int s)]) (S' := []) rfl (Nat.le_of_ble_eq_true rfl) rfl rfl (Nat.le_of_ble_eq_true rfl) (Nat.le_of_ble_eq_true rfl) ?_
  refine wq_if (c := (b2i (inR s 0 (nI ((2 ^ n) - 1)))) = 0) (p1 := 19) (L1 := [(0, .ref 0), (1, .int s)]) (S1 := []) (p2 := 22) (L2 := [(0, .ref 0), (1, .int s)]) (S2 := []) rfl (fun _ => ?_) (fun q => absurd (b2i_0.mpr h1) q)
  refine wq_run1 (pc' := 21) (L' := [(0, .ref 0), (1, .int s)]) (S' := [.int (-3)]) (f' := f) rfl ?_
  exact wq_ret rfl ⟨rfl, rfl⟩
