/-! walks of the class: the round -/
theorem nd_map {k : Nat} {P : Nat → Nat} (hi : ∀ i j, i < k → j < k → P i = P j → i = j) : ∀ (l : List Nat), l.Nodup → (∀ x, x ∈ l → x < k) → (l.map P).Nodup := by
  intro l
  induction l with
  | nil => intro _ _; exact List.nodup_nil
  | cons a l ih =>
    intro h hl
    have h2 := List.nodup_cons.mp h
    refine List.nodup_cons.mpr ⟨fun q => ?_, ih h2.2 (fun x hx => hl x (List.mem_cons_of_mem _ hx))⟩
    obtain ⟨b, hb, e⟩ := List.mem_map.mp q
    have e2 := hi b a (hl b (List.mem_cons_of_mem _ hb)) (hl a List.mem_cons_self) e
    rw [e2] at hb
    exact h2.1 hb
theorem nd_of {P : Nat → Nat} : ∀ (l : List Nat), (l.map P).Nodup → l.Nodup := by
  intro l
  induction l with
  | nil => intro _; exact List.nodup_nil
  | cons a l ih =>
    intro h
    have h2 := List.nodup_cons.mp (show (P a :: l.map P).Nodup from h)
    exact List.nodup_cons.mpr ⟨fun q => h2.1 (List.mem_map.mpr ⟨a, q, rfl⟩), ih h2.2⟩
/-- a list of the points, each once -/
def GdP (P : Nat → Nat) (k : Nat) (L : List Nat) : Prop := L.Nodup ∧ ∀ x, x ∈ L ↔ ∃ i, i < k ∧ P i = x
theorem gd_to {P : Nat → Nat} {k : Nat} {l : List Nat} (hi : ∀ i j, i < k → j < k → P i = P j → i = j) (h : vaL k (2 ^ k - 1) l) : GdP P k (l.map P) := by
  refine ⟨nd_map hi l h.1 (fun x hx => ((h.2 x).mp hx).1), fun x => ?_⟩
  rw [List.mem_map]
  constructor
  · rintro ⟨i, h1, h2⟩; exact ⟨i, ((h.2 i).mp h1).1, h2⟩
  · rintro ⟨i, h1, h2⟩; exact ⟨i, (h.2 i).mpr ⟨h1, all_b h1⟩, h2⟩
theorem gd_ex {P : Nat → Nat} {k : Nat} : ∀ (L : List Nat), (∀ x, x ∈ L → ∃ i, i < k ∧ P i = x) → ∃ l : List Nat, l.map P = L ∧ ∀ i, i ∈ l → i < k := by
  intro L
  induction L with
  | nil => intro _; exact ⟨[], rfl, fun i h => (by cases h)⟩
  | cons x L ih =>
    intro h
    obtain ⟨i, h1, h2⟩ := h x List.mem_cons_self
    obtain ⟨l, h3, h4⟩ := ih (fun y hy => h y (List.mem_cons_of_mem _ hy))
    refine ⟨i :: l, ?_, fun j hj => ?_⟩
    · show P i :: l.map P = x :: L
      rw [h2, h3]
    · rcases List.mem_cons.mp hj with q | q
      · rw [q]; exact h1
      · exact h4 j q
theorem gd_of {P : Nat → Nat} {k : Nat} {L : List Nat} (hi : ∀ i j, i < k → j < k → P i = P j → i = j) (h : GdP P k L) : ∃ l, l.map P = L ∧ vaL k (2 ^ k - 1) l := by
  obtain ⟨l, h1, h2⟩ := gd_ex L (fun x hx => (h.2 x).mp hx)
  refine ⟨l, h1, nd_of l (h1 ▸ h.1), fun i => ⟨fun q => ⟨h2 i q, all_b (h2 i q)⟩, fun q => ?_⟩⟩
  have h3 : P i ∈ L := (h.2 (P i)).mpr ⟨i, q.1, rfl⟩
  rw [← h1, List.mem_map] at h3
  obtain ⟨j, h4, h5⟩ := h3
  rw [← hi j i (h2 j h4) q.1 h5]
  exact h4
theorem va_all (k : Nat) : vaL k (2 ^ k - 1) (List.range k) := by
  refine ⟨List.nodup_range, fun i => ?_⟩
  rw [List.mem_range]
  exact ⟨fun h => ⟨h, all_b h⟩, fun h => h.1⟩
theorem tz_fin {D : Nat → Nat → Nat} (hD : Mt 12 100000000 30 D) : ∀ (L : List Nat), (∀ x, x ∈ L → x < 12 ∧ D 0 x < 100000000) → ∀ z, z < 12 → D 0 z < 100000000 → tzN D L z ≤ 360 * (L.length + 1) := by
  intro L
  induction L with
  | nil => intro _ z hz h; exact mt_b hD (by omega) hz h
  | cons x L ih =>
    intro h z hz h0
    have hx := h x List.mem_cons_self
    have h1 := ih (fun y hy => h y (List.mem_cons_of_mem _ hy)) x hx.1 hx.2
    have h2 := mt_b hD hx.1 hz (st_fin hD hx.1 hz hx.2 h0)
    show tzN D L x + D x z ≤ 360 * (L.length + 1 + 1)
    omega
/-- r is the least of all rounds by a list of the points -/
def RdP (D : Nat → Nat → Nat) (P : Nat → Nat) (k r : Nat) : Prop := (∃ L, GdP P k L ∧ r = tzN D L 0) ∧ ∀ L, GdP P k L → r ≤ tzN D L 0
theorem rd_end {D : Nat → Nat → Nat} {P : Nat → Nat} {k : Nat} {A : Nat → Nat → Nat} (hk11 : k ≤ 11) (hk0 : 1 ≤ k) (hD : Mt 12 100000000 30 D) (hP : ∀ i, i < k → P i < 12 ∧ D 0 (P i) < 100000000) (hi : ∀ i j, i < k → j < k → P i = P j → i = j) (hS : SndT D P k (2 ^ k - 1) 100000000 A) (hC : Cpl D P k (2 ^ k - 1) A (fun _ => True) (dnP (2 ^ k - 1) 0 0)) : RdP D P k (mnN (fun i => A (2 ^ k - 1) i + D (P i) 0) k) ∧ mnN (fun i => A (2 ^ k - 1) i + D (P i) 0) k < 100000000 := by
  have hp0 := p0 k
  have hle : ∀ L, GdP P k L → mnN (fun i => A (2 ^ k - 1) i + D (P i) 0) k ≤ tzN D L 0 := by
    intro L hL
    obtain ⟨l, h1, h2⟩ := gd_of hi hL
    cases l with
    | nil => exact absurd ((h2.2 0).mpr ⟨hk0, all_b hk0⟩) (fun q => by cases q)
    | cons i l' =>
      have hik := ((h2.2 i).mp List.mem_cons_self).1
      have h3 := hC (2 ^ k - 1) i l' (by omega) h2 (fun x hx => ((h2.2 x).mp hx).2) (fun _ => trivial) (fun j l2 q p hp hv => by
        obtain ⟨p2, hp2, hv2, e, hb, _⟩ := vl_tail (show 2 ^ k - 1 < 2 ^ k by omega) h2
        have e2 := va_u hp hp2 hv hv2
        left
        rw [e2, e]
        exact or_gt hb)
      have h4 := (mn_le (h := fun i => A (2 ^ k - 1) i + D (P i) 0) k).2 i hik
      rw [← h1]
      show _ ≤ tzN D (l'.map P) (P i) + D (P i) 0
      exact Nat.le_trans h4 (Nat.add_le_add_right h3 _)
  have hg0 := gd_to hi (va_all k)
  have hlt : mnN (fun i => A (2 ^ k - 1) i + D (P i) 0) k < 100000000 := by
    have h1 := hle _ hg0
    have h2 := tz_fin hD ((List.range k).map P) (fun x hx => by
      obtain ⟨i, hik, e⟩ := (hg0.2 x).mp hx
      rw [← e]; exact hP i hik) 0 (by omega) (by rw [hD.2.1 0 (by omega)]; omega)
    rw [List.length_map, List.length_range] at h2
    omega
  refine ⟨⟨?_, hle⟩, hlt⟩
  rcases mn_at (h := fun i => A (2 ^ k - 1) i + D (P i) 0) k with q | ⟨i, hik, q⟩
  · rw [q] at hlt; exact absurd hlt (Nat.lt_irrefl _)
  · rcases (hS (2 ^ k - 1) i (by omega) hik).2 with z | ⟨l, z1, z2, z3⟩
    · rw [q] at hlt
      have hlt : A (2 ^ k - 1) i + D (P i) 0 < 100000000 := hlt
      rw [z] at hlt
      exact absurd hlt (Nat.not_lt.mpr (Nat.le_add_right _ _))
    · refine ⟨(i :: l).map P, gd_to hi z1, ?_⟩
      rw [q]
      show A (2 ^ k - 1) i + D (P i) 0 = tzN D (l.map P) (P i) + D (P i) 0
      rw [z3]
theorem lp_rdEnd {f : HI} {D : Nat → Nat → Nat} {P : Nat → Nat} {k : Nat} (hk11 : k ≤ 11) (hsz : f 78 0 = 12) (hD : Mt 12 100000000 30 D) (hr : ∀ p q, p < 12 → q < 12 → f 79 (p * 12 + q) = nI (D p q)) (hP : ∀ i, i < k → P i < 12 ∧ D 0 (P i) < 100000000 ∧ f 81 i = nI (P i)) (hk0 : 1 ≤ k) (hinj : ∀ i j, i < k → j < k → P i = P j → i = j) {A : Nat → Nat → Nat} {g : Nat → Int32} (hg : ∀ m i, m < 2 ^ k → i < k → g (m * 11 + i) = nI (A m i)) (hS : SndT D P k (2 ^ k - 1) 100000000 A) (hC : Cpl D P k (2 ^ k - 1) A (fun _ => True) (dnP (2 ^ k - 1) 0 0)) : ∀ (m9 : Nat) (i : Nat), (i ≤ k) → k - i < m9 → wq 3 62 (fun v f' => ∃ g r, v = some (.int (nI r)) ∧ f' = up1 f 82 g ∧ RdP D P k r) 113 [(0, .ref 77), (1, .int (nI k)), (2, .int (nI (2 ^ k - 1))), (3, .int (nI (mnN (fun i => A (2 ^ k - 1) i + D (P i) 0) i))), (4, .int (nI i))] [] (up1 f 82 g) := by
  intro m9
  induction m9 with
  | zero => intro i hi hn; exact absurd hn (Nat.not_lt_zero _)
  | succ m9 ih =>
    intro i hi hn
    have hpk : 2 ^ k ≤ 2048 := pw_le hk11
    have hp0 := p0 k
    have hmn := (mn_le (h := fun i => A (2 ^ k - 1) i + D (P i) 0) i).1
    refine wq_run2 (pc' := 116) (L' := [(0, .ref 77), (1, .int (nI k)), (2, .int (nI (2 ^ k - 1))), (3, .int (nI (mnN (fun i => A (2 ^ k - 1) i + D (P i) 0) i))), (4, .int (nI i))]) (S' := [.int (nI k), .int (nI i)]) (f' := (up1 f 82 g)) rfl ?_
    refine wq_if (c := (nI k) ≤ (nI i)) (p1 := 158) (L1 := [(0, .ref 77), (1, .int (nI k)), (2, .int (nI (2 ^ k - 1))), (3, .int (nI (mnN (fun i => A (2 ^ k - 1) i + D (P i) 0) i))), (4, .int (nI i))]) (S1 := []) (p2 := 119) (L2 := [(0, .ref 77), (1, .int (nI k)), (2, .int (nI (2 ^ k - 1))), (3, .int (nI (mnN (fun i => A (2 ^ k - 1) i + D (P i) 0) i))), (4, .int (nI i))]) (S2 := []) rfl (fun c_116 => ?_) (fun c_116 => ?_)
    · have k_116 : k ≤ i := (nI_leI (a := k) (b := i) (by omega) (by omega)).mp c_116
      refine wq_run1 (pc' := 159) (L' := [(0, .ref 77), (1, .int (nI k)), (2, .int (nI (2 ^ k - 1))), (3, .int (nI (mnN (fun i => A (2 ^ k - 1) i + D (P i) 0) i))), (4, .int (nI i))]) (S' := [.int (nI (mnN (fun i => A (2 ^ k - 1) i + D (P i) 0) i))]) (f' := (up1 f 82 g)) rfl ?_
      have e : i = k := by omega
      rw [e]
      exact wq_ret rfl ⟨g, _, rfl, rfl, (rd_end hk11 hk0 hD (fun i hi => ⟨(hP i hi).1, (hP i hi).2.1⟩) hinj hS hC).1⟩
    · have k_116 : ¬ k ≤ i := fun q => c_116 ((nI_leI (a := k) (b := i) (by omega) (by omega)).mpr q)
      have hPi := hP i (by omega)
      have hfin : D (P i) 0 < 100000000 := by rw [hD.1 (P i) 0 hPi.1 (by omega)]; exact hPi.2.1
      refine wq_run6 (pc' := 128) (L' := [(0, .ref 77), (1, .int (nI k)), (2, .int (nI (2 ^ k - 1))), (3, .int (nI (mnN (fun i => A (2 ^ k - 1) i + D (P i) 0) i))), (4, .int (nI i))]) (S' := [.int ((nI (2 ^ k - 1)) * 11), .ref 82, .int (nI (mnN (fun i => A (2 ^ k - 1) i + D (P i) 0) i))]) (f' := (up1 f 82 g)) rfl ?_
      refine wq_v (y := (nI ((2 ^ k - 1) * 11))) (pk_mul (2 ^ k - 1) 11) ?_
      refine wq_run2 (pc' := 131) (L' := [(0, .ref 77), (1, .int (nI k)), (2, .int (nI (2 ^ k - 1))), (3, .int (nI (mnN (fun i => A (2 ^ k - 1) i + D (P i) 0) i))), (4, .int (nI i))]) (S' := [.int ((nI ((2 ^ k - 1) * 11)) + (nI i)), .ref 82, .int (nI (mnN (fun i => A (2 ^ k - 1) i + D (P i) 0) i))]) (f' := (up1 f 82 g)) rfl ?_
      refine wq_v (y := (nI (((2 ^ k - 1) * 11) + i))) (nI_add ((2 ^ k - 1) * 11) i) ?_
      have hA_ := (hS (2 ^ k - 1) i (by omega) (by omega)).1
      refine wq_ald (j := (((2 ^ k - 1) * 11) + i)) (n := 22528) (v := (nI (A (2 ^ k - 1) i))) rfl rfl rfl rfl (by omega) (Nat.le_of_ble_eq_true rfl) (hg (2 ^ k - 1) i (by omega) (by omega)) ?_
      refine wq_run5 (pc' := 142) (L' := [(0, .ref 77), (1, .int (nI k)), (2, .int (nI (2 ^ k - 1))), (3, .int (nI (mnN (fun i => A (2 ^ k - 1) i + D (P i) 0) i))), (4, .int (nI i))]) (S' := [.int (nI i), .ref 81, .ref 78, .int (nI (A (2 ^ k - 1) i)), .int (nI (mnN (fun i => A (2 ^ k - 1) i + D (P i) 0) i))]) (f' := (up1 f 82 g)) rfl ?_
      have hP_ := hP i (by omega)
      refine wq_ald (j := i) (n := 11) (v := (nI (P i))) rfl rfl rfl rfl (by omega) (Nat.le_of_ble_eq_true rfl) ((hP i (by omega)).2.2) ?_
      refine wq_run1 (pc' := 144) (L' := [(0, .ref 77), (1, .int (nI k)), (2, .int (nI (2 ^ k - 1))), (3, .int (nI (mnN (fun i => A (2 ^ k - 1) i + D (P i) 0) i))), (4, .int (nI i))]) (S' := [.int 0, .int (nI (P i)), .ref 78, .int (nI (A (2 ^ k - 1) i)), .int (nI (mnN (fun i => A (2 ^ k - 1) i + D (P i) 0) i))]) (f' := (up1 f 82 g)) rfl ?_
      refine wq_callI (r := (nI (D (P i) 0))) ((show Sp 1 12 [.ref 78, .int (nI (P i)), .int (nI 0)] (up1 f 82 g) (Ret (nI (D (P i) 0)) (up1 f 82 g)) by have h := sp_betweenS (f := (up1 f 82 g)) (a := (P i)) (b := 0) hsz hD (by omega) (by omega) hr; rw [dJ_v hfin] at h; exact h)) (Nat.le_of_ble_eq_true rfl) (pc' := 147) (L' := [(0, .ref 77), (1, .int (nI k)), (2, .int (nI (2 ^ k - 1))), (3, .int (nI (mnN (fun i => A (2 ^ k - 1) i + D (P i) 0) i))), (4, .int (nI i))]) (S' := [.int (nI (A (2 ^ k - 1) i)), .int (nI (mnN (fun i => A (2 ^ k - 1) i + D (P i) 0) i))]) rfl (Nat.le_of_ble_eq_true rfl) rfl rfl (Nat.le_of_ble_eq_true rfl) (Nat.le_of_ble_eq_true rfl) ?_
      refine wq_run1 (pc' := 148) (L' := [(0, .ref 77), (1, .int (nI k)), (2, .int (nI (2 ^ k - 1))), (3, .int (nI (mnN (fun i => A (2 ^ k - 1) i + D (P i) 0) i))), (4, .int (nI i))]) (S' := [.int ((nI (A (2 ^ k - 1) i)) + (nI (D (P i) 0))), .int (nI (mnN (fun i => A (2 ^ k - 1) i + D (P i) 0) i))]) (f' := (up1 f 82 g)) rfl ?_
      refine wq_v (y := (nI ((A (2 ^ k - 1) i) + (D (P i) 0)))) (nI_add (A (2 ^ k - 1) i) (D (P i) 0)) ?_
      refine wq_callI (r := (nI (min (mnN (fun i => A (2 ^ k - 1) i + D (P i) 0) i) ((A (2 ^ k - 1) i) + (D (P i) 0))))) ((show Sp 1 217 [.int (nI (mnN (fun i => A (2 ^ k - 1) i + D (P i) 0) i)), .int (nI ((A (2 ^ k - 1) i) + (D (P i) 0)))] (up1 f 82 g) (Ret (nI (min (mnN (fun i => A (2 ^ k - 1) i + D (P i) 0) i) ((A (2 ^ k - 1) i) + (D (P i) 0)))) (up1 f 82 g)) by have h := jp_min (up1 f 82 g) (nI (mnN (fun i => A (2 ^ k - 1) i + D (P i) 0) i)) (nI ((A (2 ^ k - 1) i) + (D (P i) 0))); rw [imin_N (by omega) (by omega)] at h; exact h)) (Nat.le_of_ble_eq_true rfl) (pc' := 151) (L' := [(0, .ref 77), (1, .int (nI k)), (2, .int (nI (2 ^ k - 1))), (3, .int (nI (mnN (fun i => A (2 ^ k - 1) i + D (P i) 0) i))), (4, .int (nI i))]) (S' := []) rfl (Nat.le_of_ble_eq_true rfl) rfl rfl (Nat.le_of_ble_eq_true rfl) (Nat.le_of_ble_eq_true rfl) ?_
      refine wq_run2 (pc' := 155) (L' := [(0, .ref 77), (1, .int (nI k)), (2, .int (nI (2 ^ k - 1))), (3, .int (nI (min (mnN (fun i => A (2 ^ k - 1) i + D (P i) 0) i) ((A (2 ^ k - 1) i) + (D (P i) 0))))), (4, .int ((nI i) + 1))]) (S' := []) (f' := (up1 f 82 g)) rfl ?_
      refine wq_L (L' := [(0, .ref 77), (1, .int (nI k)), (2, .int (nI (2 ^ k - 1))), (3, .int (nI (min (mnN (fun i => A (2 ^ k - 1) i + D (P i) 0) i) ((A (2 ^ k - 1) i) + (D (P i) 0))))), (4, .int (nI (i + 1)))]) (by rw [show nI i + 1 = nI (i + 1) from nI_add _ _]) ?_
      refine wq_run1 (pc' := 113) (L' := [(0, .ref 77), (1, .int (nI k)), (2, .int (nI (2 ^ k - 1))), (3, .int (nI (min (mnN (fun i => A (2 ^ k - 1) i + D (P i) 0) i) ((A (2 ^ k - 1) i) + (D (P i) 0))))), (4, .int (nI (i + 1)))]) (S' := []) (f' := (up1 f 82 g)) rfl ?_
      exact ih (i + 1) (by omega) (by omega)
theorem lp_rdJ {f : HI} {D : Nat → Nat → Nat} {P : Nat → Nat} {k : Nat} (hk11 : k ≤ 11) (hsz : f 78 0 = 12) (hD : Mt 12 100000000 30 D) (hr : ∀ p q, p < 12 → q < 12 → f 79 (p * 12 + q) = nI (D p q)) (hP : ∀ i, i < k → P i < 12 ∧ D 0 (P i) < 100000000 ∧ f 81 i = nI (P i)) (hk0 : 1 ≤ k) (hinj : ∀ i j, i < k → j < k → P i = P j → i = j) {s : Nat} (hs : s < 2 ^ k - 1) (K : ∀ (g : Nat → Int32) (A : Nat → Nat → Nat), (∀ m i, m < 2 ^ k → i < k → g (m * 11 + i) = nI (A m i)) → SndT D P k (2 ^ k - 1) 100000000 A → Cpl D P k (2 ^ k - 1) A (fun _ => True) (dnP (s + 1) 0 0) → wq 3 62 (fun v f' => ∃ g r, v = some (.int (nI r)) ∧ f' = up1 f 82 g ∧ RdP D P k r) 64 [(0, .ref 77), (1, .int (nI k)), (2, .int (nI (2 ^ k - 1))), (3, .int (nI (s + 1)))] [] (up1 f 82 g)) : ∀ (m9 : Nat) (j : Nat) (g : Nat → Int32) (A : Nat → Nat → Nat), (j ≤ k) → (∀ m i, m < 2 ^ k → i < k → g (m * 11 + i) = nI (A m i)) → (SndT D P k (2 ^ k - 1) 100000000 A) → (Cpl D P k (2 ^ k - 1) A (fun _ => True) (dnP s j 0)) → k - j < m9 → wq 3 62 (fun v f' => ∃ g r, v = some (.int (nI r)) ∧ f' = up1 f 82 g ∧ RdP D P k r) 72 [(0, .ref 77), (1, .int (nI k)), (2, .int (nI (2 ^ k - 1))), (3, .int (nI s)), (4, .int (nI j))] [] (up1 f 82 g) := by
  intro m9
  induction m9 with
  | zero => intro j g A hj hg hS hC hn; exact absurd hn (Nat.not_lt_zero _)
  | succ m9 ih =>
    intro j g A hj hg hS hC hn
    have hpk : 2 ^ k ≤ 2048 := pw_le hk11
    have hp0 := p0 k
    have hbb := bN_lt s j
    refine wq_run2 (pc' := 75) (L' := [(0, .ref 77), (1, .int (nI k)), (2, .int (nI (2 ^ k - 1))), (3, .int (nI s)), (4, .int (nI j))]) (S' := [.int (nI k), .int (nI j)]) (f' := (up1 f 82 g)) rfl ?_
    refine wq_if (c := (nI k) ≤ (nI j)) (p1 := 101) (L1 := [(0, .ref 77), (1, .int (nI k)), (2, .int (nI (2 ^ k - 1))), (3, .int (nI s)), (4, .int (nI j))]) (S1 := []) (p2 := 78) (L2 := [(0, .ref 77), (1, .int (nI k)), (2, .int (nI (2 ^ k - 1))), (3, .int (nI s)), (4, .int (nI j))]) (S2 := []) rfl (fun c_75 => ?_) (fun c_75 => ?_)
    · have k_75 : k ≤ j := (nI_leI (a := k) (b := j) (by omega) (by omega)).mp c_75
      refine wq_run1 (pc' := 104) (L' := [(0, .ref 77), (1, .int (nI k)), (2, .int (nI (2 ^ k - 1))), (3, .int ((nI s) + 1)), (4, .int (nI j))]) (S' := []) (f' := (up1 f 82 g)) rfl ?_
      refine wq_L (L' := [(0, .ref 77), (1, .int (nI k)), (2, .int (nI (2 ^ k - 1))), (3, .int (nI (s + 1))), (4, .int (nI j))]) (by rw [show nI s + 1 = nI (s + 1) from nI_add _ _]) ?_
      refine wq_run1 (pc' := 64) (L' := [(0, .ref 77), (1, .int (nI k)), (2, .int (nI (2 ^ k - 1))), (3, .int (nI (s + 1)))]) (S' := []) (f' := (up1 f 82 g)) rfl ?_
      have e : j = k := by omega
      rw [e] at hC
      exact K g A hg hS (cp_mono hC (fun _ _ _ z => z) (fun p j2 i l' hp hv hj2 hi hb1 hb2 hbS hd => by
        skip
        unfold dnP at hd ⊢
        omega))
    · have k_75 : ¬ k ≤ j := fun q => c_75 ((nI_leI (a := k) (b := j) (by omega) (by omega)).mpr q)
      refine wq_run5 (pc' := 84) (L' := [(0, .ref 77), (1, .int (nI k)), (2, .int (nI (2 ^ k - 1))), (3, .int (nI s)), (4, .int (nI j))]) (S' := [.int (((nI s) >>> ((nI j) &&& 31)) &&& 1)]) (f' := (up1 f 82 g)) rfl ?_
      refine wq_v (y := (nI (bN s j))) (bitN (by omega) (by omega)) ?_
      refine wq_if (c := (nI (bN s j)) = 0) (p1 := 95) (L1 := [(0, .ref 77), (1, .int (nI k)), (2, .int (nI (2 ^ k - 1))), (3, .int (nI s)), (4, .int (nI j))]) (S1 := []) (p2 := 87) (L2 := [(0, .ref 77), (1, .int (nI k)), (2, .int (nI (2 ^ k - 1))), (3, .int (nI s)), (4, .int (nI j))]) (S2 := []) rfl (fun c_84 => ?_) (fun c_84 => ?_)
      · have k_84 : (bN s j) = 0 := (nI_eq (a := (bN s j)) (b := 0) (by omega) (by omega)).mp c_84
        refine wq_run1 (pc' := 98) (L' := [(0, .ref 77), (1, .int (nI k)), (2, .int (nI (2 ^ k - 1))), (3, .int (nI s)), (4, .int ((nI j) + 1))]) (S' := []) (f' := (up1 f 82 g)) rfl ?_
        refine wq_L (L' := [(0, .ref 77), (1, .int (nI k)), (2, .int (nI (2 ^ k - 1))), (3, .int (nI s)), (4, .int (nI (j + 1)))]) (by rw [show nI j + 1 = nI (j + 1) from nI_add _ _]) ?_
        refine wq_run1 (pc' := 72) (L' := [(0, .ref 77), (1, .int (nI k)), (2, .int (nI (2 ^ k - 1))), (3, .int (nI s)), (4, .int (nI (j + 1)))]) (S' := []) (f' := (up1 f 82 g)) rfl ?_
        exact ih (j + 1) g A (by omega) hg hS (cp_mono hC (fun _ _ _ z => z) (fun p j2 i l' hp hv hj2 hi hb1 hb2 hbS hd => by
          have z : ¬ (p = s ∧ j2 = j) := fun q => by rw [q.1, q.2] at hb1; omega
          unfold dnP at hd ⊢
          omega)) (by omega)
      · have k_84 : ¬ (bN s j) = 0 := fun q => c_84 ((nI_eq (a := (bN s j)) (b := 0) (by omega) (by omega)).mpr q)
        refine wq_run4 (pc' := 92) (L' := [(0, .ref 77), (1, .int (nI k)), (2, .int (nI (2 ^ k - 1))), (3, .int (nI s)), (4, .int (nI j))]) (S' := [.int (nI k), .int (nI j), .int (nI s), .ref 77]) (f' := (up1 f 82 g)) rfl ?_
        refine wq_call (sp_goOn hk11 hsz hD hr hP (s := s) (j := j) (g := g) (A := A) (by omega) (by omega) hg hS hC) (Nat.le_of_ble_eq_true rfl) (pc' := 95) (L' := [(0, .ref 77), (1, .int (nI k)), (2, .int (nI (2 ^ k - 1))), (3, .int (nI s)), (4, .int (nI j))]) (S' := []) rfl (Nat.le_of_ble_eq_true rfl) rfl rfl (Nat.le_of_ble_eq_true rfl) (Nat.le_of_ble_eq_true rfl) ?_
        rintro v f9 ⟨g2, A2, e0, ef, hg2, hS2, hC2⟩
        subst e0
        subst ef
        refine wq_run1 (pc' := 98) (L' := [(0, .ref 77), (1, .int (nI k)), (2, .int (nI (2 ^ k - 1))), (3, .int (nI s)), (4, .int ((nI j) + 1))]) (S' := []) (f' := (up1 f 82 g2)) rfl ?_
        refine wq_L (L' := [(0, .ref 77), (1, .int (nI k)), (2, .int (nI (2 ^ k - 1))), (3, .int (nI s)), (4, .int (nI (j + 1)))]) (by rw [show nI j + 1 = nI (j + 1) from nI_add _ _]) ?_
        refine wq_run1 (pc' := 72) (L' := [(0, .ref 77), (1, .int (nI k)), (2, .int (nI (2 ^ k - 1))), (3, .int (nI s)), (4, .int (nI (j + 1)))]) (S' := []) (f' := (up1 f 82 g2)) rfl ?_
        have hC := hC2
        exact ih (j + 1) g2 A2 (by omega) hg2 hS2 (cp_mono hC (fun _ _ _ z => z) (fun p j2 i l' hp hv hj2 hi hb1 hb2 hbS hd => by
          skip
          unfold dnP at hd ⊢
          omega)) (by omega)
theorem lp_rdS {f : HI} {D : Nat → Nat → Nat} {P : Nat → Nat} {k : Nat} (hk11 : k ≤ 11) (hsz : f 78 0 = 12) (hD : Mt 12 100000000 30 D) (hr : ∀ p q, p < 12 → q < 12 → f 79 (p * 12 + q) = nI (D p q)) (hP : ∀ i, i < k → P i < 12 ∧ D 0 (P i) < 100000000 ∧ f 81 i = nI (P i)) (hk0 : 1 ≤ k) (hinj : ∀ i j, i < k → j < k → P i = P j → i = j) : ∀ (m9 : Nat) (s : Nat) (g : Nat → Int32) (A : Nat → Nat → Nat), (s ≤ 2 ^ k - 1) → (1 ≤ s) → (∀ m i, m < 2 ^ k → i < k → g (m * 11 + i) = nI (A m i)) → (SndT D P k (2 ^ k - 1) 100000000 A) → (Cpl D P k (2 ^ k - 1) A (fun _ => True) (dnP s 0 0)) → 2 ^ k - 1 - s < m9 → wq 3 62 (fun v f' => ∃ g r, v = some (.int (nI r)) ∧ f' = up1 f 82 g ∧ RdP D P k r) 64 [(0, .ref 77), (1, .int (nI k)), (2, .int (nI (2 ^ k - 1))), (3, .int (nI s))] [] (up1 f 82 g) := by
  intro m9
  induction m9 with
  | zero => intro s g A hs hs1 hg hS hC hn; exact absurd hn (Nat.not_lt_zero _)
  | succ m9 ih =>
    intro s g A hs hs1 hg hS hC hn
    have hpk : 2 ^ k ≤ 2048 := pw_le hk11
    have hp0 := p0 k
    refine wq_run2 (pc' := 66) (L' := [(0, .ref 77), (1, .int (nI k)), (2, .int (nI (2 ^ k - 1))), (3, .int (nI s))]) (S' := [.int (nI (2 ^ k - 1)), .int (nI s)]) (f' := (up1 f 82 g)) rfl ?_
    refine wq_if (c := (nI (2 ^ k - 1)) ≤ (nI s)) (p1 := 107) (L1 := [(0, .ref 77), (1, .int (nI k)), (2, .int (nI (2 ^ k - 1))), (3, .int (nI s))]) (S1 := []) (p2 := 69) (L2 := [(0, .ref 77), (1, .int (nI k)), (2, .int (nI (2 ^ k - 1))), (3, .int (nI s))]) (S2 := []) rfl (fun c_66 => ?_) (fun c_66 => ?_)
    · have k_66 : (2 ^ k - 1) ≤ s := (nI_leI (a := (2 ^ k - 1)) (b := s) (by omega) (by omega)).mp c_66
      refine wq_run4 (pc' := 113) (L' := [(0, .ref 77), (1, .int (nI k)), (2, .int (nI (2 ^ k - 1))), (3, .int 100000000), (4, .int 0)]) (S' := []) (f' := (up1 f 82 g)) rfl ?_
      have e : s = 2 ^ k - 1 := by omega
      rw [e] at hC
      exact lp_rdEnd hk11 hsz hD hr hP hk0 hinj hg hS hC (k - 0 + 1) 0 (Nat.zero_le _) (Nat.lt_succ_self _)
    · have k_66 : ¬ (2 ^ k - 1) ≤ s := fun q => c_66 ((nI_leI (a := (2 ^ k - 1)) (b := s) (by omega) (by omega)).mpr q)
      refine wq_run2 (pc' := 72) (L' := [(0, .ref 77), (1, .int (nI k)), (2, .int (nI (2 ^ k - 1))), (3, .int (nI s)), (4, .int 0)]) (S' := []) (f' := (up1 f 82 g)) rfl ?_
      exact lp_rdJ hk11 hsz hD hr hP hk0 hinj (s := s) (by omega) (fun g A h1 h2 h3 => ih (s + 1) g A (by omega) (by omega) h1 h2 h3 (by omega)) (k - 0 + 1) 0 g A (Nat.zero_le _) hg hS hC (Nat.lt_succ_self _)
theorem lp_rd0 {f : HI} {D : Nat → Nat → Nat} {P : Nat → Nat} {k : Nat} (hk11 : k ≤ 11) (hsz : f 78 0 = 12) (hD : Mt 12 100000000 30 D) (hr : ∀ p q, p < 12 → q < 12 → f 79 (p * 12 + q) = nI (D p q)) (hP : ∀ i, i < k → P i < 12 ∧ D 0 (P i) < 100000000 ∧ f 81 i = nI (P i)) (hk0 : 1 ≤ k) (hinj : ∀ i j, i < k → j < k → P i = P j → i = j) : ∀ (m9 : Nat) (t : Nat) (g : Nat → Int32), (t ≤ k) → (∀ m i, m < 2 ^ k → i < k → g (m * 11 + i) = nI (a0N D P t m i)) → k - t < m9 → wq 3 62 (fun v f' => ∃ g r, v = some (.int (nI r)) ∧ f' = up1 f 82 g ∧ RdP D P k r) 24 [(0, .ref 77), (1, .int (nI k)), (2, .int (nI (2 ^ k - 1))), (3, .int (nI t))] [] (up1 f 82 g) := by
  intro m9
  induction m9 with
  | zero => intro t g ht hg hn; exact absurd hn (Nat.not_lt_zero _)
  | succ m9 ih =>
    intro t g ht hg hn
    have hpk : 2 ^ k ≤ 2048 := pw_le hk11
    have hp0 := p0 k
    refine wq_run2 (pc' := 26) (L' := [(0, .ref 77), (1, .int (nI k)), (2, .int (nI (2 ^ k - 1))), (3, .int (nI t))]) (S' := [.int (nI k), .int (nI t)]) (f' := (up1 f 82 g)) rfl ?_
    refine wq_if (c := (nI k) ≤ (nI t)) (p1 := 62) (L1 := [(0, .ref 77), (1, .int (nI k)), (2, .int (nI (2 ^ k - 1))), (3, .int (nI t))]) (S1 := []) (p2 := 29) (L2 := [(0, .ref 77), (1, .int (nI k)), (2, .int (nI (2 ^ k - 1))), (3, .int (nI t))]) (S2 := []) rfl (fun c_26 => ?_) (fun c_26 => ?_)
    · have k_26 : k ≤ t := (nI_leI (a := k) (b := t) (by omega) (by omega)).mp c_26
      refine wq_run2 (pc' := 64) (L' := [(0, .ref 77), (1, .int (nI k)), (2, .int (nI (2 ^ k - 1))), (3, .int 1)]) (S' := []) (f' := (up1 f 82 g)) rfl ?_
      have e : t = k := by omega
      rw [e] at hg
      have hk2 : 2 ≤ 2 ^ k := pw_le (i := 1) hk0
      exact lp_rdS hk11 hsz hD hr hP hk0 hinj (2 ^ k - 1 - 1 + 1) 1 g _ (by omega) (Nat.le_refl _) hg (snT_0 (fun i hi => (hP i hi).2.1)) cpT_0 (Nat.lt_succ_self _)
    · have k_26 : ¬ k ≤ t := fun q => c_26 ((nI_leI (a := k) (b := t) (by omega) (by omega)).mpr q)
      have hPt := hP t (by omega)
      have hpt : 2 ^ t < 2 ^ k := Nat.pow_lt_pow_right (by decide) (by omega)
      refine wq_run5 (pc' := 36) (L' := [(0, .ref 77), (1, .int (nI k)), (2, .int (nI (2 ^ k - 1))), (3, .int (nI t))]) (S' := [.int ((1 : Int32) <<< ((nI t) &&& 31)), .ref 82]) (f' := (up1 f 82 g)) rfl ?_
      refine wq_v (y := (nI (2 ^ t))) (shl1 (n := t) (by omega)) ?_
      refine wq_run2 (pc' := 39) (L' := [(0, .ref 77), (1, .int (nI k)), (2, .int (nI (2 ^ k - 1))), (3, .int (nI t))]) (S' := [.int ((nI (2 ^ t)) * 11), .ref 82]) (f' := (up1 f 82 g)) rfl ?_
      refine wq_v (y := (nI ((2 ^ t) * 11))) (pk_mul (2 ^ t) 11) ?_
      refine wq_run2 (pc' := 41) (L' := [(0, .ref 77), (1, .int (nI k)), (2, .int (nI (2 ^ k - 1))), (3, .int (nI t))]) (S' := [.int ((nI ((2 ^ t) * 11)) + (nI t)), .ref 82]) (f' := (up1 f 82 g)) rfl ?_
      refine wq_v (y := (nI (((2 ^ t) * 11) + t))) (nI_add ((2 ^ t) * 11) t) ?_
      refine wq_run6 (pc' := 51) (L' := [(0, .ref 77), (1, .int (nI k)), (2, .int (nI (2 ^ k - 1))), (3, .int (nI t))]) (S' := [.int (nI t), .ref 81, .int 0, .ref 78, .int (nI (((2 ^ t) * 11) + t)), .ref 82]) (f' := (up1 f 82 g)) rfl ?_
      have hP_ := hP t (by omega)
      refine wq_ald (j := t) (n := 11) (v := (nI (P t))) rfl rfl rfl rfl (by omega) (Nat.le_of_ble_eq_true rfl) ((hP t (by omega)).2.2) ?_
      refine wq_callI (r := (nI (D 0 (P t)))) ((show Sp 1 12 [.ref 78, .int (nI 0), .int (nI (P t))] (up1 f 82 g) (Ret (nI (D 0 (P t))) (up1 f 82 g)) by have h := sp_betweenS (f := (up1 f 82 g)) (a := 0) (b := (P t)) hsz hD (by omega) (by omega) hr; rw [dJ_v hPt.2.1] at h; exact h)) (Nat.le_of_ble_eq_true rfl) (pc' := 55) (L' := [(0, .ref 77), (1, .int (nI k)), (2, .int (nI (2 ^ k - 1))), (3, .int (nI t))]) (S' := [.int (nI (((2 ^ t) * 11) + t)), .ref 82]) rfl (Nat.le_of_ble_eq_true rfl) rfl rfl (Nat.le_of_ble_eq_true rfl) (Nat.le_of_ble_eq_true rfl) ?_
      refine wq_ist (j := (((2 ^ t) * 11) + t)) (n := 22528) rfl rfl rfl rfl (by omega) (Nat.le_of_ble_eq_true rfl) ?_
      refine wq_h (f' := (up1 f 82 (upd g (((2 ^ t) * 11) + t) (nI (D 0 (P t)))))) ((up2_up1_eq f 82 g (((2 ^ t) * 11) + t) (nI (D 0 (P t)))).trans (congrArg (fun z => up1 f 82 z) (rfl))) ?_
      refine wq_run1 (pc' := 59) (L' := [(0, .ref 77), (1, .int (nI k)), (2, .int (nI (2 ^ k - 1))), (3, .int ((nI t) + 1))]) (S' := []) (f' := (up1 f 82 (upd g (((2 ^ t) * 11) + t) (nI (D 0 (P t)))))) rfl ?_
      refine wq_L (L' := [(0, .ref 77), (1, .int (nI k)), (2, .int (nI (2 ^ k - 1))), (3, .int (nI (t + 1)))]) (by rw [show nI t + 1 = nI (t + 1) from nI_add _ _]) ?_
      refine wq_run1 (pc' := 24) (L' := [(0, .ref 77), (1, .int (nI k)), (2, .int (nI (2 ^ k - 1))), (3, .int (nI (t + 1)))]) (S' := []) (f' := (up1 f 82 (upd g (((2 ^ t) * 11) + t) (nI (D 0 (P t)))))) rfl ?_
      refine ih (t + 1) _ (by omega) (fun m i hm hi => ?_) (by omega)
      have h9 := pic_up hk11 (show t < k by omega) hg (m0 := 2 ^ t) (v := D 0 (P t)) m i hm hi
      refine h9.trans (congrArg nI ?_)
      unfold updE a0N
      by_cases c : m = 2 ^ t ∧ i = t
      · rw [if_pos c, if_pos ⟨by rw [c.1, c.2], by omega⟩, c.2]
      · rw [if_neg c]
        by_cases c2 : m = 2 ^ i ∧ i < t
        · rw [if_pos c2, if_pos ⟨c2.1, by omega⟩]
        · rw [if_neg c2, if_neg (fun q => c2 ⟨q.1, by
            rcases Nat.lt_or_ge i t with z | z
            · exact z
            · have e1 : i = t := by omega
              exact absurd ⟨by rw [q.1, e1], e1⟩ c⟩)]
theorem sp_roundOf {f : HI} {D : Nat → Nat → Nat} {P : Nat → Nat} {k : Nat} (hk11 : k ≤ 11) (hsz : f 78 0 = 12) (hD : Mt 12 100000000 30 D) (hr : ∀ p q, p < 12 → q < 12 → f 79 (p * 12 + q) = nI (D p q)) (hP : ∀ i, i < k → P i < 12 ∧ D 0 (P i) < 100000000 ∧ f 81 i = nI (P i)) (hk0 : 1 ≤ k) (hinj : ∀ i j, i < k → j < k → P i = P j → i = j) : Sp 3 62 [.ref 77, .int (nI k)] f (fun v f' => ∃ g r, v = some (.int (nI r)) ∧ f' = up1 f 82 g ∧ RdP D P k r) := by
  have hpk : 2 ^ k ≤ 2048 := pw_le hk11
  have hp0 := p0 k
  show wq 3 62 (fun v f' => ∃ g r, v = some (.int (nI r)) ∧ f' = up1 f 82 g ∧ RdP D P k r) 0 [(0, .ref 77), (1, .int (nI k))] [] f
  refine wq_run3 (pc' := 3) (L' := [(0, .ref 77), (1, .int (nI k))]) (S' := [.int ((1 : Int32) <<< ((nI k) &&& 31))]) (f' := f) rfl ?_
  refine wq_v (y := (nI (2 ^ k))) (shl1 (n := k) (by omega)) ?_
  refine wq_run2 (pc' := 5) (L' := [(0, .ref 77), (1, .int (nI k))]) (S' := [.int ((nI (2 ^ k)) - 1)]) (f' := f) rfl ?_
  refine wq_v (y := (nI ((2 ^ k) - 1))) (pk_sub (a := (2 ^ k)) (b := 1) (by omega)) ?_
  refine wq_run7 (pc' := 14) (L' := [(0, .ref 77), (1, .int (nI k)), (2, .int (nI ((2 ^ k) - 1)))]) (S' := [.int ((nI ((2 ^ k) - 1)) + 1), .int 0, .ref 82]) (f' := f) rfl ?_
  refine wq_v (y := (nI (((2 ^ k) - 1) + 1))) (nI_add ((2 ^ k) - 1) 1) ?_
  refine wq_run2 (pc' := 17) (L' := [(0, .ref 77), (1, .int (nI k)), (2, .int (nI ((2 ^ k) - 1)))]) (S' := [.int ((nI (((2 ^ k) - 1) + 1)) * 11), .int 0, .ref 82]) (f' := f) rfl ?_
  refine wq_v (y := (nI ((((2 ^ k) - 1) + 1) * 11))) (pk_mul (((2 ^ k) - 1) + 1) 11) ?_
  refine wq_run1 (pc' := 19) (L' := [(0, .ref 77), (1, .int (nI k)), (2, .int (nI ((2 ^ k) - 1)))]) (S' := [.int 100000000, .int (nI ((((2 ^ k) - 1) + 1) * 11)), .int 0, .ref 82]) (f' := f) rfl ?_
  refine wq_callV (g := (up1 f 82 (flN 100000000 (f 82) ((((2 ^ k) - 1) + 1) * 11)))) (jp_fillW f 100000000 (m := ((((2 ^ k) - 1) + 1) * 11)) (by omega)) (Nat.le_of_ble_eq_true rfl) (pc' := 22) (L' := [(0, .ref 77), (1, .int (nI k)), (2, .int (nI ((2 ^ k) - 1)))]) (S' := []) rfl (Nat.le_of_ble_eq_true rfl) rfl rfl (Nat.le_of_ble_eq_true rfl) (Nat.le_of_ble_eq_true rfl) ?_
  refine wq_run2 (pc' := 24) (L' := [(0, .ref 77), (1, .int (nI k)), (2, .int (nI ((2 ^ k) - 1))), (3, .int 0)]) (S' := []) (f' := (up1 f 82 (flN 100000000 (f 82) ((((2 ^ k) - 1) + 1) * 11)))) rfl ?_
  exact lp_rd0 hk11 hsz hD hr hP hk0 hinj (k - 0 + 1) 0 _ (Nat.zero_le _) (fun m i hm hi => by
    have h1 : m * 11 + i < (2 ^ k - 1 + 1) * 11 := by omega
    have h2 : a0N D P 0 m i = 100000000 := if_neg (fun q => Nat.not_lt_zero _ q.2)
    rw [h2]
    exact if_pos h1) (Nat.lt_succ_self _)
