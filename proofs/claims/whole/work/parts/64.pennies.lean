/-! the hour: the pennies of a run (class) -/
theorem ap_lo (f : HI) : ∀ (o : Option Nat) {r : Nat}, r < 47 → apO f o r = f r
  | none, _, _ => rfl
  | some _, _, h => up1_f (by omega)
def itA (f : HI) (n : Nat) (run : Int32) : Nat → HI
  | 0 => f
  | k + 1 => apO (itA f n run k) (mxN (fun j => itA f n run k (47 + j) 17) (fun j => itA f n run k (47 + j) 18) run n)
theorem it_lo (f : HI) (n : Nat) (run : Int32) : ∀ (k : Nat) {r : Nat}, r < 47 → itA f n run k r = f r
  | 0, _, _ => rfl
  | k + 1, _, h => (ap_lo _ _ h).trans (it_lo f n run k h)
def enR (f : HI) (n : Nat) (run cost : Int32) : HI := up1 (mapL (cEn run) f n) 43 (upd (mapL (cEn run) f n 43) 9 (mapL (cEn run) f n 43 9 + cost))
theorem lp_pennies {f : HI} {n r : Nat} {run cost : Int32} (hc : f 43 6 = nI n) (hn24 : n ≤ 24) (hr : r < 2 ^ 31) : ∀ (m9 : Nat) (k : Nat) (f1 : HI), (k ≤ r) → (f1 = itA f n run k) → r - k < m9 → wq 4 38 (fun v f' => v = none ∧ f' = enR (itA f n run r) n run cost) 153 [(0, .ref 43), (1, .int run), (2, .int cost), (4, .int (nI r)), (5, .int (nI k))] [] f1 := by
  intro m9
  induction m9 with
  | zero => intro k f1 hk hf hn; exact absurd hn (Nat.not_lt_zero _)
  | succ m9 ih =>
    intro k f1 hk hf hn
    have h6 : f1 43 6 = nI n := by rw [hf]; exact (congrFun (it_lo f n run k (by decide)) 6).trans hc
    refine wq_run2 (pc' := 157) (L' := [(0, .ref 43), (1, .int run), (2, .int cost), (4, .int (nI r)), (5, .int (nI k))]) (S' := [.int (nI r), .int (nI k)]) (f' := f1) rfl ?_
    refine wq_if (c := (nI r) ≤ (nI k)) (p1 := 171) (L1 := [(0, .ref 43), (1, .int run), (2, .int cost), (4, .int (nI r)), (5, .int (nI k))]) (S1 := []) (p2 := 160) (L2 := [(0, .ref 43), (1, .int run), (2, .int cost), (4, .int (nI r)), (5, .int (nI k))]) (S2 := []) rfl (fun c_157 => ?_) (fun c_157 => ?_)
    · have k_157 : r ≤ k := (nI_leI (a := r) (b := k) (by omega) (by omega)).mp c_157
      refine wq_run2 (pc' := 173) (L' := [(0, .ref 43), (1, .int run), (2, .int cost), (4, .int (nI r)), (5, .int (nI k))]) (S' := [.int run, .ref 43]) (f' := f1) rfl ?_
      refine wq_call (sp_endRun (f := f1) (n := n) (run := run) h6 hn24) (Nat.le_of_ble_eq_true rfl) (pc' := 176) (L' := [(0, .ref 43), (1, .int run), (2, .int cost), (4, .int (nI r)), (5, .int (nI k))]) (S' := []) rfl (Nat.le_of_ble_eq_true rfl) rfl rfl (Nat.le_of_ble_eq_true rfl) (Nat.le_of_ble_eq_true rfl) ?_
      rintro v f9 ⟨e0, ef⟩
      subst e0
      subst ef
      refine wq_run6 (pc' := 186) (L' := [(0, .ref 43), (1, .int run), (2, .int cost), (4, .int (nI r)), (5, .int (nI k))]) (S' := []) (f' := (up2 (mapL (cEn run) f1 n) 43 9 (((mapL (cEn run) f1 n) 43 9) + cost))) rfl ?_
      have e : k = r := by omega
      exact wq_ret rfl ⟨rfl, by rw [up2_eq1, ← e, ← hf]; rfl⟩
    · have k_157 : ¬ r ≤ k := fun q => c_157 ((nI_leI (a := r) (b := k) (by omega) (by omega)).mpr q)
      refine wq_run2 (pc' := 162) (L' := [(0, .ref 43), (1, .int run), (2, .int cost), (4, .int (nI r)), (5, .int (nI k))]) (S' := [.int run, .ref 43]) (f' := f1) rfl ?_
      refine wq_call (sp_addPenny (f := f1) (n := n) (run := run) h6 hn24) (Nat.le_of_ble_eq_true rfl) (pc' := 165) (L' := [(0, .ref 43), (1, .int run), (2, .int cost), (4, .int (nI r)), (5, .int (nI k))]) (S' := []) rfl (Nat.le_of_ble_eq_true rfl) rfl rfl (Nat.le_of_ble_eq_true rfl) (Nat.le_of_ble_eq_true rfl) ?_
      rintro v f9 ⟨e0, ef⟩
      subst e0
      subst ef
      refine wq_run1 (pc' := 168) (L' := [(0, .ref 43), (1, .int run), (2, .int cost), (4, .int (nI r)), (5, .int ((nI k) + 1))]) (S' := []) (f' := (apO f1 (mxN (fun j => f1 (47 + j) 17) (fun j => f1 (47 + j) 18) run n))) rfl ?_
      refine wq_L (L' := [(0, .ref 43), (1, .int run), (2, .int cost), (4, .int (nI r)), (5, .int (nI (k + 1)))]) (by rw [show nI k + 1 = nI (k + 1) from nI_add _ _]) ?_
      refine wq_run1 (pc' := 153) (L' := [(0, .ref 43), (1, .int run), (2, .int cost), (4, .int (nI r)), (5, .int (nI (k + 1)))]) (S' := []) (f' := (apO f1 (mxN (fun j => f1 (47 + j) 17) (fun j => f1 (47 + j) 18) run n))) rfl ?_
      exact ih (k + 1) _ (by omega) (by rw [hf]; rfl) (by omega)
