/-! write, erase, force -/
theorem sp_append {f : HI} {p : Nat} (v : Int32) (hp : p < 160) (hg : f 11 1 = nI p) : Sp 1 65 [.ref 11, .int v] f (RetV (up2 (up2 f 12 p v) 11 1 (nI (p + 1)))) := by
  show wq 1 65 (RetV (up2 (up2 f 12 p v) 11 1 (nI (p + 1)))) 0 [(0, .ref 11), (1, .int v)] [] f
  refine wq_run2 (pc' := 4) (L' := [(0, .ref 11), (1, .int v)]) (S' := [.int (f 11 1)]) (f' := f) rfl ?_
  refine wq_v (y := (nI p)) (hg) ?_
  refine wq_run1 (pc' := 7) (L' := [(0, .ref 11), (1, .int v)]) (S' := [.int 160, .int (nI p)]) (f' := f) rfl ?_
  refine wq_if (c := (nI p) < 160) (p1 := 11) (L1 := [(0, .ref 11), (1, .int v)]) (S1 := []) (p2 := 10) (L2 := [(0, .ref 11), (1, .int v)]) (S2 := []) rfl (fun _ => ?_) (fun q => absurd ((nI_ltI (a := p) (b := 160) (by omega) (by omega)).mpr (by omega)) q)
  refine wq_run4 (pc' := 19) (L' := [(0, .ref 11), (1, .int v)]) (S' := [.int (f 11 1), .ref 12]) (f' := f) rfl ?_
  refine wq_v (y := (nI p)) (hg) ?_
  refine wq_run1 (pc' := 20) (L' := [(0, .ref 11), (1, .int v)]) (S' := [.int v, .int (nI p), .ref 12]) (f' := f) rfl ?_
  refine wq_ist (j := p) (n := 160) rfl rfl rfl rfl (by omega) (Nat.le_of_ble_eq_true rfl) ?_
  refine wq_run3 (pc' := 26) (L' := [(0, .ref 11), (1, .int v)]) (S' := [.int (f 11 1), .ref 11]) (f' := (up2 f 12 p v)) rfl ?_
  refine wq_v (y := (nI p)) (hg) ?_
  refine wq_run2 (pc' := 28) (L' := [(0, .ref 11), (1, .int v)]) (S' := [.int ((nI p) + 1), .ref 11]) (f' := (up2 f 12 p v)) rfl ?_
  refine wq_v (y := (nI (p + 1))) (nI_add p 1) ?_
  refine wq_run1 (pc' := 31) (L' := [(0, .ref 11), (1, .int v)]) (S' := []) (f' := (up2 (up2 f 12 p v) 11 1 (nI (p + 1)))) rfl ?_
  exact wq_ret rfl ⟨rfl, rfl⟩
def byI (x : Int64) (i : Nat) : Int32 := ((x >>> ((nI (8 * i)).toInt64 &&& 63)) &&& 255).toInt32
theorem lp_write {f : HI} {p n : Nat} (x : Int64) (hn1 : 1 ≤ n) (hn8 : n ≤ 8) (hp : p + n ≤ 160) : ∀ (m9 : Nat) (i : Nat) (t : Nat → Int32), (i ≤ n) → (∀ j, j < p → t j = f 12 j) → (∀ j, j < i → t (p + j) = byI x j) → n - i < m9 → wq 2 86 (fun v f' => ∃ t g, v = some (.int (nI (p + n))) ∧ f' = up1 (up1 f 12 t) 11 g ∧ g = upd (f 11) 1 (nI (p + n)) ∧ (∀ j, j < p → t j = f 12 j) ∧ ∀ j, j < n → t (p + j) = byI x j) 34 [(0, .ref 0), (1, .long x), (3, .int (nI n)), (4, .int (nI i))] [] (up1 (up1 f 12 t) 11 (upd (f 11) 1 (nI (p + i)))) := by
  intro m9
  induction m9 with
  | zero => intro i t hi h1 h2 hn; exact absurd hn (Nat.not_lt_zero _)
  | succ m9 ih =>
    intro i t hi h1 h2 hn
    refine wq_run2 (pc' := 37) (L' := [(0, .ref 0), (1, .long x), (3, .int (nI n)), (4, .int (nI i))]) (S' := [.int (nI n), .int (nI i)]) (f' := (up1 (up1 f 12 t) 11 (upd (f 11) 1 (nI (p + i))))) rfl ?_
    refine wq_if (c := (nI n) ≤ (nI i)) (p1 := 65) (L1 := [(0, .ref 0), (1, .long x), (3, .int (nI n)), (4, .int (nI i))]) (S1 := []) (p2 := 40) (L2 := [(0, .ref 0), (1, .long x), (3, .int (nI n)), (4, .int (nI i))]) (S2 := []) rfl (fun c_37 => ?_) (fun c_37 => ?_)
    · have k_37 : n ≤ i := (nI_leI (a := n) (b := i) (by omega) (by omega)).mp c_37
      refine wq_run3 (pc' := 72) (L' := [(0, .ref 0), (1, .long x), (3, .int (nI n)), (4, .int (nI i))]) (S' := [.int (nI (p + i))]) (f' := (up1 (up1 f 12 t) 11 (upd (f 11) 1 (nI (p + i))))) rfl ?_
      have e : i = n := by omega
      rw [e] at h2 ⊢
      exact wq_ret rfl ⟨t, _, rfl, rfl, rfl, h1, h2⟩
    · have k_37 : ¬ n ≤ i := fun q => c_37 ((nI_leI (a := n) (b := i) (by omega) (by omega)).mpr q)
      refine wq_run6 (pc' := 50) (L' := [(0, .ref 0), (1, .long x), (3, .int (nI n)), (4, .int (nI i))]) (S' := [.int (8 * (nI i)), .long x, .ref 11]) (f' := (up1 (up1 f 12 t) 11 (upd (f 11) 1 (nI (p + i))))) rfl ?_
      refine wq_v (y := (nI (8 * i))) (pk_mul 8 i) ?_
      refine wq_run4 (pc' := 56) (L' := [(0, .ref 0), (1, .long x), (3, .int (nI n)), (4, .int (nI i))]) (S' := [.int ((x >>> ((nI (8 * i)).toInt64 &&& 63)) &&& 255).toInt32, .ref 11]) (f' := (up1 (up1 f 12 t) 11 (upd (f 11) 1 (nI (p + i))))) rfl ?_
      refine wq_callV (g := (up2 (up2 (up1 (up1 f 12 t) 11 (upd (f 11) 1 (nI (p + i)))) 12 (p + i) (((x >>> ((nI (8 * i)).toInt64 &&& 63)) &&& 255).toInt32)) 11 1 (nI (p + i + 1)))) (sp_append (f := (up1 (up1 f 12 t) 11 (upd (f 11) 1 (nI (p + i))))) (p := p + i) (((x >>> ((nI (8 * i)).toInt64 &&& 63)) &&& 255).toInt32) (by omega) rfl) (Nat.le_of_ble_eq_true rfl) (pc' := 59) (L' := [(0, .ref 0), (1, .long x), (3, .int (nI n)), (4, .int (nI i))]) (S' := []) rfl (Nat.le_of_ble_eq_true rfl) rfl rfl (Nat.le_of_ble_eq_true rfl) (Nat.le_of_ble_eq_true rfl) ?_
      refine wq_h (f' := (up1 (up1 f 12 (upd t (p + i) (((x >>> ((nI (8 * i)).toInt64 &&& 63)) &&& 255).toInt32))) 11 (upd (f 11) 1 (nI (p + i + 1))))) (by rw [show up2 (up1 (up1 f 12 t) 11 (upd (f 11) 1 (nI (p + i)))) 12 (p + i) (((x >>> ((nI (8 * i)).toInt64 &&& 63)) &&& 255).toInt32) = _ from (up2_up1_ne (f := (up1 f 12 t)) (g := (upd (f 11) 1 (nI (p + i)))) (k := (p + i)) (v := (((x >>> ((nI (8 * i)).toInt64 &&& 63)) &&& 255).toInt32)) (show (12 : Nat) ≠ 11 by decide)).trans (congrArg (fun z => up1 z 11 (upd (f 11) 1 (nI (p + i)))) ((up2_up1_eq f 12 t (p + i) (((x >>> ((nI (8 * i)).toInt64 &&& 63)) &&& 255).toInt32)).trans (congrArg (fun z => up1 f 12 z) (rfl)))), show up2 (up1 (up1 f 12 (upd t (p + i) (((x >>> ((nI (8 * i)).toInt64 &&& 63)) &&& 255).toInt32))) 11 (upd (f 11) 1 (nI (p + i)))) 11 1 (nI (p + i + 1)) = _ from (up2_up1_eq (up1 f 12 (upd t (p + i) (((x >>> ((nI (8 * i)).toInt64 &&& 63)) &&& 255).toInt32))) 11 (upd (f 11) 1 (nI (p + i))) 1 (nI (p + i + 1))).trans (congrArg (fun z => up1 (up1 f 12 (upd t (p + i) (((x >>> ((nI (8 * i)).toInt64 &&& 63)) &&& 255).toInt32))) 11 z) (upd_upd (f 11) 1 (nI (p + i)) (nI (p + i + 1))))]) ?_
      refine wq_run1 (pc' := 62) (L' := [(0, .ref 0), (1, .long x), (3, .int (nI n)), (4, .int ((nI i) + 1))]) (S' := []) (f' := (up1 (up1 f 12 (upd t (p + i) (((x >>> ((nI (8 * i)).toInt64 &&& 63)) &&& 255).toInt32))) 11 (upd (f 11) 1 (nI (p + i + 1))))) rfl ?_
      refine wq_L (L' := [(0, .ref 0), (1, .long x), (3, .int (nI n)), (4, .int (nI (i + 1)))]) (by rw [show nI i + 1 = nI (i + 1) from nI_add _ _]) ?_
      refine wq_run1 (pc' := 34) (L' := [(0, .ref 0), (1, .long x), (3, .int (nI n)), (4, .int (nI (i + 1)))]) (S' := []) (f' := (up1 (up1 f 12 (upd t (p + i) (((x >>> ((nI (8 * i)).toInt64 &&& 63)) &&& 255).toInt32))) 11 (upd (f 11) 1 (nI (p + i + 1))))) rfl ?_
      exact ih (i + 1) _ (by omega) (fun j hj => (upd_n (by omega)).trans (h1 j hj)) (fun j hj => by
        rcases Nat.lt_or_ge j i with q | q
        · exact (upd_n (by omega)).trans (h2 j q)
        · have e1 : j = i := by omega
          rw [e1]; exact upd_s _ _ _) (by omega)
theorem sp_write3 {f : HI} {p n : Nat} (x : Int64) (hn1 : 1 ≤ n) (hn8 : n ≤ 8) (hp : p + n ≤ 160) (hg : f 11 1 = nI p) : Sp 2 86 [.ref 0, .long x, .int (nI n)] f (fun v f' => ∃ t g, v = some (.int (nI (p + n))) ∧ f' = up1 (up1 f 12 t) 11 g ∧ g = upd (f 11) 1 (nI (p + n)) ∧ (∀ j, j < p → t j = f 12 j) ∧ ∀ j, j < n → t (p + j) = byI x j) := by
  have hin : inR (nI n) 1 8 := ⟨(nI_leI (a := 1) (b := n) (by omega) (by omega)).mpr hn1, (nI_leI (a := n) (b := 8) (by omega) (by omega)).mpr hn8⟩
  show wq 2 86 (fun v f' => ∃ t g, v = some (.int (nI (p + n))) ∧ f' = up1 (up1 f 12 t) 11 g ∧ g = upd (f 11) 1 (nI (p + n)) ∧ (∀ j, j < p → t j = f 12 j) ∧ ∀ j, j < n → t (p + j) = byI x j) 0 [(0, .ref 0), (1, .long x), (3, .int (nI n))] [] f
  refine wq_run3 (pc' := 4) (L' := [(0, .ref 0), (1, .long x), (3, .int (nI n))]) (S' := [.int 8, .int 1, .int (nI n)]) (f' := f) rfl ?_
  refine wq_callI (r := (b2i (inR (nI n) 1 8))) (sp_within f (nI n) 1 8) (Nat.le_of_ble_eq_true rfl) (pc' := 7) (L' := [(0, .ref 0), (1, .long x), (3, .int (nI n))]) (S' := []) rfl (Nat.le_of_ble_eq_true rfl) rfl rfl (Nat.le_of_ble_eq_true rfl) (Nat.le_of_ble_eq_true rfl) ?_
  refine wq_if (c := (b2i (inR (nI n) 1 8)) = 0) (p1 := 10) (L1 := [(0, .ref 0), (1, .long x), (3, .int (nI n))]) (S1 := []) (p2 := 13) (L2 := [(0, .ref 0), (1, .long x), (3, .int (nI n))]) (S2 := []) rfl (fun q => absurd q (b2i_n0.mpr hin)) (fun _ => ?_)
  refine wq_run3 (pc' := 20) (L' := [(0, .ref 0), (1, .long x), (3, .int (nI n))]) (S' := [.int (f 11 1)]) (f' := f) rfl ?_
  refine wq_v (y := (nI p)) (hg) ?_
  refine wq_run2 (pc' := 22) (L' := [(0, .ref 0), (1, .long x), (3, .int (nI n))]) (S' := [.int ((nI p) + (nI n))]) (f' := f) rfl ?_
  refine wq_v (y := (nI (p + n))) (nI_add p n) ?_
  refine wq_run1 (pc' := 25) (L' := [(0, .ref 0), (1, .long x), (3, .int (nI n))]) (S' := [.int 160, .int (nI (p + n))]) (f' := f) rfl ?_
  refine wq_if (c := (nI (p + n)) ≤ 160) (p1 := 31) (L1 := [(0, .ref 0), (1, .long x), (3, .int (nI n))]) (S1 := []) (p2 := 28) (L2 := [(0, .ref 0), (1, .long x), (3, .int (nI n))]) (S2 := []) rfl (fun _ => ?_) (fun q => absurd ((nI_leI (a := (p + n)) (b := 160) (by omega) (by omega)).mpr (by omega)) q)
  refine wq_run2 (pc' := 34) (L' := [(0, .ref 0), (1, .long x), (3, .int (nI n)), (4, .int 0)]) (S' := []) (f' := f) rfl ?_
  have h9 := lp_write (f := f) x hn1 hn8 hp (n - 0 + 1) 0 (f 12) (Nat.zero_le _) (fun _ _ => rfl) (fun _ h => absurd h (Nat.not_lt_zero _)) (Nat.lt_succ_self _)
  rw [up1_id, show p + 0 = p from rfl, ← hg, upd_id, up1_id] at h9
  exact h9
theorem sp_write1 (f : HI) (x : Int64) {n : Int32} (h1 : ¬ inR n 1 8) : Sp 3 86 [.ref 0, .long x, .int n] f (Ret (-3) f) := by
  show wq 3 86 (Ret (-3) f) 0 [(0, .ref 0), (1, .long x), (3, .int n)] [] f
  refine wq_run3 (pc' := 4) (L' := [(0, .ref 0), (1, .long x), (3, .int n)]) (S' := [.int 8, .int 1, .int n]) (f' := f) rfl ?_
  refine wq_callI (r := (b2i (inR n 1 8))) (sp_within f n 1 8) (Nat.le_of_ble_eq_true rfl) (pc' := 7) (L' := [(0, .ref 0), (1, .long x), (3, .int n)]) (S' := []) rfl (Nat.le_of_ble_eq_true rfl) rfl rfl (Nat.le_of_ble_eq_true rfl) (Nat.le_of_ble_eq_true rfl) ?_
  refine wq_if (c := (b2i (inR n 1 8)) = 0) (p1 := 10) (L1 := [(0, .ref 0), (1, .long x), (3, .int n)]) (S1 := []) (p2 := 13) (L2 := [(0, .ref 0), (1, .long x), (3, .int n)]) (S2 := []) rfl (fun _ => ?_) (fun q => absurd (b2i_0.mpr h1) q)
  refine wq_run1 (pc' := 12) (L' := [(0, .ref 0), (1, .long x), (3, .int n)]) (S' := [.int (-3)]) (f' := f) rfl ?_
  exact wq_ret rfl ⟨rfl, rfl⟩
theorem sp_write2 {f : HI} (x : Int64) {n p : Nat} (hn1 : 1 ≤ n) (hn8 : n ≤ 8) (hp : ¬ p + n ≤ 160) (hp2 : p ≤ 160) (hg : f 11 1 = nI p) : Sp 3 86 [.ref 0, .long x, .int (nI n)] f (Ret (-5) f) := by
  show wq 3 86 (Ret (-5) f) 0 [(0, .ref 0), (1, .long x), (3, .int (nI n))] [] f
  have hin : inR (nI n) 1 8 := ⟨(nI_leI (a := 1) (b := n) (by omega) (by omega)).mpr hn1, (nI_leI (a := n) (b := 8) (by omega) (by omega)).mpr hn8⟩
  refine wq_run3 (pc' := 4) (L' := [(0, .ref 0), (1, .long x), (3, .int (nI n))]) (S' := [.int 8, .int 1, .int (nI n)]) (f' := f) rfl ?_
  refine wq_callI (r := (b2i (inR (nI n) 1 8))) (sp_within f (nI n) 1 8) (Nat.le_of_ble_eq_true rfl) (pc' := 7) (L' := [(0, .ref 0), (1, .long x), (3, .int (nI n))]) (S' := []) rfl (Nat.le_of_ble_eq_true rfl) rfl rfl (Nat.le_of_ble_eq_true rfl) (Nat.le_of_ble_eq_true rfl) ?_
  refine wq_if (c := (b2i (inR (nI n) 1 8)) = 0) (p1 := 10) (L1 := [(0, .ref 0), (1, .long x), (3, .int (nI n))]) (S1 := []) (p2 := 13) (L2 := [(0, .ref 0), (1, .long x), (3, .int (nI n))]) (S2 := []) rfl (fun q => absurd q (b2i_n0.mpr hin)) (fun _ => ?_)
  refine wq_run3 (pc' := 20) (L' := [(0, .ref 0), (1, .long x), (3, .int (nI n))]) (S' := [.int (f 11 1)]) (f' := f) rfl ?_
  refine wq_v (y := (nI p)) (hg) ?_
  refine wq_run2 (pc' := 22) (L' := [(0, .ref 0), (1, .long x), (3, .int (nI n))]) (S' := [.int ((nI p) + (nI n))]) (f' := f) rfl ?_
  refine wq_v (y := (nI (p + n))) (nI_add p n) ?_
  refine wq_run1 (pc' := 25) (L' := [(0, .ref 0), (1, .long x), (3, .int (nI n))]) (S' := [.int 160, .int (nI (p + n))]) (f' := f) rfl ?_
  refine wq_if (c := (nI (p + n)) ≤ 160) (p1 := 31) (L1 := [(0, .ref 0), (1, .long x), (3, .int (nI n))]) (S1 := []) (p2 := 28) (L2 := [(0, .ref 0), (1, .long x), (3, .int (nI n))]) (S2 := []) rfl (fun q => absurd q (fun q => absurd ((nI_leI (a := (p + n)) (b := 160) (by omega) (by omega)).mp q) (by omega))) (fun _ => ?_)
  refine wq_run1 (pc' := 30) (L' := [(0, .ref 0), (1, .long x), (3, .int (nI n))]) (S' := [.int (-5)]) (f' := f) rfl ?_
  exact wq_ret rfl ⟨rfl, rfl⟩
theorem lp_mwrite {f : HI} {p n : Nat} (x : Int64) (hn1 : 1 ≤ n) (hn8 : n ≤ 8) (hp : p + n ≤ 160) : ∀ (m9 : Nat) (i : Nat) (t : Nat → Int32), (i ≤ n) → (∀ j, j < p → t j = f 100 j) → (∀ j, j < i → t (p + j) = byI x j) → n - i < m9 → wq 2 143 (fun v f' => ∃ t g, v = some (.int (nI (p + n))) ∧ f' = up1 (up1 f 100 t) 92 g ∧ g = upd (f 92) 10 (nI (p + n)) ∧ (∀ j, j < p → t j = f 100 j) ∧ ∀ j, j < n → t (p + j) = byI x j) 33 [(0, .ref 92), (1, .long x), (3, .int (nI n)), (4, .int (nI i))] [] (up1 (up1 f 100 t) 92 (upd (f 92) 10 (nI (p + i)))) := by
  intro m9
  induction m9 with
  | zero => intro i t hi h1 h2 hn; exact absurd hn (Nat.not_lt_zero _)
  | succ m9 ih =>
    intro i t hi h1 h2 hn
    refine wq_run2 (pc' := 36) (L' := [(0, .ref 92), (1, .long x), (3, .int (nI n)), (4, .int (nI i))]) (S' := [.int (nI n), .int (nI i)]) (f' := (up1 (up1 f 100 t) 92 (upd (f 92) 10 (nI (p + i))))) rfl ?_
    refine wq_if (c := (nI n) ≤ (nI i)) (p1 := 76) (L1 := [(0, .ref 92), (1, .long x), (3, .int (nI n)), (4, .int (nI i))]) (S1 := []) (p2 := 39) (L2 := [(0, .ref 92), (1, .long x), (3, .int (nI n)), (4, .int (nI i))]) (S2 := []) rfl (fun c_36 => ?_) (fun c_36 => ?_)
    · have k_36 : n ≤ i := (nI_leI (a := n) (b := i) (by omega) (by omega)).mp c_36
      refine wq_run2 (pc' := 80) (L' := [(0, .ref 92), (1, .long x), (3, .int (nI n)), (4, .int (nI i))]) (S' := [.int (nI (p + i))]) (f' := (up1 (up1 f 100 t) 92 (upd (f 92) 10 (nI (p + i))))) rfl ?_
      have e : i = n := by omega
      rw [e] at h2 ⊢
      exact wq_ret rfl ⟨t, _, rfl, rfl, rfl, h1, h2⟩
    · have k_36 : ¬ n ≤ i := fun q => c_36 ((nI_leI (a := n) (b := i) (by omega) (by omega)).mpr q)
      refine wq_run8 (pc' := 53) (L' := [(0, .ref 92), (1, .long x), (3, .int (nI n)), (4, .int (nI i))]) (S' := [.int (8 * (nI i)), .long x, .int (nI (p + i)), .ref 100]) (f' := (up1 (up1 f 100 t) 92 (upd (f 92) 10 (nI (p + i))))) rfl ?_
      refine wq_v (y := (nI (8 * i))) (pk_mul 8 i) ?_
      refine wq_run4 (pc' := 59) (L' := [(0, .ref 92), (1, .long x), (3, .int (nI n)), (4, .int (nI i))]) (S' := [.int ((x >>> ((nI (8 * i)).toInt64 &&& 63)) &&& 255).toInt32, .int (nI (p + i)), .ref 100]) (f' := (up1 (up1 f 100 t) 92 (upd (f 92) 10 (nI (p + i))))) rfl ?_
      refine wq_ist (j := (p + i)) (n := 160) rfl rfl rfl rfl (by omega) (Nat.le_of_ble_eq_true rfl) ?_
      refine wq_h (f' := (up1 (up1 f 100 (upd t (p + i) (((x >>> ((nI (8 * i)).toInt64 &&& 63)) &&& 255).toInt32))) 92 (upd (f 92) 10 (nI (p + i))))) ((up2_up1_ne (f := (up1 f 100 t)) (g := (upd (f 92) 10 (nI (p + i)))) (k := (p + i)) (v := (((x >>> ((nI (8 * i)).toInt64 &&& 63)) &&& 255).toInt32)) (show (100 : Nat) ≠ 92 by decide)).trans (congrArg (fun z => up1 z 92 (upd (f 92) 10 (nI (p + i)))) ((up2_up1_eq f 100 t (p + i) (((x >>> ((nI (8 * i)).toInt64 &&& 63)) &&& 255).toInt32)).trans (congrArg (fun z => up1 f 100 z) (rfl))))) ?_
      refine wq_run5 (pc' := 67) (L' := [(0, .ref 92), (1, .long x), (3, .int (nI n)), (4, .int (nI i))]) (S' := [.int ((nI (p + i)) + 1), .ref 92]) (f' := (up1 (up1 f 100 (upd t (p + i) (((x >>> ((nI (8 * i)).toInt64 &&& 63)) &&& 255).toInt32))) 92 (upd (f 92) 10 (nI (p + i))))) rfl ?_
      refine wq_v (y := (nI ((p + i) + 1))) (nI_add (p + i) 1) ?_
      refine wq_putI rfl rfl ?_
      refine wq_h (f' := (up1 (up1 f 100 (upd t (p + i) (((x >>> ((nI (8 * i)).toInt64 &&& 63)) &&& 255).toInt32))) 92 (upd (f 92) 10 (nI ((p + i) + 1))))) ((up2_up1_eq (up1 f 100 (upd t (p + i) (((x >>> ((nI (8 * i)).toInt64 &&& 63)) &&& 255).toInt32))) 92 (upd (f 92) 10 (nI (p + i))) 10 (nI ((p + i) + 1))).trans (congrArg (fun z => up1 (up1 f 100 (upd t (p + i) (((x >>> ((nI (8 * i)).toInt64 &&& 63)) &&& 255).toInt32))) 92 z) (upd_upd (f 92) 10 (nI (p + i)) (nI ((p + i) + 1))))) ?_
      refine wq_run1 (pc' := 73) (L' := [(0, .ref 92), (1, .long x), (3, .int (nI n)), (4, .int ((nI i) + 1))]) (S' := []) (f' := (up1 (up1 f 100 (upd t (p + i) (((x >>> ((nI (8 * i)).toInt64 &&& 63)) &&& 255).toInt32))) 92 (upd (f 92) 10 (nI ((p + i) + 1))))) rfl ?_
      refine wq_L (L' := [(0, .ref 92), (1, .long x), (3, .int (nI n)), (4, .int (nI (i + 1)))]) (by rw [show nI i + 1 = nI (i + 1) from nI_add _ _]) ?_
      refine wq_run1 (pc' := 33) (L' := [(0, .ref 92), (1, .long x), (3, .int (nI n)), (4, .int (nI (i + 1)))]) (S' := []) (f' := (up1 (up1 f 100 (upd t (p + i) (((x >>> ((nI (8 * i)).toInt64 &&& 63)) &&& 255).toInt32))) 92 (upd (f 92) 10 (nI ((p + i) + 1))))) rfl ?_
      exact ih (i + 1) _ (by omega) (fun j hj => (upd_n (by omega)).trans (h1 j hj)) (fun j hj => by
        rcases Nat.lt_or_ge j i with q | q
        · exact (upd_n (by omega)).trans (h2 j q)
        · have e1 : j = i := by omega
          rw [e1]; exact upd_s _ _ _) (by omega)
theorem mp_write3 {f : HI} {p n : Nat} (x : Int64) (hn1 : 1 ≤ n) (hn8 : n ≤ 8) (hp : p + n ≤ 160) (hg : f 92 10 = nI p) : Sp 2 143 [.ref 92, .long x, .int (nI n)] f (fun v f' => ∃ t g, v = some (.int (nI (p + n))) ∧ f' = up1 (up1 f 100 t) 92 g ∧ g = upd (f 92) 10 (nI (p + n)) ∧ (∀ j, j < p → t j = f 100 j) ∧ ∀ j, j < n → t (p + j) = byI x j) := by
  have hin : inR (nI n) 1 8 := ⟨(nI_leI (a := 1) (b := n) (by omega) (by omega)).mpr hn1, (nI_leI (a := n) (b := 8) (by omega) (by omega)).mpr hn8⟩
  show wq 2 143 (fun v f' => ∃ t g, v = some (.int (nI (p + n))) ∧ f' = up1 (up1 f 100 t) 92 g ∧ g = upd (f 92) 10 (nI (p + n)) ∧ (∀ j, j < p → t j = f 100 j) ∧ ∀ j, j < n → t (p + j) = byI x j) 0 [(0, .ref 92), (1, .long x), (3, .int (nI n))] [] f
  refine wq_run4 (pc' := 6) (L' := [(0, .ref 92), (1, .long x), (3, .int (nI n))]) (S' := [.long 8, .long 1, .long (nI n).toInt64]) (f' := f) rfl ?_
  refine wq_callI (r := (b2i (inR (nI n) 1 8))) (mp_in f (nI n) 1 8) (Nat.le_of_ble_eq_true rfl) (pc' := 9) (L' := [(0, .ref 92), (1, .long x), (3, .int (nI n))]) (S' := []) rfl (Nat.le_of_ble_eq_true rfl) rfl rfl (Nat.le_of_ble_eq_true rfl) (Nat.le_of_ble_eq_true rfl) ?_
  refine wq_if (c := (b2i (inR (nI n) 1 8)) = 0) (p1 := 12) (L1 := [(0, .ref 92), (1, .long x), (3, .int (nI n))]) (S1 := []) (p2 := 15) (L2 := [(0, .ref 92), (1, .long x), (3, .int (nI n))]) (S2 := []) rfl (fun q => absurd q (b2i_n0.mpr hin)) (fun _ => ?_)
  refine wq_run2 (pc' := 19) (L' := [(0, .ref 92), (1, .long x), (3, .int (nI n))]) (S' := [.int (f 92 10)]) (f' := f) rfl ?_
  refine wq_v (y := (nI p)) (hg) ?_
  refine wq_run2 (pc' := 21) (L' := [(0, .ref 92), (1, .long x), (3, .int (nI n))]) (S' := [.int ((nI p) + (nI n))]) (f' := f) rfl ?_
  refine wq_v (y := (nI (p + n))) (nI_add p n) ?_
  refine wq_run1 (pc' := 24) (L' := [(0, .ref 92), (1, .long x), (3, .int (nI n))]) (S' := [.int 160, .int (nI (p + n))]) (f' := f) rfl ?_
  refine wq_if (c := (nI (p + n)) ≤ 160) (p1 := 30) (L1 := [(0, .ref 92), (1, .long x), (3, .int (nI n))]) (S1 := []) (p2 := 27) (L2 := [(0, .ref 92), (1, .long x), (3, .int (nI n))]) (S2 := []) rfl (fun _ => ?_) (fun q => absurd ((nI_leI (a := (p + n)) (b := 160) (by omega) (by omega)).mpr (by omega)) q)
  refine wq_run2 (pc' := 33) (L' := [(0, .ref 92), (1, .long x), (3, .int (nI n)), (4, .int 0)]) (S' := []) (f' := f) rfl ?_
  have h9 := lp_mwrite (f := f) x hn1 hn8 hp (n - 0 + 1) 0 (f 100) (Nat.zero_le _) (fun _ _ => rfl) (fun _ h => absurd h (Nat.not_lt_zero _)) (Nat.lt_succ_self _)
  rw [up1_id, show p + 0 = p from rfl, ← hg, upd_id, up1_id] at h9
  exact h9
theorem mp_write1 (f : HI) (x : Int64) {n : Int32} (h1 : ¬ inR n 1 8) : Sp 3 143 [.ref 92, .long x, .int n] f (Ret (-3) f) := by
  show wq 3 143 (Ret (-3) f) 0 [(0, .ref 92), (1, .long x), (3, .int n)] [] f
  refine wq_run4 (pc' := 6) (L' := [(0, .ref 92), (1, .long x), (3, .int n)]) (S' := [.long 8, .long 1, .long n.toInt64]) (f' := f) rfl ?_
  refine wq_callI (r := (b2i (inR n 1 8))) (mp_in f n 1 8) (Nat.le_of_ble_eq_true rfl) (pc' := 9) (L' := [(0, .ref 92), (1, .long x), (3, .int n)]) (S' := []) rfl (Nat.le_of_ble_eq_true rfl) rfl rfl (Nat.le_of_ble_eq_true rfl) (Nat.le_of_ble_eq_true rfl) ?_
  refine wq_if (c := (b2i (inR n 1 8)) = 0) (p1 := 12) (L1 := [(0, .ref 92), (1, .long x), (3, .int n)]) (S1 := []) (p2 := 15) (L2 := [(0, .ref 92), (1, .long x), (3, .int n)]) (S2 := []) rfl (fun _ => ?_) (fun q => absurd (b2i_0.mpr h1) q)
  refine wq_run1 (pc' := 14) (L' := [(0, .ref 92), (1, .long x), (3, .int n)]) (S' := [.int (-3)]) (f' := f) rfl ?_
  exact wq_ret rfl ⟨rfl, rfl⟩
theorem mp_write2 {f : HI} (x : Int64) {n p : Nat} (hn1 : 1 ≤ n) (hn8 : n ≤ 8) (hp : ¬ p + n ≤ 160) (hp2 : p ≤ 160) (hg : f 92 10 = nI p) : Sp 3 143 [.ref 92, .long x, .int (nI n)] f (Ret (-5) f) := by
  show wq 3 143 (Ret (-5) f) 0 [(0, .ref 92), (1, .long x), (3, .int (nI n))] [] f
  have hin : inR (nI n) 1 8 := ⟨(nI_leI (a := 1) (b := n) (by omega) (by omega)).mpr hn1, (nI_leI (a := n) (b := 8) (by omega) (by omega)).mpr hn8⟩
  refine wq_run4 (pc' := 6) (L' := [(0, .ref 92), (1, .long x), (3, .int (nI n))]) (S' := [.long 8, .long 1, .long (nI n).toInt64]) (f' := f) rfl ?_
  refine wq_callI (r := (b2i (inR (nI n) 1 8))) (mp_in f (nI n) 1 8) (Nat.le_of_ble_eq_true rfl) (pc' := 9) (L' := [(0, .ref 92), (1, .long x), (3, .int (nI n))]) (S' := []) rfl (Nat.le_of_ble_eq_true rfl) rfl rfl (Nat.le_of_ble_eq_true rfl) (Nat.le_of_ble_eq_true rfl) ?_
  refine wq_if (c := (b2i (inR (nI n) 1 8)) = 0) (p1 := 12) (L1 := [(0, .ref 92), (1, .long x), (3, .int (nI n))]) (S1 := []) (p2 := 15) (L2 := [(0, .ref 92), (1, .long x), (3, .int (nI n))]) (S2 := []) rfl (fun q => absurd q (b2i_n0.mpr hin)) (fun _ => ?_)
  refine wq_run2 (pc' := 19) (L' := [(0, .ref 92), (1, .long x), (3, .int (nI n))]) (S' := [.int (f 92 10)]) (f' := f) rfl ?_
  refine wq_v (y := (nI p)) (hg) ?_
  refine wq_run2 (pc' := 21) (L' := [(0, .ref 92), (1, .long x), (3, .int (nI n))]) (S' := [.int ((nI p) + (nI n))]) (f' := f) rfl ?_
  refine wq_v (y := (nI (p + n))) (nI_add p n) ?_
  refine wq_run1 (pc' := 24) (L' := [(0, .ref 92), (1, .long x), (3, .int (nI n))]) (S' := [.int 160, .int (nI (p + n))]) (f' := f) rfl ?_
  refine wq_if (c := (nI (p + n)) ≤ 160) (p1 := 30) (L1 := [(0, .ref 92), (1, .long x), (3, .int (nI n))]) (S1 := []) (p2 := 27) (L2 := [(0, .ref 92), (1, .long x), (3, .int (nI n))]) (S2 := []) rfl (fun q => absurd q (fun q => absurd ((nI_leI (a := (p + n)) (b := 160) (by omega) (by omega)).mp q) (by omega))) (fun _ => ?_)
  refine wq_run1 (pc' := 29) (L' := [(0, .ref 92), (1, .long x), (3, .int (nI n))]) (S' := [.int (-5)]) (f' := f) rfl ?_
  exact wq_ret rfl ⟨rfl, rfl⟩
theorem sp_erase (f : HI) : Sp 1 87 [.ref 0] f (Ret (f 11 1) (up2 f 11 1 0)) := by
  show wq 1 87 (Ret (f 11 1) (up2 f 11 1 0)) 0 [(0, .ref 0)] [] f
  refine wq_run9 (pc' := 17) (L' := [(0, .ref 0), (1, .int (f 11 1))]) (S' := [.int (f 11 1)]) (f' := (up2 f 11 1 0)) rfl ?_
  exact wq_ret rfl ⟨rfl, rfl⟩
theorem mp_erase (f : HI) : Sp 1 144 [.ref 92] f (Ret (f 92 10) (up2 f 92 10 0)) := by
  show wq 1 144 (Ret (f 92 10) (up2 f 92 10 0)) 0 [(0, .ref 92)] [] f
  refine wq_run7 (pc' := 11) (L' := [(0, .ref 92), (1, .int (f 92 10))]) (S' := [.int (f 92 10)]) (f' := (up2 f 92 10 0)) rfl ?_
  exact wq_ret rfl ⟨rfl, rfl⟩
theorem lp_addAct0 {fb : HI} {W : Nat → Nat → Nat} {w h : Nat} (hL : LaC fb W w) (hh : h ≤ 60000) (h16 : fb 16 1 = nI 0) : ∀ (m9 : Nat) (t : Nat) (sc : Nat → Int32) (kk : Nat → Int32), (t ≤ 10) → (∀ j, j < t → kk j = dI (arN W w 0 h j)) → 10 - t < m9 → wq 5 53 (fun v f' => ∃ sc kk, v = some (.int (nI 0)) ∧ f' = up1 (up1 (up1 fb 16 (upd (fb 16) 1 (nI (0 + 1)))) 10 sc) 22 kk ∧ ∀ t, t < 10 → kk t = dI (arN W w 0 h t)) 21 [(0, .ref 16), (3, .ref 2), (4, .int (nI h)), (5, .ref 18), (6, .int (nI t))] [] (up1 (up1 fb 10 sc) 22 kk) := by
  intro m9
  induction m9 with
  | zero => intro t sc kk ht hk hn; exact absurd hn (Nat.not_lt_zero _)
  | succ m9 ih =>
    intro t sc kk ht hk hn
    refine wq_run2 (pc' := 25) (L' := [(0, .ref 16), (3, .ref 2), (4, .int (nI h)), (5, .ref 18), (6, .int (nI t))]) (S' := [.int 10, .int (nI t)]) (f' := (up1 (up1 fb 10 sc) 22 kk)) rfl ?_
    refine wq_if (c := 10 ≤ (nI t)) (p1 := 51) (L1 := [(0, .ref 16), (3, .ref 2), (4, .int (nI h)), (5, .ref 18), (6, .int (nI t))]) (S1 := []) (p2 := 28) (L2 := [(0, .ref 16), (3, .ref 2), (4, .int (nI h)), (5, .ref 18), (6, .int (nI t))]) (S2 := []) rfl (fun c_25 => ?_) (fun c_25 => ?_)
    · have k_25 : 10 ≤ t := (nI_leI (a := 10) (b := t) (by omega) (by omega)).mp c_25
      refine wq_run3 (pc' := 56) (L' := [(0, .ref 16), (3, .ref 2), (4, .int (nI h)), (5, .ref 18), (6, .int (nI t))]) (S' := [.int (fb 16 1), .ref 16]) (f' := (up1 (up1 fb 10 sc) 22 kk)) rfl ?_
      refine wq_v (y := (nI 0)) (h16) ?_
      refine wq_run3 (pc' := 59) (L' := [(0, .ref 16), (3, .ref 2), (4, .int (nI h)), (5, .ref 18), (6, .int (nI t))]) (S' := [.int ((nI 0) + 1), .ref 16, .int (nI 0)]) (f' := (up1 (up1 fb 10 sc) 22 kk)) rfl ?_
      refine wq_v (y := (nI (0 + 1))) (nI_add 0 1) ?_
      refine wq_putI rfl rfl ?_
      refine wq_h (f' := (up1 (up1 (up1 fb 16 (upd (fb 16) 1 (nI (0 + 1)))) 10 sc) 22 kk)) ((up2_up1_ne (f := (up1 fb 10 sc)) (g := kk) (k := 1) (v := (nI (0 + 1))) (show (16 : Nat) ≠ 22 by decide)).trans (congrArg (fun z => up1 z 22 kk) ((up2_up1_ne (f := fb) (g := sc) (k := 1) (v := (nI (0 + 1))) (show (16 : Nat) ≠ 10 by decide)).trans (congrArg (fun z => up1 z 10 sc) (up2_eq1 fb 16 1 (nI (0 + 1))))))) ?_
      have e : t = 10 := by omega
      rw [e] at hk
      exact wq_ret rfl ⟨sc, kk, rfl, rfl, hk⟩
    · have k_25 : ¬ 10 ≤ t := fun q => c_25 ((nI_leI (a := 10) (b := t) (by omega) (by omega)).mpr q)
      refine wq_run7 (pc' := 41) (L' := [(0, .ref 16), (3, .ref 2), (4, .int (nI h)), (5, .ref 18), (6, .int (nI t))]) (S' := [.int (nI h), .int (nI t), .int 0, .ref 2, .int (nI t), .ref 22]) (f' := (up1 (up1 fb 10 sc) 22 kk)) rfl ?_
      refine wq_call (sp_arrival (f := (up1 (up1 fb 10 sc) 22 kk)) (W := W) (w := w) (a := 0) (b := t) (h := h) hL (by omega) (by omega) (by omega)) (Nat.le_of_ble_eq_true rfl) (pc' := 44) (L' := [(0, .ref 16), (3, .ref 2), (4, .int (nI h)), (5, .ref 18), (6, .int (nI t))]) (S' := [.int (nI t), .ref 22]) rfl (Nat.le_of_ble_eq_true rfl) rfl rfl (Nat.le_of_ble_eq_true rfl) (Nat.le_of_ble_eq_true rfl) ?_
      rintro v f9 ⟨g, e0, ef⟩
      subst e0
      subst ef
      refine wq_h (f' := (up1 (up1 fb 10 g) 22 kk)) (by rw [show up1 (up1 (up1 fb 10 sc) 22 kk) 10 g = _ from (up1_sw (f := (up1 fb 10 sc)) (g := kk) (g' := g) (show (10 : Nat) ≠ 22 by decide)).trans (congrArg (fun z => up1 z 22 kk) (up1_up1 fb 10 sc g))]) ?_
      refine wq_ist (j := t) (n := 10) rfl rfl rfl rfl (by omega) (Nat.le_of_ble_eq_true rfl) ?_
      refine wq_h (f' := (up1 (up1 fb 10 g) 22 (upd kk t (dI (arN W w 0 h t))))) ((up2_up1_eq (up1 fb 10 g) 22 kk t (dI (arN W w 0 h t))).trans (congrArg (fun z => up1 (up1 fb 10 g) 22 z) (rfl))) ?_
      refine wq_run1 (pc' := 48) (L' := [(0, .ref 16), (3, .ref 2), (4, .int (nI h)), (5, .ref 18), (6, .int ((nI t) + 1))]) (S' := []) (f' := (up1 (up1 fb 10 g) 22 (upd kk t (dI (arN W w 0 h t))))) rfl ?_
      refine wq_L (L' := [(0, .ref 16), (3, .ref 2), (4, .int (nI h)), (5, .ref 18), (6, .int (nI (t + 1)))]) (by rw [show nI t + 1 = nI (t + 1) from nI_add _ _]) ?_
      refine wq_run1 (pc' := 21) (L' := [(0, .ref 16), (3, .ref 2), (4, .int (nI h)), (5, .ref 18), (6, .int (nI (t + 1)))]) (S' := []) (f' := (up1 (up1 fb 10 g) 22 (upd kk t (dI (arN W w 0 h t))))) rfl ?_
      exact ih (t + 1) _ _ (by omega) (fun j hj => by
        rcases Nat.lt_or_ge j t with q | q
        · exact (upd_n (by omega)).trans (hk j q)
        · have e1 : j = t := by omega
          rw [e1]; exact upd_s _ _ _) (by omega)
theorem sp_copyFrom0 {f : HI} {c : Nat} (day : Int32) (hc : f 11 7 = nI c) : Sp 1 1 [.ref 18, .ref 11, .int day] f (RetV (up1 (up1 (up1 (up1 f 18 (upd (upd (f 18) 4 day) 3 (nI c))) 21 (va_cpy (f 15) (f 21) 0 0 8)) 20 (va_cpy (f 14) (f 20) 0 0 8)) 19 (va_cpy (f 13) (f 19) 0 0 8))) := by
  show wq 1 1 (RetV (up1 (up1 (up1 (up1 f 18 (upd (upd (f 18) 4 day) 3 (nI c))) 21 (va_cpy (f 15) (f 21) 0 0 8)) 20 (va_cpy (f 14) (f 20) 0 0 8)) 19 (va_cpy (f 13) (f 19) 0 0 8))) 0 [(0, .ref 18), (1, .ref 11), (2, .int day)] [] f
  refine wq_run7 (pc' := 12) (L' := [(0, .ref 18), (1, .ref 11), (2, .int day)]) (S' := [.int 8, .int 0, .ref 19, .int 0, .ref 13]) (f' := f) rfl ?_
  refine wq_copy (n := 8) (m := 8) (sp := 0) (dp := 0) (c := 8) rfl rfl rfl rfl rfl rfl rfl rfl (by omega) (by omega) (by decide) (by decide) (Nat.le_of_ble_eq_true rfl) ?_
  refine wq_h (f' := (up1 f 19 (va_cpy (f 13) (f 19) 0 0 8))) (show up1 f 19 (va_cpy (f 13) (f 19) 0 0 8) = _ from rfl) ?_
  refine wq_run7 (pc' := 27) (L' := [(0, .ref 18), (1, .ref 11), (2, .int day)]) (S' := [.int 8, .int 0, .ref 20, .int 0, .ref 14]) (f' := (up1 f 19 (va_cpy (f 13) (f 19) 0 0 8))) rfl ?_
  refine wq_copy (n := 8) (m := 8) (sp := 0) (dp := 0) (c := 8) rfl rfl rfl rfl rfl rfl rfl rfl (by omega) (by omega) (by decide) (by decide) (Nat.le_of_ble_eq_true rfl) ?_
  refine wq_h (f' := (up1 (up1 f 20 (va_cpy (f 14) (f 20) 0 0 8)) 19 (va_cpy (f 13) (f 19) 0 0 8))) (show up1 (up1 f 19 (va_cpy (f 13) (f 19) 0 0 8)) 20 (va_cpy (f 14) (f 20) 0 0 8) = _ from (up1_sw (f := f) (g := (va_cpy (f 13) (f 19) 0 0 8)) (g' := (va_cpy (f 14) (f 20) 0 0 8)) (show (20 : Nat) ≠ 19 by decide)).trans (congrArg (fun z => up1 z 19 (va_cpy (f 13) (f 19) 0 0 8)) (rfl))) ?_
  refine wq_run7 (pc' := 42) (L' := [(0, .ref 18), (1, .ref 11), (2, .int day)]) (S' := [.int 8, .int 0, .ref 21, .int 0, .ref 15]) (f' := (up1 (up1 f 20 (va_cpy (f 14) (f 20) 0 0 8)) 19 (va_cpy (f 13) (f 19) 0 0 8))) rfl ?_
  refine wq_copy (n := 8) (m := 8) (sp := 0) (dp := 0) (c := 8) rfl rfl rfl rfl rfl rfl rfl rfl (by omega) (by omega) (by decide) (by decide) (Nat.le_of_ble_eq_true rfl) ?_
  refine wq_h (f' := (up1 (up1 (up1 f 21 (va_cpy (f 15) (f 21) 0 0 8)) 20 (va_cpy (f 14) (f 20) 0 0 8)) 19 (va_cpy (f 13) (f 19) 0 0 8))) (show up1 (up1 (up1 f 20 (va_cpy (f 14) (f 20) 0 0 8)) 19 (va_cpy (f 13) (f 19) 0 0 8)) 21 (va_cpy (f 15) (f 21) 0 0 8) = _ from (up1_sw (f := (up1 f 20 (va_cpy (f 14) (f 20) 0 0 8))) (g := (va_cpy (f 13) (f 19) 0 0 8)) (g' := (va_cpy (f 15) (f 21) 0 0 8)) (show (21 : Nat) ≠ 19 by decide)).trans (congrArg (fun z => up1 z 19 (va_cpy (f 13) (f 19) 0 0 8)) ((up1_sw (f := f) (g := (va_cpy (f 14) (f 20) 0 0 8)) (g' := (va_cpy (f 15) (f 21) 0 0 8)) (show (21 : Nat) ≠ 20 by decide)).trans (congrArg (fun z => up1 z 20 (va_cpy (f 14) (f 20) 0 0 8)) (rfl))))) ?_
  refine wq_run3 (pc' := 50) (L' := [(0, .ref 18), (1, .ref 11), (2, .int day)]) (S' := [.int (f 11 7), .ref 18]) (f' := (up1 (up1 (up1 f 21 (va_cpy (f 15) (f 21) 0 0 8)) 20 (va_cpy (f 14) (f 20) 0 0 8)) 19 (va_cpy (f 13) (f 19) 0 0 8))) rfl ?_
  refine wq_v (y := (nI c)) (hc) ?_
  refine wq_putI rfl rfl ?_
  refine wq_h (f' := (up1 (up1 (up1 (up1 f 18 (upd (f 18) 3 (nI c))) 21 (va_cpy (f 15) (f 21) 0 0 8)) 20 (va_cpy (f 14) (f 20) 0 0 8)) 19 (va_cpy (f 13) (f 19) 0 0 8))) ((up2_up1_ne (f := (up1 (up1 f 21 (va_cpy (f 15) (f 21) 0 0 8)) 20 (va_cpy (f 14) (f 20) 0 0 8))) (g := (va_cpy (f 13) (f 19) 0 0 8)) (k := 3) (v := (nI c)) (show (18 : Nat) ≠ 19 by decide)).trans (congrArg (fun z => up1 z 19 (va_cpy (f 13) (f 19) 0 0 8)) ((up2_up1_ne (f := (up1 f 21 (va_cpy (f 15) (f 21) 0 0 8))) (g := (va_cpy (f 14) (f 20) 0 0 8)) (k := 3) (v := (nI c)) (show (18 : Nat) ≠ 20 by decide)).trans (congrArg (fun z => up1 z 20 (va_cpy (f 14) (f 20) 0 0 8)) ((up2_up1_ne (f := f) (g := (va_cpy (f 15) (f 21) 0 0 8)) (k := 3) (v := (nI c)) (show (18 : Nat) ≠ 21 by decide)).trans (congrArg (fun z => up1 z 21 (va_cpy (f 15) (f 21) 0 0 8)) (up2_eq1 f 18 3 (nI c)))))))) ?_
  refine wq_run2 (pc' := 55) (L' := [(0, .ref 18), (1, .ref 11), (2, .int day)]) (S' := [.int day, .ref 18]) (f' := (up1 (up1 (up1 (up1 f 18 (upd (f 18) 3 (nI c))) 21 (va_cpy (f 15) (f 21) 0 0 8)) 20 (va_cpy (f 14) (f 20) 0 0 8)) 19 (va_cpy (f 13) (f 19) 0 0 8))) rfl ?_
  refine wq_putI rfl rfl ?_
  refine wq_h (f' := (up1 (up1 (up1 (up1 f 18 (upd (upd (f 18) 4 day) 3 (nI c))) 21 (va_cpy (f 15) (f 21) 0 0 8)) 20 (va_cpy (f 14) (f 20) 0 0 8)) 19 (va_cpy (f 13) (f 19) 0 0 8))) ((up2_up1_ne (f := (up1 (up1 (up1 f 18 (upd (f 18) 3 (nI c))) 21 (va_cpy (f 15) (f 21) 0 0 8)) 20 (va_cpy (f 14) (f 20) 0 0 8))) (g := (va_cpy (f 13) (f 19) 0 0 8)) (k := 4) (v := day) (show (18 : Nat) ≠ 19 by decide)).trans (congrArg (fun z => up1 z 19 (va_cpy (f 13) (f 19) 0 0 8)) ((up2_up1_ne (f := (up1 (up1 f 18 (upd (f 18) 3 (nI c))) 21 (va_cpy (f 15) (f 21) 0 0 8))) (g := (va_cpy (f 14) (f 20) 0 0 8)) (k := 4) (v := day) (show (18 : Nat) ≠ 20 by decide)).trans (congrArg (fun z => up1 z 20 (va_cpy (f 14) (f 20) 0 0 8)) ((up2_up1_ne (f := (up1 f 18 (upd (f 18) 3 (nI c)))) (g := (va_cpy (f 15) (f 21) 0 0 8)) (k := 4) (v := day) (show (18 : Nat) ≠ 21 by decide)).trans (congrArg (fun z => up1 z 21 (va_cpy (f 15) (f 21) 0 0 8)) ((up2_up1_eq f 18 (upd (f 18) 3 (nI c)) 4 day).trans (congrArg (fun z => up1 f 18 z) ((upd_sw (g := (f 18)) (v := (nI c)) (w := day) (show (4 : Nat) ≠ 3 by decide)).trans (congrArg (fun z => upd z 3 (nI c)) (rfl))))))))))) ?_
  exact wq_ret rfl ⟨rfl, rfl⟩
theorem sp_addAct0 {f : HI} {W : Nat → Nat → Nat} {w h : Nat} {c : Nat} (day : Int32) (hL : LaC f W w) (hh : h ≤ 60000) (h16 : f 16 1 = nI 0) (hc : f 11 7 = nI c) : Sp 5 53 [.ref 16, .ref 11, .int day, .ref 2, .int (nI h)] f (fun v f' => ∃ sc kk, v = some (.int (nI 0)) ∧ f' = up1 (up1 (up1 (up1 (up1 (up1 (up1 f 18 (upd (upd (f 18) 4 day) 3 (nI c))) 21 (va_cpy (f 15) (f 21) 0 0 8)) 20 (va_cpy (f 14) (f 20) 0 0 8)) 19 (va_cpy (f 13) (f 19) 0 0 8)) 16 (upd (f 16) 1 (nI (0 + 1)))) 10 sc) 22 kk ∧ ∀ t, t < 10 → kk t = dI (arN W w 0 h t)) := by
  show wq 5 53 (fun v f' => ∃ sc kk, v = some (.int (nI 0)) ∧ f' = up1 (up1 (up1 (up1 (up1 (up1 (up1 f 18 (upd (upd (f 18) 4 day) 3 (nI c))) 21 (va_cpy (f 15) (f 21) 0 0 8)) 20 (va_cpy (f 14) (f 20) 0 0 8)) 19 (va_cpy (f 13) (f 19) 0 0 8)) 16 (upd (f 16) 1 (nI (0 + 1)))) 10 sc) 22 kk ∧ ∀ t, t < 10 → kk t = dI (arN W w 0 h t)) 0 [(0, .ref 16), (1, .ref 11), (2, .int day), (3, .ref 2), (4, .int (nI h))] [] f
  refine wq_run4 (pc' := 8) (L' := [(0, .ref 16), (1, .ref 11), (2, .int day), (3, .ref 2), (4, .int (nI h))]) (S' := [.int (f 16 1), .ref 17]) (f' := f) rfl ?_
  refine wq_v (y := (nI 0)) (h16) ?_
  refine wq_qld (j := 0) (n := 5) (b := 18) rfl rfl rfl rfl (Nat.le_of_ble_eq_true rfl) (Nat.le_of_ble_eq_true rfl) rfl ?_
  refine wq_run4 (pc' := 15) (L' := [(0, .ref 16), (1, .ref 11), (2, .int day), (3, .ref 2), (4, .int (nI h)), (5, .ref 18)]) (S' := [.int day, .ref 11, .ref 18]) (f' := f) rfl ?_
  refine wq_callV (g := (up1 (up1 (up1 (up1 f 18 (upd (upd (f 18) 4 day) 3 (nI c))) 21 (va_cpy (f 15) (f 21) 0 0 8)) 20 (va_cpy (f 14) (f 20) 0 0 8)) 19 (va_cpy (f 13) (f 19) 0 0 8))) (sp_copyFrom0 (f := f) day hc) (Nat.le_of_ble_eq_true rfl) (pc' := 18) (L' := [(0, .ref 16), (1, .ref 11), (2, .int day), (3, .ref 2), (4, .int (nI h)), (5, .ref 18)]) (S' := []) rfl (Nat.le_of_ble_eq_true rfl) rfl rfl (Nat.le_of_ble_eq_true rfl) (Nat.le_of_ble_eq_true rfl) ?_
  refine wq_run2 (pc' := 21) (L' := [(0, .ref 16), (3, .ref 2), (4, .int (nI h)), (5, .ref 18), (6, .int 0)]) (S' := []) (f' := (up1 (up1 (up1 (up1 f 18 (upd (upd (f 18) 4 day) 3 (nI c))) 21 (va_cpy (f 15) (f 21) 0 0 8)) 20 (va_cpy (f 14) (f 20) 0 0 8)) 19 (va_cpy (f 13) (f 19) 0 0 8))) rfl ?_
  have h9 := lp_addAct0 (fb := (up1 (up1 (up1 (up1 f 18 (upd (upd (f 18) 4 day) 3 (nI c))) 21 (va_cpy (f 15) (f 21) 0 0 8)) 20 (va_cpy (f 14) (f 20) 0 0 8)) 19 (va_cpy (f 13) (f 19) 0 0 8))) (W := W) (w := w) (h := h) hL hh h16 (10 - 0 + 1) 0 ((up1 (up1 (up1 (up1 f 18 (upd (upd (f 18) 4 day) 3 (nI c))) 21 (va_cpy (f 15) (f 21) 0 0 8)) 20 (va_cpy (f 14) (f 20) 0 0 8)) 19 (va_cpy (f 13) (f 19) 0 0 8)) 10) ((up1 (up1 (up1 (up1 f 18 (upd (upd (f 18) 4 day) 3 (nI c))) 21 (va_cpy (f 15) (f 21) 0 0 8)) 20 (va_cpy (f 14) (f 20) 0 0 8)) 19 (va_cpy (f 13) (f 19) 0 0 8)) 22) (Nat.zero_le _) (fun _ q => absurd q (Nat.not_lt_zero _)) (Nat.lt_succ_self _)
  rw [up1_id, up1_id] at h9
  exact h9
theorem lp_addAct1 {fb : HI} {W : Nat → Nat → Nat} {w h : Nat} (hL : LaC fb W w) (hh : h ≤ 60000) (h16 : fb 16 1 = nI 1) : ∀ (m9 : Nat) (t : Nat) (sc : Nat → Int32) (kk : Nat → Int32), (t ≤ 10) → (∀ j, j < t → kk j = dI (arN W w 0 h j)) → 10 - t < m9 → wq 5 53 (fun v f' => ∃ sc kk, v = some (.int (nI 1)) ∧ f' = up1 (up1 (up1 fb 16 (upd (fb 16) 1 (nI (1 + 1)))) 10 sc) 27 kk ∧ ∀ t, t < 10 → kk t = dI (arN W w 0 h t)) 21 [(0, .ref 16), (3, .ref 2), (4, .int (nI h)), (5, .ref 23), (6, .int (nI t))] [] (up1 (up1 fb 10 sc) 27 kk) := by
  intro m9
  induction m9 with
  | zero => intro t sc kk ht hk hn; exact absurd hn (Nat.not_lt_zero _)
  | succ m9 ih =>
    intro t sc kk ht hk hn
    refine wq_run2 (pc' := 25) (L' := [(0, .ref 16), (3, .ref 2), (4, .int (nI h)), (5, .ref 23), (6, .int (nI t))]) (S' := [.int 10, .int (nI t)]) (f' := (up1 (up1 fb 10 sc) 27 kk)) rfl ?_
    refine wq_if (c := 10 ≤ (nI t)) (p1 := 51) (L1 := [(0, .ref 16), (3, .ref 2), (4, .int (nI h)), (5, .ref 23), (6, .int (nI t))]) (S1 := []) (p2 := 28) (L2 := [(0, .ref 16), (3, .ref 2), (4, .int (nI h)), (5, .ref 23), (6, .int (nI t))]) (S2 := []) rfl (fun c_25 => ?_) (fun c_25 => ?_)
    · have k_25 : 10 ≤ t := (nI_leI (a := 10) (b := t) (by omega) (by omega)).mp c_25
      refine wq_run3 (pc' := 56) (L' := [(0, .ref 16), (3, .ref 2), (4, .int (nI h)), (5, .ref 23), (6, .int (nI t))]) (S' := [.int (fb 16 1), .ref 16]) (f' := (up1 (up1 fb 10 sc) 27 kk)) rfl ?_
      refine wq_v (y := (nI 1)) (h16) ?_
      refine wq_run3 (pc' := 59) (L' := [(0, .ref 16), (3, .ref 2), (4, .int (nI h)), (5, .ref 23), (6, .int (nI t))]) (S' := [.int ((nI 1) + 1), .ref 16, .int (nI 1)]) (f' := (up1 (up1 fb 10 sc) 27 kk)) rfl ?_
      refine wq_v (y := (nI (1 + 1))) (nI_add 1 1) ?_
      refine wq_putI rfl rfl ?_
      refine wq_h (f' := (up1 (up1 (up1 fb 16 (upd (fb 16) 1 (nI (1 + 1)))) 10 sc) 27 kk)) ((up2_up1_ne (f := (up1 fb 10 sc)) (g := kk) (k := 1) (v := (nI (1 + 1))) (show (16 : Nat) ≠ 27 by decide)).trans (congrArg (fun z => up1 z 27 kk) ((up2_up1_ne (f := fb) (g := sc) (k := 1) (v := (nI (1 + 1))) (show (16 : Nat) ≠ 10 by decide)).trans (congrArg (fun z => up1 z 10 sc) (up2_eq1 fb 16 1 (nI (1 + 1))))))) ?_
      have e : t = 10 := by omega
      rw [e] at hk
      exact wq_ret rfl ⟨sc, kk, rfl, rfl, hk⟩
    · have k_25 : ¬ 10 ≤ t := fun q => c_25 ((nI_leI (a := 10) (b := t) (by omega) (by omega)).mpr q)
      refine wq_run7 (pc' := 41) (L' := [(0, .ref 16), (3, .ref 2), (4, .int (nI h)), (5, .ref 23), (6, .int (nI t))]) (S' := [.int (nI h), .int (nI t), .int 0, .ref 2, .int (nI t), .ref 27]) (f' := (up1 (up1 fb 10 sc) 27 kk)) rfl ?_
      refine wq_call (sp_arrival (f := (up1 (up1 fb 10 sc) 27 kk)) (W := W) (w := w) (a := 0) (b := t) (h := h) hL (by omega) (by omega) (by omega)) (Nat.le_of_ble_eq_true rfl) (pc' := 44) (L' := [(0, .ref 16), (3, .ref 2), (4, .int (nI h)), (5, .ref 23), (6, .int (nI t))]) (S' := [.int (nI t), .ref 27]) rfl (Nat.le_of_ble_eq_true rfl) rfl rfl (Nat.le_of_ble_eq_true rfl) (Nat.le_of_ble_eq_true rfl) ?_
      rintro v f9 ⟨g, e0, ef⟩
      subst e0
      subst ef
      refine wq_h (f' := (up1 (up1 fb 10 g) 27 kk)) (by rw [show up1 (up1 (up1 fb 10 sc) 27 kk) 10 g = _ from (up1_sw (f := (up1 fb 10 sc)) (g := kk) (g' := g) (show (10 : Nat) ≠ 27 by decide)).trans (congrArg (fun z => up1 z 27 kk) (up1_up1 fb 10 sc g))]) ?_
      refine wq_ist (j := t) (n := 10) rfl rfl rfl rfl (by omega) (Nat.le_of_ble_eq_true rfl) ?_
      refine wq_h (f' := (up1 (up1 fb 10 g) 27 (upd kk t (dI (arN W w 0 h t))))) ((up2_up1_eq (up1 fb 10 g) 27 kk t (dI (arN W w 0 h t))).trans (congrArg (fun z => up1 (up1 fb 10 g) 27 z) (rfl))) ?_
      refine wq_run1 (pc' := 48) (L' := [(0, .ref 16), (3, .ref 2), (4, .int (nI h)), (5, .ref 23), (6, .int ((nI t) + 1))]) (S' := []) (f' := (up1 (up1 fb 10 g) 27 (upd kk t (dI (arN W w 0 h t))))) rfl ?_
      refine wq_L (L' := [(0, .ref 16), (3, .ref 2), (4, .int (nI h)), (5, .ref 23), (6, .int (nI (t + 1)))]) (by rw [show nI t + 1 = nI (t + 1) from nI_add _ _]) ?_
      refine wq_run1 (pc' := 21) (L' := [(0, .ref 16), (3, .ref 2), (4, .int (nI h)), (5, .ref 23), (6, .int (nI (t + 1)))]) (S' := []) (f' := (up1 (up1 fb 10 g) 27 (upd kk t (dI (arN W w 0 h t))))) rfl ?_
      exact ih (t + 1) _ _ (by omega) (fun j hj => by
        rcases Nat.lt_or_ge j t with q | q
        · exact (upd_n (by omega)).trans (hk j q)
        · have e1 : j = t := by omega
          rw [e1]; exact upd_s _ _ _) (by omega)
theorem sp_copyFrom1 {f : HI} {c : Nat} (day : Int32) (hc : f 11 7 = nI c) : Sp 1 1 [.ref 23, .ref 11, .int day] f (RetV (up1 (up1 (up1 (up1 f 23 (upd (upd (f 23) 4 day) 3 (nI c))) 26 (va_cpy (f 15) (f 26) 0 0 8)) 25 (va_cpy (f 14) (f 25) 0 0 8)) 24 (va_cpy (f 13) (f 24) 0 0 8))) := by
  show wq 1 1 (RetV (up1 (up1 (up1 (up1 f 23 (upd (upd (f 23) 4 day) 3 (nI c))) 26 (va_cpy (f 15) (f 26) 0 0 8)) 25 (va_cpy (f 14) (f 25) 0 0 8)) 24 (va_cpy (f 13) (f 24) 0 0 8))) 0 [(0, .ref 23), (1, .ref 11), (2, .int day)] [] f
  refine wq_run7 (pc' := 12) (L' := [(0, .ref 23), (1, .ref 11), (2, .int day)]) (S' := [.int 8, .int 0, .ref 24, .int 0, .ref 13]) (f' := f) rfl ?_
  refine wq_copy (n := 8) (m := 8) (sp := 0) (dp := 0) (c := 8) rfl rfl rfl rfl rfl rfl rfl rfl (by omega) (by omega) (by decide) (by decide) (Nat.le_of_ble_eq_true rfl) ?_
  refine wq_h (f' := (up1 f 24 (va_cpy (f 13) (f 24) 0 0 8))) (show up1 f 24 (va_cpy (f 13) (f 24) 0 0 8) = _ from rfl) ?_
  refine wq_run7 (pc' := 27) (L' := [(0, .ref 23), (1, .ref 11), (2, .int day)]) (S' := [.int 8, .int 0, .ref 25, .int 0, .ref 14]) (f' := (up1 f 24 (va_cpy (f 13) (f 24) 0 0 8))) rfl ?_
  refine wq_copy (n := 8) (m := 8) (sp := 0) (dp := 0) (c := 8) rfl rfl rfl rfl rfl rfl rfl rfl (by omega) (by omega) (by decide) (by decide) (Nat.le_of_ble_eq_true rfl) ?_
  refine wq_h (f' := (up1 (up1 f 25 (va_cpy (f 14) (f 25) 0 0 8)) 24 (va_cpy (f 13) (f 24) 0 0 8))) (show up1 (up1 f 24 (va_cpy (f 13) (f 24) 0 0 8)) 25 (va_cpy (f 14) (f 25) 0 0 8) = _ from (up1_sw (f := f) (g := (va_cpy (f 13) (f 24) 0 0 8)) (g' := (va_cpy (f 14) (f 25) 0 0 8)) (show (25 : Nat) ≠ 24 by decide)).trans (congrArg (fun z => up1 z 24 (va_cpy (f 13) (f 24) 0 0 8)) (rfl))) ?_
  refine wq_run7 (pc' := 42) (L' := [(0, .ref 23), (1, .ref 11), (2, .int day)]) (S' := [.int 8, .int 0, .ref 26, .int 0, .ref 15]) (f' := (up1 (up1 f 25 (va_cpy (f 14) (f 25) 0 0 8)) 24 (va_cpy (f 13) (f 24) 0 0 8))) rfl ?_
  refine wq_copy (n := 8) (m := 8) (sp := 0) (dp := 0) (c := 8) rfl rfl rfl rfl rfl rfl rfl rfl (by omega) (by omega) (by decide) (by decide) (Nat.le_of_ble_eq_true rfl) ?_
  refine wq_h (f' := (up1 (up1 (up1 f 26 (va_cpy (f 15) (f 26) 0 0 8)) 25 (va_cpy (f 14) (f 25) 0 0 8)) 24 (va_cpy (f 13) (f 24) 0 0 8))) (show up1 (up1 (up1 f 25 (va_cpy (f 14) (f 25) 0 0 8)) 24 (va_cpy (f 13) (f 24) 0 0 8)) 26 (va_cpy (f 15) (f 26) 0 0 8) = _ from (up1_sw (f := (up1 f 25 (va_cpy (f 14) (f 25) 0 0 8))) (g := (va_cpy (f 13) (f 24) 0 0 8)) (g' := (va_cpy (f 15) (f 26) 0 0 8)) (show (26 : Nat) ≠ 24 by decide)).trans (congrArg (fun z => up1 z 24 (va_cpy (f 13) (f 24) 0 0 8)) ((up1_sw (f := f) (g := (va_cpy (f 14) (f 25) 0 0 8)) (g' := (va_cpy (f 15) (f 26) 0 0 8)) (show (26 : Nat) ≠ 25 by decide)).trans (congrArg (fun z => up1 z 25 (va_cpy (f 14) (f 25) 0 0 8)) (rfl))))) ?_
  refine wq_run3 (pc' := 50) (L' := [(0, .ref 23), (1, .ref 11), (2, .int day)]) (S' := [.int (f 11 7), .ref 23]) (f' := (up1 (up1 (up1 f 26 (va_cpy (f 15) (f 26) 0 0 8)) 25 (va_cpy (f 14) (f 25) 0 0 8)) 24 (va_cpy (f 13) (f 24) 0 0 8))) rfl ?_
  refine wq_v (y := (nI c)) (hc) ?_
  refine wq_putI rfl rfl ?_
  refine wq_h (f' := (up1 (up1 (up1 (up1 f 23 (upd (f 23) 3 (nI c))) 26 (va_cpy (f 15) (f 26) 0 0 8)) 25 (va_cpy (f 14) (f 25) 0 0 8)) 24 (va_cpy (f 13) (f 24) 0 0 8))) ((up2_up1_ne (f := (up1 (up1 f 26 (va_cpy (f 15) (f 26) 0 0 8)) 25 (va_cpy (f 14) (f 25) 0 0 8))) (g := (va_cpy (f 13) (f 24) 0 0 8)) (k := 3) (v := (nI c)) (show (23 : Nat) ≠ 24 by decide)).trans (congrArg (fun z => up1 z 24 (va_cpy (f 13) (f 24) 0 0 8)) ((up2_up1_ne (f := (up1 f 26 (va_cpy (f 15) (f 26) 0 0 8))) (g := (va_cpy (f 14) (f 25) 0 0 8)) (k := 3) (v := (nI c)) (show (23 : Nat) ≠ 25 by decide)).trans (congrArg (fun z => up1 z 25 (va_cpy (f 14) (f 25) 0 0 8)) ((up2_up1_ne (f := f) (g := (va_cpy (f 15) (f 26) 0 0 8)) (k := 3) (v := (nI c)) (show (23 : Nat) ≠ 26 by decide)).trans (congrArg (fun z => up1 z 26 (va_cpy (f 15) (f 26) 0 0 8)) (up2_eq1 f 23 3 (nI c)))))))) ?_
  refine wq_run2 (pc' := 55) (L' := [(0, .ref 23), (1, .ref 11), (2, .int day)]) (S' := [.int day, .ref 23]) (f' := (up1 (up1 (up1 (up1 f 23 (upd (f 23) 3 (nI c))) 26 (va_cpy (f 15) (f 26) 0 0 8)) 25 (va_cpy (f 14) (f 25) 0 0 8)) 24 (va_cpy (f 13) (f 24) 0 0 8))) rfl ?_
  refine wq_putI rfl rfl ?_
  refine wq_h (f' := (up1 (up1 (up1 (up1 f 23 (upd (upd (f 23) 4 day) 3 (nI c))) 26 (va_cpy (f 15) (f 26) 0 0 8)) 25 (va_cpy (f 14) (f 25) 0 0 8)) 24 (va_cpy (f 13) (f 24) 0 0 8))) ((up2_up1_ne (f := (up1 (up1 (up1 f 23 (upd (f 23) 3 (nI c))) 26 (va_cpy (f 15) (f 26) 0 0 8)) 25 (va_cpy (f 14) (f 25) 0 0 8))) (g := (va_cpy (f 13) (f 24) 0 0 8)) (k := 4) (v := day) (show (23 : Nat) ≠ 24 by decide)).trans (congrArg (fun z => up1 z 24 (va_cpy (f 13) (f 24) 0 0 8)) ((up2_up1_ne (f := (up1 (up1 f 23 (upd (f 23) 3 (nI c))) 26 (va_cpy (f 15) (f 26) 0 0 8))) (g := (va_cpy (f 14) (f 25) 0 0 8)) (k := 4) (v := day) (show (23 : Nat) ≠ 25 by decide)).trans (congrArg (fun z => up1 z 25 (va_cpy (f 14) (f 25) 0 0 8)) ((up2_up1_ne (f := (up1 f 23 (upd (f 23) 3 (nI c)))) (g := (va_cpy (f 15) (f 26) 0 0 8)) (k := 4) (v := day) (show (23 : Nat) ≠ 26 by decide)).trans (congrArg (fun z => up1 z 26 (va_cpy (f 15) (f 26) 0 0 8)) ((up2_up1_eq f 23 (upd (f 23) 3 (nI c)) 4 day).trans (congrArg (fun z => up1 f 23 z) ((upd_sw (g := (f 23)) (v := (nI c)) (w := day) (show (4 : Nat) ≠ 3 by decide)).trans (congrArg (fun z => upd z 3 (nI c)) (rfl))))))))))) ?_
  exact wq_ret rfl ⟨rfl, rfl⟩
theorem sp_addAct1 {f : HI} {W : Nat → Nat → Nat} {w h : Nat} {c : Nat} (day : Int32) (hL : LaC f W w) (hh : h ≤ 60000) (h16 : f 16 1 = nI 1) (hc : f 11 7 = nI c) : Sp 5 53 [.ref 16, .ref 11, .int day, .ref 2, .int (nI h)] f (fun v f' => ∃ sc kk, v = some (.int (nI 1)) ∧ f' = up1 (up1 (up1 (up1 (up1 (up1 (up1 f 23 (upd (upd (f 23) 4 day) 3 (nI c))) 26 (va_cpy (f 15) (f 26) 0 0 8)) 25 (va_cpy (f 14) (f 25) 0 0 8)) 24 (va_cpy (f 13) (f 24) 0 0 8)) 16 (upd (f 16) 1 (nI (1 + 1)))) 10 sc) 27 kk ∧ ∀ t, t < 10 → kk t = dI (arN W w 0 h t)) := by
  show wq 5 53 (fun v f' => ∃ sc kk, v = some (.int (nI 1)) ∧ f' = up1 (up1 (up1 (up1 (up1 (up1 (up1 f 23 (upd (upd (f 23) 4 day) 3 (nI c))) 26 (va_cpy (f 15) (f 26) 0 0 8)) 25 (va_cpy (f 14) (f 25) 0 0 8)) 24 (va_cpy (f 13) (f 24) 0 0 8)) 16 (upd (f 16) 1 (nI (1 + 1)))) 10 sc) 27 kk ∧ ∀ t, t < 10 → kk t = dI (arN W w 0 h t)) 0 [(0, .ref 16), (1, .ref 11), (2, .int day), (3, .ref 2), (4, .int (nI h))] [] f
  refine wq_run4 (pc' := 8) (L' := [(0, .ref 16), (1, .ref 11), (2, .int day), (3, .ref 2), (4, .int (nI h))]) (S' := [.int (f 16 1), .ref 17]) (f' := f) rfl ?_
  refine wq_v (y := (nI 1)) (h16) ?_
  refine wq_qld (j := 1) (n := 5) (b := 23) rfl rfl rfl rfl (Nat.le_of_ble_eq_true rfl) (Nat.le_of_ble_eq_true rfl) rfl ?_
  refine wq_run4 (pc' := 15) (L' := [(0, .ref 16), (1, .ref 11), (2, .int day), (3, .ref 2), (4, .int (nI h)), (5, .ref 23)]) (S' := [.int day, .ref 11, .ref 23]) (f' := f) rfl ?_
  refine wq_callV (g := (up1 (up1 (up1 (up1 f 23 (upd (upd (f 23) 4 day) 3 (nI c))) 26 (va_cpy (f 15) (f 26) 0 0 8)) 25 (va_cpy (f 14) (f 25) 0 0 8)) 24 (va_cpy (f 13) (f 24) 0 0 8))) (sp_copyFrom1 (f := f) day hc) (Nat.le_of_ble_eq_true rfl) (pc' := 18) (L' := [(0, .ref 16), (1, .ref 11), (2, .int day), (3, .ref 2), (4, .int (nI h)), (5, .ref 23)]) (S' := []) rfl (Nat.le_of_ble_eq_true rfl) rfl rfl (Nat.le_of_ble_eq_true rfl) (Nat.le_of_ble_eq_true rfl) ?_
  refine wq_run2 (pc' := 21) (L' := [(0, .ref 16), (3, .ref 2), (4, .int (nI h)), (5, .ref 23), (6, .int 0)]) (S' := []) (f' := (up1 (up1 (up1 (up1 f 23 (upd (upd (f 23) 4 day) 3 (nI c))) 26 (va_cpy (f 15) (f 26) 0 0 8)) 25 (va_cpy (f 14) (f 25) 0 0 8)) 24 (va_cpy (f 13) (f 24) 0 0 8))) rfl ?_
  have h9 := lp_addAct1 (fb := (up1 (up1 (up1 (up1 f 23 (upd (upd (f 23) 4 day) 3 (nI c))) 26 (va_cpy (f 15) (f 26) 0 0 8)) 25 (va_cpy (f 14) (f 25) 0 0 8)) 24 (va_cpy (f 13) (f 24) 0 0 8))) (W := W) (w := w) (h := h) hL hh h16 (10 - 0 + 1) 0 ((up1 (up1 (up1 (up1 f 23 (upd (upd (f 23) 4 day) 3 (nI c))) 26 (va_cpy (f 15) (f 26) 0 0 8)) 25 (va_cpy (f 14) (f 25) 0 0 8)) 24 (va_cpy (f 13) (f 24) 0 0 8)) 10) ((up1 (up1 (up1 (up1 f 23 (upd (upd (f 23) 4 day) 3 (nI c))) 26 (va_cpy (f 15) (f 26) 0 0 8)) 25 (va_cpy (f 14) (f 25) 0 0 8)) 24 (va_cpy (f 13) (f 24) 0 0 8)) 27) (Nat.zero_le _) (fun _ q => absurd q (Nat.not_lt_zero _)) (Nat.lt_succ_self _)
  rw [up1_id, up1_id] at h9
  exact h9
theorem lp_addAct2 {fb : HI} {W : Nat → Nat → Nat} {w h : Nat} (hL : LaC fb W w) (hh : h ≤ 60000) (h16 : fb 16 1 = nI 2) : ∀ (m9 : Nat) (t : Nat) (sc : Nat → Int32) (kk : Nat → Int32), (t ≤ 10) → (∀ j, j < t → kk j = dI (arN W w 0 h j)) → 10 - t < m9 → wq 5 53 (fun v f' => ∃ sc kk, v = some (.int (nI 2)) ∧ f' = up1 (up1 (up1 fb 16 (upd (fb 16) 1 (nI (2 + 1)))) 10 sc) 32 kk ∧ ∀ t, t < 10 → kk t = dI (arN W w 0 h t)) 21 [(0, .ref 16), (3, .ref 2), (4, .int (nI h)), (5, .ref 28), (6, .int (nI t))] [] (up1 (up1 fb 10 sc) 32 kk) := by
  intro m9
  induction m9 with
  | zero => intro t sc kk ht hk hn; exact absurd hn (Nat.not_lt_zero _)
  | succ m9 ih =>
    intro t sc kk ht hk hn
    refine wq_run2 (pc' := 25) (L' := [(0, .ref 16), (3, .ref 2), (4, .int (nI h)), (5, .ref 28), (6, .int (nI t))]) (S' := [.int 10, .int (nI t)]) (f' := (up1 (up1 fb 10 sc) 32 kk)) rfl ?_
    refine wq_if (c := 10 ≤ (nI t)) (p1 := 51) (L1 := [(0, .ref 16), (3, .ref 2), (4, .int (nI h)), (5, .ref 28), (6, .int (nI t))]) (S1 := []) (p2 := 28) (L2 := [(0, .ref 16), (3, .ref 2), (4, .int (nI h)), (5, .ref 28), (6, .int (nI t))]) (S2 := []) rfl (fun c_25 => ?_) (fun c_25 => ?_)
    · have k_25 : 10 ≤ t := (nI_leI (a := 10) (b := t) (by omega) (by omega)).mp c_25
      refine wq_run3 (pc' := 56) (L' := [(0, .ref 16), (3, .ref 2), (4, .int (nI h)), (5, .ref 28), (6, .int (nI t))]) (S' := [.int (fb 16 1), .ref 16]) (f' := (up1 (up1 fb 10 sc) 32 kk)) rfl ?_
      refine wq_v (y := (nI 2)) (h16) ?_
      refine wq_run3 (pc' := 59) (L' := [(0, .ref 16), (3, .ref 2), (4, .int (nI h)), (5, .ref 28), (6, .int (nI t))]) (S' := [.int ((nI 2) + 1), .ref 16, .int (nI 2)]) (f' := (up1 (up1 fb 10 sc) 32 kk)) rfl ?_
      refine wq_v (y := (nI (2 + 1))) (nI_add 2 1) ?_
      refine wq_putI rfl rfl ?_
      refine wq_h (f' := (up1 (up1 (up1 fb 16 (upd (fb 16) 1 (nI (2 + 1)))) 10 sc) 32 kk)) ((up2_up1_ne (f := (up1 fb 10 sc)) (g := kk) (k := 1) (v := (nI (2 + 1))) (show (16 : Nat) ≠ 32 by decide)).trans (congrArg (fun z => up1 z 32 kk) ((up2_up1_ne (f := fb) (g := sc) (k := 1) (v := (nI (2 + 1))) (show (16 : Nat) ≠ 10 by decide)).trans (congrArg (fun z => up1 z 10 sc) (up2_eq1 fb 16 1 (nI (2 + 1))))))) ?_
      have e : t = 10 := by omega
      rw [e] at hk
      exact wq_ret rfl ⟨sc, kk, rfl, rfl, hk⟩
    · have k_25 : ¬ 10 ≤ t := fun q => c_25 ((nI_leI (a := 10) (b := t) (by omega) (by omega)).mpr q)
      refine wq_run7 (pc' := 41) (L' := [(0, .ref 16), (3, .ref 2), (4, .int (nI h)), (5, .ref 28), (6, .int (nI t))]) (S' := [.int (nI h), .int (nI t), .int 0, .ref 2, .int (nI t), .ref 32]) (f' := (up1 (up1 fb 10 sc) 32 kk)) rfl ?_
      refine wq_call (sp_arrival (f := (up1 (up1 fb 10 sc) 32 kk)) (W := W) (w := w) (a := 0) (b := t) (h := h) hL (by omega) (by omega) (by omega)) (Nat.le_of_ble_eq_true rfl) (pc' := 44) (L' := [(0, .ref 16), (3, .ref 2), (4, .int (nI h)), (5, .ref 28), (6, .int (nI t))]) (S' := [.int (nI t), .ref 32]) rfl (Nat.le_of_ble_eq_true rfl) rfl rfl (Nat.le_of_ble_eq_true rfl) (Nat.le_of_ble_eq_true rfl) ?_
      rintro v f9 ⟨g, e0, ef⟩
      subst e0
      subst ef
      refine wq_h (f' := (up1 (up1 fb 10 g) 32 kk)) (by rw [show up1 (up1 (up1 fb 10 sc) 32 kk) 10 g = _ from (up1_sw (f := (up1 fb 10 sc)) (g := kk) (g' := g) (show (10 : Nat) ≠ 32 by decide)).trans (congrArg (fun z => up1 z 32 kk) (up1_up1 fb 10 sc g))]) ?_
      refine wq_ist (j := t) (n := 10) rfl rfl rfl rfl (by omega) (Nat.le_of_ble_eq_true rfl) ?_
      refine wq_h (f' := (up1 (up1 fb 10 g) 32 (upd kk t (dI (arN W w 0 h t))))) ((up2_up1_eq (up1 fb 10 g) 32 kk t (dI (arN W w 0 h t))).trans (congrArg (fun z => up1 (up1 fb 10 g) 32 z) (rfl))) ?_
      refine wq_run1 (pc' := 48) (L' := [(0, .ref 16), (3, .ref 2), (4, .int (nI h)), (5, .ref 28), (6, .int ((nI t) + 1))]) (S' := []) (f' := (up1 (up1 fb 10 g) 32 (upd kk t (dI (arN W w 0 h t))))) rfl ?_
      refine wq_L (L' := [(0, .ref 16), (3, .ref 2), (4, .int (nI h)), (5, .ref 28), (6, .int (nI (t + 1)))]) (by rw [show nI t + 1 = nI (t + 1) from nI_add _ _]) ?_
      refine wq_run1 (pc' := 21) (L' := [(0, .ref 16), (3, .ref 2), (4, .int (nI h)), (5, .ref 28), (6, .int (nI (t + 1)))]) (S' := []) (f' := (up1 (up1 fb 10 g) 32 (upd kk t (dI (arN W w 0 h t))))) rfl ?_
      exact ih (t + 1) _ _ (by omega) (fun j hj => by
        rcases Nat.lt_or_ge j t with q | q
        · exact (upd_n (by omega)).trans (hk j q)
        · have e1 : j = t := by omega
          rw [e1]; exact upd_s _ _ _) (by omega)
theorem sp_copyFrom2 {f : HI} {c : Nat} (day : Int32) (hc : f 11 7 = nI c) : Sp 1 1 [.ref 28, .ref 11, .int day] f (RetV (up1 (up1 (up1 (up1 f 28 (upd (upd (f 28) 4 day) 3 (nI c))) 31 (va_cpy (f 15) (f 31) 0 0 8)) 30 (va_cpy (f 14) (f 30) 0 0 8)) 29 (va_cpy (f 13) (f 29) 0 0 8))) := by
  show wq 1 1 (RetV (up1 (up1 (up1 (up1 f 28 (upd (upd (f 28) 4 day) 3 (nI c))) 31 (va_cpy (f 15) (f 31) 0 0 8)) 30 (va_cpy (f 14) (f 30) 0 0 8)) 29 (va_cpy (f 13) (f 29) 0 0 8))) 0 [(0, .ref 28), (1, .ref 11), (2, .int day)] [] f
  refine wq_run7 (pc' := 12) (L' := [(0, .ref 28), (1, .ref 11), (2, .int day)]) (S' := [.int 8, .int 0, .ref 29, .int 0, .ref 13]) (f' := f) rfl ?_
  refine wq_copy (n := 8) (m := 8) (sp := 0) (dp := 0) (c := 8) rfl rfl rfl rfl rfl rfl rfl rfl (by omega) (by omega) (by decide) (by decide) (Nat.le_of_ble_eq_true rfl) ?_
  refine wq_h (f' := (up1 f 29 (va_cpy (f 13) (f 29) 0 0 8))) (show up1 f 29 (va_cpy (f 13) (f 29) 0 0 8) = _ from rfl) ?_
  refine wq_run7 (pc' := 27) (L' := [(0, .ref 28), (1, .ref 11), (2, .int day)]) (S' := [.int 8, .int 0, .ref 30, .int 0, .ref 14]) (f' := (up1 f 29 (va_cpy (f 13) (f 29) 0 0 8))) rfl ?_
  refine wq_copy (n := 8) (m := 8) (sp := 0) (dp := 0) (c := 8) rfl rfl rfl rfl rfl rfl rfl rfl (by omega) (by omega) (by decide) (by decide) (Nat.le_of_ble_eq_true rfl) ?_
  refine wq_h (f' := (up1 (up1 f 30 (va_cpy (f 14) (f 30) 0 0 8)) 29 (va_cpy (f 13) (f 29) 0 0 8))) (show up1 (up1 f 29 (va_cpy (f 13) (f 29) 0 0 8)) 30 (va_cpy (f 14) (f 30) 0 0 8) = _ from (up1_sw (f := f) (g := (va_cpy (f 13) (f 29) 0 0 8)) (g' := (va_cpy (f 14) (f 30) 0 0 8)) (show (30 : Nat) ≠ 29 by decide)).trans (congrArg (fun z => up1 z 29 (va_cpy (f 13) (f 29) 0 0 8)) (rfl))) ?_
  refine wq_run7 (pc' := 42) (L' := [(0, .ref 28), (1, .ref 11), (2, .int day)]) (S' := [.int 8, .int 0, .ref 31, .int 0, .ref 15]) (f' := (up1 (up1 f 30 (va_cpy (f 14) (f 30) 0 0 8)) 29 (va_cpy (f 13) (f 29) 0 0 8))) rfl ?_
  refine wq_copy (n := 8) (m := 8) (sp := 0) (dp := 0) (c := 8) rfl rfl rfl rfl rfl rfl rfl rfl (by omega) (by omega) (by decide) (by decide) (Nat.le_of_ble_eq_true rfl) ?_
  refine wq_h (f' := (up1 (up1 (up1 f 31 (va_cpy (f 15) (f 31) 0 0 8)) 30 (va_cpy (f 14) (f 30) 0 0 8)) 29 (va_cpy (f 13) (f 29) 0 0 8))) (show up1 (up1 (up1 f 30 (va_cpy (f 14) (f 30) 0 0 8)) 29 (va_cpy (f 13) (f 29) 0 0 8)) 31 (va_cpy (f 15) (f 31) 0 0 8) = _ from (up1_sw (f := (up1 f 30 (va_cpy (f 14) (f 30) 0 0 8))) (g := (va_cpy (f 13) (f 29) 0 0 8)) (g' := (va_cpy (f 15) (f 31) 0 0 8)) (show (31 : Nat) ≠ 29 by decide)).trans (congrArg (fun z => up1 z 29 (va_cpy (f 13) (f 29) 0 0 8)) ((up1_sw (f := f) (g := (va_cpy (f 14) (f 30) 0 0 8)) (g' := (va_cpy (f 15) (f 31) 0 0 8)) (show (31 : Nat) ≠ 30 by decide)).trans (congrArg (fun z => up1 z 30 (va_cpy (f 14) (f 30) 0 0 8)) (rfl))))) ?_
  refine wq_run3 (pc' := 50) (L' := [(0, .ref 28), (1, .ref 11), (2, .int day)]) (S' := [.int (f 11 7), .ref 28]) (f' := (up1 (up1 (up1 f 31 (va_cpy (f 15) (f 31) 0 0 8)) 30 (va_cpy (f 14) (f 30) 0 0 8)) 29 (va_cpy (f 13) (f 29) 0 0 8))) rfl ?_
  refine wq_v (y := (nI c)) (hc) ?_
  refine wq_putI rfl rfl ?_
  refine wq_h (f' := (up1 (up1 (up1 (up1 f 28 (upd (f 28) 3 (nI c))) 31 (va_cpy (f 15) (f 31) 0 0 8)) 30 (va_cpy (f 14) (f 30) 0 0 8)) 29 (va_cpy (f 13) (f 29) 0 0 8))) ((up2_up1_ne (f := (up1 (up1 f 31 (va_cpy (f 15) (f 31) 0 0 8)) 30 (va_cpy (f 14) (f 30) 0 0 8))) (g := (va_cpy (f 13) (f 29) 0 0 8)) (k := 3) (v := (nI c)) (show (28 : Nat) ≠ 29 by decide)).trans (congrArg (fun z => up1 z 29 (va_cpy (f 13) (f 29) 0 0 8)) ((up2_up1_ne (f := (up1 f 31 (va_cpy (f 15) (f 31) 0 0 8))) (g := (va_cpy (f 14) (f 30) 0 0 8)) (k := 3) (v := (nI c)) (show (28 : Nat) ≠ 30 by decide)).trans (congrArg (fun z => up1 z 30 (va_cpy (f 14) (f 30) 0 0 8)) ((up2_up1_ne (f := f) (g := (va_cpy (f 15) (f 31) 0 0 8)) (k := 3) (v := (nI c)) (show (28 : Nat) ≠ 31 by decide)).trans (congrArg (fun z => up1 z 31 (va_cpy (f 15) (f 31) 0 0 8)) (up2_eq1 f 28 3 (nI c)))))))) ?_
  refine wq_run2 (pc' := 55) (L' := [(0, .ref 28), (1, .ref 11), (2, .int day)]) (S' := [.int day, .ref 28]) (f' := (up1 (up1 (up1 (up1 f 28 (upd (f 28) 3 (nI c))) 31 (va_cpy (f 15) (f 31) 0 0 8)) 30 (va_cpy (f 14) (f 30) 0 0 8)) 29 (va_cpy (f 13) (f 29) 0 0 8))) rfl ?_
  refine wq_putI rfl rfl ?_
  refine wq_h (f' := (up1 (up1 (up1 (up1 f 28 (upd (upd (f 28) 4 day) 3 (nI c))) 31 (va_cpy (f 15) (f 31) 0 0 8)) 30 (va_cpy (f 14) (f 30) 0 0 8)) 29 (va_cpy (f 13) (f 29) 0 0 8))) ((up2_up1_ne (f := (up1 (up1 (up1 f 28 (upd (f 28) 3 (nI c))) 31 (va_cpy (f 15) (f 31) 0 0 8)) 30 (va_cpy (f 14) (f 30) 0 0 8))) (g := (va_cpy (f 13) (f 29) 0 0 8)) (k := 4) (v := day) (show (28 : Nat) ≠ 29 by decide)).trans (congrArg (fun z => up1 z 29 (va_cpy (f 13) (f 29) 0 0 8)) ((up2_up1_ne (f := (up1 (up1 f 28 (upd (f 28) 3 (nI c))) 31 (va_cpy (f 15) (f 31) 0 0 8))) (g := (va_cpy (f 14) (f 30) 0 0 8)) (k := 4) (v := day) (show (28 : Nat) ≠ 30 by decide)).trans (congrArg (fun z => up1 z 30 (va_cpy (f 14) (f 30) 0 0 8)) ((up2_up1_ne (f := (up1 f 28 (upd (f 28) 3 (nI c)))) (g := (va_cpy (f 15) (f 31) 0 0 8)) (k := 4) (v := day) (show (28 : Nat) ≠ 31 by decide)).trans (congrArg (fun z => up1 z 31 (va_cpy (f 15) (f 31) 0 0 8)) ((up2_up1_eq f 28 (upd (f 28) 3 (nI c)) 4 day).trans (congrArg (fun z => up1 f 28 z) ((upd_sw (g := (f 28)) (v := (nI c)) (w := day) (show (4 : Nat) ≠ 3 by decide)).trans (congrArg (fun z => upd z 3 (nI c)) (rfl))))))))))) ?_
  exact wq_ret rfl ⟨rfl, rfl⟩
theorem sp_addAct2 {f : HI} {W : Nat → Nat → Nat} {w h : Nat} {c : Nat} (day : Int32) (hL : LaC f W w) (hh : h ≤ 60000) (h16 : f 16 1 = nI 2) (hc : f 11 7 = nI c) : Sp 5 53 [.ref 16, .ref 11, .int day, .ref 2, .int (nI h)] f (fun v f' => ∃ sc kk, v = some (.int (nI 2)) ∧ f' = up1 (up1 (up1 (up1 (up1 (up1 (up1 f 28 (upd (upd (f 28) 4 day) 3 (nI c))) 31 (va_cpy (f 15) (f 31) 0 0 8)) 30 (va_cpy (f 14) (f 30) 0 0 8)) 29 (va_cpy (f 13) (f 29) 0 0 8)) 16 (upd (f 16) 1 (nI (2 + 1)))) 10 sc) 32 kk ∧ ∀ t, t < 10 → kk t = dI (arN W w 0 h t)) := by
  show wq 5 53 (fun v f' => ∃ sc kk, v = some (.int (nI 2)) ∧ f' = up1 (up1 (up1 (up1 (up1 (up1 (up1 f 28 (upd (upd (f 28) 4 day) 3 (nI c))) 31 (va_cpy (f 15) (f 31) 0 0 8)) 30 (va_cpy (f 14) (f 30) 0 0 8)) 29 (va_cpy (f 13) (f 29) 0 0 8)) 16 (upd (f 16) 1 (nI (2 + 1)))) 10 sc) 32 kk ∧ ∀ t, t < 10 → kk t = dI (arN W w 0 h t)) 0 [(0, .ref 16), (1, .ref 11), (2, .int day), (3, .ref 2), (4, .int (nI h))] [] f
  refine wq_run4 (pc' := 8) (L' := [(0, .ref 16), (1, .ref 11), (2, .int day), (3, .ref 2), (4, .int (nI h))]) (S' := [.int (f 16 1), .ref 17]) (f' := f) rfl ?_
  refine wq_v (y := (nI 2)) (h16) ?_
  refine wq_qld (j := 2) (n := 5) (b := 28) rfl rfl rfl rfl (Nat.le_of_ble_eq_true rfl) (Nat.le_of_ble_eq_true rfl) rfl ?_
  refine wq_run4 (pc' := 15) (L' := [(0, .ref 16), (1, .ref 11), (2, .int day), (3, .ref 2), (4, .int (nI h)), (5, .ref 28)]) (S' := [.int day, .ref 11, .ref 28]) (f' := f) rfl ?_
  refine wq_callV (g := (up1 (up1 (up1 (up1 f 28 (upd (upd (f 28) 4 day) 3 (nI c))) 31 (va_cpy (f 15) (f 31) 0 0 8)) 30 (va_cpy (f 14) (f 30) 0 0 8)) 29 (va_cpy (f 13) (f 29) 0 0 8))) (sp_copyFrom2 (f := f) day hc) (Nat.le_of_ble_eq_true rfl) (pc' := 18) (L' := [(0, .ref 16), (1, .ref 11), (2, .int day), (3, .ref 2), (4, .int (nI h)), (5, .ref 28)]) (S' := []) rfl (Nat.le_of_ble_eq_true rfl) rfl rfl (Nat.le_of_ble_eq_true rfl) (Nat.le_of_ble_eq_true rfl) ?_
  refine wq_run2 (pc' := 21) (L' := [(0, .ref 16), (3, .ref 2), (4, .int (nI h)), (5, .ref 28), (6, .int 0)]) (S' := []) (f' := (up1 (up1 (up1 (up1 f 28 (upd (upd (f 28) 4 day) 3 (nI c))) 31 (va_cpy (f 15) (f 31) 0 0 8)) 30 (va_cpy (f 14) (f 30) 0 0 8)) 29 (va_cpy (f 13) (f 29) 0 0 8))) rfl ?_
  have h9 := lp_addAct2 (fb := (up1 (up1 (up1 (up1 f 28 (upd (upd (f 28) 4 day) 3 (nI c))) 31 (va_cpy (f 15) (f 31) 0 0 8)) 30 (va_cpy (f 14) (f 30) 0 0 8)) 29 (va_cpy (f 13) (f 29) 0 0 8))) (W := W) (w := w) (h := h) hL hh h16 (10 - 0 + 1) 0 ((up1 (up1 (up1 (up1 f 28 (upd (upd (f 28) 4 day) 3 (nI c))) 31 (va_cpy (f 15) (f 31) 0 0 8)) 30 (va_cpy (f 14) (f 30) 0 0 8)) 29 (va_cpy (f 13) (f 29) 0 0 8)) 10) ((up1 (up1 (up1 (up1 f 28 (upd (upd (f 28) 4 day) 3 (nI c))) 31 (va_cpy (f 15) (f 31) 0 0 8)) 30 (va_cpy (f 14) (f 30) 0 0 8)) 29 (va_cpy (f 13) (f 29) 0 0 8)) 32) (Nat.zero_le _) (fun _ q => absurd q (Nat.not_lt_zero _)) (Nat.lt_succ_self _)
  rw [up1_id, up1_id] at h9
  exact h9
theorem lp_addAct3 {fb : HI} {W : Nat → Nat → Nat} {w h : Nat} (hL : LaC fb W w) (hh : h ≤ 60000) (h16 : fb 16 1 = nI 3) : ∀ (m9 : Nat) (t : Nat) (sc : Nat → Int32) (kk : Nat → Int32), (t ≤ 10) → (∀ j, j < t → kk j = dI (arN W w 0 h j)) → 10 - t < m9 → wq 5 53 (fun v f' => ∃ sc kk, v = some (.int (nI 3)) ∧ f' = up1 (up1 (up1 fb 16 (upd (fb 16) 1 (nI (3 + 1)))) 10 sc) 37 kk ∧ ∀ t, t < 10 → kk t = dI (arN W w 0 h t)) 21 [(0, .ref 16), (3, .ref 2), (4, .int (nI h)), (5, .ref 33), (6, .int (nI t))] [] (up1 (up1 fb 10 sc) 37 kk) := by
  intro m9
  induction m9 with
  | zero => intro t sc kk ht hk hn; exact absurd hn (Nat.not_lt_zero _)
  | succ m9 ih =>
    intro t sc kk ht hk hn
    refine wq_run2 (pc' := 25) (L' := [(0, .ref 16), (3, .ref 2), (4, .int (nI h)), (5, .ref 33), (6, .int (nI t))]) (S' := [.int 10, .int (nI t)]) (f' := (up1 (up1 fb 10 sc) 37 kk)) rfl ?_
    refine wq_if (c := 10 ≤ (nI t)) (p1 := 51) (L1 := [(0, .ref 16), (3, .ref 2), (4, .int (nI h)), (5, .ref 33), (6, .int (nI t))]) (S1 := []) (p2 := 28) (L2 := [(0, .ref 16), (3, .ref 2), (4, .int (nI h)), (5, .ref 33), (6, .int (nI t))]) (S2 := []) rfl (fun c_25 => ?_) (fun c_25 => ?_)
    · have k_25 : 10 ≤ t := (nI_leI (a := 10) (b := t) (by omega) (by omega)).mp c_25
      refine wq_run3 (pc' := 56) (L' := [(0, .ref 16), (3, .ref 2), (4, .int (nI h)), (5, .ref 33), (6, .int (nI t))]) (S' := [.int (fb 16 1), .ref 16]) (f' := (up1 (up1 fb 10 sc) 37 kk)) rfl ?_
      refine wq_v (y := (nI 3)) (h16) ?_
      refine wq_run3 (pc' := 59) (L' := [(0, .ref 16), (3, .ref 2), (4, .int (nI h)), (5, .ref 33), (6, .int (nI t))]) (S' := [.int ((nI 3) + 1), .ref 16, .int (nI 3)]) (f' := (up1 (up1 fb 10 sc) 37 kk)) rfl ?_
      refine wq_v (y := (nI (3 + 1))) (nI_add 3 1) ?_
      refine wq_putI rfl rfl ?_
      refine wq_h (f' := (up1 (up1 (up1 fb 16 (upd (fb 16) 1 (nI (3 + 1)))) 10 sc) 37 kk)) ((up2_up1_ne (f := (up1 fb 10 sc)) (g := kk) (k := 1) (v := (nI (3 + 1))) (show (16 : Nat) ≠ 37 by decide)).trans (congrArg (fun z => up1 z 37 kk) ((up2_up1_ne (f := fb) (g := sc) (k := 1) (v := (nI (3 + 1))) (show (16 : Nat) ≠ 10 by decide)).trans (congrArg (fun z => up1 z 10 sc) (up2_eq1 fb 16 1 (nI (3 + 1))))))) ?_
      have e : t = 10 := by omega
      rw [e] at hk
      exact wq_ret rfl ⟨sc, kk, rfl, rfl, hk⟩
    · have k_25 : ¬ 10 ≤ t := fun q => c_25 ((nI_leI (a := 10) (b := t) (by omega) (by omega)).mpr q)
      refine wq_run7 (pc' := 41) (L' := [(0, .ref 16), (3, .ref 2), (4, .int (nI h)), (5, .ref 33), (6, .int (nI t))]) (S' := [.int (nI h), .int (nI t), .int 0, .ref 2, .int (nI t), .ref 37]) (f' := (up1 (up1 fb 10 sc) 37 kk)) rfl ?_
      refine wq_call (sp_arrival (f := (up1 (up1 fb 10 sc) 37 kk)) (W := W) (w := w) (a := 0) (b := t) (h := h) hL (by omega) (by omega) (by omega)) (Nat.le_of_ble_eq_true rfl) (pc' := 44) (L' := [(0, .ref 16), (3, .ref 2), (4, .int (nI h)), (5, .ref 33), (6, .int (nI t))]) (S' := [.int (nI t), .ref 37]) rfl (Nat.le_of_ble_eq_true rfl) rfl rfl (Nat.le_of_ble_eq_true rfl) (Nat.le_of_ble_eq_true rfl) ?_
      rintro v f9 ⟨g, e0, ef⟩
      subst e0
      subst ef
      refine wq_h (f' := (up1 (up1 fb 10 g) 37 kk)) (by rw [show up1 (up1 (up1 fb 10 sc) 37 kk) 10 g = _ from (up1_sw (f := (up1 fb 10 sc)) (g := kk) (g' := g) (show (10 : Nat) ≠ 37 by decide)).trans (congrArg (fun z => up1 z 37 kk) (up1_up1 fb 10 sc g))]) ?_
      refine wq_ist (j := t) (n := 10) rfl rfl rfl rfl (by omega) (Nat.le_of_ble_eq_true rfl) ?_
      refine wq_h (f' := (up1 (up1 fb 10 g) 37 (upd kk t (dI (arN W w 0 h t))))) ((up2_up1_eq (up1 fb 10 g) 37 kk t (dI (arN W w 0 h t))).trans (congrArg (fun z => up1 (up1 fb 10 g) 37 z) (rfl))) ?_
      refine wq_run1 (pc' := 48) (L' := [(0, .ref 16), (3, .ref 2), (4, .int (nI h)), (5, .ref 33), (6, .int ((nI t) + 1))]) (S' := []) (f' := (up1 (up1 fb 10 g) 37 (upd kk t (dI (arN W w 0 h t))))) rfl ?_
      refine wq_L (L' := [(0, .ref 16), (3, .ref 2), (4, .int (nI h)), (5, .ref 33), (6, .int (nI (t + 1)))]) (by rw [show nI t + 1 = nI (t + 1) from nI_add _ _]) ?_
      refine wq_run1 (pc' := 21) (L' := [(0, .ref 16), (3, .ref 2), (4, .int (nI h)), (5, .ref 33), (6, .int (nI (t + 1)))]) (S' := []) (f' := (up1 (up1 fb 10 g) 37 (upd kk t (dI (arN W w 0 h t))))) rfl ?_
      exact ih (t + 1) _ _ (by omega) (fun j hj => by
        rcases Nat.lt_or_ge j t with q | q
        · exact (upd_n (by omega)).trans (hk j q)
        · have e1 : j = t := by omega
          rw [e1]; exact upd_s _ _ _) (by omega)
theorem sp_copyFrom3 {f : HI} {c : Nat} (day : Int32) (hc : f 11 7 = nI c) : Sp 1 1 [.ref 33, .ref 11, .int day] f (RetV (up1 (up1 (up1 (up1 f 33 (upd (upd (f 33) 4 day) 3 (nI c))) 36 (va_cpy (f 15) (f 36) 0 0 8)) 35 (va_cpy (f 14) (f 35) 0 0 8)) 34 (va_cpy (f 13) (f 34) 0 0 8))) := by
  show wq 1 1 (RetV (up1 (up1 (up1 (up1 f 33 (upd (upd (f 33) 4 day) 3 (nI c))) 36 (va_cpy (f 15) (f 36) 0 0 8)) 35 (va_cpy (f 14) (f 35) 0 0 8)) 34 (va_cpy (f 13) (f 34) 0 0 8))) 0 [(0, .ref 33), (1, .ref 11), (2, .int day)] [] f
  refine wq_run7 (pc' := 12) (L' := [(0, .ref 33), (1, .ref 11), (2, .int day)]) (S' := [.int 8, .int 0, .ref 34, .int 0, .ref 13]) (f' := f) rfl ?_
  refine wq_copy (n := 8) (m := 8) (sp := 0) (dp := 0) (c := 8) rfl rfl rfl rfl rfl rfl rfl rfl (by omega) (by omega) (by decide) (by decide) (Nat.le_of_ble_eq_true rfl) ?_
  refine wq_h (f' := (up1 f 34 (va_cpy (f 13) (f 34) 0 0 8))) (show up1 f 34 (va_cpy (f 13) (f 34) 0 0 8) = _ from rfl) ?_
  refine wq_run7 (pc' := 27) (L' := [(0, .ref 33), (1, .ref 11), (2, .int day)]) (S' := [.int 8, .int 0, .ref 35, .int 0, .ref 14]) (f' := (up1 f 34 (va_cpy (f 13) (f 34) 0 0 8))) rfl ?_
  refine wq_copy (n := 8) (m := 8) (sp := 0) (dp := 0) (c := 8) rfl rfl rfl rfl rfl rfl rfl rfl (by omega) (by omega) (by decide) (by decide) (Nat.le_of_ble_eq_true rfl) ?_
  refine wq_h (f' := (up1 (up1 f 35 (va_cpy (f 14) (f 35) 0 0 8)) 34 (va_cpy (f 13) (f 34) 0 0 8))) (show up1 (up1 f 34 (va_cpy (f 13) (f 34) 0 0 8)) 35 (va_cpy (f 14) (f 35) 0 0 8) = _ from (up1_sw (f := f) (g := (va_cpy (f 13) (f 34) 0 0 8)) (g' := (va_cpy (f 14) (f 35) 0 0 8)) (show (35 : Nat) ≠ 34 by decide)).trans (congrArg (fun z => up1 z 34 (va_cpy (f 13) (f 34) 0 0 8)) (rfl))) ?_
  refine wq_run7 (pc' := 42) (L' := [(0, .ref 33), (1, .ref 11), (2, .int day)]) (S' := [.int 8, .int 0, .ref 36, .int 0, .ref 15]) (f' := (up1 (up1 f 35 (va_cpy (f 14) (f 35) 0 0 8)) 34 (va_cpy (f 13) (f 34) 0 0 8))) rfl ?_
  refine wq_copy (n := 8) (m := 8) (sp := 0) (dp := 0) (c := 8) rfl rfl rfl rfl rfl rfl rfl rfl (by omega) (by omega) (by decide) (by decide) (Nat.le_of_ble_eq_true rfl) ?_
  refine wq_h (f' := (up1 (up1 (up1 f 36 (va_cpy (f 15) (f 36) 0 0 8)) 35 (va_cpy (f 14) (f 35) 0 0 8)) 34 (va_cpy (f 13) (f 34) 0 0 8))) (show up1 (up1 (up1 f 35 (va_cpy (f 14) (f 35) 0 0 8)) 34 (va_cpy (f 13) (f 34) 0 0 8)) 36 (va_cpy (f 15) (f 36) 0 0 8) = _ from (up1_sw (f := (up1 f 35 (va_cpy (f 14) (f 35) 0 0 8))) (g := (va_cpy (f 13) (f 34) 0 0 8)) (g' := (va_cpy (f 15) (f 36) 0 0 8)) (show (36 : Nat) ≠ 34 by decide)).trans (congrArg (fun z => up1 z 34 (va_cpy (f 13) (f 34) 0 0 8)) ((up1_sw (f := f) (g := (va_cpy (f 14) (f 35) 0 0 8)) (g' := (va_cpy (f 15) (f 36) 0 0 8)) (show (36 : Nat) ≠ 35 by decide)).trans (congrArg (fun z => up1 z 35 (va_cpy (f 14) (f 35) 0 0 8)) (rfl))))) ?_
  refine wq_run3 (pc' := 50) (L' := [(0, .ref 33), (1, .ref 11), (2, .int day)]) (S' := [.int (f 11 7), .ref 33]) (f' := (up1 (up1 (up1 f 36 (va_cpy (f 15) (f 36) 0 0 8)) 35 (va_cpy (f 14) (f 35) 0 0 8)) 34 (va_cpy (f 13) (f 34) 0 0 8))) rfl ?_
  refine wq_v (y := (nI c)) (hc) ?_
  refine wq_putI rfl rfl ?_
  refine wq_h (f' := (up1 (up1 (up1 (up1 f 33 (upd (f 33) 3 (nI c))) 36 (va_cpy (f 15) (f 36) 0 0 8)) 35 (va_cpy (f 14) (f 35) 0 0 8)) 34 (va_cpy (f 13) (f 34) 0 0 8))) ((up2_up1_ne (f := (up1 (up1 f 36 (va_cpy (f 15) (f 36) 0 0 8)) 35 (va_cpy (f 14) (f 35) 0 0 8))) (g := (va_cpy (f 13) (f 34) 0 0 8)) (k := 3) (v := (nI c)) (show (33 : Nat) ≠ 34 by decide)).trans (congrArg (fun z => up1 z 34 (va_cpy (f 13) (f 34) 0 0 8)) ((up2_up1_ne (f := (up1 f 36 (va_cpy (f 15) (f 36) 0 0 8))) (g := (va_cpy (f 14) (f 35) 0 0 8)) (k := 3) (v := (nI c)) (show (33 : Nat) ≠ 35 by decide)).trans (congrArg (fun z => up1 z 35 (va_cpy (f 14) (f 35) 0 0 8)) ((up2_up1_ne (f := f) (g := (va_cpy (f 15) (f 36) 0 0 8)) (k := 3) (v := (nI c)) (show (33 : Nat) ≠ 36 by decide)).trans (congrArg (fun z => up1 z 36 (va_cpy (f 15) (f 36) 0 0 8)) (up2_eq1 f 33 3 (nI c)))))))) ?_
  refine wq_run2 (pc' := 55) (L' := [(0, .ref 33), (1, .ref 11), (2, .int day)]) (S' := [.int day, .ref 33]) (f' := (up1 (up1 (up1 (up1 f 33 (upd (f 33) 3 (nI c))) 36 (va_cpy (f 15) (f 36) 0 0 8)) 35 (va_cpy (f 14) (f 35) 0 0 8)) 34 (va_cpy (f 13) (f 34) 0 0 8))) rfl ?_
  refine wq_putI rfl rfl ?_
  refine wq_h (f' := (up1 (up1 (up1 (up1 f 33 (upd (upd (f 33) 4 day) 3 (nI c))) 36 (va_cpy (f 15) (f 36) 0 0 8)) 35 (va_cpy (f 14) (f 35) 0 0 8)) 34 (va_cpy (f 13) (f 34) 0 0 8))) ((up2_up1_ne (f := (up1 (up1 (up1 f 33 (upd (f 33) 3 (nI c))) 36 (va_cpy (f 15) (f 36) 0 0 8)) 35 (va_cpy (f 14) (f 35) 0 0 8))) (g := (va_cpy (f 13) (f 34) 0 0 8)) (k := 4) (v := day) (show (33 : Nat) ≠ 34 by decide)).trans (congrArg (fun z => up1 z 34 (va_cpy (f 13) (f 34) 0 0 8)) ((up2_up1_ne (f := (up1 (up1 f 33 (upd (f 33) 3 (nI c))) 36 (va_cpy (f 15) (f 36) 0 0 8))) (g := (va_cpy (f 14) (f 35) 0 0 8)) (k := 4) (v := day) (show (33 : Nat) ≠ 35 by decide)).trans (congrArg (fun z => up1 z 35 (va_cpy (f 14) (f 35) 0 0 8)) ((up2_up1_ne (f := (up1 f 33 (upd (f 33) 3 (nI c)))) (g := (va_cpy (f 15) (f 36) 0 0 8)) (k := 4) (v := day) (show (33 : Nat) ≠ 36 by decide)).trans (congrArg (fun z => up1 z 36 (va_cpy (f 15) (f 36) 0 0 8)) ((up2_up1_eq f 33 (upd (f 33) 3 (nI c)) 4 day).trans (congrArg (fun z => up1 f 33 z) ((upd_sw (g := (f 33)) (v := (nI c)) (w := day) (show (4 : Nat) ≠ 3 by decide)).trans (congrArg (fun z => upd z 3 (nI c)) (rfl))))))))))) ?_
  exact wq_ret rfl ⟨rfl, rfl⟩
theorem sp_addAct3 {f : HI} {W : Nat → Nat → Nat} {w h : Nat} {c : Nat} (day : Int32) (hL : LaC f W w) (hh : h ≤ 60000) (h16 : f 16 1 = nI 3) (hc : f 11 7 = nI c) : Sp 5 53 [.ref 16, .ref 11, .int day, .ref 2, .int (nI h)] f (fun v f' => ∃ sc kk, v = some (.int (nI 3)) ∧ f' = up1 (up1 (up1 (up1 (up1 (up1 (up1 f 33 (upd (upd (f 33) 4 day) 3 (nI c))) 36 (va_cpy (f 15) (f 36) 0 0 8)) 35 (va_cpy (f 14) (f 35) 0 0 8)) 34 (va_cpy (f 13) (f 34) 0 0 8)) 16 (upd (f 16) 1 (nI (3 + 1)))) 10 sc) 37 kk ∧ ∀ t, t < 10 → kk t = dI (arN W w 0 h t)) := by
  show wq 5 53 (fun v f' => ∃ sc kk, v = some (.int (nI 3)) ∧ f' = up1 (up1 (up1 (up1 (up1 (up1 (up1 f 33 (upd (upd (f 33) 4 day) 3 (nI c))) 36 (va_cpy (f 15) (f 36) 0 0 8)) 35 (va_cpy (f 14) (f 35) 0 0 8)) 34 (va_cpy (f 13) (f 34) 0 0 8)) 16 (upd (f 16) 1 (nI (3 + 1)))) 10 sc) 37 kk ∧ ∀ t, t < 10 → kk t = dI (arN W w 0 h t)) 0 [(0, .ref 16), (1, .ref 11), (2, .int day), (3, .ref 2), (4, .int (nI h))] [] f
  refine wq_run4 (pc' := 8) (L' := [(0, .ref 16), (1, .ref 11), (2, .int day), (3, .ref 2), (4, .int (nI h))]) (S' := [.int (f 16 1), .ref 17]) (f' := f) rfl ?_
  refine wq_v (y := (nI 3)) (h16) ?_
  refine wq_qld (j := 3) (n := 5) (b := 33) rfl rfl rfl rfl (Nat.le_of_ble_eq_true rfl) (Nat.le_of_ble_eq_true rfl) rfl ?_
  refine wq_run4 (pc' := 15) (L' := [(0, .ref 16), (1, .ref 11), (2, .int day), (3, .ref 2), (4, .int (nI h)), (5, .ref 33)]) (S' := [.int day, .ref 11, .ref 33]) (f' := f) rfl ?_
  refine wq_callV (g := (up1 (up1 (up1 (up1 f 33 (upd (upd (f 33) 4 day) 3 (nI c))) 36 (va_cpy (f 15) (f 36) 0 0 8)) 35 (va_cpy (f 14) (f 35) 0 0 8)) 34 (va_cpy (f 13) (f 34) 0 0 8))) (sp_copyFrom3 (f := f) day hc) (Nat.le_of_ble_eq_true rfl) (pc' := 18) (L' := [(0, .ref 16), (1, .ref 11), (2, .int day), (3, .ref 2), (4, .int (nI h)), (5, .ref 33)]) (S' := []) rfl (Nat.le_of_ble_eq_true rfl) rfl rfl (Nat.le_of_ble_eq_true rfl) (Nat.le_of_ble_eq_true rfl) ?_
  refine wq_run2 (pc' := 21) (L' := [(0, .ref 16), (3, .ref 2), (4, .int (nI h)), (5, .ref 33), (6, .int 0)]) (S' := []) (f' := (up1 (up1 (up1 (up1 f 33 (upd (upd (f 33) 4 day) 3 (nI c))) 36 (va_cpy (f 15) (f 36) 0 0 8)) 35 (va_cpy (f 14) (f 35) 0 0 8)) 34 (va_cpy (f 13) (f 34) 0 0 8))) rfl ?_
  have h9 := lp_addAct3 (fb := (up1 (up1 (up1 (up1 f 33 (upd (upd (f 33) 4 day) 3 (nI c))) 36 (va_cpy (f 15) (f 36) 0 0 8)) 35 (va_cpy (f 14) (f 35) 0 0 8)) 34 (va_cpy (f 13) (f 34) 0 0 8))) (W := W) (w := w) (h := h) hL hh h16 (10 - 0 + 1) 0 ((up1 (up1 (up1 (up1 f 33 (upd (upd (f 33) 4 day) 3 (nI c))) 36 (va_cpy (f 15) (f 36) 0 0 8)) 35 (va_cpy (f 14) (f 35) 0 0 8)) 34 (va_cpy (f 13) (f 34) 0 0 8)) 10) ((up1 (up1 (up1 (up1 f 33 (upd (upd (f 33) 4 day) 3 (nI c))) 36 (va_cpy (f 15) (f 36) 0 0 8)) 35 (va_cpy (f 14) (f 35) 0 0 8)) 34 (va_cpy (f 13) (f 34) 0 0 8)) 37) (Nat.zero_le _) (fun _ q => absurd q (Nat.not_lt_zero _)) (Nat.lt_succ_self _)
  rw [up1_id, up1_id] at h9
  exact h9
theorem lp_addAct4 {fb : HI} {W : Nat → Nat → Nat} {w h : Nat} (hL : LaC fb W w) (hh : h ≤ 60000) (h16 : fb 16 1 = nI 4) : ∀ (m9 : Nat) (t : Nat) (sc : Nat → Int32) (kk : Nat → Int32), (t ≤ 10) → (∀ j, j < t → kk j = dI (arN W w 0 h j)) → 10 - t < m9 → wq 5 53 (fun v f' => ∃ sc kk, v = some (.int (nI 4)) ∧ f' = up1 (up1 (up1 fb 16 (upd (fb 16) 1 (nI (4 + 1)))) 10 sc) 42 kk ∧ ∀ t, t < 10 → kk t = dI (arN W w 0 h t)) 21 [(0, .ref 16), (3, .ref 2), (4, .int (nI h)), (5, .ref 38), (6, .int (nI t))] [] (up1 (up1 fb 10 sc) 42 kk) := by
  intro m9
  induction m9 with
  | zero => intro t sc kk ht hk hn; exact absurd hn (Nat.not_lt_zero _)
  | succ m9 ih =>
    intro t sc kk ht hk hn
    refine wq_run2 (pc' := 25) (L' := [(0, .ref 16), (3, .ref 2), (4, .int (nI h)), (5, .ref 38), (6, .int (nI t))]) (S' := [.int 10, .int (nI t)]) (f' := (up1 (up1 fb 10 sc) 42 kk)) rfl ?_
    refine wq_if (c := 10 ≤ (nI t)) (p1 := 51) (L1 := [(0, .ref 16), (3, .ref 2), (4, .int (nI h)), (5, .ref 38), (6, .int (nI t))]) (S1 := []) (p2 := 28) (L2 := [(0, .ref 16), (3, .ref 2), (4, .int (nI h)), (5, .ref 38), (6, .int (nI t))]) (S2 := []) rfl (fun c_25 => ?_) (fun c_25 => ?_)
    · have k_25 : 10 ≤ t := (nI_leI (a := 10) (b := t) (by omega) (by omega)).mp c_25
      refine wq_run3 (pc' := 56) (L' := [(0, .ref 16), (3, .ref 2), (4, .int (nI h)), (5, .ref 38), (6, .int (nI t))]) (S' := [.int (fb 16 1), .ref 16]) (f' := (up1 (up1 fb 10 sc) 42 kk)) rfl ?_
      refine wq_v (y := (nI 4)) (h16) ?_
      refine wq_run3 (pc' := 59) (L' := [(0, .ref 16), (3, .ref 2), (4, .int (nI h)), (5, .ref 38), (6, .int (nI t))]) (S' := [.int ((nI 4) + 1), .ref 16, .int (nI 4)]) (f' := (up1 (up1 fb 10 sc) 42 kk)) rfl ?_
      refine wq_v (y := (nI (4 + 1))) (nI_add 4 1) ?_
      refine wq_putI rfl rfl ?_
      refine wq_h (f' := (up1 (up1 (up1 fb 16 (upd (fb 16) 1 (nI (4 + 1)))) 10 sc) 42 kk)) ((up2_up1_ne (f := (up1 fb 10 sc)) (g := kk) (k := 1) (v := (nI (4 + 1))) (show (16 : Nat) ≠ 42 by decide)).trans (congrArg (fun z => up1 z 42 kk) ((up2_up1_ne (f := fb) (g := sc) (k := 1) (v := (nI (4 + 1))) (show (16 : Nat) ≠ 10 by decide)).trans (congrArg (fun z => up1 z 10 sc) (up2_eq1 fb 16 1 (nI (4 + 1))))))) ?_
      have e : t = 10 := by omega
      rw [e] at hk
      exact wq_ret rfl ⟨sc, kk, rfl, rfl, hk⟩
    · have k_25 : ¬ 10 ≤ t := fun q => c_25 ((nI_leI (a := 10) (b := t) (by omega) (by omega)).mpr q)
      refine wq_run7 (pc' := 41) (L' := [(0, .ref 16), (3, .ref 2), (4, .int (nI h)), (5, .ref 38), (6, .int (nI t))]) (S' := [.int (nI h), .int (nI t), .int 0, .ref 2, .int (nI t), .ref 42]) (f' := (up1 (up1 fb 10 sc) 42 kk)) rfl ?_
      refine wq_call (sp_arrival (f := (up1 (up1 fb 10 sc) 42 kk)) (W := W) (w := w) (a := 0) (b := t) (h := h) hL (by omega) (by omega) (by omega)) (Nat.le_of_ble_eq_true rfl) (pc' := 44) (L' := [(0, .ref 16), (3, .ref 2), (4, .int (nI h)), (5, .ref 38), (6, .int (nI t))]) (S' := [.int (nI t), .ref 42]) rfl (Nat.le_of_ble_eq_true rfl) rfl rfl (Nat.le_of_ble_eq_true rfl) (Nat.le_of_ble_eq_true rfl) ?_
      rintro v f9 ⟨g, e0, ef⟩
      subst e0
      subst ef
      refine wq_h (f' := (up1 (up1 fb 10 g) 42 kk)) (by rw [show up1 (up1 (up1 fb 10 sc) 42 kk) 10 g = _ from (up1_sw (f := (up1 fb 10 sc)) (g := kk) (g' := g) (show (10 : Nat) ≠ 42 by decide)).trans (congrArg (fun z => up1 z 42 kk) (up1_up1 fb 10 sc g))]) ?_
      refine wq_ist (j := t) (n := 10) rfl rfl rfl rfl (by omega) (Nat.le_of_ble_eq_true rfl) ?_
      refine wq_h (f' := (up1 (up1 fb 10 g) 42 (upd kk t (dI (arN W w 0 h t))))) ((up2_up1_eq (up1 fb 10 g) 42 kk t (dI (arN W w 0 h t))).trans (congrArg (fun z => up1 (up1 fb 10 g) 42 z) (rfl))) ?_
      refine wq_run1 (pc' := 48) (L' := [(0, .ref 16), (3, .ref 2), (4, .int (nI h)), (5, .ref 38), (6, .int ((nI t) + 1))]) (S' := []) (f' := (up1 (up1 fb 10 g) 42 (upd kk t (dI (arN W w 0 h t))))) rfl ?_
      refine wq_L (L' := [(0, .ref 16), (3, .ref 2), (4, .int (nI h)), (5, .ref 38), (6, .int (nI (t + 1)))]) (by rw [show nI t + 1 = nI (t + 1) from nI_add _ _]) ?_
      refine wq_run1 (pc' := 21) (L' := [(0, .ref 16), (3, .ref 2), (4, .int (nI h)), (5, .ref 38), (6, .int (nI (t + 1)))]) (S' := []) (f' := (up1 (up1 fb 10 g) 42 (upd kk t (dI (arN W w 0 h t))))) rfl ?_
      exact ih (t + 1) _ _ (by omega) (fun j hj => by
        rcases Nat.lt_or_ge j t with q | q
        · exact (upd_n (by omega)).trans (hk j q)
        · have e1 : j = t := by omega
          rw [e1]; exact upd_s _ _ _) (by omega)
theorem sp_copyFrom4 {f : HI} {c : Nat} (day : Int32) (hc : f 11 7 = nI c) : Sp 1 1 [.ref 38, .ref 11, .int day] f (RetV (up1 (up1 (up1 (up1 f 38 (upd (upd (f 38) 4 day) 3 (nI c))) 41 (va_cpy (f 15) (f 41) 0 0 8)) 40 (va_cpy (f 14) (f 40) 0 0 8)) 39 (va_cpy (f 13) (f 39) 0 0 8))) := by
  show wq 1 1 (RetV (up1 (up1 (up1 (up1 f 38 (upd (upd (f 38) 4 day) 3 (nI c))) 41 (va_cpy (f 15) (f 41) 0 0 8)) 40 (va_cpy (f 14) (f 40) 0 0 8)) 39 (va_cpy (f 13) (f 39) 0 0 8))) 0 [(0, .ref 38), (1, .ref 11), (2, .int day)] [] f
  refine wq_run7 (pc' := 12) (L' := [(0, .ref 38), (1, .ref 11), (2, .int day)]) (S' := [.int 8, .int 0, .ref 39, .int 0, .ref 13]) (f' := f) rfl ?_
  refine wq_copy (n := 8) (m := 8) (sp := 0) (dp := 0) (c := 8) rfl rfl rfl rfl rfl rfl rfl rfl (by omega) (by omega) (by decide) (by decide) (Nat.le_of_ble_eq_true rfl) ?_
  refine wq_h (f' := (up1 f 39 (va_cpy (f 13) (f 39) 0 0 8))) (show up1 f 39 (va_cpy (f 13) (f 39) 0 0 8) = _ from rfl) ?_
  refine wq_run7 (pc' := 27) (L' := [(0, .ref 38), (1, .ref 11), (2, .int day)]) (S' := [.int 8, .int 0, .ref 40, .int 0, .ref 14]) (f' := (up1 f 39 (va_cpy (f 13) (f 39) 0 0 8))) rfl ?_
  refine wq_copy (n := 8) (m := 8) (sp := 0) (dp := 0) (c := 8) rfl rfl rfl rfl rfl rfl rfl rfl (by omega) (by omega) (by decide) (by decide) (Nat.le_of_ble_eq_true rfl) ?_
  refine wq_h (f' := (up1 (up1 f 40 (va_cpy (f 14) (f 40) 0 0 8)) 39 (va_cpy (f 13) (f 39) 0 0 8))) (show up1 (up1 f 39 (va_cpy (f 13) (f 39) 0 0 8)) 40 (va_cpy (f 14) (f 40) 0 0 8) = _ from (up1_sw (f := f) (g := (va_cpy (f 13) (f 39) 0 0 8)) (g' := (va_cpy (f 14) (f 40) 0 0 8)) (show (40 : Nat) ≠ 39 by decide)).trans (congrArg (fun z => up1 z 39 (va_cpy (f 13) (f 39) 0 0 8)) (rfl))) ?_
  refine wq_run7 (pc' := 42) (L' := [(0, .ref 38), (1, .ref 11), (2, .int day)]) (S' := [.int 8, .int 0, .ref 41, .int 0, .ref 15]) (f' := (up1 (up1 f 40 (va_cpy (f 14) (f 40) 0 0 8)) 39 (va_cpy (f 13) (f 39) 0 0 8))) rfl ?_
  refine wq_copy (n := 8) (m := 8) (sp := 0) (dp := 0) (c := 8) rfl rfl rfl rfl rfl rfl rfl rfl (by omega) (by omega) (by decide) (by decide) (Nat.le_of_ble_eq_true rfl) ?_
  refine wq_h (f' := (up1 (up1 (up1 f 41 (va_cpy (f 15) (f 41) 0 0 8)) 40 (va_cpy (f 14) (f 40) 0 0 8)) 39 (va_cpy (f 13) (f 39) 0 0 8))) (show up1 (up1 (up1 f 40 (va_cpy (f 14) (f 40) 0 0 8)) 39 (va_cpy (f 13) (f 39) 0 0 8)) 41 (va_cpy (f 15) (f 41) 0 0 8) = _ from (up1_sw (f := (up1 f 40 (va_cpy (f 14) (f 40) 0 0 8))) (g := (va_cpy (f 13) (f 39) 0 0 8)) (g' := (va_cpy (f 15) (f 41) 0 0 8)) (show (41 : Nat) ≠ 39 by decide)).trans (congrArg (fun z => up1 z 39 (va_cpy (f 13) (f 39) 0 0 8)) ((up1_sw (f := f) (g := (va_cpy (f 14) (f 40) 0 0 8)) (g' := (va_cpy (f 15) (f 41) 0 0 8)) (show (41 : Nat) ≠ 40 by decide)).trans (congrArg (fun z => up1 z 40 (va_cpy (f 14) (f 40) 0 0 8)) (rfl))))) ?_
  refine wq_run3 (pc' := 50) (L' := [(0, .ref 38), (1, .ref 11), (2, .int day)]) (S' := [.int (f 11 7), .ref 38]) (f' := (up1 (up1 (up1 f 41 (va_cpy (f 15) (f 41) 0 0 8)) 40 (va_cpy (f 14) (f 40) 0 0 8)) 39 (va_cpy (f 13) (f 39) 0 0 8))) rfl ?_
  refine wq_v (y := (nI c)) (hc) ?_
  refine wq_putI rfl rfl ?_
  refine wq_h (f' := (up1 (up1 (up1 (up1 f 38 (upd (f 38) 3 (nI c))) 41 (va_cpy (f 15) (f 41) 0 0 8)) 40 (va_cpy (f 14) (f 40) 0 0 8)) 39 (va_cpy (f 13) (f 39) 0 0 8))) ((up2_up1_ne (f := (up1 (up1 f 41 (va_cpy (f 15) (f 41) 0 0 8)) 40 (va_cpy (f 14) (f 40) 0 0 8))) (g := (va_cpy (f 13) (f 39) 0 0 8)) (k := 3) (v := (nI c)) (show (38 : Nat) ≠ 39 by decide)).trans (congrArg (fun z => up1 z 39 (va_cpy (f 13) (f 39) 0 0 8)) ((up2_up1_ne (f := (up1 f 41 (va_cpy (f 15) (f 41) 0 0 8))) (g := (va_cpy (f 14) (f 40) 0 0 8)) (k := 3) (v := (nI c)) (show (38 : Nat) ≠ 40 by decide)).trans (congrArg (fun z => up1 z 40 (va_cpy (f 14) (f 40) 0 0 8)) ((up2_up1_ne (f := f) (g := (va_cpy (f 15) (f 41) 0 0 8)) (k := 3) (v := (nI c)) (show (38 : Nat) ≠ 41 by decide)).trans (congrArg (fun z => up1 z 41 (va_cpy (f 15) (f 41) 0 0 8)) (up2_eq1 f 38 3 (nI c)))))))) ?_
  refine wq_run2 (pc' := 55) (L' := [(0, .ref 38), (1, .ref 11), (2, .int day)]) (S' := [.int day, .ref 38]) (f' := (up1 (up1 (up1 (up1 f 38 (upd (f 38) 3 (nI c))) 41 (va_cpy (f 15) (f 41) 0 0 8)) 40 (va_cpy (f 14) (f 40) 0 0 8)) 39 (va_cpy (f 13) (f 39) 0 0 8))) rfl ?_
  refine wq_putI rfl rfl ?_
  refine wq_h (f' := (up1 (up1 (up1 (up1 f 38 (upd (upd (f 38) 4 day) 3 (nI c))) 41 (va_cpy (f 15) (f 41) 0 0 8)) 40 (va_cpy (f 14) (f 40) 0 0 8)) 39 (va_cpy (f 13) (f 39) 0 0 8))) ((up2_up1_ne (f := (up1 (up1 (up1 f 38 (upd (f 38) 3 (nI c))) 41 (va_cpy (f 15) (f 41) 0 0 8)) 40 (va_cpy (f 14) (f 40) 0 0 8))) (g := (va_cpy (f 13) (f 39) 0 0 8)) (k := 4) (v := day) (show (38 : Nat) ≠ 39 by decide)).trans (congrArg (fun z => up1 z 39 (va_cpy (f 13) (f 39) 0 0 8)) ((up2_up1_ne (f := (up1 (up1 f 38 (upd (f 38) 3 (nI c))) 41 (va_cpy (f 15) (f 41) 0 0 8))) (g := (va_cpy (f 14) (f 40) 0 0 8)) (k := 4) (v := day) (show (38 : Nat) ≠ 40 by decide)).trans (congrArg (fun z => up1 z 40 (va_cpy (f 14) (f 40) 0 0 8)) ((up2_up1_ne (f := (up1 f 38 (upd (f 38) 3 (nI c)))) (g := (va_cpy (f 15) (f 41) 0 0 8)) (k := 4) (v := day) (show (38 : Nat) ≠ 41 by decide)).trans (congrArg (fun z => up1 z 41 (va_cpy (f 15) (f 41) 0 0 8)) ((up2_up1_eq f 38 (upd (f 38) 3 (nI c)) 4 day).trans (congrArg (fun z => up1 f 38 z) ((upd_sw (g := (f 38)) (v := (nI c)) (w := day) (show (4 : Nat) ≠ 3 by decide)).trans (congrArg (fun z => upd z 3 (nI c)) (rfl))))))))))) ?_
  exact wq_ret rfl ⟨rfl, rfl⟩
theorem sp_addAct4 {f : HI} {W : Nat → Nat → Nat} {w h : Nat} {c : Nat} (day : Int32) (hL : LaC f W w) (hh : h ≤ 60000) (h16 : f 16 1 = nI 4) (hc : f 11 7 = nI c) : Sp 5 53 [.ref 16, .ref 11, .int day, .ref 2, .int (nI h)] f (fun v f' => ∃ sc kk, v = some (.int (nI 4)) ∧ f' = up1 (up1 (up1 (up1 (up1 (up1 (up1 f 38 (upd (upd (f 38) 4 day) 3 (nI c))) 41 (va_cpy (f 15) (f 41) 0 0 8)) 40 (va_cpy (f 14) (f 40) 0 0 8)) 39 (va_cpy (f 13) (f 39) 0 0 8)) 16 (upd (f 16) 1 (nI (4 + 1)))) 10 sc) 42 kk ∧ ∀ t, t < 10 → kk t = dI (arN W w 0 h t)) := by
  show wq 5 53 (fun v f' => ∃ sc kk, v = some (.int (nI 4)) ∧ f' = up1 (up1 (up1 (up1 (up1 (up1 (up1 f 38 (upd (upd (f 38) 4 day) 3 (nI c))) 41 (va_cpy (f 15) (f 41) 0 0 8)) 40 (va_cpy (f 14) (f 40) 0 0 8)) 39 (va_cpy (f 13) (f 39) 0 0 8)) 16 (upd (f 16) 1 (nI (4 + 1)))) 10 sc) 42 kk ∧ ∀ t, t < 10 → kk t = dI (arN W w 0 h t)) 0 [(0, .ref 16), (1, .ref 11), (2, .int day), (3, .ref 2), (4, .int (nI h))] [] f
  refine wq_run4 (pc' := 8) (L' := [(0, .ref 16), (1, .ref 11), (2, .int day), (3, .ref 2), (4, .int (nI h))]) (S' := [.int (f 16 1), .ref 17]) (f' := f) rfl ?_
  refine wq_v (y := (nI 4)) (h16) ?_
  refine wq_qld (j := 4) (n := 5) (b := 38) rfl rfl rfl rfl (Nat.le_of_ble_eq_true rfl) (Nat.le_of_ble_eq_true rfl) rfl ?_
  refine wq_run4 (pc' := 15) (L' := [(0, .ref 16), (1, .ref 11), (2, .int day), (3, .ref 2), (4, .int (nI h)), (5, .ref 38)]) (S' := [.int day, .ref 11, .ref 38]) (f' := f) rfl ?_
  refine wq_callV (g := (up1 (up1 (up1 (up1 f 38 (upd (upd (f 38) 4 day) 3 (nI c))) 41 (va_cpy (f 15) (f 41) 0 0 8)) 40 (va_cpy (f 14) (f 40) 0 0 8)) 39 (va_cpy (f 13) (f 39) 0 0 8))) (sp_copyFrom4 (f := f) day hc) (Nat.le_of_ble_eq_true rfl) (pc' := 18) (L' := [(0, .ref 16), (1, .ref 11), (2, .int day), (3, .ref 2), (4, .int (nI h)), (5, .ref 38)]) (S' := []) rfl (Nat.le_of_ble_eq_true rfl) rfl rfl (Nat.le_of_ble_eq_true rfl) (Nat.le_of_ble_eq_true rfl) ?_
  refine wq_run2 (pc' := 21) (L' := [(0, .ref 16), (3, .ref 2), (4, .int (nI h)), (5, .ref 38), (6, .int 0)]) (S' := []) (f' := (up1 (up1 (up1 (up1 f 38 (upd (upd (f 38) 4 day) 3 (nI c))) 41 (va_cpy (f 15) (f 41) 0 0 8)) 40 (va_cpy (f 14) (f 40) 0 0 8)) 39 (va_cpy (f 13) (f 39) 0 0 8))) rfl ?_
  have h9 := lp_addAct4 (fb := (up1 (up1 (up1 (up1 f 38 (upd (upd (f 38) 4 day) 3 (nI c))) 41 (va_cpy (f 15) (f 41) 0 0 8)) 40 (va_cpy (f 14) (f 40) 0 0 8)) 39 (va_cpy (f 13) (f 39) 0 0 8))) (W := W) (w := w) (h := h) hL hh h16 (10 - 0 + 1) 0 ((up1 (up1 (up1 (up1 f 38 (upd (upd (f 38) 4 day) 3 (nI c))) 41 (va_cpy (f 15) (f 41) 0 0 8)) 40 (va_cpy (f 14) (f 40) 0 0 8)) 39 (va_cpy (f 13) (f 39) 0 0 8)) 10) ((up1 (up1 (up1 (up1 f 38 (upd (upd (f 38) 4 day) 3 (nI c))) 41 (va_cpy (f 15) (f 41) 0 0 8)) 40 (va_cpy (f 14) (f 40) 0 0 8)) 39 (va_cpy (f 13) (f 39) 0 0 8)) 42) (Nat.zero_le _) (fun _ q => absurd q (Nat.not_lt_zero _)) (Nat.lt_succ_self _)
  rw [up1_id, up1_id] at h9
  exact h9
theorem ob_n0 {o : Option Nat} (h : ¬ o = none) {n : Nat} (hn : n ≤ 2 ^ 31) (hb : ∀ b, o = some b → b < n) : ¬ obI o = -1 := fun q => h ((obI_0 hn hb).mp q)
theorem clR_l {T : Nat → Int32} {n p s : Nat} (hp : p ≤ n) (h : clR T n p = .inl s) : s < n + 1 := by
  have t1 := tk_b (T := T) hp
  have t2 := tk_b (T := T) t1.2.2.1
  have t3 := tk_b (T := T) t2.2.2.1
  have t4 := tk_b (T := T) t3.2.2.1
  unfold clR at h
  split at h
  · cases h; omega
  split at h
  · cases h; omega
  split at h
  · split at h
    · cases h; omega
    split at h
    · cases h; omega
    · cases h
  · cases h
theorem ps_b {T : Nat → Int32} {n : Nat} : ∀ m i q, q ≤ n → ∀ b, (psF T n m i q).1 = some b → b < n + 1 := by
  intro m
  induction m with
  | zero => intro i q hq b h; cases h; omega
  | succ m ih =>
    intro i q hq b h
    have hp := pp_b (T := T) (n := n) i
    cases c : clR T n (pp T n i) with
    | inl s =>
      rw [ps_l c] at h
      cases h
      exact clR_l hp c
    | inr r =>
      rw [ps_r c] at h
      have hok := clR_ok (k := r.1) (a := r.2.1) (b := r.2.2.1) (p' := r.2.2.2) hp c
      have t := tk_b (T := T) hok.1
      split at h
      · cases h
      · split at h
        · cases h; omega
        · exact ih _ _ (by omega) b h
theorem sp_force1 (f : HI) {day : Int32} (hd : ¬ inR day 0 1000) : Sp 2 89 [.ref 0, .int day] f (Ret (-3) f) := by
  show wq 2 89 (Ret (-3) f) 0 [(0, .ref 0), (1, .int day)] [] f
  refine wq_run3 (pc' := 5) (L' := [(0, .ref 0), (1, .int day)]) (S' := [.int 1000, .int 0, .int day]) (f' := f) rfl ?_
  refine wq_callI (r := (b2i (inR day 0 1000))) (sp_within f day 0 1000) (Nat.le_of_ble_eq_true rfl) (pc' := 8) (L' := [(0, .ref 0), (1, .int day)]) (S' := []) rfl (Nat.le_of_ble_eq_true rfl) rfl rfl (Nat.le_of_ble_eq_true rfl) (Nat.le_of_ble_eq_true rfl) ?_
  refine wq_if (c := (b2i (inR day 0 1000)) = 0) (p1 := 11) (L1 := [(0, .ref 0), (1, .int day)]) (S1 := []) (p2 := 14) (L2 := [(0, .ref 0), (1, .int day)]) (S2 := []) rfl (fun _ => ?_) (fun q => absurd (b2i_0.mpr hd) q)
  refine wq_run1 (pc' := 13) (L' := [(0, .ref 0), (1, .int day)]) (S' := [.int (-3)]) (f' := f) rfl ?_
  exact wq_ret rfl ⟨rfl, rfl⟩
theorem sp_force2 {f : HI} {T : Nat → Int32} {n : Nat} (hn1 : n ≤ 160) (hT : ∀ j, j < n → f 12 j = T j) (hg1 : f 11 1 = nI n) {day : Int32} (hd : inR day 0 1000) (hf : ¬ (psF T n 8 0 0).1 = none) : Sp 9 89 [.ref 0, .int day] f (fun v f' => ∃ g K N P, v = some (.int (-4)) ∧ f' = (up1 (up1 (up1 (up1 f 15 P) 14 N) 13 K) 11 g) ∧ g 1 = nI n) := by
  show wq 9 89 (fun v f' => ∃ g K N P, v = some (.int (-4)) ∧ f' = (up1 (up1 (up1 (up1 f 15 P) 14 N) 13 K) 11 g) ∧ g 1 = nI n) 0 [(0, .ref 0), (1, .int day)] [] f
  refine wq_run3 (pc' := 5) (L' := [(0, .ref 0), (1, .int day)]) (S' := [.int 1000, .int 0, .int day]) (f' := f) rfl ?_
  refine wq_callI (r := (b2i (inR day 0 1000))) (sp_within f day 0 1000) (Nat.le_of_ble_eq_true rfl) (pc' := 8) (L' := [(0, .ref 0), (1, .int day)]) (S' := []) rfl (Nat.le_of_ble_eq_true rfl) rfl rfl (Nat.le_of_ble_eq_true rfl) (Nat.le_of_ble_eq_true rfl) ?_
  refine wq_if (c := (b2i (inR day 0 1000)) = 0) (p1 := 11) (L1 := [(0, .ref 0), (1, .int day)]) (S1 := []) (p2 := 14) (L2 := [(0, .ref 0), (1, .int day)]) (S2 := []) rfl (fun q => absurd q (b2i_n0.mpr hd)) (fun _ => ?_)
  refine wq_run2 (pc' := 18) (L' := [(0, .ref 0), (1, .int day)]) (S' := [.ref 11]) (f' := f) rfl ?_
  refine wq_call (sp_firstFault hn1 hT hg1) (Nat.le_of_ble_eq_true rfl) (pc' := 21) (L' := [(0, .ref 0), (1, .int day)]) (S' := []) rfl (Nat.le_of_ble_eq_true rfl) rfl rfl (Nat.le_of_ble_eq_true rfl) (Nat.le_of_ble_eq_true rfl) ?_
  rintro v f9 ⟨g9, K9, N9, P9, e0, ef, hg9, hq9⟩
  subst e0
  subst ef
  refine wq_run1 (pc' := 22) (L' := [(0, .ref 0), (1, .int day)]) (S' := [.int (-1), .int (obI (psF T n 8 0 0).1)]) (f' := (up1 (up1 (up1 (up1 f 15 P9) 14 N9) 13 K9) 11 g9)) rfl ?_
  refine wq_if (c := (obI (psF T n 8 0 0).1) = (-1)) (p1 := 28) (L1 := [(0, .ref 0), (1, .int day)]) (S1 := []) (p2 := 25) (L2 := [(0, .ref 0), (1, .int day)]) (S2 := []) rfl (fun q => absurd q (ob_n0 hf (n := n + 1) (by omega) (ps_b 8 0 0 (Nat.zero_le _)))) (fun _ => ?_)
  refine wq_run1 (pc' := 27) (L' := [(0, .ref 0), (1, .int day)]) (S' := [.int (-4)]) (f' := (up1 (up1 (up1 (up1 f 15 P9) 14 N9) 13 K9) 11 g9)) rfl ?_
  exact wq_ret rfl ⟨g9, K9, N9, P9, rfl, rfl, hg9⟩
theorem sp_force3 {f : HI} {T : Nat → Int32} {n : Nat} (hn1 : n ≤ 160) (hT : ∀ j, j < n → f 12 j = T j) (hg1 : f 11 1 = nI n) {day : Int32} (hd : inR day 0 1000) (hf : (psF T n 8 0 0).1 = none) (hm : f 16 1 = 5) : Sp 9 89 [.ref 0, .int day] f (fun v f' => ∃ g K N P, v = some (.int (-5)) ∧ f' = (up1 (up1 (up1 (up1 f 15 P) 14 N) 13 K) 11 g) ∧ g 1 = nI n) := by
  show wq 9 89 (fun v f' => ∃ g K N P, v = some (.int (-5)) ∧ f' = (up1 (up1 (up1 (up1 f 15 P) 14 N) 13 K) 11 g) ∧ g 1 = nI n) 0 [(0, .ref 0), (1, .int day)] [] f
  refine wq_run3 (pc' := 5) (L' := [(0, .ref 0), (1, .int day)]) (S' := [.int 1000, .int 0, .int day]) (f' := f) rfl ?_
  refine wq_callI (r := (b2i (inR day 0 1000))) (sp_within f day 0 1000) (Nat.le_of_ble_eq_true rfl) (pc' := 8) (L' := [(0, .ref 0), (1, .int day)]) (S' := []) rfl (Nat.le_of_ble_eq_true rfl) rfl rfl (Nat.le_of_ble_eq_true rfl) (Nat.le_of_ble_eq_true rfl) ?_
  refine wq_if (c := (b2i (inR day 0 1000)) = 0) (p1 := 11) (L1 := [(0, .ref 0), (1, .int day)]) (S1 := []) (p2 := 14) (L2 := [(0, .ref 0), (1, .int day)]) (S2 := []) rfl (fun q => absurd q (b2i_n0.mpr hd)) (fun _ => ?_)
  refine wq_run2 (pc' := 18) (L' := [(0, .ref 0), (1, .int day)]) (S' := [.ref 11]) (f' := f) rfl ?_
  refine wq_call (sp_firstFault hn1 hT hg1) (Nat.le_of_ble_eq_true rfl) (pc' := 21) (L' := [(0, .ref 0), (1, .int day)]) (S' := []) rfl (Nat.le_of_ble_eq_true rfl) rfl rfl (Nat.le_of_ble_eq_true rfl) (Nat.le_of_ble_eq_true rfl) ?_
  rintro v f9 ⟨g9, K9, N9, P9, e0, ef, hg9, hq9⟩
  subst e0
  subst ef
  refine wq_run1 (pc' := 22) (L' := [(0, .ref 0), (1, .int day)]) (S' := [.int (-1), .int (obI (psF T n 8 0 0).1)]) (f' := (up1 (up1 (up1 (up1 f 15 P9) 14 N9) 13 K9) 11 g9)) rfl ?_
  refine wq_if (c := (obI (psF T n 8 0 0).1) = (-1)) (p1 := 28) (L1 := [(0, .ref 0), (1, .int day)]) (S1 := []) (p2 := 25) (L2 := [(0, .ref 0), (1, .int day)]) (S2 := []) rfl (fun _ => ?_) (fun q => absurd (by rw [hf]; rfl) q)
  refine wq_run4 (pc' := 36) (L' := [(0, .ref 0), (1, .int day)]) (S' := [.int 5, .int (f 16 1)]) (f' := (up1 (up1 (up1 (up1 f 15 P9) 14 N9) 13 K9) 11 g9)) rfl ?_
  refine wq_if (c := (f 16 1) < 5) (p1 := 42) (L1 := [(0, .ref 0), (1, .int day)]) (S1 := []) (p2 := 39) (L2 := [(0, .ref 0), (1, .int day)]) (S2 := []) rfl (fun q => absurd q (by show ¬ f 16 1 < 5; rw [hm]; decide)) (fun _ => ?_)
  refine wq_run1 (pc' := 41) (L' := [(0, .ref 0), (1, .int day)]) (S' := [.int (-5)]) (f' := (up1 (up1 (up1 (up1 f 15 P9) 14 N9) 13 K9) 11 g9)) rfl ?_
  exact wq_ret rfl ⟨g9, K9, N9, P9, rfl, rfl, hg9⟩
theorem sp_force4_0 {f : HI} {T : Nat → Int32} {n : Nat} (hn1 : n ≤ 160) (hT : ∀ j, j < n → f 12 j = T j) (hg1 : f 11 1 = nI n) {day : Int32} (hd : inR day 0 1000) (hf : (psF T n 8 0 0).1 = none) {W : Nat → Nat → Nat} {w h : Nat} (hL : LaC f W w) (hh : h ≤ 60000) (h43 : f 43 7 = nI h) (h16 : f 16 1 = nI 0) : Sp 9 89 [.ref 0, .int day] f (fun v f' => ∃ g K N P sc kk, v = some (.int (nI 0)) ∧ f' = up1 (up1 (up1 (up1 (up1 (up1 (up1 (up1 (up1 (up1 (up1 f 15 P) 14 N) 13 K) 11 (upd g 1 0)) 18 (upd (upd ((up1 (up1 (up1 (up1 f 15 P) 14 N) 13 K) 11 (upd g 1 0)) 18) 4 day) 3 (nI (psF T n 8 0 0).2))) 21 (va_cpy ((up1 (up1 (up1 (up1 f 15 P) 14 N) 13 K) 11 (upd g 1 0)) 15) ((up1 (up1 (up1 (up1 f 15 P) 14 N) 13 K) 11 (upd g 1 0)) 21) 0 0 8)) 20 (va_cpy ((up1 (up1 (up1 (up1 f 15 P) 14 N) 13 K) 11 (upd g 1 0)) 14) ((up1 (up1 (up1 (up1 f 15 P) 14 N) 13 K) 11 (upd g 1 0)) 20) 0 0 8)) 19 (va_cpy ((up1 (up1 (up1 (up1 f 15 P) 14 N) 13 K) 11 (upd g 1 0)) 13) ((up1 (up1 (up1 (up1 f 15 P) 14 N) 13 K) 11 (upd g 1 0)) 19) 0 0 8)) 16 (upd (f 16) 1 (nI (0 + 1)))) 10 sc) 22 kk ∧ (∀ t, t < 10 → kk t = dI (arN W w 0 h t)) ∧ g 1 = nI n ∧ g 7 = nI (psF T n 8 0 0).2 ∧ RwC T n (psF T n 8 0 0).2 K N P) := by
  show wq 9 89 (fun v f' => ∃ g K N P sc kk, v = some (.int (nI 0)) ∧ f' = up1 (up1 (up1 (up1 (up1 (up1 (up1 (up1 (up1 (up1 (up1 f 15 P) 14 N) 13 K) 11 (upd g 1 0)) 18 (upd (upd ((up1 (up1 (up1 (up1 f 15 P) 14 N) 13 K) 11 (upd g 1 0)) 18) 4 day) 3 (nI (psF T n 8 0 0).2))) 21 (va_cpy ((up1 (up1 (up1 (up1 f 15 P) 14 N) 13 K) 11 (upd g 1 0)) 15) ((up1 (up1 (up1 (up1 f 15 P) 14 N) 13 K) 11 (upd g 1 0)) 21) 0 0 8)) 20 (va_cpy ((up1 (up1 (up1 (up1 f 15 P) 14 N) 13 K) 11 (upd g 1 0)) 14) ((up1 (up1 (up1 (up1 f 15 P) 14 N) 13 K) 11 (upd g 1 0)) 20) 0 0 8)) 19 (va_cpy ((up1 (up1 (up1 (up1 f 15 P) 14 N) 13 K) 11 (upd g 1 0)) 13) ((up1 (up1 (up1 (up1 f 15 P) 14 N) 13 K) 11 (upd g 1 0)) 19) 0 0 8)) 16 (upd (f 16) 1 (nI (0 + 1)))) 10 sc) 22 kk ∧ (∀ t, t < 10 → kk t = dI (arN W w 0 h t)) ∧ g 1 = nI n ∧ g 7 = nI (psF T n 8 0 0).2 ∧ RwC T n (psF T n 8 0 0).2 K N P) 0 [(0, .ref 0), (1, .int day)] [] f
  refine wq_run3 (pc' := 5) (L' := [(0, .ref 0), (1, .int day)]) (S' := [.int 1000, .int 0, .int day]) (f' := f) rfl ?_
  refine wq_callI (r := (b2i (inR day 0 1000))) (sp_within f day 0 1000) (Nat.le_of_ble_eq_true rfl) (pc' := 8) (L' := [(0, .ref 0), (1, .int day)]) (S' := []) rfl (Nat.le_of_ble_eq_true rfl) rfl rfl (Nat.le_of_ble_eq_true rfl) (Nat.le_of_ble_eq_true rfl) ?_
  refine wq_if (c := (b2i (inR day 0 1000)) = 0) (p1 := 11) (L1 := [(0, .ref 0), (1, .int day)]) (S1 := []) (p2 := 14) (L2 := [(0, .ref 0), (1, .int day)]) (S2 := []) rfl (fun q => absurd q (b2i_n0.mpr hd)) (fun _ => ?_)
  refine wq_run2 (pc' := 18) (L' := [(0, .ref 0), (1, .int day)]) (S' := [.ref 11]) (f' := f) rfl ?_
  refine wq_call (sp_firstFault hn1 hT hg1) (Nat.le_of_ble_eq_true rfl) (pc' := 21) (L' := [(0, .ref 0), (1, .int day)]) (S' := []) rfl (Nat.le_of_ble_eq_true rfl) rfl rfl (Nat.le_of_ble_eq_true rfl) (Nat.le_of_ble_eq_true rfl) ?_
  rintro v f9 ⟨g9, K9, N9, P9, e0, ef, hg9, hq9⟩
  subst e0
  subst ef
  refine wq_run1 (pc' := 22) (L' := [(0, .ref 0), (1, .int day)]) (S' := [.int (-1), .int (obI (psF T n 8 0 0).1)]) (f' := (up1 (up1 (up1 (up1 f 15 P9) 14 N9) 13 K9) 11 g9)) rfl ?_
  refine wq_if (c := (obI (psF T n 8 0 0).1) = (-1)) (p1 := 28) (L1 := [(0, .ref 0), (1, .int day)]) (S1 := []) (p2 := 25) (L2 := [(0, .ref 0), (1, .int day)]) (S2 := []) rfl (fun _ => ?_) (fun q => absurd (by rw [hf]; rfl) q)
  refine wq_run4 (pc' := 36) (L' := [(0, .ref 0), (1, .int day)]) (S' := [.int 5, .int (f 16 1)]) (f' := (up1 (up1 (up1 (up1 f 15 P9) 14 N9) 13 K9) 11 g9)) rfl ?_
  refine wq_if (c := (f 16 1) < 5) (p1 := 42) (L1 := [(0, .ref 0), (1, .int day)]) (S1 := []) (p2 := 39) (L2 := [(0, .ref 0), (1, .int day)]) (S2 := []) rfl (fun _ => ?_) (fun q => absurd (by show f 16 1 < 5; rw [h16]; decide) q)
  refine wq_run3 (pc' := 47) (L' := [(0, .ref 0), (1, .int day)]) (S' := [.int 0, .ref 11]) (f' := (up1 (up1 (up1 (up1 f 15 P9) 14 N9) 13 K9) 11 g9)) rfl ?_
  refine wq_putI rfl rfl ?_
  refine wq_h (f' := (up1 (up1 (up1 (up1 f 15 P9) 14 N9) 13 K9) 11 (upd g9 1 0))) ((up2_up1_eq (up1 (up1 (up1 f 15 P9) 14 N9) 13 K9) 11 g9 1 0).trans (congrArg (fun z => up1 (up1 (up1 (up1 f 15 P9) 14 N9) 13 K9) 11 z) (rfl))) ?_
  refine wq_run10 (pc' := 70) (L' := [(0, .ref 0), (1, .int day)]) (S' := [.int (f 43 7), .ref 2, .int day, .ref 11, .ref 16]) (f' := (up1 (up1 (up1 (up1 f 15 P9) 14 N9) 13 K9) 11 (upd g9 1 0))) rfl ?_
  refine wq_v (y := (nI h)) (h43) ?_
  refine wq_call (sp_addAct0 (f := (up1 (up1 (up1 (up1 f 15 P9) 14 N9) 13 K9) 11 (upd g9 1 0))) (W := W) (w := w) (h := h) (c := (psF T n 8 0 0).2) day hL hh h16 (hq9 hf).1) (Nat.le_of_ble_eq_true rfl) (pc' := 73) (L' := [(0, .ref 0), (1, .int day)]) (S' := []) rfl (Nat.le_of_ble_eq_true rfl) rfl rfl (Nat.le_of_ble_eq_true rfl) (Nat.le_of_ble_eq_true rfl) ?_
  rintro v f9 ⟨sc, kk, e0, ef, hkk⟩
  subst e0
  subst ef
  exact wq_ret rfl ⟨g9, K9, N9, P9, sc, kk, rfl, rfl, hkk, hg9, (hq9 hf).1, (hq9 hf).2⟩
theorem sp_force4_1 {f : HI} {T : Nat → Int32} {n : Nat} (hn1 : n ≤ 160) (hT : ∀ j, j < n → f 12 j = T j) (hg1 : f 11 1 = nI n) {day : Int32} (hd : inR day 0 1000) (hf : (psF T n 8 0 0).1 = none) {W : Nat → Nat → Nat} {w h : Nat} (hL : LaC f W w) (hh : h ≤ 60000) (h43 : f 43 7 = nI h) (h16 : f 16 1 = nI 1) : Sp 9 89 [.ref 0, .int day] f (fun v f' => ∃ g K N P sc kk, v = some (.int (nI 1)) ∧ f' = up1 (up1 (up1 (up1 (up1 (up1 (up1 (up1 (up1 (up1 (up1 f 15 P) 14 N) 13 K) 11 (upd g 1 0)) 23 (upd (upd ((up1 (up1 (up1 (up1 f 15 P) 14 N) 13 K) 11 (upd g 1 0)) 23) 4 day) 3 (nI (psF T n 8 0 0).2))) 26 (va_cpy ((up1 (up1 (up1 (up1 f 15 P) 14 N) 13 K) 11 (upd g 1 0)) 15) ((up1 (up1 (up1 (up1 f 15 P) 14 N) 13 K) 11 (upd g 1 0)) 26) 0 0 8)) 25 (va_cpy ((up1 (up1 (up1 (up1 f 15 P) 14 N) 13 K) 11 (upd g 1 0)) 14) ((up1 (up1 (up1 (up1 f 15 P) 14 N) 13 K) 11 (upd g 1 0)) 25) 0 0 8)) 24 (va_cpy ((up1 (up1 (up1 (up1 f 15 P) 14 N) 13 K) 11 (upd g 1 0)) 13) ((up1 (up1 (up1 (up1 f 15 P) 14 N) 13 K) 11 (upd g 1 0)) 24) 0 0 8)) 16 (upd (f 16) 1 (nI (1 + 1)))) 10 sc) 27 kk ∧ (∀ t, t < 10 → kk t = dI (arN W w 0 h t)) ∧ g 1 = nI n ∧ g 7 = nI (psF T n 8 0 0).2 ∧ RwC T n (psF T n 8 0 0).2 K N P) := by
  show wq 9 89 (fun v f' => ∃ g K N P sc kk, v = some (.int (nI 1)) ∧ f' = up1 (up1 (up1 (up1 (up1 (up1 (up1 (up1 (up1 (up1 (up1 f 15 P) 14 N) 13 K) 11 (upd g 1 0)) 23 (upd (upd ((up1 (up1 (up1 (up1 f 15 P) 14 N) 13 K) 11 (upd g 1 0)) 23) 4 day) 3 (nI (psF T n 8 0 0).2))) 26 (va_cpy ((up1 (up1 (up1 (up1 f 15 P) 14 N) 13 K) 11 (upd g 1 0)) 15) ((up1 (up1 (up1 (up1 f 15 P) 14 N) 13 K) 11 (upd g 1 0)) 26) 0 0 8)) 25 (va_cpy ((up1 (up1 (up1 (up1 f 15 P) 14 N) 13 K) 11 (upd g 1 0)) 14) ((up1 (up1 (up1 (up1 f 15 P) 14 N) 13 K) 11 (upd g 1 0)) 25) 0 0 8)) 24 (va_cpy ((up1 (up1 (up1 (up1 f 15 P) 14 N) 13 K) 11 (upd g 1 0)) 13) ((up1 (up1 (up1 (up1 f 15 P) 14 N) 13 K) 11 (upd g 1 0)) 24) 0 0 8)) 16 (upd (f 16) 1 (nI (1 + 1)))) 10 sc) 27 kk ∧ (∀ t, t < 10 → kk t = dI (arN W w 0 h t)) ∧ g 1 = nI n ∧ g 7 = nI (psF T n 8 0 0).2 ∧ RwC T n (psF T n 8 0 0).2 K N P) 0 [(0, .ref 0), (1, .int day)] [] f
  refine wq_run3 (pc' := 5) (L' := [(0, .ref 0), (1, .int day)]) (S' := [.int 1000, .int 0, .int day]) (f' := f) rfl ?_
  refine wq_callI (r := (b2i (inR day 0 1000))) (sp_within f day 0 1000) (Nat.le_of_ble_eq_true rfl) (pc' := 8) (L' := [(0, .ref 0), (1, .int day)]) (S' := []) rfl (Nat.le_of_ble_eq_true rfl) rfl rfl (Nat.le_of_ble_eq_true rfl) (Nat.le_of_ble_eq_true rfl) ?_
  refine wq_if (c := (b2i (inR day 0 1000)) = 0) (p1 := 11) (L1 := [(0, .ref 0), (1, .int day)]) (S1 := []) (p2 := 14) (L2 := [(0, .ref 0), (1, .int day)]) (S2 := []) rfl (fun q => absurd q (b2i_n0.mpr hd)) (fun _ => ?_)
  refine wq_run2 (pc' := 18) (L' := [(0, .ref 0), (1, .int day)]) (S' := [.ref 11]) (f' := f) rfl ?_
  refine wq_call (sp_firstFault hn1 hT hg1) (Nat.le_of_ble_eq_true rfl) (pc' := 21) (L' := [(0, .ref 0), (1, .int day)]) (S' := []) rfl (Nat.le_of_ble_eq_true rfl) rfl rfl (Nat.le_of_ble_eq_true rfl) (Nat.le_of_ble_eq_true rfl) ?_
  rintro v f9 ⟨g9, K9, N9, P9, e0, ef, hg9, hq9⟩
  subst e0
  subst ef
  refine wq_run1 (pc' := 22) (L' := [(0, .ref 0), (1, .int day)]) (S' := [.int (-1), .int (obI (psF T n 8 0 0).1)]) (f' := (up1 (up1 (up1 (up1 f 15 P9) 14 N9) 13 K9) 11 g9)) rfl ?_
  refine wq_if (c := (obI (psF T n 8 0 0).1) = (-1)) (p1 := 28) (L1 := [(0, .ref 0), (1, .int day)]) (S1 := []) (p2 := 25) (L2 := [(0, .ref 0), (1, .int day)]) (S2 := []) rfl (fun _ => ?_) (fun q => absurd (by rw [hf]; rfl) q)
  refine wq_run4 (pc' := 36) (L' := [(0, .ref 0), (1, .int day)]) (S' := [.int 5, .int (f 16 1)]) (f' := (up1 (up1 (up1 (up1 f 15 P9) 14 N9) 13 K9) 11 g9)) rfl ?_
  refine wq_if (c := (f 16 1) < 5) (p1 := 42) (L1 := [(0, .ref 0), (1, .int day)]) (S1 := []) (p2 := 39) (L2 := [(0, .ref 0), (1, .int day)]) (S2 := []) rfl (fun _ => ?_) (fun q => absurd (by show f 16 1 < 5; rw [h16]; decide) q)
  refine wq_run3 (pc' := 47) (L' := [(0, .ref 0), (1, .int day)]) (S' := [.int 0, .ref 11]) (f' := (up1 (up1 (up1 (up1 f 15 P9) 14 N9) 13 K9) 11 g9)) rfl ?_
  refine wq_putI rfl rfl ?_
  refine wq_h (f' := (up1 (up1 (up1 (up1 f 15 P9) 14 N9) 13 K9) 11 (upd g9 1 0))) ((up2_up1_eq (up1 (up1 (up1 f 15 P9) 14 N9) 13 K9) 11 g9 1 0).trans (congrArg (fun z => up1 (up1 (up1 (up1 f 15 P9) 14 N9) 13 K9) 11 z) (rfl))) ?_
  refine wq_run10 (pc' := 70) (L' := [(0, .ref 0), (1, .int day)]) (S' := [.int (f 43 7), .ref 2, .int day, .ref 11, .ref 16]) (f' := (up1 (up1 (up1 (up1 f 15 P9) 14 N9) 13 K9) 11 (upd g9 1 0))) rfl ?_
  refine wq_v (y := (nI h)) (h43) ?_
  refine wq_call (sp_addAct1 (f := (up1 (up1 (up1 (up1 f 15 P9) 14 N9) 13 K9) 11 (upd g9 1 0))) (W := W) (w := w) (h := h) (c := (psF T n 8 0 0).2) day hL hh h16 (hq9 hf).1) (Nat.le_of_ble_eq_true rfl) (pc' := 73) (L' := [(0, .ref 0), (1, .int day)]) (S' := []) rfl (Nat.le_of_ble_eq_true rfl) rfl rfl (Nat.le_of_ble_eq_true rfl) (Nat.le_of_ble_eq_true rfl) ?_
  rintro v f9 ⟨sc, kk, e0, ef, hkk⟩
  subst e0
  subst ef
  exact wq_ret rfl ⟨g9, K9, N9, P9, sc, kk, rfl, rfl, hkk, hg9, (hq9 hf).1, (hq9 hf).2⟩
theorem sp_force4_2 {f : HI} {T : Nat → Int32} {n : Nat} (hn1 : n ≤ 160) (hT : ∀ j, j < n → f 12 j = T j) (hg1 : f 11 1 = nI n) {day : Int32} (hd : inR day 0 1000) (hf : (psF T n 8 0 0).1 = none) {W : Nat → Nat → Nat} {w h : Nat} (hL : LaC f W w) (hh : h ≤ 60000) (h43 : f 43 7 = nI h) (h16 : f 16 1 = nI 2) : Sp 9 89 [.ref 0, .int day] f (fun v f' => ∃ g K N P sc kk, v = some (.int (nI 2)) ∧ f' = up1 (up1 (up1 (up1 (up1 (up1 (up1 (up1 (up1 (up1 (up1 f 15 P) 14 N) 13 K) 11 (upd g 1 0)) 28 (upd (upd ((up1 (up1 (up1 (up1 f 15 P) 14 N) 13 K) 11 (upd g 1 0)) 28) 4 day) 3 (nI (psF T n 8 0 0).2))) 31 (va_cpy ((up1 (up1 (up1 (up1 f 15 P) 14 N) 13 K) 11 (upd g 1 0)) 15) ((up1 (up1 (up1 (up1 f 15 P) 14 N) 13 K) 11 (upd g 1 0)) 31) 0 0 8)) 30 (va_cpy ((up1 (up1 (up1 (up1 f 15 P) 14 N) 13 K) 11 (upd g 1 0)) 14) ((up1 (up1 (up1 (up1 f 15 P) 14 N) 13 K) 11 (upd g 1 0)) 30) 0 0 8)) 29 (va_cpy ((up1 (up1 (up1 (up1 f 15 P) 14 N) 13 K) 11 (upd g 1 0)) 13) ((up1 (up1 (up1 (up1 f 15 P) 14 N) 13 K) 11 (upd g 1 0)) 29) 0 0 8)) 16 (upd (f 16) 1 (nI (2 + 1)))) 10 sc) 32 kk ∧ (∀ t, t < 10 → kk t = dI (arN W w 0 h t)) ∧ g 1 = nI n ∧ g 7 = nI (psF T n 8 0 0).2 ∧ RwC T n (psF T n 8 0 0).2 K N P) := by
  show wq 9 89 (fun v f' => ∃ g K N P sc kk, v = some (.int (nI 2)) ∧ f' = up1 (up1 (up1 (up1 (up1 (up1 (up1 (up1 (up1 (up1 (up1 f 15 P) 14 N) 13 K) 11 (upd g 1 0)) 28 (upd (upd ((up1 (up1 (up1 (up1 f 15 P) 14 N) 13 K) 11 (upd g 1 0)) 28) 4 day) 3 (nI (psF T n 8 0 0).2))) 31 (va_cpy ((up1 (up1 (up1 (up1 f 15 P) 14 N) 13 K) 11 (upd g 1 0)) 15) ((up1 (up1 (up1 (up1 f 15 P) 14 N) 13 K) 11 (upd g 1 0)) 31) 0 0 8)) 30 (va_cpy ((up1 (up1 (up1 (up1 f 15 P) 14 N) 13 K) 11 (upd g 1 0)) 14) ((up1 (up1 (up1 (up1 f 15 P) 14 N) 13 K) 11 (upd g 1 0)) 30) 0 0 8)) 29 (va_cpy ((up1 (up1 (up1 (up1 f 15 P) 14 N) 13 K) 11 (upd g 1 0)) 13) ((up1 (up1 (up1 (up1 f 15 P) 14 N) 13 K) 11 (upd g 1 0)) 29) 0 0 8)) 16 (upd (f 16) 1 (nI (2 + 1)))) 10 sc) 32 kk ∧ (∀ t, t < 10 → kk t = dI (arN W w 0 h t)) ∧ g 1 = nI n ∧ g 7 = nI (psF T n 8 0 0).2 ∧ RwC T n (psF T n 8 0 0).2 K N P) 0 [(0, .ref 0), (1, .int day)] [] f
  refine wq_run3 (pc' := 5) (L' := [(0, .ref 0), (1, .int day)]) (S' := [.int 1000, .int 0, .int day]) (f' := f) rfl ?_
  refine wq_callI (r := (b2i (inR day 0 1000))) (sp_within f day 0 1000) (Nat.le_of_ble_eq_true rfl) (pc' := 8) (L' := [(0, .ref 0), (1, .int day)]) (S' := []) rfl (Nat.le_of_ble_eq_true rfl) rfl rfl (Nat.le_of_ble_eq_true rfl) (Nat.le_of_ble_eq_true rfl) ?_
  refine wq_if (c := (b2i (inR day 0 1000)) = 0) (p1 := 11) (L1 := [(0, .ref 0), (1, .int day)]) (S1 := []) (p2 := 14) (L2 := [(0, .ref 0), (1, .int day)]) (S2 := []) rfl (fun q => absurd q (b2i_n0.mpr hd)) (fun _ => ?_)
  refine wq_run2 (pc' := 18) (L' := [(0, .ref 0), (1, .int day)]) (S' := [.ref 11]) (f' := f) rfl ?_
  refine wq_call (sp_firstFault hn1 hT hg1) (Nat.le_of_ble_eq_true rfl) (pc' := 21) (L' := [(0, .ref 0), (1, .int day)]) (S' := []) rfl (Nat.le_of_ble_eq_true rfl) rfl rfl (Nat.le_of_ble_eq_true rfl) (Nat.le_of_ble_eq_true rfl) ?_
  rintro v f9 ⟨g9, K9, N9, P9, e0, ef, hg9, hq9⟩
  subst e0
  subst ef
  refine wq_run1 (pc' := 22) (L' := [(0, .ref 0), (1, .int day)]) (S' := [.int (-1), .int (obI (psF T n 8 0 0).1)]) (f' := (up1 (up1 (up1 (up1 f 15 P9) 14 N9) 13 K9) 11 g9)) rfl ?_
  refine wq_if (c := (obI (psF T n 8 0 0).1) = (-1)) (p1 := 28) (L1 := [(0, .ref 0), (1, .int day)]) (S1 := []) (p2 := 25) (L2 := [(0, .ref 0), (1, .int day)]) (S2 := []) rfl (fun _ => ?_) (fun q => absurd (by rw [hf]; rfl) q)
  refine wq_run4 (pc' := 36) (L' := [(0, .ref 0), (1, .int day)]) (S' := [.int 5, .int (f 16 1)]) (f' := (up1 (up1 (up1 (up1 f 15 P9) 14 N9) 13 K9) 11 g9)) rfl ?_
  refine wq_if (c := (f 16 1) < 5) (p1 := 42) (L1 := [(0, .ref 0), (1, .int day)]) (S1 := []) (p2 := 39) (L2 := [(0, .ref 0), (1, .int day)]) (S2 := []) rfl (fun _ => ?_) (fun q => absurd (by show f 16 1 < 5; rw [h16]; decide) q)
  refine wq_run3 (pc' := 47) (L' := [(0, .ref 0), (1, .int day)]) (S' := [.int 0, .ref 11]) (f' := (up1 (up1 (up1 (up1 f 15 P9) 14 N9) 13 K9) 11 g9)) rfl ?_
  refine wq_putI rfl rfl ?_
  refine wq_h (f' := (up1 (up1 (up1 (up1 f 15 P9) 14 N9) 13 K9) 11 (upd g9 1 0))) ((up2_up1_eq (up1 (up1 (up1 f 15 P9) 14 N9) 13 K9) 11 g9 1 0).trans (congrArg (fun z => up1 (up1 (up1 (up1 f 15 P9) 14 N9) 13 K9) 11 z) (rfl))) ?_
  refine wq_run10 (pc' := 70) (L' := [(0, .ref 0), (1, .int day)]) (S' := [.int (f 43 7), .ref 2, .int day, .ref 11, .ref 16]) (f' := (up1 (up1 (up1 (up1 f 15 P9) 14 N9) 13 K9) 11 (upd g9 1 0))) rfl ?_
  refine wq_v (y := (nI h)) (h43) ?_
  refine wq_call (sp_addAct2 (f := (up1 (up1 (up1 (up1 f 15 P9) 14 N9) 13 K9) 11 (upd g9 1 0))) (W := W) (w := w) (h := h) (c := (psF T n 8 0 0).2) day hL hh h16 (hq9 hf).1) (Nat.le_of_ble_eq_true rfl) (pc' := 73) (L' := [(0, .ref 0), (1, .int day)]) (S' := []) rfl (Nat.le_of_ble_eq_true rfl) rfl rfl (Nat.le_of_ble_eq_true rfl) (Nat.le_of_ble_eq_true rfl) ?_
  rintro v f9 ⟨sc, kk, e0, ef, hkk⟩
  subst e0
  subst ef
  exact wq_ret rfl ⟨g9, K9, N9, P9, sc, kk, rfl, rfl, hkk, hg9, (hq9 hf).1, (hq9 hf).2⟩
theorem sp_force4_3 {f : HI} {T : Nat → Int32} {n : Nat} (hn1 : n ≤ 160) (hT : ∀ j, j < n → f 12 j = T j) (hg1 : f 11 1 = nI n) {day : Int32} (hd : inR day 0 1000) (hf : (psF T n 8 0 0).1 = none) {W : Nat → Nat → Nat} {w h : Nat} (hL : LaC f W w) (hh : h ≤ 60000) (h43 : f 43 7 = nI h) (h16 : f 16 1 = nI 3) : Sp 9 89 [.ref 0, .int day] f (fun v f' => ∃ g K N P sc kk, v = some (.int (nI 3)) ∧ f' = up1 (up1 (up1 (up1 (up1 (up1 (up1 (up1 (up1 (up1 (up1 f 15 P) 14 N) 13 K) 11 (upd g 1 0)) 33 (upd (upd ((up1 (up1 (up1 (up1 f 15 P) 14 N) 13 K) 11 (upd g 1 0)) 33) 4 day) 3 (nI (psF T n 8 0 0).2))) 36 (va_cpy ((up1 (up1 (up1 (up1 f 15 P) 14 N) 13 K) 11 (upd g 1 0)) 15) ((up1 (up1 (up1 (up1 f 15 P) 14 N) 13 K) 11 (upd g 1 0)) 36) 0 0 8)) 35 (va_cpy ((up1 (up1 (up1 (up1 f 15 P) 14 N) 13 K) 11 (upd g 1 0)) 14) ((up1 (up1 (up1 (up1 f 15 P) 14 N) 13 K) 11 (upd g 1 0)) 35) 0 0 8)) 34 (va_cpy ((up1 (up1 (up1 (up1 f 15 P) 14 N) 13 K) 11 (upd g 1 0)) 13) ((up1 (up1 (up1 (up1 f 15 P) 14 N) 13 K) 11 (upd g 1 0)) 34) 0 0 8)) 16 (upd (f 16) 1 (nI (3 + 1)))) 10 sc) 37 kk ∧ (∀ t, t < 10 → kk t = dI (arN W w 0 h t)) ∧ g 1 = nI n ∧ g 7 = nI (psF T n 8 0 0).2 ∧ RwC T n (psF T n 8 0 0).2 K N P) := by
  show wq 9 89 (fun v f' => ∃ g K N P sc kk, v = some (.int (nI 3)) ∧ f' = up1 (up1 (up1 (up1 (up1 (up1 (up1 (up1 (up1 (up1 (up1 f 15 P) 14 N) 13 K) 11 (upd g 1 0)) 33 (upd (upd ((up1 (up1 (up1 (up1 f 15 P) 14 N) 13 K) 11 (upd g 1 0)) 33) 4 day) 3 (nI (psF T n 8 0 0).2))) 36 (va_cpy ((up1 (up1 (up1 (up1 f 15 P) 14 N) 13 K) 11 (upd g 1 0)) 15) ((up1 (up1 (up1 (up1 f 15 P) 14 N) 13 K) 11 (upd g 1 0)) 36) 0 0 8)) 35 (va_cpy ((up1 (up1 (up1 (up1 f 15 P) 14 N) 13 K) 11 (upd g 1 0)) 14) ((up1 (up1 (up1 (up1 f 15 P) 14 N) 13 K) 11 (upd g 1 0)) 35) 0 0 8)) 34 (va_cpy ((up1 (up1 (up1 (up1 f 15 P) 14 N) 13 K) 11 (upd g 1 0)) 13) ((up1 (up1 (up1 (up1 f 15 P) 14 N) 13 K) 11 (upd g 1 0)) 34) 0 0 8)) 16 (upd (f 16) 1 (nI (3 + 1)))) 10 sc) 37 kk ∧ (∀ t, t < 10 → kk t = dI (arN W w 0 h t)) ∧ g 1 = nI n ∧ g 7 = nI (psF T n 8 0 0).2 ∧ RwC T n (psF T n 8 0 0).2 K N P) 0 [(0, .ref 0), (1, .int day)] [] f
  refine wq_run3 (pc' := 5) (L' := [(0, .ref 0), (1, .int day)]) (S' := [.int 1000, .int 0, .int day]) (f' := f) rfl ?_
  refine wq_callI (r := (b2i (inR day 0 1000))) (sp_within f day 0 1000) (Nat.le_of_ble_eq_true rfl) (pc' := 8) (L' := [(0, .ref 0), (1, .int day)]) (S' := []) rfl (Nat.le_of_ble_eq_true rfl) rfl rfl (Nat.le_of_ble_eq_true rfl) (Nat.le_of_ble_eq_true rfl) ?_
  refine wq_if (c := (b2i (inR day 0 1000)) = 0) (p1 := 11) (L1 := [(0, .ref 0), (1, .int day)]) (S1 := []) (p2 := 14) (L2 := [(0, .ref 0), (1, .int day)]) (S2 := []) rfl (fun q => absurd q (b2i_n0.mpr hd)) (fun _ => ?_)
  refine wq_run2 (pc' := 18) (L' := [(0, .ref 0), (1, .int day)]) (S' := [.ref 11]) (f' := f) rfl ?_
  refine wq_call (sp_firstFault hn1 hT hg1) (Nat.le_of_ble_eq_true rfl) (pc' := 21) (L' := [(0, .ref 0), (1, .int day)]) (S' := []) rfl (Nat.le_of_ble_eq_true rfl) rfl rfl (Nat.le_of_ble_eq_true rfl) (Nat.le_of_ble_eq_true rfl) ?_
  rintro v f9 ⟨g9, K9, N9, P9, e0, ef, hg9, hq9⟩
  subst e0
  subst ef
  refine wq_run1 (pc' := 22) (L' := [(0, .ref 0), (1, .int day)]) (S' := [.int (-1), .int (obI (psF T n 8 0 0).1)]) (f' := (up1 (up1 (up1 (up1 f 15 P9) 14 N9) 13 K9) 11 g9)) rfl ?_
  refine wq_if (c := (obI (psF T n 8 0 0).1) = (-1)) (p1 := 28) (L1 := [(0, .ref 0), (1, .int day)]) (S1 := []) (p2 := 25) (L2 := [(0, .ref 0), (1, .int day)]) (S2 := []) rfl (fun _ => ?_) (fun q => absurd (by rw [hf]; rfl) q)
  refine wq_run4 (pc' := 36) (L' := [(0, .ref 0), (1, .int day)]) (S' := [.int 5, .int (f 16 1)]) (f' := (up1 (up1 (up1 (up1 f 15 P9) 14 N9) 13 K9) 11 g9)) rfl ?_
  refine wq_if (c := (f 16 1) < 5) (p1 := 42) (L1 := [(0, .ref 0), (1, .int day)]) (S1 := []) (p2 := 39) (L2 := [(0, .ref 0), (1, .int day)]) (S2 := []) rfl (fun _ => ?_) (fun q => absurd (by show f 16 1 < 5; rw [h16]; decide) q)
  refine wq_run3 (pc' := 47) (L' := [(0, .ref 0), (1, .int day)]) (S' := [.int 0, .ref 11]) (f' := (up1 (up1 (up1 (up1 f 15 P9) 14 N9) 13 K9) 11 g9)) rfl ?_
  refine wq_putI rfl rfl ?_
  refine wq_h (f' := (up1 (up1 (up1 (up1 f 15 P9) 14 N9) 13 K9) 11 (upd g9 1 0))) ((up2_up1_eq (up1 (up1 (up1 f 15 P9) 14 N9) 13 K9) 11 g9 1 0).trans (congrArg (fun z => up1 (up1 (up1 (up1 f 15 P9) 14 N9) 13 K9) 11 z) (rfl))) ?_
  refine wq_run10 (pc' := 70) (L' := [(0, .ref 0), (1, .int day)]) (S' := [.int (f 43 7), .ref 2, .int day, .ref 11, .ref 16]) (f' := (up1 (up1 (up1 (up1 f 15 P9) 14 N9) 13 K9) 11 (upd g9 1 0))) rfl ?_
  refine wq_v (y := (nI h)) (h43) ?_
  refine wq_call (sp_addAct3 (f := (up1 (up1 (up1 (up1 f 15 P9) 14 N9) 13 K9) 11 (upd g9 1 0))) (W := W) (w := w) (h := h) (c := (psF T n 8 0 0).2) day hL hh h16 (hq9 hf).1) (Nat.le_of_ble_eq_true rfl) (pc' := 73) (L' := [(0, .ref 0), (1, .int day)]) (S' := []) rfl (Nat.le_of_ble_eq_true rfl) rfl rfl (Nat.le_of_ble_eq_true rfl) (Nat.le_of_ble_eq_true rfl) ?_
  rintro v f9 ⟨sc, kk, e0, ef, hkk⟩
  subst e0
  subst ef
  exact wq_ret rfl ⟨g9, K9, N9, P9, sc, kk, rfl, rfl, hkk, hg9, (hq9 hf).1, (hq9 hf).2⟩
theorem sp_force4_4 {f : HI} {T : Nat → Int32} {n : Nat} (hn1 : n ≤ 160) (hT : ∀ j, j < n → f 12 j = T j) (hg1 : f 11 1 = nI n) {day : Int32} (hd : inR day 0 1000) (hf : (psF T n 8 0 0).1 = none) {W : Nat → Nat → Nat} {w h : Nat} (hL : LaC f W w) (hh : h ≤ 60000) (h43 : f 43 7 = nI h) (h16 : f 16 1 = nI 4) : Sp 9 89 [.ref 0, .int day] f (fun v f' => ∃ g K N P sc kk, v = some (.int (nI 4)) ∧ f' = up1 (up1 (up1 (up1 (up1 (up1 (up1 (up1 (up1 (up1 (up1 f 15 P) 14 N) 13 K) 11 (upd g 1 0)) 38 (upd (upd ((up1 (up1 (up1 (up1 f 15 P) 14 N) 13 K) 11 (upd g 1 0)) 38) 4 day) 3 (nI (psF T n 8 0 0).2))) 41 (va_cpy ((up1 (up1 (up1 (up1 f 15 P) 14 N) 13 K) 11 (upd g 1 0)) 15) ((up1 (up1 (up1 (up1 f 15 P) 14 N) 13 K) 11 (upd g 1 0)) 41) 0 0 8)) 40 (va_cpy ((up1 (up1 (up1 (up1 f 15 P) 14 N) 13 K) 11 (upd g 1 0)) 14) ((up1 (up1 (up1 (up1 f 15 P) 14 N) 13 K) 11 (upd g 1 0)) 40) 0 0 8)) 39 (va_cpy ((up1 (up1 (up1 (up1 f 15 P) 14 N) 13 K) 11 (upd g 1 0)) 13) ((up1 (up1 (up1 (up1 f 15 P) 14 N) 13 K) 11 (upd g 1 0)) 39) 0 0 8)) 16 (upd (f 16) 1 (nI (4 + 1)))) 10 sc) 42 kk ∧ (∀ t, t < 10 → kk t = dI (arN W w 0 h t)) ∧ g 1 = nI n ∧ g 7 = nI (psF T n 8 0 0).2 ∧ RwC T n (psF T n 8 0 0).2 K N P) := by
  show wq 9 89 (fun v f' => ∃ g K N P sc kk, v = some (.int (nI 4)) ∧ f' = up1 (up1 (up1 (up1 (up1 (up1 (up1 (up1 (up1 (up1 (up1 f 15 P) 14 N) 13 K) 11 (upd g 1 0)) 38 (upd (upd ((up1 (up1 (up1 (up1 f 15 P) 14 N) 13 K) 11 (upd g 1 0)) 38) 4 day) 3 (nI (psF T n 8 0 0).2))) 41 (va_cpy ((up1 (up1 (up1 (up1 f 15 P) 14 N) 13 K) 11 (upd g 1 0)) 15) ((up1 (up1 (up1 (up1 f 15 P) 14 N) 13 K) 11 (upd g 1 0)) 41) 0 0 8)) 40 (va_cpy ((up1 (up1 (up1 (up1 f 15 P) 14 N) 13 K) 11 (upd g 1 0)) 14) ((up1 (up1 (up1 (up1 f 15 P) 14 N) 13 K) 11 (upd g 1 0)) 40) 0 0 8)) 39 (va_cpy ((up1 (up1 (up1 (up1 f 15 P) 14 N) 13 K) 11 (upd g 1 0)) 13) ((up1 (up1 (up1 (up1 f 15 P) 14 N) 13 K) 11 (upd g 1 0)) 39) 0 0 8)) 16 (upd (f 16) 1 (nI (4 + 1)))) 10 sc) 42 kk ∧ (∀ t, t < 10 → kk t = dI (arN W w 0 h t)) ∧ g 1 = nI n ∧ g 7 = nI (psF T n 8 0 0).2 ∧ RwC T n (psF T n 8 0 0).2 K N P) 0 [(0, .ref 0), (1, .int day)] [] f
  refine wq_run3 (pc' := 5) (L' := [(0, .ref 0), (1, .int day)]) (S' := [.int 1000, .int 0, .int day]) (f' := f) rfl ?_
  refine wq_callI (r := (b2i (inR day 0 1000))) (sp_within f day 0 1000) (Nat.le_of_ble_eq_true rfl) (pc' := 8) (L' := [(0, .ref 0), (1, .int day)]) (S' := []) rfl (Nat.le_of_ble_eq_true rfl) rfl rfl (Nat.le_of_ble_eq_true rfl) (Nat.le_of_ble_eq_true rfl) ?_
  refine wq_if (c := (b2i (inR day 0 1000)) = 0) (p1 := 11) (L1 := [(0, .ref 0), (1, .int day)]) (S1 := []) (p2 := 14) (L2 := [(0, .ref 0), (1, .int day)]) (S2 := []) rfl (fun q => absurd q (b2i_n0.mpr hd)) (fun _ => ?_)
  refine wq_run2 (pc' := 18) (L' := [(0, .ref 0), (1, .int day)]) (S' := [.ref 11]) (f' := f) rfl ?_
  refine wq_call (sp_firstFault hn1 hT hg1) (Nat.le_of_ble_eq_true rfl) (pc' := 21) (L' := [(0, .ref 0), (1, .int day)]) (S' := []) rfl (Nat.le_of_ble_eq_true rfl) rfl rfl (Nat.le_of_ble_eq_true rfl) (Nat.le_of_ble_eq_true rfl) ?_
  rintro v f9 ⟨g9, K9, N9, P9, e0, ef, hg9, hq9⟩
  subst e0
  subst ef
  refine wq_run1 (pc' := 22) (L' := [(0, .ref 0), (1, .int day)]) (S' := [.int (-1), .int (obI (psF T n 8 0 0).1)]) (f' := (up1 (up1 (up1 (up1 f 15 P9) 14 N9) 13 K9) 11 g9)) rfl ?_
  refine wq_if (c := (obI (psF T n 8 0 0).1) = (-1)) (p1 := 28) (L1 := [(0, .ref 0), (1, .int day)]) (S1 := []) (p2 := 25) (L2 := [(0, .ref 0), (1, .int day)]) (S2 := []) rfl (fun _ => ?_) (fun q => absurd (by rw [hf]; rfl) q)
  refine wq_run4 (pc' := 36) (L' := [(0, .ref 0), (1, .int day)]) (S' := [.int 5, .int (f 16 1)]) (f' := (up1 (up1 (up1 (up1 f 15 P9) 14 N9) 13 K9) 11 g9)) rfl ?_
  refine wq_if (c := (f 16 1) < 5) (p1 := 42) (L1 := [(0, .ref 0), (1, .int day)]) (S1 := []) (p2 := 39) (L2 := [(0, .ref 0), (1, .int day)]) (S2 := []) rfl (fun _ => ?_) (fun q => absurd (by show f 16 1 < 5; rw [h16]; decide) q)
  refine wq_run3 (pc' := 47) (L' := [(0, .ref 0), (1, .int day)]) (S' := [.int 0, .ref 11]) (f' := (up1 (up1 (up1 (up1 f 15 P9) 14 N9) 13 K9) 11 g9)) rfl ?_
  refine wq_putI rfl rfl ?_
  refine wq_h (f' := (up1 (up1 (up1 (up1 f 15 P9) 14 N9) 13 K9) 11 (upd g9 1 0))) ((up2_up1_eq (up1 (up1 (up1 f 15 P9) 14 N9) 13 K9) 11 g9 1 0).trans (congrArg (fun z => up1 (up1 (up1 (up1 f 15 P9) 14 N9) 13 K9) 11 z) (rfl))) ?_
  refine wq_run10 (pc' := 70) (L' := [(0, .ref 0), (1, .int day)]) (S' := [.int (f 43 7), .ref 2, .int day, .ref 11, .ref 16]) (f' := (up1 (up1 (up1 (up1 f 15 P9) 14 N9) 13 K9) 11 (upd g9 1 0))) rfl ?_
  refine wq_v (y := (nI h)) (h43) ?_
  refine wq_call (sp_addAct4 (f := (up1 (up1 (up1 (up1 f 15 P9) 14 N9) 13 K9) 11 (upd g9 1 0))) (W := W) (w := w) (h := h) (c := (psF T n 8 0 0).2) day hL hh h16 (hq9 hf).1) (Nat.le_of_ble_eq_true rfl) (pc' := 73) (L' := [(0, .ref 0), (1, .int day)]) (S' := []) rfl (Nat.le_of_ble_eq_true rfl) rfl rfl (Nat.le_of_ble_eq_true rfl) (Nat.le_of_ble_eq_true rfl) ?_
  rintro v f9 ⟨sc, kk, e0, ef, hkk⟩
  subst e0
  subst ef
  exact wq_ret rfl ⟨g9, K9, N9, P9, sc, kk, rfl, rfl, hkk, hg9, (hq9 hf).1, (hq9 hf).2⟩
