/-! stamps: may be washed, taken by (reference) -/
def GtP (a h : Nat) (G : Nat → Nat) : Prop := (∀ t, h ≤ G t) ∧ ∀ t, t ≠ a → h < G t
theorem gt_1 {W : Nat → Nat → Nat} {w e a h : Nat} {G : Nat → Nat} (hW : WyN W w) (he : e < 2 * w) (hh : h < 268435456) (hG : GtP a h G) : GtP a h (st1 W e G) := by
  have key : h < rlN W e (G (eP W e)) := by
    by_cases c : G (eP W e) < 268435456
    · exact Nat.lt_of_le_of_lt (hG.1 _) (rl_gt hW he c)
    · unfold rlN
      rw [if_pos (by omega)]
      exact hh
  refine ⟨fun t => ?_, fun t ht => ?_⟩
  · rcases st1_c (W := W) (e := e) (G := G) t with q | ⟨_, q, _⟩
    · rw [q]; exact hG.1 t
    · rw [q]; exact Nat.le_of_lt key
  · rcases st1_c (W := W) (e := e) (G := G) t with q | ⟨_, q, _⟩
    · rw [q]; exact hG.2 t ht
    · rw [q]; exact key
theorem gt_f {W : Nat → Nat → Nat} {w a h : Nat} {G : Nat → Nat} (hW : WyN W w) (hh : h < 268435456) (hG : GtP a h G) : ∀ n, n ≤ 2 * w → GtP a h (fdN W n G)
  | 0, _ => hG
  | n + 1, hn => gt_1 hW (by omega) hh (gt_f hW hh hG n (by omega))
theorem gt_i {W : Nat → Nat → Nat} {w a h : Nat} (hW : WyN W w) (hh : h < 268435456) : ∀ k, GtP a h (itN W (2 * w) k (s0N a h))
  | 0 => ⟨fun t => by
      show h ≤ if t = a then h else 268435456
      split <;> omega, fun t ht => by
      show h < if t = a then h else 268435456
      rw [if_neg ht]; exact hh⟩
  | k + 1 => gt_f hW hh (gt_i hW hh k) (2 * w) (Nat.le_refl _)
theorem ar_gt {W : Nat → Nat → Nat} {w a h b : Nat} (hW : WyN W w) (hh : h < 268435456) (hb : b ≠ a) : h < arN W w a h b := (gt_i hW hh 10).2 b hb
def LfM (t : HI) (n wa : Nat) (to fr en wr : Nat → Nat) (sa : Nat → Int32) : Prop := t 92 35 = nI n ∧ n ≤ 24 ∧ t 92 43 = nI wa ∧ wa ≤ 200 ∧ ∀ i, i < n → t 107 i = nI (fr i) ∧ fr i < 10 ∧ t 108 i = nI (to i) ∧ to i < 10 ∧ t 114 i = nI (wr i) ∧ wr i ≤ 9000 ∧ t 115 i = sa i ∧ (sa i = 2 → t 122 i = nI (en i) ∧ en i ≤ 9000 ∧ wr i ≤ en i) ∧ fr i ≠ to i
theorem ed_i {t : HI} {W : Nat → Nat → Nat} {w n wa S : Nat} {to fr en wr : Nat → Nat} {sa : Nat → Int32} (hW : WyN W w) (hF : LfM t n wa to fr en wr sa) {a b : Nat} (ha : a < n) (h1 : bN S a = 1) (h2 : bN S b = 1) : (a ≠ b ∧ sa a = 2 ∧ arN W w (to a) (en a + wa) (fr b) ≤ wr b) ↔ edB W w to fr en wr sa wa S a b = true := by
  unfold edB
  rw [decide_eq_true_iff]
  constructor
  · rintro ⟨_, q1, q2⟩
    exact ⟨h1, q1, h2, q2⟩
  · rintro ⟨_, q1, _, q2⟩
    refine ⟨fun e => ?_, q1, q2⟩
    have h3 := (hF.2.2.2.2 a ha).2.2.2.2.2.2.2.1 q1
    have h4 := (hF.2.2.2.2 a ha).2.2.2.2.2.2.2.2
    have h5 := hF.2.2.2.1
    rw [← e] at q2
    have h6 := ar_gt (w := w) (h := en a + wa) hW (by omega) h4
    omega
theorem mp_mayWash {f : HI} {W : Nat → Nat → Nat} {w n wa : Nat} {to fr en wr : Nat → Nat} {sa : Nat → Int32} (hM : LaM f W w) (hF : LfM f n wa to fr en wr sa) {a b : Nat} (ha : a < n) (hb : b < n) : Sp 5 186 [.ref 92, .int (nI a), .int (nI b)] f (fun v f' => ∃ g, v = some (.int (b2i (a ≠ b ∧ sa a = 2 ∧ arN W w (to a) (en a + wa) (fr b) ≤ wr b))) ∧ f' = up1 f 136 g) := by
  show wq 5 186 (fun v f' => ∃ g, v = some (.int (b2i (a ≠ b ∧ sa a = 2 ∧ arN W w (to a) (en a + wa) (fr b) ≤ wr b))) ∧ f' = up1 f 136 g) 0 [(0, .ref 92), (1, .int (nI a)), (2, .int (nI b))] [] f
  have hn24 := hF.2.1
  have hwa := hF.2.2.2.1
  have hwb := (hF.2.2.2.2 b hb).2.2.2.2.2.1
  refine wq_run2 (pc' := 2) (L' := [(0, .ref 92), (1, .int (nI a)), (2, .int (nI b))]) (S' := [.int (nI b), .int (nI a)]) (f' := f) rfl ?_
  refine wq_if (c := (nI a) = (nI b)) (p1 := 55) (L1 := [(0, .ref 92), (1, .int (nI a)), (2, .int (nI b))]) (S1 := []) (p2 := 5) (L2 := [(0, .ref 92), (1, .int (nI a)), (2, .int (nI b))]) (S2 := []) rfl (fun c_2 => ?_) (fun c_2 => ?_)
  · have k_2 : a = b := (nI_eq (a := a) (b := b) (by omega) (by omega)).mp c_2
    refine wq_run1 (pc' := 56) (L' := [(0, .ref 92), (1, .int (nI a)), (2, .int (nI b))]) (S' := [.int 0]) (f' := f) rfl ?_
    exact wq_retZ rfl (Or.inl rfl) ⟨f 136, by rw [b2i_f (show ¬ (a ≠ b ∧ sa a = 2 ∧ arN W w (to a) (en a + wa) (fr b) ≤ wr b) from fun q => q.1 k_2)], (up1_id f 136).symm⟩
  · have k_2 : ¬ a = b := fun q => c_2 ((nI_eq (a := a) (b := b) (by omega) (by omega)).mpr q)
    refine wq_run3 (pc' := 10) (L' := [(0, .ref 92), (1, .int (nI a)), (2, .int (nI b))]) (S' := [.int (nI a), .ref 115]) (f' := f) rfl ?_
    refine wq_ald (j := a) (n := 24) (v := (sa a)) rfl rfl rfl rfl (by omega) (Nat.le_of_ble_eq_true rfl) (hF.2.2.2.2 a ha).2.2.2.2.2.2.1 ?_
    refine wq_run1 (pc' := 12) (L' := [(0, .ref 92), (1, .int (nI a)), (2, .int (nI b))]) (S' := [.int 2, .int (sa a)]) (f' := f) rfl ?_
    refine wq_if (c := (sa a) = 2) (p1 := 15) (L1 := [(0, .ref 92), (1, .int (nI a)), (2, .int (nI b))]) (S1 := []) (p2 := 55) (L2 := [(0, .ref 92), (1, .int (nI a)), (2, .int (nI b))]) (S2 := []) rfl (fun c_12 => ?_) (fun c_12 => ?_)
    · have hei := (hF.2.2.2.2 a ha).2.2.2.2.2.2.2.1 c_12
      have hei9 := hei.2.1
      refine wq_run4 (pc' := 21) (L' := [(0, .ref 92), (1, .int (nI a)), (2, .int (nI b))]) (S' := [.int (nI a), .ref 108, .ref 92]) (f' := f) rfl ?_
      refine wq_ald (j := a) (n := 24) (v := (nI (to a))) rfl rfl rfl rfl (by omega) (Nat.le_of_ble_eq_true rfl) (hF.2.2.2.2 a ha).2.2.1 ?_
      refine wq_run3 (pc' := 27) (L' := [(0, .ref 92), (1, .int (nI a)), (2, .int (nI b))]) (S' := [.int (nI a), .ref 122, .int (nI (to a)), .ref 92]) (f' := f) rfl ?_
      refine wq_ald (j := a) (n := 24) (v := (nI (en a))) rfl rfl rfl rfl (by omega) (Nat.le_of_ble_eq_true rfl) hei.1 ?_
      refine wq_run2 (pc' := 32) (L' := [(0, .ref 92), (1, .int (nI a)), (2, .int (nI b))]) (S' := [.int (f 92 43), .int (nI (en a)), .int (nI (to a)), .ref 92]) (f' := f) rfl ?_
      refine wq_v (y := (nI wa)) (hF.2.2.1) ?_
      refine wq_run1 (pc' := 33) (L' := [(0, .ref 92), (1, .int (nI a)), (2, .int (nI b))]) (S' := [.int ((nI (en a)) + (nI wa)), .int (nI (to a)), .ref 92]) (f' := f) rfl ?_
      refine wq_v (y := (nI ((en a) + wa))) (nI_add (en a) wa) ?_
      refine wq_run3 (pc' := 38) (L' := [(0, .ref 92), (1, .int (nI a)), (2, .int (nI b))]) (S' := [.int (nI b), .ref 107, .int (nI ((en a) + wa)), .int (nI (to a)), .ref 92]) (f' := f) rfl ?_
      refine wq_ald (j := b) (n := 24) (v := (nI (fr b))) rfl rfl rfl rfl (by omega) (Nat.le_of_ble_eq_true rfl) (hF.2.2.2.2 b hb).1 ?_
      refine wq_run3 (pc' := 44) (L' := [(0, .ref 92), (1, .int (nI a)), (2, .int (nI b))]) (S' := [.int (nI b), .ref 114, .int (nI (fr b)), .int (nI ((en a) + wa)), .int (nI (to a)), .ref 92]) (f' := f) rfl ?_
      refine wq_ald (j := b) (n := 24) (v := (nI (wr b))) rfl rfl rfl rfl (by omega) (Nat.le_of_ble_eq_true rfl) (hF.2.2.2.2 b hb).2.2.2.2.1 ?_
      refine wq_call (mp_can (f := f) (W := W) (w := w) (a := to a) (b := fr b) (h := en a + wa) (y := wr b) hM (hF.2.2.2.2 a ha).2.2.2.1 (hF.2.2.2.2 b hb).2.1 (by omega) (by omega)) (Nat.le_of_ble_eq_true rfl) (pc' := 48) (L' := [(0, .ref 92), (1, .int (nI a)), (2, .int (nI b))]) (S' := []) rfl (Nat.le_of_ble_eq_true rfl) rfl rfl (Nat.le_of_ble_eq_true rfl) (Nat.le_of_ble_eq_true rfl) ?_
      rintro v f9 ⟨g, e0, ef⟩
      subst e0
      subst ef
      refine wq_if (c := (b2i (arN W w (to a) (en a + wa) (fr b) ≤ wr b)) = 0) (p1 := 55) (L1 := [(0, .ref 92), (1, .int (nI a)), (2, .int (nI b))]) (S1 := []) (p2 := 51) (L2 := [(0, .ref 92), (1, .int (nI a)), (2, .int (nI b))]) (S2 := []) rfl (fun c_48 => ?_) (fun c_48 => ?_)
      · have h_48 := b2i_0.mp c_48
        refine wq_run1 (pc' := 56) (L' := [(0, .ref 92), (1, .int (nI a)), (2, .int (nI b))]) (S' := [.int 0]) (f' := (up1 f 136 g)) rfl ?_
        exact wq_retZ rfl (Or.inl rfl) ⟨g, by rw [b2i_f (show ¬ (a ≠ b ∧ sa a = 2 ∧ arN W w (to a) (en a + wa) (fr b) ≤ wr b) from fun q => h_48 q.2.2)], rfl⟩
      · have h_48 := b2i_n0.mp c_48
        refine wq_run2 (pc' := 56) (L' := [(0, .ref 92), (1, .int (nI a)), (2, .int (nI b))]) (S' := [.int 1]) (f' := (up1 f 136 g)) rfl ?_
        exact wq_retZ rfl (Or.inr rfl) ⟨g, by rw [b2i_t (show (a ≠ b ∧ sa a = 2 ∧ arN W w (to a) (en a + wa) (fr b) ≤ wr b) from ⟨k_2, c_12, h_48⟩)], rfl⟩
    · refine wq_run1 (pc' := 56) (L' := [(0, .ref 92), (1, .int (nI a)), (2, .int (nI b))]) (S' := [.int 0]) (f' := f) rfl ?_
      exact wq_retZ rfl (Or.inl rfl) ⟨f 136, by rw [b2i_f (show ¬ (a ≠ b ∧ sa a = 2 ∧ arN W w (to a) (en a + wa) (fr b) ≤ wr b) from fun q => c_12 q.2.1)], (up1_id f 136).symm⟩
/-- the last b of those before i that stands behind a -/
def tkbN (S : Nat) (bh : Nat → Nat) (a : Nat) : Nat → Option Nat
  | 0 => none
  | i + 1 => if bN S i = 1 ∧ bh i = a then some i else tkbN S bh a i
theorem tb_y {S : Nat} {bh : Nat → Nat} {a : Nat} : ∀ {i b : Nat}, tkbN S bh a i = some b → b < i ∧ bN S b = 1 ∧ bh b = a
  | 0, b, h => by cases h
  | i + 1, b, h => by
    rw [tkbN] at h
    by_cases c : bN S i = 1 ∧ bh i = a
    · rw [if_pos c] at h
      cases h
      exact ⟨Nat.lt_succ_self _, c⟩
    · rw [if_neg c] at h
      have := tb_y h
      exact ⟨by omega, this.2⟩
theorem tb_n {S : Nat} {bh : Nat → Nat} {a : Nat} : ∀ {i : Nat}, tkbN S bh a i = none → ∀ b, b < i → bN S b = 1 → ¬ bh b = a
  | 0, _, b, hb, _ => absurd hb (Nat.not_lt_zero _)
  | i + 1, h, b, hb, hs => by
    rw [tkbN] at h
    by_cases c : bN S i = 1 ∧ bh i = a
    · rw [if_pos c] at h; cases h
    · rw [if_neg c] at h
      by_cases e : b = i
      · rw [e] at hs ⊢
        exact fun q => c ⟨hs, q⟩
      · exact tb_n h b (by omega) hs
theorem rI_i {x a : Nat} (ha : a < 32) : rI x = nI a ↔ x = a := by
  by_cases c : x < 32
  · rw [rI_y c]
    exact nI_eq (by omega) (by omega)
  · rw [rI_n (by omega)]
    exact ⟨fun q => absurd q.symm (nI_nm (by omega)), fun q => by omega⟩
theorem mlp_taken {f : HI} {n S a : Nat} {bh : Nat → Nat} (hcn : f 92 35 = nI n) (hn24 : n ≤ 24) (hS : S < 2 ^ 24) (ha : a < 24) (hbh : ∀ k, k < n → f 138 k = rI (bh k)) : ∀ (m9 : Nat) (i : Nat), (i ≤ n) → n - i < m9 → wq 1 188 (Ret (obI (tkbN S bh a n)) f) 5 [(0, .ref 92), (1, .int (nI S)), (2, .int (nI a)), (3, .int (obI (tkbN S bh a i))), (4, .int (nI i))] [] f := by
  intro m9
  induction m9 with
  | zero => intro i hi hn; exact absurd hn (Nat.not_lt_zero _)
  | succ m9 ih =>
    intro i hi hn
    have hbl := bN_lt S i
    refine wq_run3 (pc' := 11) (L' := [(0, .ref 92), (1, .int (nI S)), (2, .int (nI a)), (3, .int (obI (tkbN S bh a i))), (4, .int (nI i))]) (S' := [.int (f 92 35), .int (nI i)]) (f' := f) rfl ?_
    refine wq_v (y := (nI n)) (hcn) ?_
    refine wq_if (c := (nI n) ≤ (nI i)) (p1 := 48) (L1 := [(0, .ref 92), (1, .int (nI S)), (2, .int (nI a)), (3, .int (obI (tkbN S bh a i))), (4, .int (nI i))]) (S1 := []) (p2 := 14) (L2 := [(0, .ref 92), (1, .int (nI S)), (2, .int (nI a)), (3, .int (obI (tkbN S bh a i))), (4, .int (nI i))]) (S2 := []) rfl (fun c_11 => ?_) (fun c_11 => ?_)
    · have k_11 : n ≤ i := (nI_leI (a := n) (b := i) (by omega) (by omega)).mp c_11
      refine wq_run1 (pc' := 49) (L' := [(0, .ref 92), (1, .int (nI S)), (2, .int (nI a)), (3, .int (obI (tkbN S bh a i))), (4, .int (nI i))]) (S' := [.int (obI (tkbN S bh a i))]) (f' := f) rfl ?_
      have e : i = n := by omega
      exact wq_ret rfl (Ret.of (by rw [e]) rfl)
    · have k_11 : ¬ n ≤ i := fun q => c_11 ((nI_leI (a := n) (b := i) (by omega) (by omega)).mpr q)
      refine wq_run5 (pc' := 20) (L' := [(0, .ref 92), (1, .int (nI S)), (2, .int (nI a)), (3, .int (obI (tkbN S bh a i))), (4, .int (nI i))]) (S' := [.int (((nI S) >>> ((nI i) &&& 31)) &&& 1)]) (f' := f) rfl ?_
      refine wq_v (y := (nI (bN S i))) (bitN (by omega) (by omega)) ?_
      refine wq_run1 (pc' := 21) (L' := [(0, .ref 92), (1, .int (nI S)), (2, .int (nI a)), (3, .int (obI (tkbN S bh a i))), (4, .int (nI i))]) (S' := [.int 1, .int (nI (bN S i))]) (f' := f) rfl ?_
      refine wq_if (c := (nI (bN S i)) = 1) (p1 := 24) (L1 := [(0, .ref 92), (1, .int (nI S)), (2, .int (nI a)), (3, .int (obI (tkbN S bh a i))), (4, .int (nI i))]) (S1 := []) (p2 := 40) (L2 := [(0, .ref 92), (1, .int (nI S)), (2, .int (nI a)), (3, .int (obI (tkbN S bh a i))), (4, .int (nI i))]) (S2 := []) rfl (fun c_21 => ?_) (fun c_21 => ?_)
      · have k_21 : (bN S i) = 1 := (nI_eq (a := (bN S i)) (b := 1) (by omega) (by omega)).mp c_21
        refine wq_run3 (pc' := 30) (L' := [(0, .ref 92), (1, .int (nI S)), (2, .int (nI a)), (3, .int (obI (tkbN S bh a i))), (4, .int (nI i))]) (S' := [.int (nI i), .ref 138]) (f' := f) rfl ?_
        refine wq_ald (j := i) (n := 24) (v := (rI (bh i))) rfl rfl rfl rfl (by omega) (Nat.le_of_ble_eq_true rfl) (hbh i (by omega)) ?_
        refine wq_run1 (pc' := 32) (L' := [(0, .ref 92), (1, .int (nI S)), (2, .int (nI a)), (3, .int (obI (tkbN S bh a i))), (4, .int (nI i))]) (S' := [.int (nI a), .int (rI (bh i))]) (f' := f) rfl ?_
        refine wq_if (c := (rI (bh i)) = (nI a)) (p1 := 35) (L1 := [(0, .ref 92), (1, .int (nI S)), (2, .int (nI a)), (3, .int (obI (tkbN S bh a i))), (4, .int (nI i))]) (S1 := []) (p2 := 40) (L2 := [(0, .ref 92), (1, .int (nI S)), (2, .int (nI a)), (3, .int (obI (tkbN S bh a i))), (4, .int (nI i))]) (S2 := []) rfl (fun c_32 => ?_) (fun c_32 => ?_)
        · have c_32 := (rI_i (by omega)).mp c_32
          refine wq_run4 (pc' := 45) (L' := [(0, .ref 92), (1, .int (nI S)), (2, .int (nI a)), (3, .int (nI i)), (4, .int ((nI i) + 1))]) (S' := []) (f' := f) rfl ?_
          refine wq_L (L' := [(0, .ref 92), (1, .int (nI S)), (2, .int (nI a)), (3, .int (nI i)), (4, .int (nI (i + 1)))]) (by rw [show nI i + 1 = nI (i + 1) from nI_add _ _]) ?_
          refine wq_run1 (pc' := 5) (L' := [(0, .ref 92), (1, .int (nI S)), (2, .int (nI a)), (3, .int (nI i)), (4, .int (nI (i + 1)))]) (S' := []) (f' := f) rfl ?_
          have h9 := ih (i + 1) (by omega) (by omega)
          rw [show tkbN S bh a (i + 1) = _ from if_pos ⟨k_21, c_32⟩] at h9
          exact h9
        · have c_32 : ¬ bh i = a := fun q => c_32 ((rI_i (by omega)).mpr q)
          refine wq_run3 (pc' := 45) (L' := [(0, .ref 92), (1, .int (nI S)), (2, .int (nI a)), (3, .int (obI (tkbN S bh a i))), (4, .int ((nI i) + 1))]) (S' := []) (f' := f) rfl ?_
          refine wq_L (L' := [(0, .ref 92), (1, .int (nI S)), (2, .int (nI a)), (3, .int (obI (tkbN S bh a i))), (4, .int (nI (i + 1)))]) (by rw [show nI i + 1 = nI (i + 1) from nI_add _ _]) ?_
          refine wq_run1 (pc' := 5) (L' := [(0, .ref 92), (1, .int (nI S)), (2, .int (nI a)), (3, .int (obI (tkbN S bh a i))), (4, .int (nI (i + 1)))]) (S' := []) (f' := f) rfl ?_
          have h9 := ih (i + 1) (by omega) (by omega)
          rw [show tkbN S bh a (i + 1) = _ from if_neg (fun q => c_32 q.2)] at h9
          exact h9
      · have k_21 : ¬ (bN S i) = 1 := fun q => c_21 ((nI_eq (a := (bN S i)) (b := 1) (by omega) (by omega)).mpr q)
        refine wq_run3 (pc' := 45) (L' := [(0, .ref 92), (1, .int (nI S)), (2, .int (nI a)), (3, .int (obI (tkbN S bh a i))), (4, .int ((nI i) + 1))]) (S' := []) (f' := f) rfl ?_
        refine wq_L (L' := [(0, .ref 92), (1, .int (nI S)), (2, .int (nI a)), (3, .int (obI (tkbN S bh a i))), (4, .int (nI (i + 1)))]) (by rw [show nI i + 1 = nI (i + 1) from nI_add _ _]) ?_
        refine wq_run1 (pc' := 5) (L' := [(0, .ref 92), (1, .int (nI S)), (2, .int (nI a)), (3, .int (obI (tkbN S bh a i))), (4, .int (nI (i + 1)))]) (S' := []) (f' := f) rfl ?_
        have h9 := ih (i + 1) (by omega) (by omega)
        rw [show tkbN S bh a (i + 1) = _ from if_neg (fun q => k_21 q.1)] at h9
        exact h9
theorem mp_takenBy {f : HI} {n S a : Nat} {bh : Nat → Nat} (hcn : f 92 35 = nI n) (hn24 : n ≤ 24) (hS : S < 2 ^ 24) (ha : a < 24) (hbh : ∀ k, k < n → f 138 k = rI (bh k)) : Sp 1 188 [.ref 92, .int (nI S), .int (nI a)] f (Ret (obI (tkbN S bh a n)) f) := by
  show wq 1 188 (Ret (obI (tkbN S bh a n)) f) 0 [(0, .ref 92), (1, .int (nI S)), (2, .int (nI a))] [] f
  refine wq_run4 (pc' := 5) (L' := [(0, .ref 92), (1, .int (nI S)), (2, .int (nI a)), (3, .int (-1)), (4, .int 0)]) (S' := []) (f' := f) rfl ?_
  exact mlp_taken hcn hn24 hS ha hbh (n - 0 + 1) 0 (Nat.zero_le _) (Nat.lt_succ_self _)
