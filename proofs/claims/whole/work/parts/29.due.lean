/-! the land: when one can be where -/
theorem nx_xor (a b : Nat) : nI a ^^^ nI b = nI (a ^^^ b) := by
  apply Int32.toBitVec_inj.1
  show BitVec.ofNat 32 a ^^^ BitVec.ofNat 32 b = BitVec.ofNat 32 (a ^^^ b)
  apply BitVec.eq_of_getLsbD_eq
  intro i hi
  simp [hi]
theorem xor1_e {e : Nat} (h : e % 2 = 0) : e ^^^ 1 = e + 1 := by
  have h2 : (e ^^^ 1) / 2 = e / 2 := by rw [Nat.xor_div_two]; simp
  have h3 : (e ^^^ 1) % 2 = 1 := Nat.xor_mod_two_eq_one.mpr (by omega)
  omega
theorem xor1_o {e : Nat} (h : e % 2 = 1) : e ^^^ 1 = e - 1 := by
  have h2 : (e ^^^ 1) / 2 = e / 2 := by rw [Nat.xor_div_two]; simp
  have h3 : ¬ (e ^^^ 1) % 2 = 1 := fun q => absurd (Nat.xor_mod_two_eq_one.mp q) (by omega)
  omega
theorem xor1_lt {e w : Nat} (h : e < 2 * w) : e ^^^ 1 < 2 * w := by
  rcases Nat.mod_two_eq_zero_or_one e with q | q
  · rw [xor1_e q]; omega
  · rw [xor1_o q]; omega
theorem xr_ge {x y : Int32} : 0 ≤ x ^^^ y ↔ (x < 0 ↔ y < 0) := by
  have h := BitVec.msb_xor (x := x.toBitVec) (y := y.toBitVec)
  rw [BitVec.msb_eq_toInt, BitVec.msb_eq_toInt, BitVec.msb_eq_toInt, ← Int32.toBitVec_xor] at h
  have e1 : (x ^^^ y).toInt = (x ^^^ y).toBitVec.toInt := rfl
  have e2 : x.toInt = x.toBitVec.toInt := rfl
  have e3 : y.toInt = y.toBitVec.toInt := rfl
  rw [← e1, ← e2, ← e3] at h
  rw [Int32.le_iff_toInt_le, Int32.lt_iff_toInt_lt, Int32.lt_iff_toInt_lt, show (0 : Int32).toInt = 0 from by decide]
  by_cases h1 : x.toInt < 0
  · by_cases h2 : y.toInt < 0
    · rw [decide_eq_true h1, decide_eq_true h2] at h
      have h3 : ¬ (x ^^^ y).toInt < 0 := of_decide_eq_false h
      omega
    · rw [decide_eq_true h1, decide_eq_false h2] at h
      have h3 : (x ^^^ y).toInt < 0 := of_decide_eq_true h
      omega
  · by_cases h2 : y.toInt < 0
    · rw [decide_eq_false h1, decide_eq_true h2] at h
      have h3 : (x ^^^ y).toInt < 0 := of_decide_eq_true h
      omega
    · rw [decide_eq_false h1, decide_eq_false h2] at h
      have h3 : ¬ (x ^^^ y).toInt < 0 := of_decide_eq_false h
      omega
def dpN (e s x : Nat) : Nat := (s + e - x % e) % e
def lvN (e s x : Nat) : Nat := x + dpN e s x
theorem dp_lt {e s x : Nat} (h : 0 < e) : dpN e s x < e := Nat.mod_lt _ h
theorem dv_ge {e s x : Nat} : x ≤ lvN e s x := Nat.le_add_right _ _
theorem dv_lt {e s x : Nat} (h : 0 < e) : lvN e s x < x + e := Nat.add_lt_add_left (dp_lt h) _
theorem dv_mod {e s x : Nat} (hs : s < e) : lvN e s x % e = s := by
  have hx := Nat.div_add_mod x e
  have hr := Nat.mod_lt x (show 0 < e by omega)
  unfold lvN dpN
  rw [Nat.add_mod, Nat.mod_mod, ← Nat.add_mod, show x + (s + e - x % e) = s + e * (x / e + 1) by rw [Nat.mul_succ]; omega, Nat.add_mul_mod_self_left, Nat.mod_eq_of_lt hs]
theorem md_w {e a b : Nat} (h : a % e = b % e) (h1 : b ≤ a) (h2 : a < b + e) : a = b := by
  have h5 := Nat.sub_mod_eq_zero_of_mod_eq h
  rw [Nat.mod_eq_of_lt (by omega)] at h5
  omega
theorem dv_mono {e s x y : Nat} (hs : s < e) (h : x ≤ y) : lvN e s x ≤ lvN e s y := by
  refine Nat.le_of_not_lt fun q => ?_
  have h1 := dv_mod (x := x) hs
  have h2 := dv_mod (x := y) hs
  have h3 := dv_lt (x := x) (s := s) (show 0 < e by omega)
  have h4 := dv_ge (e := e) (s := s) (x := y)
  have h5 := md_w (h1.trans h2.symm) (Nat.le_of_lt q) (by omega)
  omega
theorem dp_u {e s x z : Nat} (hs : s < e) (hz : z < e) (h : (x + z) % e = s) : dpN e s x = z := by
  have h1 := dv_mod (x := x) hs
  have h2 := dp_lt (s := s) (x := x) (show 0 < e by omega)
  unfold lvN at h1
  rcases Nat.le_total (dpN e s x) z with q | q
  · have := md_w (h.trans h1.symm) (by omega) (by omega)
    omega
  · have := md_w (h1.trans h.symm) (by omega) (by omega)
    omega
theorem ng_toInt {w : Nat} (hw : w < 2 ^ 31) : (-nI w).toInt = -(w : Int) := by
  rw [Int32.toInt_neg, nI_toInt hw]
  exact Int.bmod_eq_of_le (by omega) (by omega)
theorem ng_div {w e : Nat} (hw : w < 2 ^ 31) (h0 : 0 < e) (he : e < 2 ^ 31) : (-nI w) / nI e = -nI (w / e) := by
  have hq := Nat.div_le_self w e
  apply Int32.toInt_inj.mp
  rw [Int32.toInt_div, ng_toInt hw, nI_toInt he, ng_toInt (by omega), Int.neg_tdiv, Int.tdiv_eq_ediv_of_nonneg (by omega), ← Int.natCast_ediv]
  generalize w / e = q at hq ⊢
  exact Int.bmod_eq_of_le (by omega) (by omega)
theorem ng_rem {w e : Nat} (hw : w < 2 ^ 31) (h0 : 0 < e) (he : e < 2 ^ 31) : (-nI w) - (-nI w) / nI e * nI e = -nI (w % e) := by
  have h1 : w % e = w - w / e * e := by have := Nat.div_add_mod' w e; omega
  have h2 := Nat.div_mul_le_self w e
  have h3 := Nat.mod_le w e
  have h4 := Nat.div_le_self w e
  rw [ng_div hw h0 he, Int32.neg_mul, pk_mul]
  apply Int32.toInt_inj.mp
  rw [Int32.toInt_sub, ng_toInt hw, ng_toInt (by omega), ng_toInt (by omega)]
  rw [Int.bmod_eq_of_le (by omega) (by omega)]
  omega
theorem ng_sub {a b : Nat} (h : a ≤ b) : nI a - nI b = -nI (b - a) := by
  rw [← Int32.neg_sub, pk_sub h]
/-- ways: places 0 and 1 the ends, 2 hours, 3 every, 4 first -/
def WyN (W : Nat → Nat → Nat) (w : Nat) : Prop := ∀ i, i < w → W 0 i < 10 ∧ W 1 i < 10 ∧ W 0 i ≠ W 1 i ∧ 1 ≤ W 2 i ∧ W 2 i ≤ 40 ∧ W 4 i < W 3 i ∧ W 3 i ≤ 24
def eP (W : Nat → Nat → Nat) (e : Nat) : Nat := W (e % 2) (e / 2)
def eQ (W : Nat → Nat → Nat) (e : Nat) : Nat := W (1 - e % 2) (e / 2)
theorem wy_P {W : Nat → Nat → Nat} {w e : Nat} (h : WyN W w) (he : e < 2 * w) : eP W e < 10 := by
  have h := h (e / 2) (by omega)
  unfold eP
  rcases Nat.mod_two_eq_zero_or_one e with q | q
  · rw [q]; exact h.1
  · rw [q]; exact h.2.1
theorem wy_Q {W : Nat → Nat → Nat} {w e : Nat} (h : WyN W w) (he : e < 2 * w) : eQ W e < 10 := by
  have h := h (e / 2) (by omega)
  unfold eQ
  rcases Nat.mod_two_eq_zero_or_one e with q | q
  · rw [q]; exact h.2.1
  · rw [q]; exact h.1
theorem eP_x {W : Nat → Nat → Nat} (e : Nat) : eP W (e ^^^ 1) = eQ W e := by
  unfold eP eQ
  rcases Nat.mod_two_eq_zero_or_one e with q | q
  · rw [xor1_e q, show (e + 1) % 2 = 1 by omega, show (e + 1) / 2 = e / 2 by omega, q]
  · rw [xor1_o q, show (e - 1) % 2 = 0 by omega, show (e - 1) / 2 = e / 2 by omega, q]
def rlN (W : Nat → Nat → Nat) (e x : Nat) : Nat := if 268435456 ≤ x then 268435456 else Nat.min (lvN (W 3 (e / 2)) (W 4 (e / 2)) x + W 2 (e / 2)) 268435456
def updN (G : Nat → Nat) (k v : Nat) : Nat → Nat := fun j => if j = k then v else G j
def st1 (W : Nat → Nat → Nat) (e : Nat) (G : Nat → Nat) : Nat → Nat := if rlN W e (G (eP W e)) < G (eQ W e) then updN G (eQ W e) (rlN W e (G (eP W e))) else G
def fdN (W : Nat → Nat → Nat) : Nat → (Nat → Nat) → Nat → Nat
  | 0, G => G
  | e + 1, G => st1 W e (fdN W e G)
def itN (W : Nat → Nat → Nat) (m : Nat) : Nat → (Nat → Nat) → Nat → Nat
  | 0, G => G
  | k + 1, G => fdN W m (itN W m k G)
def s0N (a h : Nat) : Nat → Nat := fun t => if t = a then h else 268435456
def arN (W : Nat → Nat → Nat) (w a h : Nat) : Nat → Nat := itN W (2 * w) 10 (s0N a h)
theorem rl_mono {W : Nat → Nat → Nat} {w e x y : Nat} (hW : WyN W w) (he : e < 2 * w) (h : x ≤ y) : rlN W e x ≤ rlN W e y := by
  have hw := hW (e / 2) (by omega)
  have hm := dv_mono (e := W 3 (e / 2)) hw.2.2.2.2.2.1 h
  unfold rlN
  by_cases h1 : 268435456 ≤ x
  · rw [if_pos h1, if_pos (by omega)]; exact Nat.le_refl _
  · rw [if_neg h1]
    by_cases h2 : 268435456 ≤ y
    · rw [if_pos h2]; exact Nat.min_le_right _ _
    · rw [if_neg h2]
      simp only [Nat.min_def]
      split <;> split <;> omega
theorem rl_le {W : Nat → Nat → Nat} {e x : Nat} : rlN W e x ≤ 268435456 := by
  unfold rlN
  split
  · exact Nat.le_refl _
  · exact Nat.min_le_right _ _
theorem rl_gt {W : Nat → Nat → Nat} {w e x : Nat} (hW : WyN W w) (he : e < 2 * w) (h : x < 268435456) : x < rlN W e x := by
  have hw := hW (e / 2) (by omega)
  have hm := dv_ge (e := W 3 (e / 2)) (s := W 4 (e / 2)) (x := x)
  unfold rlN
  rw [if_neg (by omega)]
  simp only [Nat.min_def]
  split <;> omega
theorem rl_ge {W : Nat → Nat → Nat} {w e x : Nat} (hW : WyN W w) (he : e < 2 * w) (h : x ≤ 268435456) : x ≤ rlN W e x := by
  rcases Nat.lt_or_ge x 268435456 with q | q
  · exact Nat.le_of_lt (rl_gt hW he q)
  · unfold rlN
    rw [if_pos q]; omega
theorem st1_le {W : Nat → Nat → Nat} {e : Nat} {G : Nat → Nat} (t : Nat) : st1 W e G t ≤ G t := by
  unfold st1
  split
  · rename_i h
    unfold updN
    split
    · rename_i q; rw [q]; omega
    · exact Nat.le_refl _
  · exact Nat.le_refl _
theorem st1_q {W : Nat → Nat → Nat} {e : Nat} {G : Nat → Nat} : st1 W e G (eQ W e) ≤ rlN W e (G (eP W e)) := by
  unfold st1
  split
  · unfold updN
    rw [if_pos rfl]; exact Nat.le_refl _
  · omega
theorem st1_n {W : Nat → Nat → Nat} {e : Nat} {G : Nat → Nat} {t : Nat} (h : t ≠ eQ W e) : st1 W e G t = G t := by
  unfold st1
  split
  · unfold updN
    rw [if_neg h]
  · rfl
theorem st1_c {W : Nat → Nat → Nat} {e : Nat} {G : Nat → Nat} (t : Nat) : st1 W e G t = G t ∨ (t = eQ W e ∧ st1 W e G t = rlN W e (G (eP W e)) ∧ rlN W e (G (eP W e)) < G t) := by
  unfold st1
  split
  · rename_i h
    unfold updN
    split
    · rename_i q; right; rw [q]; exact ⟨rfl, rfl, h⟩
    · left; rfl
  · left; rfl
theorem st1_id {W : Nat → Nat → Nat} {e : Nat} {G : Nat → Nat} (h : G (eQ W e) ≤ rlN W e (G (eP W e))) : st1 W e G = G := by
  unfold st1
  rw [if_neg (by omega)]
theorem fd_le {W : Nat → Nat → Nat} {G : Nat → Nat} : ∀ (n t : Nat), fdN W n G t ≤ G t := by
  intro n
  induction n with
  | zero => intro t; exact Nat.le_refl _
  | succ n ih => intro t; exact Nat.le_trans (st1_le t) (ih t)
theorem it_le {W : Nat → Nat → Nat} {m : Nat} {G : Nat → Nat} : ∀ (k t : Nat), itN W m k G t ≤ G t := by
  intro k
  induction k with
  | zero => intro t; exact Nat.le_refl _
  | succ k ih => intro t; exact Nat.le_trans (fd_le m t) (ih t)
theorem fd_q {W : Nat → Nat → Nat} {w : Nat} (hW : WyN W w) {G : Nat → Nat} : ∀ (n e : Nat), n ≤ 2 * w → e < n → fdN W n G (eQ W e) ≤ rlN W e (G (eP W e)) := by
  intro n
  induction n with
  | zero => intro e _ h; omega
  | succ n ih =>
    intro e hn he
    rcases Nat.lt_or_ge e n with q | q
    · exact Nat.le_trans (st1_le _) (ih e (by omega) q)
    · have e1 : e = n := by omega
      subst e1
      exact Nat.le_trans st1_q (rl_mono hW (by omega) (fd_le e _))
theorem fd_id {W : Nat → Nat → Nat} {G : Nat → Nat} : ∀ (n : Nat), (∀ e, e < n → G (eQ W e) ≤ rlN W e (G (eP W e))) → fdN W n G = G := by
  intro n
  induction n with
  | zero => intro _; rfl
  | succ n ih =>
    intro h
    show st1 W n (fdN W n G) = G
    rw [ih (fun e he => h e (by omega))]
    exact st1_id (h n (by omega))
def sumN (G : Nat → Nat) : Nat → Nat
  | 0 => 0
  | n + 1 => sumN G n + G n
theorem sum_le {G G' : Nat → Nat} : ∀ n, (∀ t, t < n → G' t ≤ G t) → sumN G' n ≤ sumN G n := by
  intro n
  induction n with
  | zero => intro _; exact Nat.le_refl _
  | succ n ih =>
    intro h
    have h1 := ih (fun t ht => h t (by omega))
    have h2 := h n (by omega)
    show sumN G' n + G' n ≤ sumN G n + G n
    omega
theorem sum_lt {G G' : Nat → Nat} {q : Nat} : ∀ n, q < n → (∀ t, t < n → G' t ≤ G t) → G' q < G q → sumN G' n < sumN G n := by
  intro n
  induction n with
  | zero => intro h; omega
  | succ n ih =>
    intro hq h h3
    show sumN G' n + G' n < sumN G n + G n
    rcases Nat.lt_or_ge q n with c | c
    · have h1 := ih c (fun t ht => h t (by omega)) h3
      have h2 := h n (by omega)
      omega
    · have e : q = n := by omega
      subst e
      have h1 := sum_le q (fun t ht => h t (Nat.lt_succ_of_lt ht))
      omega
/-- a state that is held up: each hour but the first comes by a way -/
def WS (W : Nat → Nat → Nat) (m a h : Nat) (G : Nat → Nat) : Prop := (∀ t, h ≤ G t) ∧ (∀ t, G t ≤ 268435456) ∧ G a = h ∧ ∀ t, t ≠ a → G t < 268435456 → ∃ e, e < m ∧ eQ W e = t ∧ rlN W e (G (eP W e)) ≤ G t
theorem ws_0 {W : Nat → Nat → Nat} {m a h : Nat} (hh : h ≤ 268435456) : WS W m a h (s0N a h) := by
  refine ⟨fun t => ?_, fun t => ?_, if_pos rfl, fun t ht q => ?_⟩
  · unfold s0N; split <;> omega
  · unfold s0N; split <;> omega
  · unfold s0N at q
    rw [if_neg ht] at q
    omega
theorem ws_1 {W : Nat → Nat → Nat} {w a h e : Nat} {G : Nat → Nat} (hW : WyN W w) (he : e < 2 * w) (hG : WS W (2 * w) a h G) : WS W (2 * w) a h (st1 W e G) := by
  obtain ⟨h1, h2, h3, h4⟩ := hG
  have hv := rl_ge hW he (h2 (eP W e))
  have hp := h1 (eP W e)
  refine ⟨fun t => ?_, fun t => Nat.le_trans (st1_le t) (h2 t), ?_, fun t ht q => ?_⟩
  · rcases st1_c (W := W) (e := e) (G := G) t with c | c
    · rw [c]; exact h1 t
    · rw [c.2.1]; omega
  · rcases st1_c (W := W) (e := e) (G := G) a with c | c
    · rw [c]; exact h3
    · have := c.2.2; omega
  · rcases st1_c (W := W) (e := e) (G := G) t with c | c
    · rw [c] at q ⊢
      obtain ⟨e', he', q1, q2⟩ := h4 t ht q
      exact ⟨e', he', q1, Nat.le_trans (rl_mono hW he' (st1_le _)) q2⟩
    · refine ⟨e, he, c.1.symm, ?_⟩
      rw [c.2.1]
      exact rl_mono hW he (st1_le _)
theorem due_ex {W : Nat → Nat → Nat} {w a h : Nat} (hW : WyN W w) : ∀ (n : Nat) (G : Nat → Nat), sumN G 10 < n → WS W (2 * w) a h G → ∃ R, WS W (2 * w) a h R ∧ ∀ e, e < 2 * w → R (eQ W e) ≤ rlN W e (R (eP W e)) := by
  intro n
  induction n with
  | zero => intro G h; omega
  | succ n ih =>
    intro G hn hG
    by_cases c : ∀ e, e < 2 * w → G (eQ W e) ≤ rlN W e (G (eP W e))
    · exact ⟨G, hG, c⟩
    · obtain ⟨e, c⟩ := Classical.not_forall.mp c
      obtain ⟨he, c⟩ := Classical.not_imp.mp c
      refine ih (st1 W e G) ?_ (ws_1 hW he hG)
      have h2 := sum_lt (G := G) (G' := st1 W e G) (q := eQ W e) 10 (wy_Q hW he) (fun t _ => st1_le t) (by
        have := st1_q (W := W) (e := e) (G := G)
        omega)
      omega
def rkN (R : Nat → Nat) (t : Nat) : Nat := sumN (fun u => if R u < R t then 1 else 0) 10
theorem rk_lt {R : Nat → Nat} {p t : Nat} (hp : p < 10) (h : R p < R t) : rkN R p < rkN R t := by
  refine sum_lt (q := p) 10 hp (fun u _ => ?_) ?_
  · show (if R u < R p then 1 else 0) ≤ (if R u < R t then 1 else 0)
    split <;> split <;> omega
  · show (if R p < R p then 1 else 0) < (if R p < R t then 1 else 0)
    rw [if_pos h, if_neg (Nat.lt_irrefl _)]
    exact Nat.one_pos
theorem rk_9 {R : Nat → Nat} {t : Nat} (ht : t < 10) : rkN R t ≤ 9 := by
  have h := sum_lt (G := fun _ => 1) (G' := fun u => if R u < R t then 1 else 0) (q := t) 10 ht (fun u _ => by show (if R u < R t then 1 else 0) ≤ 1; split <;> omega) (by show (if R t < R t then 1 else 0) < 1; rw [if_neg (Nat.lt_irrefl _)]; exact Nat.one_pos)
  have h2 : sumN (fun _ => 1) 10 = 10 := rfl
  unfold rkN
  omega
theorem fd_lb {W : Nat → Nat → Nat} {w : Nat} {R : Nat → Nat} (hW : WyN W w) (hc : ∀ e, e < 2 * w → R (eQ W e) ≤ rlN W e (R (eP W e))) {G : Nat → Nat} (hG : ∀ t, R t ≤ G t) : ∀ n, n ≤ 2 * w → ∀ t, R t ≤ fdN W n G t := by
  intro n
  induction n with
  | zero => intro _; exact hG
  | succ n ih =>
    intro hn t
    have ih := ih (by omega)
    rcases st1_c (W := W) (e := n) (G := fdN W n G) t with c | c
    · show R t ≤ st1 W n (fdN W n G) t
      rw [c]; exact ih t
    · show R t ≤ st1 W n (fdN W n G) t
      rw [c.2.1, c.1]
      exact Nat.le_trans (hc n (by omega)) (rl_mono hW (by omega) (ih _))
theorem it_settle {W : Nat → Nat → Nat} {w a h : Nat} {R : Nat → Nat} (hW : WyN W w) (ha : a < 10) (hR : WS W (2 * w) a h R) (hc : ∀ e, e < 2 * w → R (eQ W e) ≤ rlN W e (R (eP W e))) : ∀ k, (∀ t, R t ≤ itN W (2 * w) k (s0N a h) t) ∧ ∀ t, t < 10 → rkN R t ≤ k → itN W (2 * w) k (s0N a h) t ≤ R t := by
  obtain ⟨h1, h2, h3, h4⟩ := hR
  have hs : ∀ t, s0N a h t ≤ 268435456 := fun t => by
    have := h2 a
    unfold s0N; split <;> omega
  have hsa : s0N a h a = h := if_pos rfl
  have hp : ∀ t, t ≠ a → R t < 268435456 → ∃ e, e < 2 * w ∧ eQ W e = t ∧ rlN W e (R (eP W e)) ≤ R t ∧ rkN R (eP W e) < rkN R t := fun t ht q => by
    obtain ⟨e, he, q1, q2⟩ := h4 t ht q
    refine ⟨e, he, q1, q2, rk_lt (wy_P hW he) ?_⟩
    rcases Nat.lt_or_ge (R (eP W e)) 268435456 with c | c
    · have := rl_gt hW he c; omega
    · have : rlN W e (R (eP W e)) = 268435456 := if_pos c
      omega
  intro k
  induction k with
  | zero =>
    refine ⟨fun t => ?_, fun t ht q => ?_⟩
    · show R t ≤ s0N a h t
      unfold s0N
      split
      · rename_i c; rw [c]; omega
      · exact h2 t
    · show s0N a h t ≤ R t
      by_cases c : t = a
      · rw [c, hsa]; omega
      · rcases Nat.lt_or_ge (R t) 268435456 with c2 | c2
        · obtain ⟨e, _, _, _, q4⟩ := hp t c c2
          omega
        · exact Nat.le_trans (hs t) c2
  | succ k ih =>
    refine ⟨fd_lb hW hc ih.1 (2 * w) (Nat.le_refl _), fun t ht q => ?_⟩
    show fdN W (2 * w) (itN W (2 * w) k (s0N a h)) t ≤ R t
    by_cases c : t = a
    · have g1 := fd_le (W := W) (G := itN W (2 * w) k (s0N a h)) (2 * w) t
      have g2 := it_le (W := W) (m := 2 * w) (G := s0N a h) k t
      rw [c] at g1 g2 ⊢
      omega
    · rcases Nat.lt_or_ge (R t) 268435456 with c2 | c2
      · obtain ⟨e, he, q1, q2, q4⟩ := hp t c c2
        have g1 := fd_q hW (G := itN W (2 * w) k (s0N a h)) (2 * w) e (Nat.le_refl _) he
        rw [q1] at g1
        exact Nat.le_trans g1 (Nat.le_trans (rl_mono hW he (ih.2 _ (wy_P hW he) (by omega))) q2)
      · have g1 := fd_le (W := W) (G := itN W (2 * w) k (s0N a h)) (2 * w) t
        have g2 := it_le (W := W) (m := 2 * w) (G := s0N a h) k t
        have g3 := hs t
        omega
theorem it_fix9 {W : Nat → Nat → Nat} {w a h : Nat} (hW : WyN W w) (ha : a < 10) (hh : h ≤ 268435456) : fdN W (2 * w) (itN W (2 * w) 9 (s0N a h)) = itN W (2 * w) 9 (s0N a h) := by
  obtain ⟨R, hR, hc⟩ := due_ex (w := w) (a := a) (h := h) hW (sumN (s0N a h) 10 + 1) (s0N a h) (Nat.lt_succ_self _) (ws_0 hh)
  have hS := it_settle hW ha hR hc 9
  have e : ∀ t, t < 10 → itN W (2 * w) 9 (s0N a h) t = R t := fun t ht => Nat.le_antisymm (hS.2 t ht (rk_9 ht)) (hS.1 t)
  refine fd_id _ fun e' he => ?_
  rw [e _ (wy_Q hW he), e _ (wy_P hW he)]
  exact hc e' he
theorem it_stay {W : Nat → Nat → Nat} {m : Nat} {G : Nat → Nat} {k : Nat} (h : fdN W m (itN W m k G) = itN W m k G) : ∀ j, itN W m (k + j) G = itN W m k G := by
  intro j
  induction j with
  | zero => rfl
  | succ j ih =>
    show fdN W m (itN W m (k + j) G) = _
    rw [ih, h]
theorem it_10 {W : Nat → Nat → Nat} {w a h k : Nat} (hk : k ≤ 11) (hW : WyN W w) (ha : a < 10) (hh : h ≤ 268435456) (h2 : fdN W (2 * w) (itN W (2 * w) k (s0N a h)) = itN W (2 * w) k (s0N a h)) : itN W (2 * w) k (s0N a h) = arN W w a h := by
  unfold arN
  rcases Nat.le_total k 10 with q | q
  · have := it_stay h2 (10 - k)
    rw [show k + (10 - k) = 10 by omega] at this
    exact this.symm
  · have h3 := it_stay (it_fix9 hW ha hh) (k - 9)
    have h4 := it_stay (it_fix9 hW ha hh) 1
    rw [show 9 + (k - 9) = k by omega] at h3
    rw [h3]
    exact h4.symm
theorem it_same {W : Nat → Nat → Nat} {w a h k : Nat} (hk : 9 ≤ k) (hW : WyN W w) (ha : a < 10) (hh : h ≤ 268435456) : fdN W (2 * w) (itN W (2 * w) k (s0N a h)) = itN W (2 * w) k (s0N a h) := by
  have h3 := it_stay (it_fix9 hW ha hh) (k - 9)
  have h4 := it_stay (it_fix9 hW ha hh) (k + 1 - 9)
  rw [show 9 + (k - 9) = k by omega] at h3
  rw [show 9 + (k + 1 - 9) = k + 1 by omega] at h4
  exact h4.trans h3.symm
/-- bounds -/
def BdN (c : Nat) (G : Nat → Nat) : Prop := ∀ t, G t = 268435456 ∨ G t ≤ c
theorem rl_val {W : Nat → Nat → Nat} {w e x : Nat} (hW : WyN W w) (he : e < 2 * w) (h : x < 268000000) : rlN W e x = lvN (W 3 (e / 2)) (W 4 (e / 2)) x + W 2 (e / 2) ∧ lvN (W 3 (e / 2)) (W 4 (e / 2)) x + W 2 (e / 2) ≤ x + 64 := by
  have hw := hW (e / 2) (by omega)
  have hl := dv_lt (e := W 3 (e / 2)) (s := W 4 (e / 2)) (x := x) (by omega)
  have h2 : lvN (W 3 (e / 2)) (W 4 (e / 2)) x + W 2 (e / 2) ≤ x + 64 := by omega
  refine ⟨?_, h2⟩
  unfold rlN
  rw [if_neg (by omega)]
  simp only [Nat.min_def]
  split <;> omega
theorem bd_1 {W : Nat → Nat → Nat} {w e c : Nat} {G : Nat → Nat} (hW : WyN W w) (he : e < 2 * w) (hc : c < 268000000) (hG : BdN c G) : BdN (c + 64) (st1 W e G) := by
  intro t
  have h1 := hG t
  rcases st1_c (W := W) (e := e) (G := G) t with q | q
  · rw [q]; omega
  · rw [q.2.1]
    rcases hG (eP W e) with h2 | h2
    · left; rw [h2]; exact if_pos (Nat.le_refl _)
    · right
      have := rl_val hW he (x := G (eP W e)) (by omega)
      omega
theorem bd_f {W : Nat → Nat → Nat} {w c : Nat} {G : Nat → Nat} (hW : WyN W w) (hG : BdN c G) : ∀ n, n ≤ 2 * w → c + 64 * n < 268000000 → BdN (c + 64 * n) (fdN W n G) := by
  intro n
  induction n with
  | zero => intro _ _; exact hG
  | succ n ih =>
    intro hn h
    rw [show c + 64 * (n + 1) = c + 64 * n + 64 by omega]
    exact bd_1 hW (by omega) (by omega) (ih (by omega) (by omega))
theorem bd_up {c d : Nat} {G : Nat → Nat} (h : c ≤ d) (hG : BdN c G) : BdN d G := fun t => by have := hG t; omega
theorem bd_i {W : Nat → Nat → Nat} {w c : Nat} {G : Nat → Nat} (hW : WyN W w) (hw : w ≤ 16) (hG : BdN c G) : ∀ k, c + 2048 * k < 268000000 → BdN (c + 2048 * k) (itN W (2 * w) k G) := by
  intro k
  induction k with
  | zero => intro _; exact hG
  | succ k ih => intro h; exact bd_up (by omega) (bd_f hW (ih (by omega)) (2 * w) (Nat.le_refl _) (by omega))
theorem bd_0 {a h : Nat} : BdN h (s0N a h) := fun t => by
  unfold s0N
  split <;> omega
theorem ar_bd {W : Nat → Nat → Nat} {w a h : Nat} (hW : WyN W w) (hw : w ≤ 16) (hh : h ≤ 60000) : BdN (h + 20480) (arN W w a h) := bd_i hW hw bd_0 10 (by omega)
theorem ar_ge {W : Nat → Nat → Nat} {w a h : Nat} (hW : WyN W w) (hh : h ≤ 268435456) (t : Nat) : h ≤ arN W w a h t := by
  have h1 : ∀ n, n ≤ 2 * w → ∀ G, WS W (2 * w) a h G → WS W (2 * w) a h (fdN W n G) := by
    intro n
    induction n with
    | zero => intro _ G q; exact q
    | succ n ih => intro hn G q; exact ws_1 hW (by omega) (ih (by omega) G q)
  have h2 : ∀ k, WS W (2 * w) a h (itN W (2 * w) k (s0N a h)) := by
    intro k
    induction k with
    | zero => exact ws_0 hh
    | succ k ih => exact h1 (2 * w) (Nat.le_refl _) _ ih
  exact (h2 10).1 t
/-- a number of a row of hours, none told as -1 -/
def dI (x : Nat) : Int32 := if 268435456 ≤ x then -1 else nI x
theorem dI_n {x : Nat} (h : x < 268435456) : dI x = nI x := if_neg (by omega)
theorem dI_m : dI 268435456 = -1 := if_pos (Nat.le_refl _)
theorem nI_nm {x : Nat} (h : x < 2 ^ 31) : ¬ nI x = -1 := fun q => by
  have h2 := nI_pos' h
  rw [q] at h2
  exact absurd h2 (by decide)
theorem dI_0 {x : Nat} : dI x = -1 ↔ 268435456 ≤ x := by
  unfold dI
  by_cases h : 268435456 ≤ x
  · rw [if_pos h]; exact ⟨fun _ => h, fun _ => rfl⟩
  · rw [if_neg h]; exact ⟨fun q => absurd q (nI_nm (by omega)), fun q => absurd q h⟩
abbrev LaC (f : HI) (W : Nat → Nat → Nat) (w : Nat) : Prop := f 2 7 = nI w ∧ w ≤ 16 ∧ (∀ e, e < 2 * w → f 7 e = nI (eP W e)) ∧ (∀ i, i < w → f 5 i = nI (W 2 i) ∧ f 8 i = nI (W 3 i) ∧ f 9 i = nI (W 4 i)) ∧ WyN W w
abbrev LaM (f : HI) (W : Nat → Nat → Nat) (w : Nat) : Prop := f 92 7 = nI w ∧ w ≤ 16 ∧ (∀ i, i < w → f 93 i = nI (W 0 i) ∧ f 94 i = nI (W 1 i) ∧ f 96 i = nI (W 2 i) ∧ f 97 i = nI (W 3 i) ∧ f 98 i = nI (W 4 i)) ∧ WyN W w
theorem lac_x {f : HI} {W : Nat → Nat → Nat} {w e : Nat} (h : LaC f W w) (he : e < 2 * w) : f 7 (e ^^^ 1) = nI (eQ W e) := by rw [h.2.2.1 _ (xor1_lt he), eP_x]
theorem ng_neg {d : Nat} (h0 : 0 < d) (hd : d < 2 ^ 31) : -nI d < 0 := by
  rw [Int32.lt_iff_toInt_lt, ng_toInt hd, show (0 : Int32).toInt = 0 from by decide]
  omega
theorem fm_a {d e : Nat} (hd : d < 2 ^ 31) (h0 : 0 < e) (he : e < 2 ^ 31) (c : (-nI d) - (-nI d) / nI e * nI e = 0) : (-nI d) - (-nI d) / nI e * nI e = nI ((e - d % e) % e) := by
  have h1 := ng_rem hd h0 he
  rw [h1] at c ⊢
  have h2 : (-nI (d % e)).toInt = 0 := by rw [c]; rfl
  rw [ng_toInt (by have := Nat.mod_lt d h0; omega)] at h2
  have h3 : d % e = 0 := by omega
  rw [h3, Nat.sub_zero, Nat.mod_self]
  rfl
theorem fm_b {d e : Nat} (hd : d < 2 ^ 31) (h0 : 0 < e) (he : e < 2 ^ 31) (c : ¬ (-nI d) - (-nI d) / nI e * nI e = 0) : (-nI d) - (-nI d) / nI e * nI e + nI e = nI ((e - d % e) % e) := by
  have h1 := ng_rem hd h0 he
  have hm := Nat.mod_lt d h0
  rw [h1] at c ⊢
  have h3 : ¬ d % e = 0 := fun q => c (by rw [q]; rfl)
  rw [Int32.add_comm, ← Int32.sub_eq_add_neg, pk_sub (by omega)]
  exact congrArg nI (Nat.mod_eq_of_lt (by omega)).symm
theorem jp_fm1 (f : HI) {a e : Nat} (ha : a < e) (he : e < 2 ^ 30) : Sp 1 215 [.int (nI a), .int (nI e)] f (Ret (nI a) f) := by
  show wq 1 215 (Ret (nI a) f) 0 [(0, .int (nI a)), (1, .int (nI e))] [] f
  refine wq_run2 (pc' := 2) (L' := [(0, .int (nI a)), (1, .int (nI e))]) (S' := [.int (nI e), .int (nI a)]) (f' := f) rfl ?_
  refine wq_rem rfl (nI_ne0 (by omega) (by omega)) ?_
  refine wq_run4 (pc' := 7) (L' := [(0, .int (nI a)), (1, .int (nI e)), (2, .int ((nI a) - (nI a) / (nI e) * (nI e)))]) (S' := [.int ((nI a) ^^^ (nI e))]) (f' := f) rfl ?_
  refine wq_if (c := 0 ≤ ((nI a) ^^^ (nI e))) (p1 := 18) (L1 := [(0, .int (nI a)), (1, .int (nI e)), (2, .int ((nI a) - (nI a) / (nI e) * (nI e)))]) (S1 := []) (p2 := 10) (L2 := [(0, .int (nI a)), (1, .int (nI e)), (2, .int ((nI a) - (nI a) / (nI e) * (nI e)))]) (S2 := []) rfl (fun _ => ?_) (fun q => absurd (xr_ge.mpr ⟨fun q => absurd q (nI_pos (by omega)), fun q => absurd q (nI_pos (by omega))⟩) q)
  refine wq_run1 (pc' := 19) (L' := [(0, .int (nI a)), (1, .int (nI e)), (2, .int ((nI a) - (nI a) / (nI e) * (nI e)))]) (S' := [.int ((nI a) - (nI a) / (nI e) * (nI e))]) (f' := f) rfl ?_
  exact wq_ret rfl (Ret.of ((pk_rem (by omega) (by omega) (by omega)).trans (congrArg nI (Nat.mod_eq_of_lt ha))) rfl)
theorem jp_fm2 (f : HI) {d e : Nat} (h0 : 0 < d) (hd : d < 2 ^ 30) (h1 : 0 < e) (he : e < 2 ^ 30) : Sp 1 215 [.int (-nI d), .int (nI e)] f (Ret (nI ((e - d % e) % e)) f) := by
  show wq 1 215 (Ret (nI ((e - d % e) % e)) f) 0 [(0, .int (-nI d)), (1, .int (nI e))] [] f
  refine wq_run2 (pc' := 2) (L' := [(0, .int (-nI d)), (1, .int (nI e))]) (S' := [.int (nI e), .int (-nI d)]) (f' := f) rfl ?_
  refine wq_rem rfl (nI_ne0 (by omega) (by omega)) ?_
  refine wq_run4 (pc' := 7) (L' := [(0, .int (-nI d)), (1, .int (nI e)), (2, .int ((-nI d) - (-nI d) / (nI e) * (nI e)))]) (S' := [.int ((-nI d) ^^^ (nI e))]) (f' := f) rfl ?_
  refine wq_if (c := 0 ≤ ((-nI d) ^^^ (nI e))) (p1 := 18) (L1 := [(0, .int (-nI d)), (1, .int (nI e)), (2, .int ((-nI d) - (-nI d) / (nI e) * (nI e)))]) (S1 := []) (p2 := 10) (L2 := [(0, .int (-nI d)), (1, .int (nI e)), (2, .int ((-nI d) - (-nI d) / (nI e) * (nI e)))]) (S2 := []) rfl (fun q => absurd q (fun q => absurd ((xr_ge.mp q).mp (ng_neg h0 (by omega))) (nI_pos (by omega)))) (fun _ => ?_)
  refine wq_run1 (pc' := 11) (L' := [(0, .int (-nI d)), (1, .int (nI e)), (2, .int ((-nI d) - (-nI d) / (nI e) * (nI e)))]) (S' := [.int ((-nI d) - (-nI d) / (nI e) * (nI e))]) (f' := f) rfl ?_
  refine wq_if (c := ((-nI d) - (-nI d) / (nI e) * (nI e)) = 0) (p1 := 18) (L1 := [(0, .int (-nI d)), (1, .int (nI e)), (2, .int ((-nI d) - (-nI d) / (nI e) * (nI e)))]) (S1 := []) (p2 := 14) (L2 := [(0, .int (-nI d)), (1, .int (nI e)), (2, .int ((-nI d) - (-nI d) / (nI e) * (nI e)))]) (S2 := []) rfl (fun c_11 => ?_) (fun c_11 => ?_)
  · refine wq_run1 (pc' := 19) (L' := [(0, .int (-nI d)), (1, .int (nI e)), (2, .int ((-nI d) - (-nI d) / (nI e) * (nI e)))]) (S' := [.int ((-nI d) - (-nI d) / (nI e) * (nI e))]) (f' := f) rfl ?_
    exact wq_ret rfl (Ret.of (fm_a (by omega) h1 (by omega) c_11) rfl)
  · refine wq_run3 (pc' := 17) (L' := [(0, .int (-nI d)), (1, .int (nI e)), (2, .int ((-nI d) - (-nI d) / (nI e) * (nI e)))]) (S' := [.int (((-nI d) - (-nI d) / (nI e) * (nI e)) + (nI e))]) (f' := f) rfl ?_
    exact wq_ret rfl (Ret.of (fm_b (by omega) h1 (by omega) c_11) rfl)
theorem jp_fm (f : HI) {e s h : Nat} (hs : s < e) (he : e < 2 ^ 30) (hh : h < 2 ^ 30) : Sp 1 215 [.int (nI s - nI h), .int (nI e)] f (Ret (nI (dpN e s h)) f) := by
  rcases Nat.lt_or_ge s h with c | c
  · rw [ng_sub (Nat.le_of_lt c), show dpN e s h = (e - (h - s) % e) % e from dp_u hs (Nat.mod_lt _ (by omega)) (by
      have h1 := Nat.div_add_mod (h - s) e
      have h2 := Nat.mod_lt (h - s) (show 0 < e by omega)
      rw [Nat.add_mod, Nat.mod_mod, ← Nat.add_mod, show h + (e - (h - s) % e) = s + e * ((h - s) / e + 1) by rw [Nat.mul_succ]; omega, Nat.add_mul_mod_self_left, Nat.mod_eq_of_lt hs])]
    exact jp_fm2 f (by omega) (by omega) (by omega) (by omega)
  · rw [pk_sub c, show dpN e s h = s - h from dp_u hs (by omega) (by rw [show h + (s - h) = s by omega, Nat.mod_eq_of_lt hs])]
    exact jp_fm1 f (by omega) (by omega)
def flN (v : Int32) (g : Nat → Int32) (n : Nat) : Nat → Int32 := fun j => if j < n then v else g j
theorem fl_0 (v : Int32) (g : Nat → Int32) : flN v g 0 = g := funext fun j => if_neg (Nat.not_lt_zero j)
theorem fl_s (v : Int32) (g : Nat → Int32) (n : Nat) : upd (flN v g n) n v = flN v g (n + 1) := by
  funext j
  unfold upd flN
  by_cases h : j = n
  · rw [if_pos h, if_pos (by omega)]
  · rw [if_neg h]
    by_cases h2 : j < n
    · rw [if_pos h2, if_pos (by omega)]
    · rw [if_neg h2, if_neg (by omega)]
theorem lp_fill10 (f : HI) (v : Int32) : ∀ (m9 : Nat) (i : Nat), (i ≤ 10) → 10 - i < m9 → wq 1 225 (RetV (up1 f 10 (flN v (f 10) 10))) 5 [(0, .ref 10), (1, .int v), (2, .int (nI i)), (3, .int (nI 10))] [] (up1 f 10 (flN v (f 10) i)) := by
  intro m9
  induction m9 with
  | zero => intro i hi hn; exact absurd hn (Nat.not_lt_zero _)
  | succ m9 ih =>
    intro i hi hn
    refine wq_run2 (pc' := 7) (L' := [(0, .ref 10), (1, .int v), (2, .int (nI i)), (3, .int (nI 10))]) (S' := [.int (nI 10), .int (nI i)]) (f' := (up1 f 10 (flN v (f 10) i))) rfl ?_
    refine wq_if (c := (nI 10) ≤ (nI i)) (p1 := 20) (L1 := [(0, .ref 10), (1, .int v), (2, .int (nI i)), (3, .int (nI 10))]) (S1 := []) (p2 := 10) (L2 := [(0, .ref 10), (1, .int v), (2, .int (nI i)), (3, .int (nI 10))]) (S2 := []) rfl (fun c_7 => ?_) (fun c_7 => ?_)
    · have k_7 : 10 ≤ i := (nI_leI (a := 10) (b := i) (by omega) (by omega)).mp c_7
      have e : i = 10 := by omega
      exact wq_ret rfl (RetV.of (by rw [e]))
    · have k_7 : ¬ 10 ≤ i := fun q => c_7 ((nI_leI (a := 10) (b := i) (by omega) (by omega)).mpr q)
      refine wq_run3 (pc' := 13) (L' := [(0, .ref 10), (1, .int v), (2, .int (nI i)), (3, .int (nI 10))]) (S' := [.int v, .int (nI i), .ref 10]) (f' := (up1 f 10 (flN v (f 10) i))) rfl ?_
      refine wq_ist (j := i) (n := 10) rfl rfl rfl rfl (by omega) (Nat.le_of_ble_eq_true rfl) ?_
      refine wq_h (f' := (up1 f 10 (upd (flN v (f 10) i) i v))) ((up2_up1_eq f 10 (flN v (f 10) i) i v).trans (congrArg (fun z => up1 f 10 z) (rfl))) ?_
      refine wq_run1 (pc' := 17) (L' := [(0, .ref 10), (1, .int v), (2, .int ((nI i) + 1)), (3, .int (nI 10))]) (S' := []) (f' := (up1 f 10 (upd (flN v (f 10) i) i v))) rfl ?_
      refine wq_L (L' := [(0, .ref 10), (1, .int v), (2, .int (nI (i + 1))), (3, .int (nI 10))]) (by rw [show nI i + 1 = nI (i + 1) from nI_add _ _]) ?_
      refine wq_run1 (pc' := 5) (L' := [(0, .ref 10), (1, .int v), (2, .int (nI (i + 1))), (3, .int (nI 10))]) (S' := []) (f' := (up1 f 10 (upd (flN v (f 10) i) i v))) rfl ?_
      rw [fl_s]
      exact ih (i + 1) (by omega) (by omega)
theorem jp_fill10 (f : HI) (v : Int32) : Sp 1 225 [.ref 10, .int v] f (RetV (up1 f 10 (flN v (f 10) 10))) := by
  show wq 1 225 (RetV (up1 f 10 (flN v (f 10) 10))) 0 [(0, .ref 10), (1, .int v)] [] f
  refine wq_run5 (pc' := 5) (L' := [(0, .ref 10), (1, .int v), (2, .int 0), (3, .int (nI 10))]) (S' := []) (f' := f) rfl ?_
  have h := lp_fill10 f v (10 + 1) 0 (Nat.zero_le _) (Nat.lt_succ_self _)
  rw [fl_0, up1_id] at h
  exact h
theorem sp_departure {f : HI} {W : Nat → Nat → Nat} {w i x : Nat} (hL : LaC f W w) (hi : i < w) (hx : x < 2 ^ 29) : Sp 2 21 [.ref 2, .int (nI i), .int (nI x)] f (Ret (nI (lvN (W 3 i) (W 4 i) x)) f) := by
  show wq 2 21 (Ret (nI (lvN (W 3 i) (W 4 i) x)) f) 0 [(0, .ref 2), (1, .int (nI i)), (2, .int (nI x))] [] f
  have hw16 := hL.2.1
  have hb := hL.2.2.2.2 i hi
  refine wq_run3 (pc' := 5) (L' := [(0, .ref 2), (1, .int (nI i)), (2, .int (nI x))]) (S' := [.int (nI i), .ref 8]) (f' := f) rfl ?_
  refine wq_ald (j := i) (n := 16) (v := (nI (W 3 i))) rfl rfl rfl rfl (by omega) (Nat.le_of_ble_eq_true rfl) ((hL.2.2.2.1 i (by omega)).2.1) ?_
  refine wq_run1 (pc' := 7) (L' := [(0, .ref 2), (1, .int (nI i)), (2, .int (nI x))]) (S' := [.int 1, .int (nI (W 3 i))]) (f' := f) rfl ?_
  refine wq_if (c := 1 ≤ (nI (W 3 i))) (p1 := 12) (L1 := [(0, .ref 2), (1, .int (nI i)), (2, .int (nI x))]) (S1 := []) (p2 := 10) (L2 := [(0, .ref 2), (1, .int (nI i)), (2, .int (nI x))]) (S2 := []) rfl (fun _ => ?_) (fun q => absurd ((nI_leI (a := 1) (b := (W 3 i)) (by omega) (by omega)).mpr (by omega)) q)
  refine wq_run4 (pc' := 18) (L' := [(0, .ref 2), (1, .int (nI i)), (2, .int (nI x))]) (S' := [.int (nI i), .ref 9, .int (nI x)]) (f' := f) rfl ?_
  refine wq_ald (j := i) (n := 16) (v := (nI (W 4 i))) rfl rfl rfl rfl (by omega) (Nat.le_of_ble_eq_true rfl) ((hL.2.2.2.1 i (by omega)).2.2) ?_
  refine wq_run5 (pc' := 26) (L' := [(0, .ref 2), (1, .int (nI i)), (2, .int (nI x))]) (S' := [.int (nI i), .ref 8, .int ((nI (W 4 i)) - (nI x)), .int (nI x)]) (f' := f) rfl ?_
  refine wq_ald (j := i) (n := 16) (v := (nI (W 3 i))) rfl rfl rfl rfl (by omega) (Nat.le_of_ble_eq_true rfl) ((hL.2.2.2.1 i (by omega)).2.1) ?_
  refine wq_callI (r := (nI (dpN (W 3 i) (W 4 i) x))) (jp_fm f (e := W 3 i) (s := W 4 i) (h := x) (by omega) (by omega) (by omega)) (Nat.le_of_ble_eq_true rfl) (pc' := 30) (L' := [(0, .ref 2), (1, .int (nI i)), (2, .int (nI x))]) (S' := [.int (nI x)]) rfl (Nat.le_of_ble_eq_true rfl) rfl rfl (Nat.le_of_ble_eq_true rfl) (Nat.le_of_ble_eq_true rfl) ?_
  refine wq_run1 (pc' := 31) (L' := [(0, .ref 2), (1, .int (nI i)), (2, .int (nI x))]) (S' := [.int ((nI x) + (nI (dpN (W 3 i) (W 4 i) x)))]) (f' := f) rfl ?_
  refine wq_v (y := (nI (x + (dpN (W 3 i) (W 4 i) x)))) (nI_add x (dpN (W 3 i) (W 4 i) x)) ?_
  exact wq_ret rfl ⟨rfl, rfl⟩
theorem sp_leavesIn {f : HI} {W : Nat → Nat → Nat} {w i x : Nat} (hL : LaC f W w) (hi : i < w) (hx : x < 2 ^ 29) : Sp 3 18 [.ref 2, .int (nI i), .int (nI x)] f (Ret (b2i (lvN (W 3 i) (W 4 i) x = x)) f) := by
  show wq 3 18 (Ret (b2i (lvN (W 3 i) (W 4 i) x = x)) f) 0 [(0, .ref 2), (1, .int (nI i)), (2, .int (nI x))] [] f
  have hw16 := hL.2.1
  have hb := hL.2.2.2.2 i hi
  have hv := dv_lt (e := W 3 i) (s := W 4 i) (x := x) (by omega)
  refine wq_run3 (pc' := 3) (L' := [(0, .ref 2), (1, .int (nI i)), (2, .int (nI x))]) (S' := [.int (nI x), .int (nI i), .ref 2]) (f' := f) rfl ?_
  refine wq_callI (r := (nI (lvN (W 3 i) (W 4 i) x))) (sp_departure (f := f) (W := W) (w := w) (i := i) (x := x) hL (by omega) (by omega)) (Nat.le_of_ble_eq_true rfl) (pc' := 6) (L' := [(0, .ref 2), (1, .int (nI i)), (2, .int (nI x))]) (S' := []) rfl (Nat.le_of_ble_eq_true rfl) rfl rfl (Nat.le_of_ble_eq_true rfl) (Nat.le_of_ble_eq_true rfl) ?_
  refine wq_run1 (pc' := 7) (L' := [(0, .ref 2), (1, .int (nI i)), (2, .int (nI x))]) (S' := [.int (nI x), .int (nI (lvN (W 3 i) (W 4 i) x))]) (f' := f) rfl ?_
  refine wq_if (c := (nI (lvN (W 3 i) (W 4 i) x)) = (nI x)) (p1 := 10) (L1 := [(0, .ref 2), (1, .int (nI i)), (2, .int (nI x))]) (S1 := []) (p2 := 14) (L2 := [(0, .ref 2), (1, .int (nI i)), (2, .int (nI x))]) (S2 := []) rfl (fun c_7 => ?_) (fun c_7 => ?_)
  · have k_7 : (lvN (W 3 i) (W 4 i) x) = x := (nI_eq (a := (lvN (W 3 i) (W 4 i) x)) (b := x) (by omega) (by omega)).mp c_7
    refine wq_run2 (pc' := 15) (L' := [(0, .ref 2), (1, .int (nI i)), (2, .int (nI x))]) (S' := [.int 1]) (f' := f) rfl ?_
    exact wq_retZ rfl (by decide) (Ret.of (b2i_t k_7).symm rfl)
  · have k_7 : ¬ (lvN (W 3 i) (W 4 i) x) = x := fun q => c_7 ((nI_eq (a := (lvN (W 3 i) (W 4 i) x)) (b := x) (by omega) (by omega)).mpr q)
    refine wq_run1 (pc' := 15) (L' := [(0, .ref 2), (1, .int (nI i)), (2, .int (nI x))]) (S' := [.int 0]) (f' := f) rfl ?_
    exact wq_retZ rfl (by decide) (Ret.of (b2i_f k_7).symm rfl)
theorem keep_r {W : Nat → Nat → Nat} {e : Nat} {G : Nat → Nat} {T : Nat → Int32} {N : Nat → Int32} (h : G (eQ W e) ≤ rlN W e (G (eP W e))) (hg : ∀ t, t < 10 → T t = N (G t)) : ∀ t, t < 10 → T t = N (st1 W e G t) := by
  rw [st1_id h]; exact hg
theorem chg_r {W : Nat → Nat → Nat} {e v : Nat} {G : Nat → Nat} {g : Nat → Int32} {N : Nat → Int32} (hv : rlN W e (G (eP W e)) = v) (h : v < G (eQ W e)) {n : Int32} (hn : n = N v) (hg : ∀ t, t < 10 → g t = N (G t)) : ∀ t, t < 10 → upd g (eQ W e) n t = N (st1 W e G t) := by
  intro t ht
  unfold st1
  rw [hv, if_pos h]
  unfold upd updN
  by_cases c : t = eQ W e
  · rw [if_pos c, if_pos c, hn]
  · rw [if_neg c, if_neg c, hg t ht]
theorem init_r {a h : Nat} {g : Nat → Int32} (hh : h < 268435456) : ∀ t, t < 10 → upd (flN (-1) g 10) a (nI h) t = (fun x => dI x) (s0N a h t) := by
  intro t ht
  unfold upd s0N flN
  by_cases c : t = a
  · rw [if_pos c, if_pos c]; exact (dI_n hh).symm
  · rw [if_neg c, if_neg c, if_pos ht]; exact dI_m.symm
theorem lp_sprIn {f : HI} {W : Nat → Nat → Nat} {w a h : Nat} (hL : LaC f W w) (ha : a < 10) (hh : h ≤ 60000) {k : Nat} {G0 : Nat → Nat} {c0 : Nat} (hB0 : BdN c0 G0) (hc0 : c0 < 260000000) (hk : k < 10) (K : ∀ (g : Nat → Int32) (sn : Int32), (∀ t, t < 10 → g t = dI (fdN W (2 * w) G0 t)) → (sn = 0 → fdN W (2 * w) G0 = G0) → wq 3 20 (fun v f' => ∃ g, v = none ∧ f' = up1 f 10 g ∧ ∀ t, t < 10 → g t = dI (arN W w a h t)) 20 [(0, .ref 2), (3, .int sn), (4, .int (nI (k + 1)))] [] (up1 f 10 g)) : ∀ (m9 : Nat) (e : Nat) (g : Nat → Int32) (G : Nat → Nat) (sn : Int32), (e ≤ 2 * w) → (G = fdN W e G0) → (∀ t, t < 10 → g t = dI (G t)) → (sn = 0 → G = G0) → 2 * w - e < m9 → wq 3 20 (fun v f' => ∃ g, v = none ∧ f' = up1 f 10 g ∧ ∀ t, t < 10 → g t = dI (arN W w a h t)) 36 [(0, .ref 2), (3, .int sn), (4, .int (nI k)), (5, .int (nI e))] [] (up1 f 10 g) := by
  intro m9
  induction m9 with
  | zero => intro e g G sn he hGe hg hs hn; exact absurd hn (Nat.not_lt_zero _)
  | succ m9 ih =>
    intro e g G sn he hGe hg hs hn
    have hw16 := hL.2.1
    have hB := bd_f hL.2.2.2.2 hB0 e he (by omega)
    rw [← hGe] at hB
    refine wq_run4 (pc' := 43) (L' := [(0, .ref 2), (3, .int sn), (4, .int (nI k)), (5, .int (nI e))]) (S' := [.int (f 2 7), .int 2, .int (nI e)]) (f' := (up1 f 10 g)) rfl ?_
    refine wq_v (y := (nI w)) (hL.1) ?_
    refine wq_run1 (pc' := 44) (L' := [(0, .ref 2), (3, .int sn), (4, .int (nI k)), (5, .int (nI e))]) (S' := [.int (2 * (nI w)), .int (nI e)]) (f' := (up1 f 10 g)) rfl ?_
    refine wq_v (y := (nI (2 * w))) (pk_mul 2 w) ?_
    refine wq_if (c := (nI (2 * w)) ≤ (nI e)) (p1 := 146) (L1 := [(0, .ref 2), (3, .int sn), (4, .int (nI k)), (5, .int (nI e))]) (S1 := []) (p2 := 47) (L2 := [(0, .ref 2), (3, .int sn), (4, .int (nI k)), (5, .int (nI e))]) (S2 := []) rfl (fun c_44 => ?_) (fun c_44 => ?_)
    · have k_44 : (2 * w) ≤ e := (nI_leI (a := (2 * w)) (b := e) (by omega) (by omega)).mp c_44
      refine wq_run1 (pc' := 149) (L' := [(0, .ref 2), (3, .int sn), (4, .int ((nI k) + 1)), (5, .int (nI e))]) (S' := []) (f' := (up1 f 10 g)) rfl ?_
      refine wq_L (L' := [(0, .ref 2), (3, .int sn), (4, .int (nI (k + 1))), (5, .int (nI e))]) (by rw [show nI k + 1 = nI (k + 1) from nI_add _ _]) ?_
      refine wq_run1 (pc' := 20) (L' := [(0, .ref 2), (3, .int sn), (4, .int (nI (k + 1)))]) (S' := []) (f' := (up1 f 10 g)) rfl ?_
      have e1 : e = 2 * w := by omega
      rw [e1] at hGe
      rw [hGe] at hg hs
      exact K g sn hg hs
    · have k_44 : ¬ (2 * w) ≤ e := fun q => c_44 ((nI_leI (a := (2 * w)) (b := e) (by omega) (by omega)).mpr q)
      have hq := wy_Q hL.2.2.2.2 (e := e) (by omega)
      have hp := wy_P hL.2.2.2.2 (e := e) (by omega)
      have hx := xor1_lt (w := w) (show e < 2 * w by omega)
      refine wq_run5 (pc' := 57) (L' := [(0, .ref 2), (3, .int sn), (4, .int (nI k)), (5, .int (nI e))]) (S' := [.int (nI e), .ref 7, .ref 10]) (f' := (up1 f 10 g)) rfl ?_
      have hp := wy_P hL.2.2.2.2 (e := e) (by omega)
      refine wq_ald (j := e) (n := 32) (v := (nI (eP W e))) rfl rfl rfl rfl (by omega) (Nat.le_of_ble_eq_true rfl) (hL.2.2.1 e (by omega)) ?_
      refine wq_ald (j := (eP W e)) (n := 10) (v := (dI (G (eP W e)))) rfl rfl rfl rfl (by omega) (Nat.le_of_ble_eq_true rfl) (hg (eP W e) (by omega)) ?_
      refine wq_run3 (pc' := 64) (L' := [(0, .ref 2), (3, .int sn), (4, .int (nI k)), (5, .int (nI e)), (6, .int (dI (G (eP W e))))]) (S' := [.int (-1), .int (dI (G (eP W e)))]) (f' := (up1 f 10 g)) rfl ?_
      refine wq_if (c := (dI (G (eP W e))) = (-1)) (p1 := 67) (L1 := [(0, .ref 2), (3, .int sn), (4, .int (nI k)), (5, .int (nI e)), (6, .int (dI (G (eP W e))))]) (S1 := []) (p2 := 70) (L2 := [(0, .ref 2), (3, .int sn), (4, .int (nI k)), (5, .int (nI e)), (6, .int (dI (G (eP W e))))]) (S2 := []) rfl (fun c_64 => ?_) (fun c_64 => ?_)
      · have k_64 := dI_0.mp c_64
        refine wq_run2 (pc' := 143) (L' := [(0, .ref 2), (3, .int sn), (4, .int (nI k)), (5, .int ((nI e) + 1)), (6, .int (dI (G (eP W e))))]) (S' := []) (f' := (up1 f 10 g)) rfl ?_
        refine wq_L (L' := [(0, .ref 2), (3, .int sn), (4, .int (nI k)), (5, .int (nI (e + 1))), (6, .int (dI (G (eP W e))))]) (by rw [show nI e + 1 = nI (e + 1) from nI_add _ _]) ?_
        refine wq_run1 (pc' := 36) (L' := [(0, .ref 2), (3, .int sn), (4, .int (nI k)), (5, .int (nI (e + 1)))]) (S' := []) (f' := (up1 f 10 g)) rfl ?_
        have hr : rlN W e (G (eP W e)) = 268435456 := if_pos k_64
        have hk := hB (eQ W e)
        exact ih (e + 1) g (st1 W e G) sn (by omega) (by rw [hGe]; rfl) (keep_r (N := fun x => dI x) (by omega) hg) (fun q => (st1_id (by omega)).trans (hs q)) (by omega)
      · have k_64 : G (eP W e) < 268435456 := Nat.lt_of_not_le (fun q => c_64 (dI_0.mpr q))
        have r_64 := rl_val hL.2.2.2.2 (e := e) (show e < 2 * w by omega) (x := G (eP W e)) (by have := hB (eP W e); omega)
        refine wq_L (L' := [(0, .ref 2), (3, .int sn), (4, .int (nI k)), (5, .int (nI e)), (6, .int (nI (G (eP W e))))]) (by rw [dI_n k_64]) ?_
        refine wq_run3 (pc' := 74) (L' := [(0, .ref 2), (3, .int sn), (4, .int (nI k)), (5, .int (nI e)), (6, .int (nI (G (eP W e))))]) (S' := [.int 2, .int (nI e), .ref 2]) (f' := (up1 f 10 g)) rfl ?_
        refine wq_div rfl (by decide) ?_
        refine wq_v (y := (nI (e / 2))) (pk_div (a := e) (d := 2) (by omega) (by omega) (by omega)) ?_
        refine wq_run1 (pc' := 77) (L' := [(0, .ref 2), (3, .int sn), (4, .int (nI k)), (5, .int (nI e)), (6, .int (nI (G (eP W e))))]) (S' := [.int (nI (G (eP W e))), .int (nI (e / 2)), .ref 2]) (f' := (up1 f 10 g)) rfl ?_
        refine wq_callI (r := (nI (lvN (W 3 (e / 2)) (W 4 (e / 2)) (G (eP W e))))) (sp_departure (f := (up1 f 10 g)) (W := W) (w := w) (i := (e / 2)) (x := (G (eP W e))) hL (by omega) (by omega)) (Nat.le_of_ble_eq_true rfl) (pc' := 80) (L' := [(0, .ref 2), (3, .int sn), (4, .int (nI k)), (5, .int (nI e)), (6, .int (nI (G (eP W e))))]) (S' := []) rfl (Nat.le_of_ble_eq_true rfl) rfl rfl (Nat.le_of_ble_eq_true rfl) (Nat.le_of_ble_eq_true rfl) ?_
        refine wq_run4 (pc' := 87) (L' := [(0, .ref 2), (3, .int sn), (4, .int (nI k)), (5, .int (nI e)), (6, .int (nI (G (eP W e))))]) (S' := [.int 2, .int (nI e), .ref 5, .int (nI (lvN (W 3 (e / 2)) (W 4 (e / 2)) (G (eP W e))))]) (f' := (up1 f 10 g)) rfl ?_
        refine wq_div rfl (by decide) ?_
        refine wq_v (y := (nI (e / 2))) (pk_div (a := e) (d := 2) (by omega) (by omega) (by omega)) ?_
        refine wq_ald (j := (e / 2)) (n := 16) (v := (nI (W 2 (e / 2)))) rfl rfl rfl rfl (by omega) (Nat.le_of_ble_eq_true rfl) ((hL.2.2.2.1 (e / 2) (by omega)).1) ?_
        refine wq_run1 (pc' := 90) (L' := [(0, .ref 2), (3, .int sn), (4, .int (nI k)), (5, .int (nI e)), (6, .int (nI (G (eP W e))))]) (S' := [.int ((nI (lvN (W 3 (e / 2)) (W 4 (e / 2)) (G (eP W e)))) + (nI (W 2 (e / 2))))]) (f' := (up1 f 10 g)) rfl ?_
        refine wq_v (y := (nI ((lvN (W 3 (e / 2)) (W 4 (e / 2)) (G (eP W e))) + (W 2 (e / 2))))) (nI_add (lvN (W 3 (e / 2)) (W 4 (e / 2)) (G (eP W e))) (W 2 (e / 2))) ?_
        refine wq_run6 (pc' := 100) (L' := [(0, .ref 2), (3, .int sn), (4, .int (nI k)), (5, .int (nI e)), (6, .int (nI (G (eP W e)))), (7, .int (nI ((lvN (W 3 (e / 2)) (W 4 (e / 2)) (G (eP W e))) + (W 2 (e / 2)))))]) (S' := [.int ((nI e) ^^^ 1), .ref 7]) (f' := (up1 f 10 g)) rfl ?_
        refine wq_v (y := (nI (e ^^^ 1))) (nx_xor e 1) ?_
        refine wq_ald (j := (e ^^^ 1)) (n := 32) (v := (nI (eQ W e))) rfl rfl rfl rfl (by omega) (Nat.le_of_ble_eq_true rfl) (lac_x hL (by omega)) ?_
        refine wq_run4 (pc' := 109) (L' := [(0, .ref 2), (3, .int sn), (4, .int (nI k)), (5, .int (nI e)), (6, .int (nI (G (eP W e)))), (7, .int (nI ((lvN (W 3 (e / 2)) (W 4 (e / 2)) (G (eP W e))) + (W 2 (e / 2))))), (8, .int (nI (eQ W e)))]) (S' := [.int (nI (eQ W e)), .ref 10]) (f' := (up1 f 10 g)) rfl ?_
        refine wq_ald (j := (eQ W e)) (n := 10) (v := (dI (G (eQ W e)))) rfl rfl rfl rfl (by omega) (Nat.le_of_ble_eq_true rfl) (hg (eQ W e) (by omega)) ?_
        refine wq_run1 (pc' := 111) (L' := [(0, .ref 2), (3, .int sn), (4, .int (nI k)), (5, .int (nI e)), (6, .int (nI (G (eP W e)))), (7, .int (nI ((lvN (W 3 (e / 2)) (W 4 (e / 2)) (G (eP W e))) + (W 2 (e / 2))))), (8, .int (nI (eQ W e)))]) (S' := [.int (-1), .int (dI (G (eQ W e)))]) (f' := (up1 f 10 g)) rfl ?_
        refine wq_if (c := (dI (G (eQ W e))) = (-1)) (p1 := 129) (L1 := [(0, .ref 2), (3, .int sn), (4, .int (nI k)), (5, .int (nI e)), (6, .int (nI (G (eP W e)))), (7, .int (nI ((lvN (W 3 (e / 2)) (W 4 (e / 2)) (G (eP W e))) + (W 2 (e / 2))))), (8, .int (nI (eQ W e)))]) (S1 := []) (p2 := 114) (L2 := [(0, .ref 2), (3, .int sn), (4, .int (nI k)), (5, .int (nI e)), (6, .int (nI (G (eP W e)))), (7, .int (nI ((lvN (W 3 (e / 2)) (W 4 (e / 2)) (G (eP W e))) + (W 2 (e / 2))))), (8, .int (nI (eQ W e)))]) (S2 := []) rfl (fun c_111 => ?_) (fun c_111 => ?_)
        · have k_111 := dI_0.mp c_111
          refine wq_run4 (pc' := 137) (L' := [(0, .ref 2), (3, .int sn), (4, .int (nI k)), (5, .int (nI e)), (6, .int (nI (G (eP W e)))), (7, .int (nI ((lvN (W 3 (e / 2)) (W 4 (e / 2)) (G (eP W e))) + (W 2 (e / 2))))), (8, .int (nI (eQ W e)))]) (S' := [.int (nI ((lvN (W 3 (e / 2)) (W 4 (e / 2)) (G (eP W e))) + (W 2 (e / 2)))), .int (nI (eQ W e)), .ref 10]) (f' := (up1 f 10 g)) rfl ?_
          refine wq_ist (j := (eQ W e)) (n := 10) rfl rfl rfl rfl (by omega) (Nat.le_of_ble_eq_true rfl) ?_
          refine wq_h (f' := (up1 f 10 (upd g (eQ W e) (nI ((lvN (W 3 (e / 2)) (W 4 (e / 2)) (G (eP W e))) + (W 2 (e / 2))))))) ((up2_up1_eq f 10 g (eQ W e) (nI ((lvN (W 3 (e / 2)) (W 4 (e / 2)) (G (eP W e))) + (W 2 (e / 2))))).trans (congrArg (fun z => up1 f 10 z) (rfl))) ?_
          refine wq_run3 (pc' := 143) (L' := [(0, .ref 2), (3, .int 1), (4, .int (nI k)), (5, .int ((nI e) + 1)), (6, .int (nI (G (eP W e)))), (7, .int (nI ((lvN (W 3 (e / 2)) (W 4 (e / 2)) (G (eP W e))) + (W 2 (e / 2))))), (8, .int (nI (eQ W e)))]) (S' := []) (f' := (up1 f 10 (upd g (eQ W e) (nI ((lvN (W 3 (e / 2)) (W 4 (e / 2)) (G (eP W e))) + (W 2 (e / 2))))))) rfl ?_
          refine wq_L (L' := [(0, .ref 2), (3, .int 1), (4, .int (nI k)), (5, .int (nI (e + 1))), (6, .int (nI (G (eP W e)))), (7, .int (nI ((lvN (W 3 (e / 2)) (W 4 (e / 2)) (G (eP W e))) + (W 2 (e / 2))))), (8, .int (nI (eQ W e)))]) (by rw [show nI e + 1 = nI (e + 1) from nI_add _ _]) ?_
          refine wq_run1 (pc' := 36) (L' := [(0, .ref 2), (3, .int 1), (4, .int (nI k)), (5, .int (nI (e + 1)))]) (S' := []) (f' := (up1 f 10 (upd g (eQ W e) (nI ((lvN (W 3 (e / 2)) (W 4 (e / 2)) (G (eP W e))) + (W 2 (e / 2))))))) rfl ?_
          have hk := hB (eQ W e)
          have hk2 := hB (eP W e)
          exact ih (e + 1) _ (st1 W e G) 1 (by omega) (by rw [hGe]; rfl) (chg_r (N := fun x => dI x) r_64.1 (by omega) (dI_n (by have := hB (eP W e); omega)).symm hg) (fun q => absurd q (by decide)) (by omega)
        · have k_111 : G (eQ W e) < 268435456 := Nat.lt_of_not_le (fun q => c_111 (dI_0.mpr q))
          refine wq_run3 (pc' := 120) (L' := [(0, .ref 2), (3, .int sn), (4, .int (nI k)), (5, .int (nI e)), (6, .int (nI (G (eP W e)))), (7, .int (nI ((lvN (W 3 (e / 2)) (W 4 (e / 2)) (G (eP W e))) + (W 2 (e / 2))))), (8, .int (nI (eQ W e)))]) (S' := [.int (nI (eQ W e)), .ref 10]) (f' := (up1 f 10 g)) rfl ?_
          refine wq_ald (j := (eQ W e)) (n := 10) (v := (nI (G (eQ W e)))) rfl rfl rfl rfl (by omega) (Nat.le_of_ble_eq_true rfl) ((hg _ (by omega)).trans (dI_n k_111)) ?_
          refine wq_run1 (pc' := 123) (L' := [(0, .ref 2), (3, .int sn), (4, .int (nI k)), (5, .int (nI e)), (6, .int (nI (G (eP W e)))), (7, .int (nI ((lvN (W 3 (e / 2)) (W 4 (e / 2)) (G (eP W e))) + (W 2 (e / 2))))), (8, .int (nI (eQ W e)))]) (S' := [.int (nI ((lvN (W 3 (e / 2)) (W 4 (e / 2)) (G (eP W e))) + (W 2 (e / 2)))), .int (nI (G (eQ W e)))]) (f' := (up1 f 10 g)) rfl ?_
          refine wq_if (c := (nI ((lvN (W 3 (e / 2)) (W 4 (e / 2)) (G (eP W e))) + (W 2 (e / 2)))) < (nI (G (eQ W e)))) (p1 := 129) (L1 := [(0, .ref 2), (3, .int sn), (4, .int (nI k)), (5, .int (nI e)), (6, .int (nI (G (eP W e)))), (7, .int (nI ((lvN (W 3 (e / 2)) (W 4 (e / 2)) (G (eP W e))) + (W 2 (e / 2))))), (8, .int (nI (eQ W e)))]) (S1 := []) (p2 := 126) (L2 := [(0, .ref 2), (3, .int sn), (4, .int (nI k)), (5, .int (nI e)), (6, .int (nI (G (eP W e)))), (7, .int (nI ((lvN (W 3 (e / 2)) (W 4 (e / 2)) (G (eP W e))) + (W 2 (e / 2))))), (8, .int (nI (eQ W e)))]) (S2 := []) rfl (fun c_123 => ?_) (fun c_123 => ?_)
          · have k_123 : ((lvN (W 3 (e / 2)) (W 4 (e / 2)) (G (eP W e))) + (W 2 (e / 2))) < (G (eQ W e)) := (nI_ltI (a := ((lvN (W 3 (e / 2)) (W 4 (e / 2)) (G (eP W e))) + (W 2 (e / 2)))) (b := (G (eQ W e))) (by omega) (by omega)).mp c_123
            refine wq_run4 (pc' := 137) (L' := [(0, .ref 2), (3, .int sn), (4, .int (nI k)), (5, .int (nI e)), (6, .int (nI (G (eP W e)))), (7, .int (nI ((lvN (W 3 (e / 2)) (W 4 (e / 2)) (G (eP W e))) + (W 2 (e / 2))))), (8, .int (nI (eQ W e)))]) (S' := [.int (nI ((lvN (W 3 (e / 2)) (W 4 (e / 2)) (G (eP W e))) + (W 2 (e / 2)))), .int (nI (eQ W e)), .ref 10]) (f' := (up1 f 10 g)) rfl ?_
            refine wq_ist (j := (eQ W e)) (n := 10) rfl rfl rfl rfl (by omega) (Nat.le_of_ble_eq_true rfl) ?_
            refine wq_h (f' := (up1 f 10 (upd g (eQ W e) (nI ((lvN (W 3 (e / 2)) (W 4 (e / 2)) (G (eP W e))) + (W 2 (e / 2))))))) ((up2_up1_eq f 10 g (eQ W e) (nI ((lvN (W 3 (e / 2)) (W 4 (e / 2)) (G (eP W e))) + (W 2 (e / 2))))).trans (congrArg (fun z => up1 f 10 z) (rfl))) ?_
            refine wq_run3 (pc' := 143) (L' := [(0, .ref 2), (3, .int 1), (4, .int (nI k)), (5, .int ((nI e) + 1)), (6, .int (nI (G (eP W e)))), (7, .int (nI ((lvN (W 3 (e / 2)) (W 4 (e / 2)) (G (eP W e))) + (W 2 (e / 2))))), (8, .int (nI (eQ W e)))]) (S' := []) (f' := (up1 f 10 (upd g (eQ W e) (nI ((lvN (W 3 (e / 2)) (W 4 (e / 2)) (G (eP W e))) + (W 2 (e / 2))))))) rfl ?_
            refine wq_L (L' := [(0, .ref 2), (3, .int 1), (4, .int (nI k)), (5, .int (nI (e + 1))), (6, .int (nI (G (eP W e)))), (7, .int (nI ((lvN (W 3 (e / 2)) (W 4 (e / 2)) (G (eP W e))) + (W 2 (e / 2))))), (8, .int (nI (eQ W e)))]) (by rw [show nI e + 1 = nI (e + 1) from nI_add _ _]) ?_
            refine wq_run1 (pc' := 36) (L' := [(0, .ref 2), (3, .int 1), (4, .int (nI k)), (5, .int (nI (e + 1)))]) (S' := []) (f' := (up1 f 10 (upd g (eQ W e) (nI ((lvN (W 3 (e / 2)) (W 4 (e / 2)) (G (eP W e))) + (W 2 (e / 2))))))) rfl ?_
            have hk := hB (eQ W e)
            have hk2 := hB (eP W e)
            exact ih (e + 1) _ (st1 W e G) 1 (by omega) (by rw [hGe]; rfl) (chg_r (N := fun x => dI x) r_64.1 (by omega) (dI_n (by have := hB (eP W e); omega)).symm hg) (fun q => absurd q (by decide)) (by omega)
          · have k_123 : ¬ ((lvN (W 3 (e / 2)) (W 4 (e / 2)) (G (eP W e))) + (W 2 (e / 2))) < (G (eQ W e)) := fun q => c_123 ((nI_ltI (a := ((lvN (W 3 (e / 2)) (W 4 (e / 2)) (G (eP W e))) + (W 2 (e / 2)))) (b := (G (eQ W e))) (by omega) (by omega)).mpr q)
            refine wq_run2 (pc' := 143) (L' := [(0, .ref 2), (3, .int sn), (4, .int (nI k)), (5, .int ((nI e) + 1)), (6, .int (nI (G (eP W e)))), (7, .int (nI ((lvN (W 3 (e / 2)) (W 4 (e / 2)) (G (eP W e))) + (W 2 (e / 2))))), (8, .int (nI (eQ W e)))]) (S' := []) (f' := (up1 f 10 g)) rfl ?_
            refine wq_L (L' := [(0, .ref 2), (3, .int sn), (4, .int (nI k)), (5, .int (nI (e + 1))), (6, .int (nI (G (eP W e)))), (7, .int (nI ((lvN (W 3 (e / 2)) (W 4 (e / 2)) (G (eP W e))) + (W 2 (e / 2))))), (8, .int (nI (eQ W e)))]) (by rw [show nI e + 1 = nI (e + 1) from nI_add _ _]) ?_
            refine wq_run1 (pc' := 36) (L' := [(0, .ref 2), (3, .int sn), (4, .int (nI k)), (5, .int (nI (e + 1)))]) (S' := []) (f' := (up1 f 10 g)) rfl ?_
            have hk := hB (eQ W e)
            have hk2 := hB (eP W e)
            exact ih (e + 1) g (st1 W e G) sn (by omega) (by rw [hGe]; rfl) (keep_r (N := fun x => dI x) (by omega) hg) (fun q => (st1_id (by omega)).trans (hs q)) (by omega)
theorem lp_sprOut {f : HI} {W : Nat → Nat → Nat} {w a h : Nat} (hL : LaC f W w) (ha : a < 10) (hh : h ≤ 60000) : ∀ (m9 : Nat) (k : Nat) (g : Nat → Int32) (sn : Int32), (k ≤ 10) → (∀ t, t < 10 → g t = dI ((itN W (2 * w) k (s0N a h)) t)) → (sn = 0 → fdN W (2 * w) (itN W (2 * w) k (s0N a h)) = (itN W (2 * w) k (s0N a h))) → 10 - k < m9 → wq 3 20 (fun v f' => ∃ g, v = none ∧ f' = up1 f 10 g ∧ ∀ t, t < 10 → g t = dI (arN W w a h t)) 20 [(0, .ref 2), (3, .int sn), (4, .int (nI k))] [] (up1 f 10 g) := by
  intro m9
  induction m9 with
  | zero => intro k g sn hk hg hs hn; exact absurd hn (Nat.not_lt_zero _)
  | succ m9 ih =>
    intro k g sn hk hg hs hn
    refine wq_run2 (pc' := 24) (L' := [(0, .ref 2), (3, .int sn), (4, .int (nI k))]) (S' := [.int 10, .int (nI k)]) (f' := (up1 f 10 g)) rfl ?_
    refine wq_if (c := 10 ≤ (nI k)) (p1 := 152) (L1 := [(0, .ref 2), (3, .int sn), (4, .int (nI k))]) (S1 := []) (p2 := 27) (L2 := [(0, .ref 2), (3, .int sn), (4, .int (nI k))]) (S2 := []) rfl (fun c_24 => ?_) (fun c_24 => ?_)
    · have k_24 : 10 ≤ k := (nI_leI (a := 10) (b := k) (by omega) (by omega)).mp c_24
      have e1 : k = 10 := by omega
      rw [e1] at hg
      exact wq_ret rfl ⟨g, rfl, rfl, hg⟩
    · have k_24 : ¬ 10 ≤ k := fun q => c_24 ((nI_leI (a := 10) (b := k) (by omega) (by omega)).mpr q)
      refine wq_run1 (pc' := 28) (L' := [(0, .ref 2), (3, .int sn), (4, .int (nI k))]) (S' := [.int sn]) (f' := (up1 f 10 g)) rfl ?_
      refine wq_if (c := sn = 0) (p1 := 152) (L1 := [(0, .ref 2), (3, .int sn), (4, .int (nI k))]) (S1 := []) (p2 := 31) (L2 := [(0, .ref 2), (3, .int sn), (4, .int (nI k))]) (S2 := []) rfl (fun c_28 => ?_) (fun c_28 => ?_)
      · have e1 := it_10 (by omega) hL.2.2.2.2 ha (by omega) (hs c_28)
        rw [e1] at hg
        exact wq_ret rfl ⟨g, rfl, rfl, hg⟩
      · refine wq_run4 (pc' := 36) (L' := [(0, .ref 2), (3, .int 0), (4, .int (nI k)), (5, .int 0)]) (S' := []) (f' := (up1 f 10 g)) rfl ?_
        exact lp_sprIn hL ha hh (k := k) (G0 := (itN W (2 * w) k (s0N a h))) (c0 := h + 2048 * k) (bd_i hL.2.2.2.2 hL.2.1 bd_0 k (by omega)) (by omega) (by omega) (fun g sn h1 h2 => ih (k + 1) g sn (by omega) h1 (fun q => congrArg (fdN W (2 * w)) (h2 q)) (by omega)) (2 * w - 0 + 1) 0 g (itN W (2 * w) k (s0N a h)) 0 (Nat.zero_le _) rfl hg (fun _ => rfl) (Nat.lt_succ_self _)
theorem sp_spread {f : HI} {W : Nat → Nat → Nat} {w a h : Nat} (hL : LaC f W w) (ha : a < 10) (hh : h ≤ 60000) : Sp 3 20 [.ref 2, .int (nI a), .int (nI h)] f (fun v f' => ∃ g, v = none ∧ f' = up1 f 10 g ∧ ∀ t, t < 10 → g t = dI (arN W w a h t)) := by
  show wq 3 20 (fun v f' => ∃ g, v = none ∧ f' = up1 f 10 g ∧ ∀ t, t < 10 → g t = dI (arN W w a h t)) 0 [(0, .ref 2), (1, .int (nI a)), (2, .int (nI h))] [] f
  refine wq_run3 (pc' := 5) (L' := [(0, .ref 2), (1, .int (nI a)), (2, .int (nI h))]) (S' := [.int (-1), .ref 10]) (f' := f) rfl ?_
  refine wq_callV (g := (up1 f 10 (flN (-1) (f 10) 10))) (jp_fill10 f (-1)) (Nat.le_of_ble_eq_true rfl) (pc' := 8) (L' := [(0, .ref 2), (1, .int (nI a)), (2, .int (nI h))]) (S' := []) rfl (Nat.le_of_ble_eq_true rfl) rfl rfl (Nat.le_of_ble_eq_true rfl) (Nat.le_of_ble_eq_true rfl) ?_
  refine wq_run4 (pc' := 14) (L' := [(0, .ref 2), (1, .int (nI a)), (2, .int (nI h))]) (S' := [.int (nI h), .int (nI a), .ref 10]) (f' := (up1 f 10 (flN (-1) (f 10) 10))) rfl ?_
  refine wq_ist (j := a) (n := 10) rfl rfl rfl rfl (by omega) (Nat.le_of_ble_eq_true rfl) ?_
  refine wq_h (f' := (up1 f 10 (upd (flN (-1) (f 10) 10) a (nI h)))) ((up2_up1_eq f 10 (flN (-1) (f 10) 10) a (nI h)).trans (congrArg (fun z => up1 f 10 z) (rfl))) ?_
  refine wq_run4 (pc' := 20) (L' := [(0, .ref 2), (3, .int 1), (4, .int 0)]) (S' := []) (f' := (up1 f 10 (upd (flN (-1) (f 10) 10) a (nI h)))) rfl ?_
  exact lp_sprOut hL ha hh (10 - 0 + 1) 0 _ 1 (Nat.zero_le _) (init_r (by omega)) (fun q => absurd q (by decide)) (Nat.lt_succ_self _)
theorem sp_arrival {f : HI} {W : Nat → Nat → Nat} {w a b h : Nat} (hL : LaC f W w) (ha : a < 10) (hb : b < 10) (hh : h ≤ 60000) : Sp 4 16 [.ref 2, .int (nI a), .int (nI b), .int (nI h)] f (fun v f' => ∃ g, v = some (.int (dI (arN W w a h b))) ∧ f' = up1 f 10 g) := by
  show wq 4 16 (fun v f' => ∃ g, v = some (.int (dI (arN W w a h b))) ∧ f' = up1 f 10 g) 0 [(0, .ref 2), (1, .int (nI a)), (2, .int (nI b)), (3, .int (nI h))] [] f
  refine wq_run3 (pc' := 3) (L' := [(0, .ref 2), (1, .int (nI a)), (2, .int (nI b)), (3, .int (nI h))]) (S' := [.int (nI h), .int (nI a), .ref 2]) (f' := f) rfl ?_
  refine wq_call (sp_spread (f := f) (a := a) (h := h) hL (by omega) (by omega)) (Nat.le_of_ble_eq_true rfl) (pc' := 6) (L' := [(0, .ref 2), (1, .int (nI a)), (2, .int (nI b)), (3, .int (nI h))]) (S' := []) rfl (Nat.le_of_ble_eq_true rfl) rfl rfl (Nat.le_of_ble_eq_true rfl) (Nat.le_of_ble_eq_true rfl) ?_
  rintro v f9 ⟨g, e0, ef, hg⟩
  subst e0
  subst ef
  refine wq_run3 (pc' := 11) (L' := [(0, .ref 2), (1, .int (nI a)), (2, .int (nI b)), (3, .int (nI h))]) (S' := [.int (nI b), .ref 10]) (f' := (up1 f 10 g)) rfl ?_
  refine wq_ald (j := b) (n := 10) (v := (dI (arN W w a h b))) rfl rfl rfl rfl (by omega) (Nat.le_of_ble_eq_true rfl) (hg b hb) ?_
  exact wq_ret rfl ⟨g, rfl, rfl⟩
