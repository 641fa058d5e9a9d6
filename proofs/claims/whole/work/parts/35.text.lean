/-! the text: tokens, words, numbers, both sides -/
section P35
variable {d mid : Nat} {Q : Option Value → HI → Prop} {pc pc' : Nat} {L L' : IL} {S S' : List Value} {f f' : HI}
theorem wq_putIk {a ci k0 : Nat} {v : Int32} {ks : List Nat} (e1 : fetch mid pc = oKp ks (oPutI ci k0 pc')) (e2 : isO (K0, f) a ci = true) (hk : kpl L ks = L') (k : wq (d + 1) mid Q pc' L' S (up2 f a k0 v)) : wq (d + 1) mid Q pc L (.int v :: .ref a :: S) f := by
  refine wp_next (st := (pc, L, .int v :: .ref a :: S)) ?_ k
  rw [show (pc, L, Value.int v :: Value.ref a :: S).1 = pc from rfl, e1]
  unfold oKp oPutI
  dsimp only
  rw [e2]
  dsimp only
  rw [hk]
def wc (k j : Nat) : Int32 := (strB.getD k []).getD j 0
theorem wq_strB {k j : Nat} {x : Int32} (e1 : fetch mid pc = oStrB pc') (hk : k < 7) (hx : x = nI j) (hj : j < strN.getD k 0) (kk : wq (d + 1) mid Q pc' L (.int (wc k j) :: S) f) : wq (d + 1) mid Q pc L (.int x :: .ref (3000000 + k) :: S) f := by
  refine wp_next (st := (pc, L, .int x :: .ref (3000000 + k) :: S)) ?_ kk
  rw [show (pc, L, Value.int x :: Value.ref (3000000 + k) :: S).1 = pc from rfl, e1]
  have hs : strN.getD k 0 < 100 := (by decide +kernel : ∀ k, k < 7 → strN.getD k 0 < 100) k hk
  unfold oStrB
  dsimp only
  have hc : 3000000 ≤ 3000000 + k ∧ 3000000 + k < 3000007 := ⟨Nat.le_add_right _ _, by omega⟩
  rw [if_pos hc, show 3000000 + k - 3000000 = k by omega, hx, if_neg (nI_in hj (by omega)), nI_clamp (by omega)]
  rfl
theorem wq_ifk {c : Prop} [Decidable c] {o : IOp} {ks : List Nat} {p1 p2 : Nat} {L1 L2 : IL} {S1 : List Value} (e1 : fetch mid pc = oKp ks o) (e : o X2 (pc, L, S) (K0, f) = if c then nxt (p1, L1, S1) (K0, f) else nxt (p2, L1, S1) (K0, f)) (hk : kpl L1 ks = L2) (h1 : c → wq (d + 1) mid Q p1 L2 S1 f) (h2 : ¬ c → wq (d + 1) mid Q p2 L2 S1 f) : wq (d + 1) mid Q pc L S f := by
  refine wq_if (c := c) (p1 := p1) (L1 := L2) (S1 := S1) (p2 := p2) (L2 := L2) (S2 := S1) ?_ h1 h2
  rw [e1]
  unfold oKp
  rw [e]
  by_cases q : c
  · rw [if_pos q, if_pos q, ← hk]
  · rw [if_neg q, if_neg q, ← hk]
theorem wq_tabL {k0 j : Nat} {x v : Int32} (e1 : fetch mid pc = oTabL k0 pc') (hx : x = nI j) (hj : j < tabN.getD k0 0 ∧ tabN.getD k0 0 < 100) (hv : (tabB.getD k0 []).getD j 0 = v) (kk : wq (d + 1) mid Q pc' L (.int v :: S) f) : wq (d + 1) mid Q pc L (.int x :: .ref (4000000 + k0) :: S) f := by
  refine wp_next (st := (pc, L, .int x :: .ref (4000000 + k0) :: S)) ?_ kk
  rw [show (pc, L, Value.int x :: Value.ref (4000000 + k0) :: S).1 = pc from rfl, e1]
  unfold oTabL
  dsimp only
  rw [if_pos rfl, hx, if_neg (nI_in hj.1 (by omega)), nI_clamp (by omega), hv]
theorem wq_retC {x : Int32} (e1 : fetch mid pc = oRetC) (hx : (x.toUInt32 % 65536).toInt32 = x) (q : Q (some (.int x)) f) : wq (d + 1) mid Q pc L [.int x] f := by
  refine wq_ret ?_ q
  rw [e1]
  unfold oRetC
  dsimp only
  rw [if_pos hx]
end P35
def rnF (q : Nat → Bool) : Nat → Nat → Nat
  | 0, p => p
  | k + 1, p => if q p = true then rnF q k (p + 1) else p
/-- the first place from p on at which q fails, n at most -/
def rnT (q : Nat → Bool) (n p : Nat) : Nat := rnF q (n - p) p
theorem rn_s {q : Nat → Bool} {n p : Nat} (h : p < n) (c : q p = true) : rnT q n p = rnT q n (p + 1) := by
  unfold rnT
  rw [show n - p = (n - (p + 1)) + 1 by omega]
  exact if_pos c
theorem rn_e {q : Nat → Bool} {n p : Nat} (c : q p = false) : rnT q n p = p := by
  unfold rnT
  cases n - p with
  | zero => rfl
  | succ k => exact if_neg (by rw [c]; decide)
theorem rn_n {q : Nat → Bool} {n p : Nat} (h : n ≤ p) : rnT q n p = p := by
  unfold rnT
  rw [show n - p = 0 by omega]
  rfl
theorem rnF_b {q : Nat → Bool} : ∀ (k p : Nat), p ≤ rnF q k p ∧ rnF q k p ≤ p + k := by
  intro k
  induction k with
  | zero => intro p; exact ⟨Nat.le_refl _, Nat.le_refl _⟩
  | succ k ih =>
    intro p
    unfold rnF
    split
    · have := ih (p + 1); omega
    · omega
theorem rn_b {q : Nat → Bool} {n p : Nat} (h : p ≤ n) : p ≤ rnT q n p ∧ rnT q n p ≤ n := by
  have := rnF_b (q := q) (n - p) p
  unfold rnT
  omega
def srt (c : Int32) : Nat := if 97 ≤ c ∧ c ≤ 122 then 0 else if 48 ≤ c ∧ c ≤ 57 then 1 else 2
def smI (k : Nat) : Int32 := if k = 0 then 1 else if k = 1 then 2 else 0
theorem srt_3 (c : Int32) : srt c < 3 := by
  unfold srt
  split
  · decide
  · split <;> decide
theorem smI_e {a b : Nat} (ha : a < 3) (hb : b < 3) : smI a = smI b ↔ a = b := by
  match a, b, ha, hb with
  | 0, 0, _, _ => decide
  | 0, 1, _, _ => decide
  | 0, 2, _, _ => decide
  | 1, 0, _, _ => decide
  | 1, 1, _, _ => decide
  | 1, 2, _, _ => decide
  | 2, 0, _, _ => decide
  | 2, 1, _, _ => decide
  | 2, 2, _, _ => decide
theorem smI_0 {a : Nat} (ha : a < 3) : smI a ≤ 0 ↔ a = 2 := by
  match a, ha with
  | 0, _ => decide
  | 1, _ => decide
  | 2, _ => decide
def blk (T : Nat → Int32) (i : Nat) : Bool := decide (T i = 32)
def sam (T : Nat → Int32) (k i : Nat) : Bool := decide (srt (T i) = k)
def tkS (T : Nat → Int32) (n p : Nat) : Nat := rnT (blk T) n p
def tkE (T : Nat → Int32) (n p : Nat) : Nat := if tkS T n p < n then (if srt (T (tkS T n p)) = 2 then tkS T n p + 1 else rnT (sam T (srt (T (tkS T n p)))) n (tkS T n p + 1)) else tkS T n p
theorem tk_b {T : Nat → Int32} {n p : Nat} (h : p ≤ n) : p ≤ tkS T n p ∧ tkS T n p ≤ tkE T n p ∧ tkE T n p ≤ n ∧ (tkS T n p < n → tkS T n p < tkE T n p) := by
  have h1 := rn_b (q := blk T) h
  have h2 : tkS T n p = rnT (blk T) n p := rfl
  unfold tkE
  by_cases c : tkS T n p < n
  · rw [if_pos c]
    by_cases c2 : srt (T (tkS T n p)) = 2
    · rw [if_pos c2]; omega
    · rw [if_neg c2]
      have h3 := rn_b (q := sam T (srt (T (tkS T n p)))) (n := n) (p := tkS T n p + 1) (by omega)
      omega
  · rw [if_neg c]; omega
abbrev TX (g : Nat → Int32) (n s e c : Nat) : Prop := g 1 = nI n ∧ g 2 = nI s ∧ g 3 = nI e ∧ g 7 = nI c
abbrev TY (g : Nat → Int32) (n a s e : Nat) : Prop := g 10 = nI n ∧ g 65 = nI a ∧ g 66 = nI s ∧ g 67 = nI e
theorem sp_sortOf (f : HI) (c : Int32) : Sp 1 69 [.int c] f (Ret (nI (srt c)) f) := by
  show wq 1 69 (Ret (nI (srt c)) f) 0 [(0, .int c)] [] f
  refine wq_run2 (pc' := 3) (L' := [(0, .int c)]) (S' := [.int 97, .int c]) (f' := f) rfl ?_
  refine wq_if (c := c < 97) (p1 := 14) (L1 := [(0, .int c)]) (S1 := []) (p2 := 6) (L2 := [(0, .int c)]) (S2 := []) rfl (fun c_3 => ?_) (fun c_3 => ?_)
  · refine wq_run2 (pc' := 17) (L' := [(0, .int c)]) (S' := [.int 48, .int c]) (f' := f) rfl ?_
    refine wq_if (c := c < 48) (p1 := 30) (L1 := [(0, .int c)]) (S1 := []) (p2 := 20) (L2 := [(0, .int c)]) (S2 := []) rfl (fun c_17 => ?_) (fun c_17 => ?_)
    · refine wq_run1 (pc' := 31) (L' := [(0, .int c)]) (S' := [.int 2]) (f' := f) rfl ?_
      exact wq_ret rfl (Ret.of (by unfold srt; rw [if_neg (fun q => absurd q.1 (Int32.not_le.mpr c_3)), if_neg (fun q => absurd q.1 (Int32.not_le.mpr c_17))]; rfl) rfl)
    · refine wq_run2 (pc' := 23) (L' := [(0, .int c)]) (S' := [.int 57, .int c]) (f' := f) rfl ?_
      refine wq_if (c := 57 < c) (p1 := 30) (L1 := [(0, .int c)]) (S1 := []) (p2 := 26) (L2 := [(0, .int c)]) (S2 := []) rfl (fun c_23 => ?_) (fun c_23 => ?_)
      · refine wq_run1 (pc' := 31) (L' := [(0, .int c)]) (S' := [.int 2]) (f' := f) rfl ?_
        exact wq_ret rfl (Ret.of (by unfold srt; rw [if_neg (fun q => absurd q.1 (Int32.not_le.mpr c_3)), if_neg (fun q => absurd q.2 (Int32.not_le.mpr c_23))]; rfl) rfl)
      · refine wq_run2 (pc' := 31) (L' := [(0, .int c)]) (S' := [.int 1]) (f' := f) rfl ?_
        exact wq_ret rfl (Ret.of (by unfold srt; rw [if_neg (fun q => absurd q.1 (Int32.not_le.mpr c_3)), if_pos ⟨Int32.not_lt.mp c_17, Int32.not_lt.mp c_23⟩]; rfl) rfl)
  · refine wq_run2 (pc' := 9) (L' := [(0, .int c)]) (S' := [.int 122, .int c]) (f' := f) rfl ?_
    refine wq_if (c := 122 < c) (p1 := 14) (L1 := [(0, .int c)]) (S1 := []) (p2 := 12) (L2 := [(0, .int c)]) (S2 := []) rfl (fun c_9 => ?_) (fun c_9 => ?_)
    · refine wq_run2 (pc' := 17) (L' := [(0, .int c)]) (S' := [.int 48, .int c]) (f' := f) rfl ?_
      refine wq_if (c := c < 48) (p1 := 30) (L1 := [(0, .int c)]) (S1 := []) (p2 := 20) (L2 := [(0, .int c)]) (S2 := []) rfl (fun c_17 => ?_) (fun c_17 => ?_)
      · refine wq_run1 (pc' := 31) (L' := [(0, .int c)]) (S' := [.int 2]) (f' := f) rfl ?_
        exact wq_ret rfl (Ret.of (by unfold srt; rw [if_neg (fun q => absurd q.2 (Int32.not_le.mpr c_9)), if_neg (fun q => absurd q.1 (Int32.not_le.mpr c_17))]; rfl) rfl)
      · refine wq_run2 (pc' := 23) (L' := [(0, .int c)]) (S' := [.int 57, .int c]) (f' := f) rfl ?_
        refine wq_if (c := 57 < c) (p1 := 30) (L1 := [(0, .int c)]) (S1 := []) (p2 := 26) (L2 := [(0, .int c)]) (S2 := []) rfl (fun c_23 => ?_) (fun c_23 => ?_)
        · refine wq_run1 (pc' := 31) (L' := [(0, .int c)]) (S' := [.int 2]) (f' := f) rfl ?_
          exact wq_ret rfl (Ret.of (by unfold srt; rw [if_neg (fun q => absurd q.2 (Int32.not_le.mpr c_9)), if_neg (fun q => absurd q.2 (Int32.not_le.mpr c_23))]; rfl) rfl)
        · refine wq_run2 (pc' := 31) (L' := [(0, .int c)]) (S' := [.int 1]) (f' := f) rfl ?_
          exact wq_ret rfl (Ret.of (by unfold srt; rw [if_neg (fun q => absurd q.2 (Int32.not_le.mpr c_9)), if_pos ⟨Int32.not_lt.mp c_17, Int32.not_lt.mp c_23⟩]; rfl) rfl)
    · refine wq_run1 (pc' := 13) (L' := [(0, .int c)]) (S' := [.int 0]) (f' := f) rfl ?_
      exact wq_ret rfl (Ret.of (by unfold srt; rw [if_pos ⟨Int32.not_lt.mp c_3, Int32.not_lt.mp c_9⟩]; rfl) rfl)
theorem mp_sort (f : HI) (c : Int32) : Sp 1 145 [.int c] f (Ret (smI (srt c)) f) := by
  show wq 1 145 (Ret (smI (srt c)) f) 0 [(0, .int c)] [] f
  refine wq_run2 (pc' := 3) (L' := [(0, .int c)]) (S' := [.int 97, .int c]) (f' := f) rfl ?_
  refine wq_if (c := c < 97) (p1 := 16) (L1 := [(0, .int c)]) (S1 := []) (p2 := 6) (L2 := [(0, .int c)]) (S2 := []) rfl (fun c_3 => ?_) (fun c_3 => ?_)
  · refine wq_run2 (pc' := 19) (L' := [(0, .int c)]) (S' := [.int 48, .int c]) (f' := f) rfl ?_
    refine wq_if (c := c < 48) (p1 := 32) (L1 := [(0, .int c)]) (S1 := []) (p2 := 22) (L2 := [(0, .int c)]) (S2 := []) rfl (fun c_19 => ?_) (fun c_19 => ?_)
    · refine wq_run1 (pc' := 33) (L' := [(0, .int c)]) (S' := [.int 0]) (f' := f) rfl ?_
      exact wq_ret rfl (Ret.of (by unfold srt; rw [if_neg (fun q => absurd q.1 (Int32.not_le.mpr c_3)), if_neg (fun q => absurd q.1 (Int32.not_le.mpr c_19))]; rfl) rfl)
    · refine wq_run2 (pc' := 25) (L' := [(0, .int c)]) (S' := [.int 57, .int c]) (f' := f) rfl ?_
      refine wq_if (c := 57 < c) (p1 := 32) (L1 := [(0, .int c)]) (S1 := []) (p2 := 28) (L2 := [(0, .int c)]) (S2 := []) rfl (fun c_25 => ?_) (fun c_25 => ?_)
      · refine wq_run1 (pc' := 33) (L' := [(0, .int c)]) (S' := [.int 0]) (f' := f) rfl ?_
        exact wq_ret rfl (Ret.of (by unfold srt; rw [if_neg (fun q => absurd q.1 (Int32.not_le.mpr c_3)), if_neg (fun q => absurd q.2 (Int32.not_le.mpr c_25))]; rfl) rfl)
      · refine wq_run2 (pc' := 33) (L' := [(0, .int c)]) (S' := [.int 2]) (f' := f) rfl ?_
        exact wq_ret rfl (Ret.of (by unfold srt; rw [if_neg (fun q => absurd q.1 (Int32.not_le.mpr c_3)), if_pos ⟨Int32.not_lt.mp c_19, Int32.not_lt.mp c_25⟩]; rfl) rfl)
  · refine wq_run2 (pc' := 9) (L' := [(0, .int c)]) (S' := [.int 122, .int c]) (f' := f) rfl ?_
    refine wq_if (c := 122 < c) (p1 := 16) (L1 := [(0, .int c)]) (S1 := []) (p2 := 12) (L2 := [(0, .int c)]) (S2 := []) rfl (fun c_9 => ?_) (fun c_9 => ?_)
    · refine wq_run2 (pc' := 19) (L' := [(0, .int c)]) (S' := [.int 48, .int c]) (f' := f) rfl ?_
      refine wq_if (c := c < 48) (p1 := 32) (L1 := [(0, .int c)]) (S1 := []) (p2 := 22) (L2 := [(0, .int c)]) (S2 := []) rfl (fun c_19 => ?_) (fun c_19 => ?_)
      · refine wq_run1 (pc' := 33) (L' := [(0, .int c)]) (S' := [.int 0]) (f' := f) rfl ?_
        exact wq_ret rfl (Ret.of (by unfold srt; rw [if_neg (fun q => absurd q.2 (Int32.not_le.mpr c_9)), if_neg (fun q => absurd q.1 (Int32.not_le.mpr c_19))]; rfl) rfl)
      · refine wq_run2 (pc' := 25) (L' := [(0, .int c)]) (S' := [.int 57, .int c]) (f' := f) rfl ?_
        refine wq_if (c := 57 < c) (p1 := 32) (L1 := [(0, .int c)]) (S1 := []) (p2 := 28) (L2 := [(0, .int c)]) (S2 := []) rfl (fun c_25 => ?_) (fun c_25 => ?_)
        · refine wq_run1 (pc' := 33) (L' := [(0, .int c)]) (S' := [.int 0]) (f' := f) rfl ?_
          exact wq_ret rfl (Ret.of (by unfold srt; rw [if_neg (fun q => absurd q.2 (Int32.not_le.mpr c_9)), if_neg (fun q => absurd q.2 (Int32.not_le.mpr c_25))]; rfl) rfl)
        · refine wq_run2 (pc' := 33) (L' := [(0, .int c)]) (S' := [.int 2]) (f' := f) rfl ?_
          exact wq_ret rfl (Ret.of (by unfold srt; rw [if_neg (fun q => absurd q.2 (Int32.not_le.mpr c_9)), if_pos ⟨Int32.not_lt.mp c_19, Int32.not_lt.mp c_25⟩]; rfl) rfl)
    · refine wq_run2 (pc' := 33) (L' := [(0, .int c)]) (S' := [.int 1]) (f' := f) rfl ?_
      exact wq_ret rfl (Ret.of (by unfold srt; rw [if_pos ⟨Int32.not_lt.mp c_3, Int32.not_lt.mp c_9⟩]; rfl) rfl)
theorem ex_TX {f : HI} {g : Nat → Int32} {n s e s2 e2 c : Nat} (h : TX g n s e c) (h1 : s = s2) (h2 : e = e2) : ∃ g', (none : Option Value) = none ∧ up1 f 11 g = up1 f 11 g' ∧ TX g' n s2 e2 c := by
  rw [h1, h2] at h
  exact ⟨g, rfl, rfl, h⟩
theorem lp_tok2 {f : HI} {T : Nat → Int32} {n c : Nat} (hn1 : n ≤ 160) (hT : ∀ j, j < n → f 12 j = T j) {p s : Nat} (hs : s < n) (hsT : s = tkS T n p) (h2 : ¬ srt (T s) = 2) : ∀ (m9 : Nat) (e : Nat) (g : Nat → Int32), (e ≤ n) → (TX g n s e c) → (rnT (sam T (srt (T s))) n e = tkE T n p) → n - e < m9 → wq 2 68 (fun v f' => ∃ g', v = none ∧ f' = up1 f 11 g' ∧ TX g' n (tkS T n p) (tkE T n p) c) 95 [(0, .ref 11), (1, .int (nI (srt (T s))))] [] (up1 f 11 g) := by
  intro m9
  induction m9 with
  | zero => intro e g he hx hE hn; exact absurd hn (Nat.not_lt_zero _)
  | succ m9 ih =>
    intro e g he hx hE hn
    have h3 := srt_3 (T s)
    have h4 := srt_3 (T e)
    refine wq_run2 (pc' := 99) (L' := [(0, .ref 11), (1, .int (nI (srt (T s))))]) (S' := [.int (g 3)]) (f' := (up1 f 11 g)) rfl ?_
    refine wq_v (y := (nI e)) (hx.2.2.1) ?_
    refine wq_run2 (pc' := 103) (L' := [(0, .ref 11), (1, .int (nI (srt (T s))))]) (S' := [.int (g 1), .int (nI e)]) (f' := (up1 f 11 g)) rfl ?_
    refine wq_v (y := (nI n)) (hx.1) ?_
    refine wq_if (c := (nI n) ≤ (nI e)) (p1 := 135) (L1 := [(0, .ref 11), (1, .int (nI (srt (T s))))]) (S1 := []) (p2 := 106) (L2 := [(0, .ref 11), (1, .int (nI (srt (T s))))]) (S2 := []) rfl (fun c_103 => ?_) (fun c_103 => ?_)
    · have k_103 : n ≤ e := (nI_leI (a := n) (b := e) (by omega) (by omega)).mp c_103
      exact wq_ret rfl (ex_TX hx hsT (by rw [← hE]; exact (rn_n (by omega)).symm))
    · have k_103 : ¬ n ≤ e := fun q => c_103 ((nI_leI (a := n) (b := e) (by omega) (by omega)).mpr q)
      refine wq_run4 (pc' := 114) (L' := [(0, .ref 11), (1, .int (nI (srt (T s))))]) (S' := [.int (g 3), .ref 12]) (f' := (up1 f 11 g)) rfl ?_
      refine wq_v (y := (nI e)) (hx.2.2.1) ?_
      refine wq_ald (j := e) (n := 160) (v := (T e)) rfl rfl rfl rfl (by omega) (Nat.le_of_ble_eq_true rfl) (hT e (by omega)) ?_
      refine wq_callI (r := (nI (srt (T e)))) (sp_sortOf (up1 f 11 g) (T e)) (Nat.le_of_ble_eq_true rfl) (pc' := 118) (L' := [(0, .ref 11), (1, .int (nI (srt (T s))))]) (S' := []) rfl (Nat.le_of_ble_eq_true rfl) rfl rfl (Nat.le_of_ble_eq_true rfl) (Nat.le_of_ble_eq_true rfl) ?_
      refine wq_run1 (pc' := 119) (L' := [(0, .ref 11), (1, .int (nI (srt (T s))))]) (S' := [.int (nI (srt (T s))), .int (nI (srt (T e)))]) (f' := (up1 f 11 g)) rfl ?_
      refine wq_if (c := (nI (srt (T e))) = (nI (srt (T s)))) (p1 := 122) (L1 := [(0, .ref 11), (1, .int (nI (srt (T s))))]) (S1 := []) (p2 := 135) (L2 := [(0, .ref 11), (1, .int (nI (srt (T s))))]) (S2 := []) rfl (fun c_119 => ?_) (fun c_119 => ?_)
      · have k_119 : (srt (T e)) = (srt (T s)) := (nI_eq (a := (srt (T e))) (b := (srt (T s))) (by omega) (by omega)).mp c_119
        refine wq_run3 (pc' := 127) (L' := [(0, .ref 11), (1, .int (nI (srt (T s))))]) (S' := [.int (g 3), .ref 11]) (f' := (up1 f 11 g)) rfl ?_
        refine wq_v (y := (nI e)) (hx.2.2.1) ?_
        refine wq_run2 (pc' := 129) (L' := [(0, .ref 11), (1, .int (nI (srt (T s))))]) (S' := [.int ((nI e) + 1), .ref 11]) (f' := (up1 f 11 g)) rfl ?_
        refine wq_v (y := (nI (e + 1))) (nI_add e 1) ?_
        refine wq_putI rfl rfl ?_
        refine wq_h (f' := (up1 f 11 (upd g 3 (nI (e + 1))))) ((up2_up1_eq f 11 g 3 (nI (e + 1))).trans (congrArg (fun z => up1 f 11 z) (rfl))) ?_
        refine wq_run1 (pc' := 95) (L' := [(0, .ref 11), (1, .int (nI (srt (T s))))]) (S' := []) (f' := (up1 f 11 (upd g 3 (nI (e + 1))))) rfl ?_
        exact ih (e + 1) _ (by omega) ⟨hx.1, hx.2.1, rfl, hx.2.2.2⟩ (by rw [← hE]; exact (rn_s (by omega) (decide_eq_true k_119)).symm) (by omega)
      · have k_119 : ¬ (srt (T e)) = (srt (T s)) := fun q => c_119 ((nI_eq (a := (srt (T e))) (b := (srt (T s))) (by omega) (by omega)).mpr q)
        exact wq_ret rfl (ex_TX hx hsT (by rw [← hE]; exact (rn_e (decide_eq_false k_119)).symm))
theorem lp_tok1 {f : HI} {T : Nat → Int32} {n c : Nat} (hn1 : n ≤ 160) (hT : ∀ j, j < n → f 12 j = T j) {p e : Nat} : ∀ (m9 : Nat) (s : Nat) (g : Nat → Int32), (s ≤ n) → (TX g n s e c) → (rnT (blk T) n s = tkS T n p) → n - s < m9 → wq 2 68 (fun v f' => ∃ g', v = none ∧ f' = up1 f 11 g' ∧ TX g' n (tkS T n p) (tkE T n p) c) 8 [(0, .ref 11)] [] (up1 f 11 g) := by
  intro m9
  induction m9 with
  | zero => intro s g hs hx hS hn; exact absurd hn (Nat.not_lt_zero _)
  | succ m9 ih =>
    intro s g hs hx hS hn
    have h3 := srt_3 (T s)
    refine wq_run2 (pc' := 12) (L' := [(0, .ref 11)]) (S' := [.int (g 2)]) (f' := (up1 f 11 g)) rfl ?_
    refine wq_v (y := (nI s)) (hx.2.1) ?_
    refine wq_run2 (pc' := 16) (L' := [(0, .ref 11)]) (S' := [.int (g 1), .int (nI s)]) (f' := (up1 f 11 g)) rfl ?_
    refine wq_v (y := (nI n)) (hx.1) ?_
    refine wq_if (c := (nI n) ≤ (nI s)) (p1 := 46) (L1 := [(0, .ref 11)]) (S1 := []) (p2 := 19) (L2 := [(0, .ref 11)]) (S2 := []) rfl (fun c_16 => ?_) (fun c_16 => ?_)
    · have k_16 : n ≤ s := (nI_leI (a := n) (b := s) (by omega) (by omega)).mp c_16
      have hsT : s = tkS T n p := by rw [← hS]; exact (rn_n (by omega)).symm
      refine wq_run3 (pc' := 51) (L' := [(0, .ref 11)]) (S' := [.int (g 2), .ref 11]) (f' := (up1 f 11 g)) rfl ?_
      refine wq_v (y := (nI s)) (hx.2.1) ?_
      refine wq_putI rfl rfl ?_
      refine wq_h (f' := (up1 f 11 (upd g 3 (nI s)))) ((up2_up1_eq f 11 g 3 (nI s)).trans (congrArg (fun z => up1 f 11 z) (rfl))) ?_
      refine wq_run2 (pc' := 58) (L' := [(0, .ref 11)]) (S' := [.int (g 2)]) (f' := (up1 f 11 (upd g 3 (nI s)))) rfl ?_
      refine wq_v (y := (nI s)) (hx.2.1) ?_
      refine wq_run2 (pc' := 62) (L' := [(0, .ref 11)]) (S' := [.int (g 1), .int (nI s)]) (f' := (up1 f 11 (upd g 3 (nI s)))) rfl ?_
      refine wq_v (y := (nI n)) (hx.1) ?_
      refine wq_if (c := (nI s) < (nI n)) (p1 := 66) (L1 := [(0, .ref 11)]) (S1 := []) (p2 := 65) (L2 := [(0, .ref 11)]) (S2 := []) rfl (fun q => absurd q (fun q => absurd ((nI_ltI (a := s) (b := n) (by omega) (by omega)).mp q) (by omega))) (fun _ => ?_)
      exact wq_ret rfl (ex_TX (e := s) ⟨hx.1, hx.2.1, rfl, hx.2.2.2⟩ hsT (by unfold tkE; rw [← hsT, if_neg (by omega)]))
    · have k_16 : ¬ n ≤ s := fun q => c_16 ((nI_leI (a := n) (b := s) (by omega) (by omega)).mpr q)
      refine wq_run4 (pc' := 27) (L' := [(0, .ref 11)]) (S' := [.int (g 2), .ref 12]) (f' := (up1 f 11 g)) rfl ?_
      refine wq_v (y := (nI s)) (hx.2.1) ?_
      refine wq_ald (j := s) (n := 160) (v := (T s)) rfl rfl rfl rfl (by omega) (Nat.le_of_ble_eq_true rfl) (hT s (by omega)) ?_
      refine wq_run1 (pc' := 30) (L' := [(0, .ref 11)]) (S' := [.int 32, .int (T s)]) (f' := (up1 f 11 g)) rfl ?_
      refine wq_if (c := (T s) = 32) (p1 := 33) (L1 := [(0, .ref 11)]) (S1 := []) (p2 := 46) (L2 := [(0, .ref 11)]) (S2 := []) rfl (fun c_30 => ?_) (fun c_30 => ?_)
      · refine wq_run3 (pc' := 38) (L' := [(0, .ref 11)]) (S' := [.int (g 2), .ref 11]) (f' := (up1 f 11 g)) rfl ?_
        refine wq_v (y := (nI s)) (hx.2.1) ?_
        refine wq_run2 (pc' := 40) (L' := [(0, .ref 11)]) (S' := [.int ((nI s) + 1), .ref 11]) (f' := (up1 f 11 g)) rfl ?_
        refine wq_v (y := (nI (s + 1))) (nI_add s 1) ?_
        refine wq_putI rfl rfl ?_
        refine wq_h (f' := (up1 f 11 (upd g 2 (nI (s + 1))))) ((up2_up1_eq f 11 g 2 (nI (s + 1))).trans (congrArg (fun z => up1 f 11 z) (rfl))) ?_
        refine wq_run1 (pc' := 8) (L' := [(0, .ref 11)]) (S' := []) (f' := (up1 f 11 (upd g 2 (nI (s + 1))))) rfl ?_
        exact ih (s + 1) _ (by omega) ⟨hx.1, rfl, hx.2.2.1, hx.2.2.2⟩ (by rw [← hS]; exact (rn_s (by omega) (decide_eq_true c_30)).symm) (by omega)
      · have hsT : s = tkS T n p := by rw [← hS]; exact (rn_e (decide_eq_false c_30)).symm
        refine wq_run3 (pc' := 51) (L' := [(0, .ref 11)]) (S' := [.int (g 2), .ref 11]) (f' := (up1 f 11 g)) rfl ?_
        refine wq_v (y := (nI s)) (hx.2.1) ?_
        refine wq_putI rfl rfl ?_
        refine wq_h (f' := (up1 f 11 (upd g 3 (nI s)))) ((up2_up1_eq f 11 g 3 (nI s)).trans (congrArg (fun z => up1 f 11 z) (rfl))) ?_
        refine wq_run2 (pc' := 58) (L' := [(0, .ref 11)]) (S' := [.int (g 2)]) (f' := (up1 f 11 (upd g 3 (nI s)))) rfl ?_
        refine wq_v (y := (nI s)) (hx.2.1) ?_
        refine wq_run2 (pc' := 62) (L' := [(0, .ref 11)]) (S' := [.int (g 1), .int (nI s)]) (f' := (up1 f 11 (upd g 3 (nI s)))) rfl ?_
        refine wq_v (y := (nI n)) (hx.1) ?_
        refine wq_if (c := (nI s) < (nI n)) (p1 := 66) (L1 := [(0, .ref 11)]) (S1 := []) (p2 := 65) (L2 := [(0, .ref 11)]) (S2 := []) rfl (fun _ => ?_) (fun q => absurd ((nI_ltI (a := s) (b := n) (by omega) (by omega)).mpr (by omega)) q)
        refine wq_run4 (pc' := 74) (L' := [(0, .ref 11)]) (S' := [.int (g 2), .ref 12]) (f' := (up1 f 11 (upd g 3 (nI s)))) rfl ?_
        refine wq_v (y := (nI s)) (hx.2.1) ?_
        refine wq_ald (j := s) (n := 160) (v := (T s)) rfl rfl rfl rfl (by omega) (Nat.le_of_ble_eq_true rfl) (hT s (by omega)) ?_
        refine wq_callI (r := (nI (srt (T s)))) (sp_sortOf (up1 f 11 (upd g 3 (nI s))) (T s)) (Nat.le_of_ble_eq_true rfl) (pc' := 78) (L' := [(0, .ref 11)]) (S' := []) rfl (Nat.le_of_ble_eq_true rfl) rfl rfl (Nat.le_of_ble_eq_true rfl) (Nat.le_of_ble_eq_true rfl) ?_
        refine wq_run6 (pc' := 86) (L' := [(0, .ref 11), (1, .int (nI (srt (T s))))]) (S' := [.int ((nI s) + 1), .ref 11]) (f' := (up1 f 11 (upd g 3 (nI s)))) rfl ?_
        refine wq_v (y := (nI (s + 1))) (nI_add s 1) ?_
        refine wq_putI rfl rfl ?_
        refine wq_h (f' := (up1 f 11 (upd g 3 (nI (s + 1))))) ((up2_up1_eq f 11 (upd g 3 (nI s)) 3 (nI (s + 1))).trans (congrArg (fun z => up1 f 11 z) (upd_upd g 3 (nI s) (nI (s + 1))))) ?_
        refine wq_run2 (pc' := 91) (L' := [(0, .ref 11), (1, .int (nI (srt (T s))))]) (S' := [.int 2, .int (nI (srt (T s)))]) (f' := (up1 f 11 (upd g 3 (nI (s + 1))))) rfl ?_
        refine wq_ifk (c := (nI (srt (T s))) = 2) (p1 := 94) (p2 := 95) (L1 := [(0, .ref 11), (1, .int (nI (srt (T s))))]) (L2 := [(0, .ref 11), (1, .int (nI (srt (T s))))]) (S1 := []) rfl rfl rfl (fun c_91 => ?_) (fun c_91 => ?_)
        · have k_91 : (srt (T s)) = 2 := (nI_eq (a := (srt (T s))) (b := 2) (by omega) (by omega)).mp c_91
          exact wq_ret rfl (ex_TX (e := s + 1) ⟨hx.1, hx.2.1, rfl, hx.2.2.2⟩ hsT (by unfold tkE; rw [← hsT, if_pos (by omega), if_pos k_91]))
        · have k_91 : ¬ (srt (T s)) = 2 := fun q => c_91 ((nI_eq (a := (srt (T s))) (b := 2) (by omega) (by omega)).mpr q)
          exact lp_tok2 hn1 hT (p := p) (s := s) (by omega) hsT k_91 (n - (s + 1) + 1) (s + 1) _ (by omega) ⟨hx.1, hx.2.1, rfl, hx.2.2.2⟩ (by unfold tkE; rw [← hsT, if_pos (by omega), if_neg k_91]) (Nat.lt_succ_self _)
theorem sp_readToken {f : HI} {T : Nat → Int32} {n c : Nat} (hn1 : n ≤ 160) (hT : ∀ j, j < n → f 12 j = T j) {g : Nat → Int32} {s0 p : Nat} (hp : p ≤ n) (hx : TX g n s0 p c) : Sp 2 68 [.ref 11] (up1 f 11 g) (fun v f' => ∃ g', v = none ∧ f' = up1 f 11 g' ∧ TX g' n (tkS T n p) (tkE T n p) c) := by
  show wq 2 68 (fun v f' => ∃ g', v = none ∧ f' = up1 f 11 g' ∧ TX g' n (tkS T n p) (tkE T n p) c) 0 [(0, .ref 11)] [] (up1 f 11 g)
  refine wq_run3 (pc' := 5) (L' := [(0, .ref 11)]) (S' := [.int (g 3), .ref 11]) (f' := (up1 f 11 g)) rfl ?_
  refine wq_v (y := (nI p)) (hx.2.2.1) ?_
  refine wq_putIk rfl rfl rfl ?_
  refine wq_h (f' := (up1 f 11 (upd g 2 (nI p)))) ((up2_up1_eq f 11 g 2 (nI p)).trans (congrArg (fun z => up1 f 11 z) (rfl))) ?_
  exact lp_tok1 hn1 hT (p := p) (e := p) (n - p + 1) p _ hp ⟨hx.1, rfl, hx.2.2.1, hx.2.2.2⟩ rfl (Nat.lt_succ_self _)
abbrev WdP (T : Nat → Int32) (k s e : Nat) : Prop := e = s + strN.getD k 0 ∧ ∀ i, i < strN.getD k 0 → T (s + i) = wc k i
def wdI (T : Nat → Int32) (k s e : Nat) : Int32 := if WdP T k s e then 1 else 0
theorem wdI_y {T : Nat → Int32} {k s e : Nat} (h : WdP T k s e) : wdI T k s e = 1 := if_pos h
theorem wdI_n {T : Nat → Int32} {k s e : Nat} (h : ¬ WdP T k s e) : wdI T k s e = 0 := if_neg h
theorem wdI_01 (T : Nat → Int32) (k s e : Nat) : wdI T k s e = 0 ∨ wdI T k s e = 1 := by
  by_cases h : WdP T k s e
  · exact Or.inr (wdI_y h)
  · exact Or.inl (wdI_n h)
theorem wc_b : ∀ k, k < 7 → ∀ i, i < strN.getD k 0 → (((wc k i) &&& 255).toUInt32 % 65536).toInt32 = wc k i ∧ ((wc k i).toUInt32 % 65536).toInt32 = wc k i := by decide +kernel
theorem b2i_01 {p : Prop} [Decidable p] : b2i p = 0 ∨ b2i p = 1 := b2i_z
theorem jp_cod0 (f : HI) : Sp 1 220 [.ref 2000000] f (Ret 0 f) := by
  show wq 1 220 (Ret 0 f) 0 [(0, .ref 2000000)] [] f
  refine wq_run1 (pc' := 3) (L' := [(0, .ref 2000000)]) (S' := [.int 1]) (f' := f) rfl ?_
  refine wq_if (c := 1 = 0) (p1 := 13) (L1 := [(0, .ref 2000000)]) (S1 := []) (p2 := 6) (L2 := [(0, .ref 2000000)]) (S2 := []) rfl (fun q => absurd q (by decide)) (fun _ => ?_)
  refine wq_run3 (pc' := 14) (L' := [(0, .ref 2000000)]) (S' := [.int 0]) (f' := f) rfl ?_
  exact wq_retZ rfl (Or.inl rfl) ⟨rfl, rfl⟩
theorem jp_len0 (f : HI) : Sp 2 218 [.ref 2000000] f (Ret (nI 2) f) := by
  show wq 2 218 (Ret (nI 2) f) 0 [(0, .ref 2000000)] [] f
  refine wq_run4 (pc' := 6) (L' := [(0, .ref 2000000)]) (S' := [.ref 2000000, .int (nI 2)]) (f' := f) rfl ?_
  refine wq_callI (r := 0) (jp_cod0 f) (Nat.le_of_ble_eq_true rfl) (pc' := 9) (L' := [(0, .ref 2000000)]) (S' := [.int (nI 2)]) rfl (Nat.le_of_ble_eq_true rfl) rfl rfl (Nat.le_of_ble_eq_true rfl) (Nat.le_of_ble_eq_true rfl) ?_
  refine wq_run1 (pc' := 10) (L' := [(0, .ref 2000000)]) (S' := [.int ((nI 2) >>> (0 &&& 31))]) (f' := f) rfl ?_
  exact wq_ret rfl (Ret.of (by decide) rfl)
theorem jp_lat0 (f : HI) : Sp 1 221 [.ref 2000000] f (Ret 1 f) := by
  show wq 1 221 (Ret 1 f) 0 [(0, .ref 2000000)] [] f
  refine wq_run1 (pc' := 3) (L' := [(0, .ref 2000000)]) (S' := [.int 1]) (f' := f) rfl ?_
  refine wq_if (c := 1 = 0) (p1 := 17) (L1 := [(0, .ref 2000000)]) (S1 := []) (p2 := 6) (L2 := [(0, .ref 2000000)]) (S2 := []) rfl (fun q => absurd q (by decide)) (fun _ => ?_)
  refine wq_run2 (pc' := 10) (L' := [(0, .ref 2000000)]) (S' := [.int 0]) (f' := f) rfl ?_
  refine wq_if (c := 0 = 0) (p1 := 13) (L1 := [(0, .ref 2000000)]) (S1 := []) (p2 := 17) (L2 := [(0, .ref 2000000)]) (S2 := []) rfl (fun _ => ?_) (fun q => absurd rfl q)
  refine wq_run2 (pc' := 18) (L' := [(0, .ref 2000000)]) (S' := [.int 1]) (f' := f) rfl ?_
  exact wq_retZ rfl (Or.inr rfl) ⟨rfl, rfl⟩
theorem jp_cod1 (f : HI) : Sp 1 220 [.ref 2000001] f (Ret 0 f) := by
  show wq 1 220 (Ret 0 f) 0 [(0, .ref 2000001)] [] f
  refine wq_run1 (pc' := 3) (L' := [(0, .ref 2000001)]) (S' := [.int 1]) (f' := f) rfl ?_
  refine wq_if (c := 1 = 0) (p1 := 13) (L1 := [(0, .ref 2000001)]) (S1 := []) (p2 := 6) (L2 := [(0, .ref 2000001)]) (S2 := []) rfl (fun q => absurd q (by decide)) (fun _ => ?_)
  refine wq_run3 (pc' := 14) (L' := [(0, .ref 2000001)]) (S' := [.int 0]) (f' := f) rfl ?_
  exact wq_retZ rfl (Or.inl rfl) ⟨rfl, rfl⟩
theorem jp_len1 (f : HI) : Sp 2 218 [.ref 2000001] f (Ret (nI 4) f) := by
  show wq 2 218 (Ret (nI 4) f) 0 [(0, .ref 2000001)] [] f
  refine wq_run4 (pc' := 6) (L' := [(0, .ref 2000001)]) (S' := [.ref 2000001, .int (nI 4)]) (f' := f) rfl ?_
  refine wq_callI (r := 0) (jp_cod1 f) (Nat.le_of_ble_eq_true rfl) (pc' := 9) (L' := [(0, .ref 2000001)]) (S' := [.int (nI 4)]) rfl (Nat.le_of_ble_eq_true rfl) rfl rfl (Nat.le_of_ble_eq_true rfl) (Nat.le_of_ble_eq_true rfl) ?_
  refine wq_run1 (pc' := 10) (L' := [(0, .ref 2000001)]) (S' := [.int ((nI 4) >>> (0 &&& 31))]) (f' := f) rfl ?_
  exact wq_ret rfl (Ret.of (by decide) rfl)
theorem jp_lat1 (f : HI) : Sp 1 221 [.ref 2000001] f (Ret 1 f) := by
  show wq 1 221 (Ret 1 f) 0 [(0, .ref 2000001)] [] f
  refine wq_run1 (pc' := 3) (L' := [(0, .ref 2000001)]) (S' := [.int 1]) (f' := f) rfl ?_
  refine wq_if (c := 1 = 0) (p1 := 17) (L1 := [(0, .ref 2000001)]) (S1 := []) (p2 := 6) (L2 := [(0, .ref 2000001)]) (S2 := []) rfl (fun q => absurd q (by decide)) (fun _ => ?_)
  refine wq_run2 (pc' := 10) (L' := [(0, .ref 2000001)]) (S' := [.int 0]) (f' := f) rfl ?_
  refine wq_if (c := 0 = 0) (p1 := 13) (L1 := [(0, .ref 2000001)]) (S1 := []) (p2 := 17) (L2 := [(0, .ref 2000001)]) (S2 := []) rfl (fun _ => ?_) (fun q => absurd rfl q)
  refine wq_run2 (pc' := 18) (L' := [(0, .ref 2000001)]) (S' := [.int 1]) (f' := f) rfl ?_
  exact wq_retZ rfl (Or.inr rfl) ⟨rfl, rfl⟩
theorem jp_cod2 (f : HI) : Sp 1 220 [.ref 2000002] f (Ret 0 f) := by
  show wq 1 220 (Ret 0 f) 0 [(0, .ref 2000002)] [] f
  refine wq_run1 (pc' := 3) (L' := [(0, .ref 2000002)]) (S' := [.int 1]) (f' := f) rfl ?_
  refine wq_if (c := 1 = 0) (p1 := 13) (L1 := [(0, .ref 2000002)]) (S1 := []) (p2 := 6) (L2 := [(0, .ref 2000002)]) (S2 := []) rfl (fun q => absurd q (by decide)) (fun _ => ?_)
  refine wq_run3 (pc' := 14) (L' := [(0, .ref 2000002)]) (S' := [.int 0]) (f' := f) rfl ?_
  exact wq_retZ rfl (Or.inl rfl) ⟨rfl, rfl⟩
theorem jp_len2 (f : HI) : Sp 2 218 [.ref 2000002] f (Ret (nI 5) f) := by
  show wq 2 218 (Ret (nI 5) f) 0 [(0, .ref 2000002)] [] f
  refine wq_run4 (pc' := 6) (L' := [(0, .ref 2000002)]) (S' := [.ref 2000002, .int (nI 5)]) (f' := f) rfl ?_
  refine wq_callI (r := 0) (jp_cod2 f) (Nat.le_of_ble_eq_true rfl) (pc' := 9) (L' := [(0, .ref 2000002)]) (S' := [.int (nI 5)]) rfl (Nat.le_of_ble_eq_true rfl) rfl rfl (Nat.le_of_ble_eq_true rfl) (Nat.le_of_ble_eq_true rfl) ?_
  refine wq_run1 (pc' := 10) (L' := [(0, .ref 2000002)]) (S' := [.int ((nI 5) >>> (0 &&& 31))]) (f' := f) rfl ?_
  exact wq_ret rfl (Ret.of (by decide) rfl)
theorem jp_lat2 (f : HI) : Sp 1 221 [.ref 2000002] f (Ret 1 f) := by
  show wq 1 221 (Ret 1 f) 0 [(0, .ref 2000002)] [] f
  refine wq_run1 (pc' := 3) (L' := [(0, .ref 2000002)]) (S' := [.int 1]) (f' := f) rfl ?_
  refine wq_if (c := 1 = 0) (p1 := 17) (L1 := [(0, .ref 2000002)]) (S1 := []) (p2 := 6) (L2 := [(0, .ref 2000002)]) (S2 := []) rfl (fun q => absurd q (by decide)) (fun _ => ?_)
  refine wq_run2 (pc' := 10) (L' := [(0, .ref 2000002)]) (S' := [.int 0]) (f' := f) rfl ?_
  refine wq_if (c := 0 = 0) (p1 := 13) (L1 := [(0, .ref 2000002)]) (S1 := []) (p2 := 17) (L2 := [(0, .ref 2000002)]) (S2 := []) rfl (fun _ => ?_) (fun q => absurd rfl q)
  refine wq_run2 (pc' := 18) (L' := [(0, .ref 2000002)]) (S' := [.int 1]) (f' := f) rfl ?_
  exact wq_retZ rfl (Or.inr rfl) ⟨rfl, rfl⟩
theorem jp_cod3 (f : HI) : Sp 1 220 [.ref 2000003] f (Ret 0 f) := by
  show wq 1 220 (Ret 0 f) 0 [(0, .ref 2000003)] [] f
  refine wq_run1 (pc' := 3) (L' := [(0, .ref 2000003)]) (S' := [.int 1]) (f' := f) rfl ?_
  refine wq_if (c := 1 = 0) (p1 := 13) (L1 := [(0, .ref 2000003)]) (S1 := []) (p2 := 6) (L2 := [(0, .ref 2000003)]) (S2 := []) rfl (fun q => absurd q (by decide)) (fun _ => ?_)
  refine wq_run3 (pc' := 14) (L' := [(0, .ref 2000003)]) (S' := [.int 0]) (f' := f) rfl ?_
  exact wq_retZ rfl (Or.inl rfl) ⟨rfl, rfl⟩
theorem jp_len3 (f : HI) : Sp 2 218 [.ref 2000003] f (Ret (nI 4) f) := by
  show wq 2 218 (Ret (nI 4) f) 0 [(0, .ref 2000003)] [] f
  refine wq_run4 (pc' := 6) (L' := [(0, .ref 2000003)]) (S' := [.ref 2000003, .int (nI 4)]) (f' := f) rfl ?_
  refine wq_callI (r := 0) (jp_cod3 f) (Nat.le_of_ble_eq_true rfl) (pc' := 9) (L' := [(0, .ref 2000003)]) (S' := [.int (nI 4)]) rfl (Nat.le_of_ble_eq_true rfl) rfl rfl (Nat.le_of_ble_eq_true rfl) (Nat.le_of_ble_eq_true rfl) ?_
  refine wq_run1 (pc' := 10) (L' := [(0, .ref 2000003)]) (S' := [.int ((nI 4) >>> (0 &&& 31))]) (f' := f) rfl ?_
  exact wq_ret rfl (Ret.of (by decide) rfl)
theorem jp_lat3 (f : HI) : Sp 1 221 [.ref 2000003] f (Ret 1 f) := by
  show wq 1 221 (Ret 1 f) 0 [(0, .ref 2000003)] [] f
  refine wq_run1 (pc' := 3) (L' := [(0, .ref 2000003)]) (S' := [.int 1]) (f' := f) rfl ?_
  refine wq_if (c := 1 = 0) (p1 := 17) (L1 := [(0, .ref 2000003)]) (S1 := []) (p2 := 6) (L2 := [(0, .ref 2000003)]) (S2 := []) rfl (fun q => absurd q (by decide)) (fun _ => ?_)
  refine wq_run2 (pc' := 10) (L' := [(0, .ref 2000003)]) (S' := [.int 0]) (f' := f) rfl ?_
  refine wq_if (c := 0 = 0) (p1 := 13) (L1 := [(0, .ref 2000003)]) (S1 := []) (p2 := 17) (L2 := [(0, .ref 2000003)]) (S2 := []) rfl (fun _ => ?_) (fun q => absurd rfl q)
  refine wq_run2 (pc' := 18) (L' := [(0, .ref 2000003)]) (S' := [.int 1]) (f' := f) rfl ?_
  exact wq_retZ rfl (Or.inr rfl) ⟨rfl, rfl⟩
theorem jp_cod4 (f : HI) : Sp 1 220 [.ref 2000004] f (Ret 0 f) := by
  show wq 1 220 (Ret 0 f) 0 [(0, .ref 2000004)] [] f
  refine wq_run1 (pc' := 3) (L' := [(0, .ref 2000004)]) (S' := [.int 1]) (f' := f) rfl ?_
  refine wq_if (c := 1 = 0) (p1 := 13) (L1 := [(0, .ref 2000004)]) (S1 := []) (p2 := 6) (L2 := [(0, .ref 2000004)]) (S2 := []) rfl (fun q => absurd q (by decide)) (fun _ => ?_)
  refine wq_run3 (pc' := 14) (L' := [(0, .ref 2000004)]) (S' := [.int 0]) (f' := f) rfl ?_
  exact wq_retZ rfl (Or.inl rfl) ⟨rfl, rfl⟩
theorem jp_len4 (f : HI) : Sp 2 218 [.ref 2000004] f (Ret (nI 5) f) := by
  show wq 2 218 (Ret (nI 5) f) 0 [(0, .ref 2000004)] [] f
  refine wq_run4 (pc' := 6) (L' := [(0, .ref 2000004)]) (S' := [.ref 2000004, .int (nI 5)]) (f' := f) rfl ?_
  refine wq_callI (r := 0) (jp_cod4 f) (Nat.le_of_ble_eq_true rfl) (pc' := 9) (L' := [(0, .ref 2000004)]) (S' := [.int (nI 5)]) rfl (Nat.le_of_ble_eq_true rfl) rfl rfl (Nat.le_of_ble_eq_true rfl) (Nat.le_of_ble_eq_true rfl) ?_
  refine wq_run1 (pc' := 10) (L' := [(0, .ref 2000004)]) (S' := [.int ((nI 5) >>> (0 &&& 31))]) (f' := f) rfl ?_
  exact wq_ret rfl (Ret.of (by decide) rfl)
theorem jp_lat4 (f : HI) : Sp 1 221 [.ref 2000004] f (Ret 1 f) := by
  show wq 1 221 (Ret 1 f) 0 [(0, .ref 2000004)] [] f
  refine wq_run1 (pc' := 3) (L' := [(0, .ref 2000004)]) (S' := [.int 1]) (f' := f) rfl ?_
  refine wq_if (c := 1 = 0) (p1 := 17) (L1 := [(0, .ref 2000004)]) (S1 := []) (p2 := 6) (L2 := [(0, .ref 2000004)]) (S2 := []) rfl (fun q => absurd q (by decide)) (fun _ => ?_)
  refine wq_run2 (pc' := 10) (L' := [(0, .ref 2000004)]) (S' := [.int 0]) (f' := f) rfl ?_
  refine wq_if (c := 0 = 0) (p1 := 13) (L1 := [(0, .ref 2000004)]) (S1 := []) (p2 := 17) (L2 := [(0, .ref 2000004)]) (S2 := []) rfl (fun _ => ?_) (fun q => absurd rfl q)
  refine wq_run2 (pc' := 18) (L' := [(0, .ref 2000004)]) (S' := [.int 1]) (f' := f) rfl ?_
  exact wq_retZ rfl (Or.inr rfl) ⟨rfl, rfl⟩
theorem jp_cod5 (f : HI) : Sp 1 220 [.ref 2000005] f (Ret 0 f) := by
  show wq 1 220 (Ret 0 f) 0 [(0, .ref 2000005)] [] f
  refine wq_run1 (pc' := 3) (L' := [(0, .ref 2000005)]) (S' := [.int 1]) (f' := f) rfl ?_
  refine wq_if (c := 1 = 0) (p1 := 13) (L1 := [(0, .ref 2000005)]) (S1 := []) (p2 := 6) (L2 := [(0, .ref 2000005)]) (S2 := []) rfl (fun q => absurd q (by decide)) (fun _ => ?_)
  refine wq_run3 (pc' := 14) (L' := [(0, .ref 2000005)]) (S' := [.int 0]) (f' := f) rfl ?_
  exact wq_retZ rfl (Or.inl rfl) ⟨rfl, rfl⟩
theorem jp_len5 (f : HI) : Sp 2 218 [.ref 2000005] f (Ret (nI 5) f) := by
  show wq 2 218 (Ret (nI 5) f) 0 [(0, .ref 2000005)] [] f
  refine wq_run4 (pc' := 6) (L' := [(0, .ref 2000005)]) (S' := [.ref 2000005, .int (nI 5)]) (f' := f) rfl ?_
  refine wq_callI (r := 0) (jp_cod5 f) (Nat.le_of_ble_eq_true rfl) (pc' := 9) (L' := [(0, .ref 2000005)]) (S' := [.int (nI 5)]) rfl (Nat.le_of_ble_eq_true rfl) rfl rfl (Nat.le_of_ble_eq_true rfl) (Nat.le_of_ble_eq_true rfl) ?_
  refine wq_run1 (pc' := 10) (L' := [(0, .ref 2000005)]) (S' := [.int ((nI 5) >>> (0 &&& 31))]) (f' := f) rfl ?_
  exact wq_ret rfl (Ret.of (by decide) rfl)
theorem jp_lat5 (f : HI) : Sp 1 221 [.ref 2000005] f (Ret 1 f) := by
  show wq 1 221 (Ret 1 f) 0 [(0, .ref 2000005)] [] f
  refine wq_run1 (pc' := 3) (L' := [(0, .ref 2000005)]) (S' := [.int 1]) (f' := f) rfl ?_
  refine wq_if (c := 1 = 0) (p1 := 17) (L1 := [(0, .ref 2000005)]) (S1 := []) (p2 := 6) (L2 := [(0, .ref 2000005)]) (S2 := []) rfl (fun q => absurd q (by decide)) (fun _ => ?_)
  refine wq_run2 (pc' := 10) (L' := [(0, .ref 2000005)]) (S' := [.int 0]) (f' := f) rfl ?_
  refine wq_if (c := 0 = 0) (p1 := 13) (L1 := [(0, .ref 2000005)]) (S1 := []) (p2 := 17) (L2 := [(0, .ref 2000005)]) (S2 := []) rfl (fun _ => ?_) (fun q => absurd rfl q)
  refine wq_run2 (pc' := 18) (L' := [(0, .ref 2000005)]) (S' := [.int 1]) (f' := f) rfl ?_
  exact wq_retZ rfl (Or.inr rfl) ⟨rfl, rfl⟩
theorem jp_cod6 (f : HI) : Sp 1 220 [.ref 2000006] f (Ret 0 f) := by
  show wq 1 220 (Ret 0 f) 0 [(0, .ref 2000006)] [] f
  refine wq_run1 (pc' := 3) (L' := [(0, .ref 2000006)]) (S' := [.int 1]) (f' := f) rfl ?_
  refine wq_if (c := 1 = 0) (p1 := 13) (L1 := [(0, .ref 2000006)]) (S1 := []) (p2 := 6) (L2 := [(0, .ref 2000006)]) (S2 := []) rfl (fun q => absurd q (by decide)) (fun _ => ?_)
  refine wq_run3 (pc' := 14) (L' := [(0, .ref 2000006)]) (S' := [.int 0]) (f' := f) rfl ?_
  exact wq_retZ rfl (Or.inl rfl) ⟨rfl, rfl⟩
theorem jp_len6 (f : HI) : Sp 2 218 [.ref 2000006] f (Ret (nI 3) f) := by
  show wq 2 218 (Ret (nI 3) f) 0 [(0, .ref 2000006)] [] f
  refine wq_run4 (pc' := 6) (L' := [(0, .ref 2000006)]) (S' := [.ref 2000006, .int (nI 3)]) (f' := f) rfl ?_
  refine wq_callI (r := 0) (jp_cod6 f) (Nat.le_of_ble_eq_true rfl) (pc' := 9) (L' := [(0, .ref 2000006)]) (S' := [.int (nI 3)]) rfl (Nat.le_of_ble_eq_true rfl) rfl rfl (Nat.le_of_ble_eq_true rfl) (Nat.le_of_ble_eq_true rfl) ?_
  refine wq_run1 (pc' := 10) (L' := [(0, .ref 2000006)]) (S' := [.int ((nI 3) >>> (0 &&& 31))]) (f' := f) rfl ?_
  exact wq_ret rfl (Ret.of (by decide) rfl)
theorem jp_lat6 (f : HI) : Sp 1 221 [.ref 2000006] f (Ret 1 f) := by
  show wq 1 221 (Ret 1 f) 0 [(0, .ref 2000006)] [] f
  refine wq_run1 (pc' := 3) (L' := [(0, .ref 2000006)]) (S' := [.int 1]) (f' := f) rfl ?_
  refine wq_if (c := 1 = 0) (p1 := 17) (L1 := [(0, .ref 2000006)]) (S1 := []) (p2 := 6) (L2 := [(0, .ref 2000006)]) (S2 := []) rfl (fun q => absurd q (by decide)) (fun _ => ?_)
  refine wq_run2 (pc' := 10) (L' := [(0, .ref 2000006)]) (S' := [.int 0]) (f' := f) rfl ?_
  refine wq_if (c := 0 = 0) (p1 := 13) (L1 := [(0, .ref 2000006)]) (S1 := []) (p2 := 17) (L2 := [(0, .ref 2000006)]) (S2 := []) rfl (fun _ => ?_) (fun q => absurd rfl q)
  refine wq_run2 (pc' := 18) (L' := [(0, .ref 2000006)]) (S' := [.int 1]) (f' := f) rfl ?_
  exact wq_retZ rfl (Or.inr rfl) ⟨rfl, rfl⟩
theorem jp_ci (f : HI) {i m : Nat} (hi : i < m) (hm : m < 100) : Sp 1 227 [.int (nI i), .int (nI m), .null] f (Ret (nI i) f) := by
  show wq 1 227 (Ret (nI i) f) 0 [(0, .int (nI i)), (1, .int (nI m)), (2, .null)] [] f
  refine wq_run1 (pc' := 1) (L' := [(0, .int (nI i)), (1, .int (nI m)), (2, .null)]) (S' := [.int (nI i)]) (f' := f) rfl ?_
  refine wq_if (c := (nI i) < 0) (p1 := 9) (L1 := [(0, .int (nI i)), (1, .int (nI m)), (2, .null)]) (S1 := []) (p2 := 4) (L2 := [(0, .int (nI i)), (1, .int (nI m)), (2, .null)]) (S2 := []) rfl (fun q => absurd q (nI_pos (by omega))) (fun _ => ?_)
  refine wq_run2 (pc' := 6) (L' := [(0, .int (nI i)), (1, .int (nI m)), (2, .null)]) (S' := [.int (nI m), .int (nI i)]) (f' := f) rfl ?_
  refine wq_if (c := (nI i) < (nI m)) (p1 := 16) (L1 := [(0, .int (nI i)), (1, .int (nI m)), (2, .null)]) (S1 := []) (p2 := 9) (L2 := [(0, .int (nI i)), (1, .int (nI m)), (2, .null)]) (S2 := []) rfl (fun _ => ?_) (fun q => absurd (nI_lt hi (by omega)) q)
  refine wq_run1 (pc' := 17) (L' := [(0, .int (nI i)), (1, .int (nI m)), (2, .null)]) (S' := [.int (nI i)]) (f' := f) rfl ?_
  exact wq_ret rfl ⟨rfl, rfl⟩
theorem jp_chk (f : HI) {i m : Nat} (hi : i < m) (hm : m < 100) : Sp 2 222 [.int (nI i), .int (nI m)] f (RetV f) := by
  show wq 2 222 (RetV f) 0 [(0, .int (nI i)), (1, .int (nI m))] [] f
  refine wq_run3 (pc' := 5) (L' := [(0, .int (nI i)), (1, .int (nI m))]) (S' := [.null, .int (nI m), .int (nI i)]) (f' := f) rfl ?_
  refine wq_callI (r := (nI i)) (jp_ci f hi hm) (Nat.le_of_ble_eq_true rfl) (pc' := 8) (L' := [(0, .int (nI i)), (1, .int (nI m))]) (S' := []) rfl (Nat.le_of_ble_eq_true rfl) rfl rfl (Nat.le_of_ble_eq_true rfl) (Nat.le_of_ble_eq_true rfl) ?_
  refine wq_run1 (pc' := 9) (L' := [(0, .int (nI i)), (1, .int (nI m))]) (S' := []) (f' := f) rfl ?_
  exact wq_ret rfl ⟨rfl, rfl⟩
theorem jp_cha0 (f : HI) {i : Nat} (hi : i < 2) : Sp 3 223 [.ref 3000000, .int (nI i)] f (Ret (wc 0 i) f) := by
  show wq 3 223 (Ret (wc 0 i) f) 0 [(0, .ref 3000000), (1, .int (nI i))] [] f
  refine wq_run3 (pc' := 3) (L' := [(0, .ref 3000000), (1, .int (nI i))]) (S' := [.int (nI 2), .int (nI i)]) (f' := f) rfl ?_
  refine wq_callV (g := f) (jp_chk f (m := 2) hi (Nat.le_of_ble_eq_true rfl)) (Nat.le_of_ble_eq_true rfl) (pc' := 6) (L' := [(0, .ref 3000000), (1, .int (nI i))]) (S' := []) rfl (Nat.le_of_ble_eq_true rfl) rfl rfl (Nat.le_of_ble_eq_true rfl) (Nat.le_of_ble_eq_true rfl) ?_
  refine wq_run2 (pc' := 8) (L' := [(0, .ref 3000000), (1, .int (nI i))]) (S' := [.int (nI i), .ref 3000000]) (f' := f) rfl ?_
  refine wq_strB (k := 0) (j := i) rfl (Nat.le_of_ble_eq_true rfl) rfl hi ?_
  refine wq_run3 (pc' := 14) (L' := [(0, .ref 3000000), (1, .int (nI i))]) (S' := [.int (((wc 0 i) &&& 255).toUInt32 % 65536).toInt32]) (f' := f) rfl ?_
  have h := wc_b 0 (Nat.le_of_ble_eq_true rfl) i hi
  exact wq_retC rfl (by rw [h.1]; exact h.2) (Ret.of h.1 rfl)
theorem jp_chr0 (f : HI) {i : Nat} (hi : i < 2) : Sp 4 219 [.ref 2000000, .int (nI i)] f (Ret (wc 0 i) f) := by
  show wq 4 219 (Ret (wc 0 i) f) 0 [(0, .ref 2000000), (1, .int (nI i))] [] f
  refine wq_run1 (pc' := 1) (L' := [(0, .ref 2000000), (1, .int (nI i))]) (S' := [.ref 2000000]) (f' := f) rfl ?_
  refine wq_callI (r := 1) (jp_lat0 f) (Nat.le_of_ble_eq_true rfl) (pc' := 4) (L' := [(0, .ref 2000000), (1, .int (nI i))]) (S' := []) rfl (Nat.le_of_ble_eq_true rfl) rfl rfl (Nat.le_of_ble_eq_true rfl) (Nat.le_of_ble_eq_true rfl) ?_
  refine wq_if (c := 1 = 0) (p1 := 16) (L1 := [(0, .ref 2000000), (1, .int (nI i))]) (S1 := []) (p2 := 7) (L2 := [(0, .ref 2000000), (1, .int (nI i))]) (S2 := []) rfl (fun q => absurd q (by decide)) (fun _ => ?_)
  refine wq_run3 (pc' := 12) (L' := [(0, .ref 2000000), (1, .int (nI i))]) (S' := [.int (nI i), .ref 3000000]) (f' := f) rfl ?_
  refine wq_callI (r := (wc 0 i)) (jp_cha0 f hi) (Nat.le_of_ble_eq_true rfl) (pc' := 15) (L' := [(0, .ref 2000000), (1, .int (nI i))]) (S' := []) rfl (Nat.le_of_ble_eq_true rfl) rfl rfl (Nat.le_of_ble_eq_true rfl) (Nat.le_of_ble_eq_true rfl) ?_
  have h := wc_b 0 (Nat.le_of_ble_eq_true rfl) i hi
  exact wq_retC rfl h.2 ⟨rfl, rfl⟩
theorem lp_word0 {f : HI} {T : Nat → Int32} {n s e c : Nat} (hn1 : n ≤ 160) (hT : ∀ j, j < n → f 12 j = T j) (hx : TX (f 11) n s e c) (hse : s ≤ e) (hen : e ≤ n) (hlen : e = s + 2) : ∀ (m9 : Nat) (i : Nat), (i ≤ 2) → (∀ j, j < i → T (s + j) = wc 0 j) → 2 - i < m9 → wq 5 71 (Ret (wdI T 0 s e) f) 20 [(0, .ref 11), (1, .ref 2000000), (2, .int (nI i))] [] f := by
  intro m9
  induction m9 with
  | zero => intro i hi h9 hn; exact absurd hn (Nat.not_lt_zero _)
  | succ m9 ih =>
    intro i hi h9 hn
    refine wq_run2 (pc' := 22) (L' := [(0, .ref 11), (1, .ref 2000000), (2, .int (nI i))]) (S' := [.ref 2000000, .int (nI i)]) (f' := f) rfl ?_
    refine wq_callI (r := (nI 2)) (jp_len0 f) (Nat.le_of_ble_eq_true rfl) (pc' := 25) (L' := [(0, .ref 11), (1, .ref 2000000), (2, .int (nI i))]) (S' := [.int (nI i)]) rfl (Nat.le_of_ble_eq_true rfl) rfl rfl (Nat.le_of_ble_eq_true rfl) (Nat.le_of_ble_eq_true rfl) ?_
    refine wq_if (c := (nI 2) ≤ (nI i)) (p1 := 55) (L1 := [(0, .ref 11), (1, .ref 2000000), (2, .int (nI i))]) (S1 := []) (p2 := 28) (L2 := [(0, .ref 11), (1, .ref 2000000), (2, .int (nI i))]) (S2 := []) rfl (fun c_25 => ?_) (fun c_25 => ?_)
    · have k_25 : 2 ≤ i := (nI_leI (a := 2) (b := i) (by omega) (by omega)).mp c_25
      refine wq_run1 (pc' := 56) (L' := [(0, .ref 11), (1, .ref 2000000), (2, .int (nI i))]) (S' := [.int 1]) (f' := f) rfl ?_
      exact wq_retZ rfl (Or.inr rfl) (Ret.of (wdI_y ⟨hlen, fun j hj => h9 j (Nat.lt_of_lt_of_le hj k_25)⟩).symm rfl)
    · have k_25 : ¬ 2 ≤ i := fun q => c_25 ((nI_leI (a := 2) (b := i) (by omega) (by omega)).mpr q)
      have hi5 : i < 2 := by omega
      refine wq_run4 (pc' := 36) (L' := [(0, .ref 11), (1, .ref 2000000), (2, .int (nI i))]) (S' := [.int (f 11 2), .ref 12]) (f' := f) rfl ?_
      refine wq_v (y := (nI s)) (hx.2.1) ?_
      refine wq_run2 (pc' := 38) (L' := [(0, .ref 11), (1, .ref 2000000), (2, .int (nI i))]) (S' := [.int ((nI s) + (nI i)), .ref 12]) (f' := f) rfl ?_
      refine wq_v (y := (nI (s + i))) (nI_add s i) ?_
      refine wq_ald (j := (s + i)) (n := 160) (v := (T (s + i))) rfl rfl rfl rfl (by omega) (Nat.le_of_ble_eq_true rfl) (hT (s + i) (by omega)) ?_
      refine wq_run2 (pc' := 41) (L' := [(0, .ref 11), (1, .ref 2000000), (2, .int (nI i))]) (S' := [.int (nI i), .ref 2000000, .int (T (s + i))]) (f' := f) rfl ?_
      refine wq_callI (r := (wc 0 i)) (jp_chr0 f hi5) (Nat.le_of_ble_eq_true rfl) (pc' := 44) (L' := [(0, .ref 11), (1, .ref 2000000), (2, .int (nI i))]) (S' := [.int (T (s + i))]) rfl (Nat.le_of_ble_eq_true rfl) rfl rfl (Nat.le_of_ble_eq_true rfl) (Nat.le_of_ble_eq_true rfl) ?_
      refine wq_if (c := (T (s + i)) = (wc 0 i)) (p1 := 49) (L1 := [(0, .ref 11), (1, .ref 2000000), (2, .int (nI i))]) (S1 := []) (p2 := 47) (L2 := [(0, .ref 11), (1, .ref 2000000), (2, .int (nI i))]) (S2 := []) rfl (fun c_44 => ?_) (fun c_44 => ?_)
      · refine wq_run1 (pc' := 52) (L' := [(0, .ref 11), (1, .ref 2000000), (2, .int ((nI i) + 1))]) (S' := []) (f' := f) rfl ?_
        refine wq_L (L' := [(0, .ref 11), (1, .ref 2000000), (2, .int (nI (i + 1)))]) (by rw [show nI i + 1 = nI (i + 1) from nI_add _ _]) ?_
        refine wq_run1 (pc' := 20) (L' := [(0, .ref 11), (1, .ref 2000000), (2, .int (nI (i + 1)))]) (S' := []) (f' := f) rfl ?_
        exact ih (i + 1) (by omega) (fun j hj => by
          rcases Nat.lt_or_ge j i with q | q
          · exact h9 j q
          · have e1 : j = i := by omega
            rw [e1]; exact c_44) (by omega)
      · refine wq_run1 (pc' := 48) (L' := [(0, .ref 11), (1, .ref 2000000), (2, .int (nI i))]) (S' := [.int 0]) (f' := f) rfl ?_
        exact wq_retZ rfl (Or.inl rfl) (Ret.of (wdI_n (fun q => c_44 (q.2 i hi5))).symm rfl)
theorem sp_word0 {f : HI} {T : Nat → Int32} {n s e c : Nat} (hn1 : n ≤ 160) (hT : ∀ j, j < n → f 12 j = T j) (hx : TX (f 11) n s e c) (hse : s ≤ e) (hen : e ≤ n) : Sp 5 71 [.ref 11, .ref 2000000] f (Ret (wdI T 0 s e) f) := by
  show wq 5 71 (Ret (wdI T 0 s e) f) 0 [(0, .ref 11), (1, .ref 2000000)] [] f
  refine wq_run2 (pc' := 4) (L' := [(0, .ref 11), (1, .ref 2000000)]) (S' := [.int (f 11 3)]) (f' := f) rfl ?_
  refine wq_v (y := (nI e)) (hx.2.2.1) ?_
  refine wq_run2 (pc' := 8) (L' := [(0, .ref 11), (1, .ref 2000000)]) (S' := [.int (f 11 2), .int (nI e)]) (f' := f) rfl ?_
  refine wq_v (y := (nI s)) (hx.2.1) ?_
  refine wq_run1 (pc' := 9) (L' := [(0, .ref 11), (1, .ref 2000000)]) (S' := [.int ((nI e) - (nI s))]) (f' := f) rfl ?_
  refine wq_v (y := (nI (e - s))) (pk_sub (a := e) (b := s) (by omega)) ?_
  refine wq_run1 (pc' := 10) (L' := [(0, .ref 11), (1, .ref 2000000)]) (S' := [.ref 2000000, .int (nI (e - s))]) (f' := f) rfl ?_
  refine wq_callI (r := (nI 2)) (jp_len0 f) (Nat.le_of_ble_eq_true rfl) (pc' := 13) (L' := [(0, .ref 11), (1, .ref 2000000)]) (S' := [.int (nI (e - s))]) rfl (Nat.le_of_ble_eq_true rfl) rfl rfl (Nat.le_of_ble_eq_true rfl) (Nat.le_of_ble_eq_true rfl) ?_
  refine wq_if (c := (nI (e - s)) = (nI 2)) (p1 := 18) (L1 := [(0, .ref 11), (1, .ref 2000000)]) (S1 := []) (p2 := 16) (L2 := [(0, .ref 11), (1, .ref 2000000)]) (S2 := []) rfl (fun c_13 => ?_) (fun c_13 => ?_)
  · have k_13 : (e - s) = 2 := (nI_eq (a := (e - s)) (b := 2) (by omega) (by omega)).mp c_13
    refine wq_run2 (pc' := 20) (L' := [(0, .ref 11), (1, .ref 2000000), (2, .int 0)]) (S' := []) (f' := f) rfl ?_
    exact lp_word0 hn1 hT hx hse hen (by omega) (2 - 0 + 1) 0 (Nat.zero_le _) (fun _ h => absurd h (Nat.not_lt_zero _)) (Nat.lt_succ_self _)
  · have k_13 : ¬ (e - s) = 2 := fun q => c_13 ((nI_eq (a := (e - s)) (b := 2) (by omega) (by omega)).mpr q)
    refine wq_run1 (pc' := 17) (L' := [(0, .ref 11), (1, .ref 2000000)]) (S' := [.int 0]) (f' := f) rfl ?_
    exact wq_retZ rfl (Or.inl rfl) (Ret.of (wdI_n (fun q => k_13 (by have h := q.1; have h2 : strN.getD 0 0 = 2 := rfl; omega))).symm rfl)
theorem jp_cha1 (f : HI) {i : Nat} (hi : i < 4) : Sp 3 223 [.ref 3000001, .int (nI i)] f (Ret (wc 1 i) f) := by
  show wq 3 223 (Ret (wc 1 i) f) 0 [(0, .ref 3000001), (1, .int (nI i))] [] f
  refine wq_run3 (pc' := 3) (L' := [(0, .ref 3000001), (1, .int (nI i))]) (S' := [.int (nI 4), .int (nI i)]) (f' := f) rfl ?_
  refine wq_callV (g := f) (jp_chk f (m := 4) hi (Nat.le_of_ble_eq_true rfl)) (Nat.le_of_ble_eq_true rfl) (pc' := 6) (L' := [(0, .ref 3000001), (1, .int (nI i))]) (S' := []) rfl (Nat.le_of_ble_eq_true rfl) rfl rfl (Nat.le_of_ble_eq_true rfl) (Nat.le_of_ble_eq_true rfl) ?_
  refine wq_run2 (pc' := 8) (L' := [(0, .ref 3000001), (1, .int (nI i))]) (S' := [.int (nI i), .ref 3000001]) (f' := f) rfl ?_
  refine wq_strB (k := 1) (j := i) rfl (Nat.le_of_ble_eq_true rfl) rfl hi ?_
  refine wq_run3 (pc' := 14) (L' := [(0, .ref 3000001), (1, .int (nI i))]) (S' := [.int (((wc 1 i) &&& 255).toUInt32 % 65536).toInt32]) (f' := f) rfl ?_
  have h := wc_b 1 (Nat.le_of_ble_eq_true rfl) i hi
  exact wq_retC rfl (by rw [h.1]; exact h.2) (Ret.of h.1 rfl)
theorem jp_chr1 (f : HI) {i : Nat} (hi : i < 4) : Sp 4 219 [.ref 2000001, .int (nI i)] f (Ret (wc 1 i) f) := by
  show wq 4 219 (Ret (wc 1 i) f) 0 [(0, .ref 2000001), (1, .int (nI i))] [] f
  refine wq_run1 (pc' := 1) (L' := [(0, .ref 2000001), (1, .int (nI i))]) (S' := [.ref 2000001]) (f' := f) rfl ?_
  refine wq_callI (r := 1) (jp_lat1 f) (Nat.le_of_ble_eq_true rfl) (pc' := 4) (L' := [(0, .ref 2000001), (1, .int (nI i))]) (S' := []) rfl (Nat.le_of_ble_eq_true rfl) rfl rfl (Nat.le_of_ble_eq_true rfl) (Nat.le_of_ble_eq_true rfl) ?_
  refine wq_if (c := 1 = 0) (p1 := 16) (L1 := [(0, .ref 2000001), (1, .int (nI i))]) (S1 := []) (p2 := 7) (L2 := [(0, .ref 2000001), (1, .int (nI i))]) (S2 := []) rfl (fun q => absurd q (by decide)) (fun _ => ?_)
  refine wq_run3 (pc' := 12) (L' := [(0, .ref 2000001), (1, .int (nI i))]) (S' := [.int (nI i), .ref 3000001]) (f' := f) rfl ?_
  refine wq_callI (r := (wc 1 i)) (jp_cha1 f hi) (Nat.le_of_ble_eq_true rfl) (pc' := 15) (L' := [(0, .ref 2000001), (1, .int (nI i))]) (S' := []) rfl (Nat.le_of_ble_eq_true rfl) rfl rfl (Nat.le_of_ble_eq_true rfl) (Nat.le_of_ble_eq_true rfl) ?_
  have h := wc_b 1 (Nat.le_of_ble_eq_true rfl) i hi
  exact wq_retC rfl h.2 ⟨rfl, rfl⟩
theorem lp_word1 {f : HI} {T : Nat → Int32} {n s e c : Nat} (hn1 : n ≤ 160) (hT : ∀ j, j < n → f 12 j = T j) (hx : TX (f 11) n s e c) (hse : s ≤ e) (hen : e ≤ n) (hlen : e = s + 4) : ∀ (m9 : Nat) (i : Nat), (i ≤ 4) → (∀ j, j < i → T (s + j) = wc 1 j) → 4 - i < m9 → wq 5 71 (Ret (wdI T 1 s e) f) 20 [(0, .ref 11), (1, .ref 2000001), (2, .int (nI i))] [] f := by
  intro m9
  induction m9 with
  | zero => intro i hi h9 hn; exact absurd hn (Nat.not_lt_zero _)
  | succ m9 ih =>
    intro i hi h9 hn
    refine wq_run2 (pc' := 22) (L' := [(0, .ref 11), (1, .ref 2000001), (2, .int (nI i))]) (S' := [.ref 2000001, .int (nI i)]) (f' := f) rfl ?_
    refine wq_callI (r := (nI 4)) (jp_len1 f) (Nat.le_of_ble_eq_true rfl) (pc' := 25) (L' := [(0, .ref 11), (1, .ref 2000001), (2, .int (nI i))]) (S' := [.int (nI i)]) rfl (Nat.le_of_ble_eq_true rfl) rfl rfl (Nat.le_of_ble_eq_true rfl) (Nat.le_of_ble_eq_true rfl) ?_
    refine wq_if (c := (nI 4) ≤ (nI i)) (p1 := 55) (L1 := [(0, .ref 11), (1, .ref 2000001), (2, .int (nI i))]) (S1 := []) (p2 := 28) (L2 := [(0, .ref 11), (1, .ref 2000001), (2, .int (nI i))]) (S2 := []) rfl (fun c_25 => ?_) (fun c_25 => ?_)
    · have k_25 : 4 ≤ i := (nI_leI (a := 4) (b := i) (by omega) (by omega)).mp c_25
      refine wq_run1 (pc' := 56) (L' := [(0, .ref 11), (1, .ref 2000001), (2, .int (nI i))]) (S' := [.int 1]) (f' := f) rfl ?_
      exact wq_retZ rfl (Or.inr rfl) (Ret.of (wdI_y ⟨hlen, fun j hj => h9 j (Nat.lt_of_lt_of_le hj k_25)⟩).symm rfl)
    · have k_25 : ¬ 4 ≤ i := fun q => c_25 ((nI_leI (a := 4) (b := i) (by omega) (by omega)).mpr q)
      have hi5 : i < 4 := by omega
      refine wq_run4 (pc' := 36) (L' := [(0, .ref 11), (1, .ref 2000001), (2, .int (nI i))]) (S' := [.int (f 11 2), .ref 12]) (f' := f) rfl ?_
      refine wq_v (y := (nI s)) (hx.2.1) ?_
      refine wq_run2 (pc' := 38) (L' := [(0, .ref 11), (1, .ref 2000001), (2, .int (nI i))]) (S' := [.int ((nI s) + (nI i)), .ref 12]) (f' := f) rfl ?_
      refine wq_v (y := (nI (s + i))) (nI_add s i) ?_
      refine wq_ald (j := (s + i)) (n := 160) (v := (T (s + i))) rfl rfl rfl rfl (by omega) (Nat.le_of_ble_eq_true rfl) (hT (s + i) (by omega)) ?_
      refine wq_run2 (pc' := 41) (L' := [(0, .ref 11), (1, .ref 2000001), (2, .int (nI i))]) (S' := [.int (nI i), .ref 2000001, .int (T (s + i))]) (f' := f) rfl ?_
      refine wq_callI (r := (wc 1 i)) (jp_chr1 f hi5) (Nat.le_of_ble_eq_true rfl) (pc' := 44) (L' := [(0, .ref 11), (1, .ref 2000001), (2, .int (nI i))]) (S' := [.int (T (s + i))]) rfl (Nat.le_of_ble_eq_true rfl) rfl rfl (Nat.le_of_ble_eq_true rfl) (Nat.le_of_ble_eq_true rfl) ?_
      refine wq_if (c := (T (s + i)) = (wc 1 i)) (p1 := 49) (L1 := [(0, .ref 11), (1, .ref 2000001), (2, .int (nI i))]) (S1 := []) (p2 := 47) (L2 := [(0, .ref 11), (1, .ref 2000001), (2, .int (nI i))]) (S2 := []) rfl (fun c_44 => ?_) (fun c_44 => ?_)
      · refine wq_run1 (pc' := 52) (L' := [(0, .ref 11), (1, .ref 2000001), (2, .int ((nI i) + 1))]) (S' := []) (f' := f) rfl ?_
        refine wq_L (L' := [(0, .ref 11), (1, .ref 2000001), (2, .int (nI (i + 1)))]) (by rw [show nI i + 1 = nI (i + 1) from nI_add _ _]) ?_
        refine wq_run1 (pc' := 20) (L' := [(0, .ref 11), (1, .ref 2000001), (2, .int (nI (i + 1)))]) (S' := []) (f' := f) rfl ?_
        exact ih (i + 1) (by omega) (fun j hj => by
          rcases Nat.lt_or_ge j i with q | q
          · exact h9 j q
          · have e1 : j = i := by omega
            rw [e1]; exact c_44) (by omega)
      · refine wq_run1 (pc' := 48) (L' := [(0, .ref 11), (1, .ref 2000001), (2, .int (nI i))]) (S' := [.int 0]) (f' := f) rfl ?_
        exact wq_retZ rfl (Or.inl rfl) (Ret.of (wdI_n (fun q => c_44 (q.2 i hi5))).symm rfl)
theorem sp_word1 {f : HI} {T : Nat → Int32} {n s e c : Nat} (hn1 : n ≤ 160) (hT : ∀ j, j < n → f 12 j = T j) (hx : TX (f 11) n s e c) (hse : s ≤ e) (hen : e ≤ n) : Sp 5 71 [.ref 11, .ref 2000001] f (Ret (wdI T 1 s e) f) := by
  show wq 5 71 (Ret (wdI T 1 s e) f) 0 [(0, .ref 11), (1, .ref 2000001)] [] f
  refine wq_run2 (pc' := 4) (L' := [(0, .ref 11), (1, .ref 2000001)]) (S' := [.int (f 11 3)]) (f' := f) rfl ?_
  refine wq_v (y := (nI e)) (hx.2.2.1) ?_
  refine wq_run2 (pc' := 8) (L' := [(0, .ref 11), (1, .ref 2000001)]) (S' := [.int (f 11 2), .int (nI e)]) (f' := f) rfl ?_
  refine wq_v (y := (nI s)) (hx.2.1) ?_
  refine wq_run1 (pc' := 9) (L' := [(0, .ref 11), (1, .ref 2000001)]) (S' := [.int ((nI e) - (nI s))]) (f' := f) rfl ?_
  refine wq_v (y := (nI (e - s))) (pk_sub (a := e) (b := s) (by omega)) ?_
  refine wq_run1 (pc' := 10) (L' := [(0, .ref 11), (1, .ref 2000001)]) (S' := [.ref 2000001, .int (nI (e - s))]) (f' := f) rfl ?_
  refine wq_callI (r := (nI 4)) (jp_len1 f) (Nat.le_of_ble_eq_true rfl) (pc' := 13) (L' := [(0, .ref 11), (1, .ref 2000001)]) (S' := [.int (nI (e - s))]) rfl (Nat.le_of_ble_eq_true rfl) rfl rfl (Nat.le_of_ble_eq_true rfl) (Nat.le_of_ble_eq_true rfl) ?_
  refine wq_if (c := (nI (e - s)) = (nI 4)) (p1 := 18) (L1 := [(0, .ref 11), (1, .ref 2000001)]) (S1 := []) (p2 := 16) (L2 := [(0, .ref 11), (1, .ref 2000001)]) (S2 := []) rfl (fun c_13 => ?_) (fun c_13 => ?_)
  · have k_13 : (e - s) = 4 := (nI_eq (a := (e - s)) (b := 4) (by omega) (by omega)).mp c_13
    refine wq_run2 (pc' := 20) (L' := [(0, .ref 11), (1, .ref 2000001), (2, .int 0)]) (S' := []) (f' := f) rfl ?_
    exact lp_word1 hn1 hT hx hse hen (by omega) (4 - 0 + 1) 0 (Nat.zero_le _) (fun _ h => absurd h (Nat.not_lt_zero _)) (Nat.lt_succ_self _)
  · have k_13 : ¬ (e - s) = 4 := fun q => c_13 ((nI_eq (a := (e - s)) (b := 4) (by omega) (by omega)).mpr q)
    refine wq_run1 (pc' := 17) (L' := [(0, .ref 11), (1, .ref 2000001)]) (S' := [.int 0]) (f' := f) rfl ?_
    exact wq_retZ rfl (Or.inl rfl) (Ret.of (wdI_n (fun q => k_13 (by have h := q.1; have h2 : strN.getD 1 0 = 4 := rfl; omega))).symm rfl)
theorem jp_cha2 (f : HI) {i : Nat} (hi : i < 5) : Sp 3 223 [.ref 3000002, .int (nI i)] f (Ret (wc 2 i) f) := by
  show wq 3 223 (Ret (wc 2 i) f) 0 [(0, .ref 3000002), (1, .int (nI i))] [] f
  refine wq_run3 (pc' := 3) (L' := [(0, .ref 3000002), (1, .int (nI i))]) (S' := [.int (nI 5), .int (nI i)]) (f' := f) rfl ?_
  refine wq_callV (g := f) (jp_chk f (m := 5) hi (Nat.le_of_ble_eq_true rfl)) (Nat.le_of_ble_eq_true rfl) (pc' := 6) (L' := [(0, .ref 3000002), (1, .int (nI i))]) (S' := []) rfl (Nat.le_of_ble_eq_true rfl) rfl rfl (Nat.le_of_ble_eq_true rfl) (Nat.le_of_ble_eq_true rfl) ?_
  refine wq_run2 (pc' := 8) (L' := [(0, .ref 3000002), (1, .int (nI i))]) (S' := [.int (nI i), .ref 3000002]) (f' := f) rfl ?_
  refine wq_strB (k := 2) (j := i) rfl (Nat.le_of_ble_eq_true rfl) rfl hi ?_
  refine wq_run3 (pc' := 14) (L' := [(0, .ref 3000002), (1, .int (nI i))]) (S' := [.int (((wc 2 i) &&& 255).toUInt32 % 65536).toInt32]) (f' := f) rfl ?_
  have h := wc_b 2 (Nat.le_of_ble_eq_true rfl) i hi
  exact wq_retC rfl (by rw [h.1]; exact h.2) (Ret.of h.1 rfl)
theorem jp_chr2 (f : HI) {i : Nat} (hi : i < 5) : Sp 4 219 [.ref 2000002, .int (nI i)] f (Ret (wc 2 i) f) := by
  show wq 4 219 (Ret (wc 2 i) f) 0 [(0, .ref 2000002), (1, .int (nI i))] [] f
  refine wq_run1 (pc' := 1) (L' := [(0, .ref 2000002), (1, .int (nI i))]) (S' := [.ref 2000002]) (f' := f) rfl ?_
  refine wq_callI (r := 1) (jp_lat2 f) (Nat.le_of_ble_eq_true rfl) (pc' := 4) (L' := [(0, .ref 2000002), (1, .int (nI i))]) (S' := []) rfl (Nat.le_of_ble_eq_true rfl) rfl rfl (Nat.le_of_ble_eq_true rfl) (Nat.le_of_ble_eq_true rfl) ?_
  refine wq_if (c := 1 = 0) (p1 := 16) (L1 := [(0, .ref 2000002), (1, .int (nI i))]) (S1 := []) (p2 := 7) (L2 := [(0, .ref 2000002), (1, .int (nI i))]) (S2 := []) rfl (fun q => absurd q (by decide)) (fun _ => ?_)
  refine wq_run3 (pc' := 12) (L' := [(0, .ref 2000002), (1, .int (nI i))]) (S' := [.int (nI i), .ref 3000002]) (f' := f) rfl ?_
  refine wq_callI (r := (wc 2 i)) (jp_cha2 f hi) (Nat.le_of_ble_eq_true rfl) (pc' := 15) (L' := [(0, .ref 2000002), (1, .int (nI i))]) (S' := []) rfl (Nat.le_of_ble_eq_true rfl) rfl rfl (Nat.le_of_ble_eq_true rfl) (Nat.le_of_ble_eq_true rfl) ?_
  have h := wc_b 2 (Nat.le_of_ble_eq_true rfl) i hi
  exact wq_retC rfl h.2 ⟨rfl, rfl⟩
theorem lp_word2 {f : HI} {T : Nat → Int32} {n s e c : Nat} (hn1 : n ≤ 160) (hT : ∀ j, j < n → f 12 j = T j) (hx : TX (f 11) n s e c) (hse : s ≤ e) (hen : e ≤ n) (hlen : e = s + 5) : ∀ (m9 : Nat) (i : Nat), (i ≤ 5) → (∀ j, j < i → T (s + j) = wc 2 j) → 5 - i < m9 → wq 5 71 (Ret (wdI T 2 s e) f) 20 [(0, .ref 11), (1, .ref 2000002), (2, .int (nI i))] [] f := by
  intro m9
  induction m9 with
  | zero => intro i hi h9 hn; exact absurd hn (Nat.not_lt_zero _)
  | succ m9 ih =>
    intro i hi h9 hn
    refine wq_run2 (pc' := 22) (L' := [(0, .ref 11), (1, .ref 2000002), (2, .int (nI i))]) (S' := [.ref 2000002, .int (nI i)]) (f' := f) rfl ?_
    refine wq_callI (r := (nI 5)) (jp_len2 f) (Nat.le_of_ble_eq_true rfl) (pc' := 25) (L' := [(0, .ref 11), (1, .ref 2000002), (2, .int (nI i))]) (S' := [.int (nI i)]) rfl (Nat.le_of_ble_eq_true rfl) rfl rfl (Nat.le_of_ble_eq_true rfl) (Nat.le_of_ble_eq_true rfl) ?_
    refine wq_if (c := (nI 5) ≤ (nI i)) (p1 := 55) (L1 := [(0, .ref 11), (1, .ref 2000002), (2, .int (nI i))]) (S1 := []) (p2 := 28) (L2 := [(0, .ref 11), (1, .ref 2000002), (2, .int (nI i))]) (S2 := []) rfl (fun c_25 => ?_) (fun c_25 => ?_)
    · have k_25 : 5 ≤ i := (nI_leI (a := 5) (b := i) (by omega) (by omega)).mp c_25
      refine wq_run1 (pc' := 56) (L' := [(0, .ref 11), (1, .ref 2000002), (2, .int (nI i))]) (S' := [.int 1]) (f' := f) rfl ?_
      exact wq_retZ rfl (Or.inr rfl) (Ret.of (wdI_y ⟨hlen, fun j hj => h9 j (Nat.lt_of_lt_of_le hj k_25)⟩).symm rfl)
    · have k_25 : ¬ 5 ≤ i := fun q => c_25 ((nI_leI (a := 5) (b := i) (by omega) (by omega)).mpr q)
      have hi5 : i < 5 := by omega
      refine wq_run4 (pc' := 36) (L' := [(0, .ref 11), (1, .ref 2000002), (2, .int (nI i))]) (S' := [.int (f 11 2), .ref 12]) (f' := f) rfl ?_
      refine wq_v (y := (nI s)) (hx.2.1) ?_
      refine wq_run2 (pc' := 38) (L' := [(0, .ref 11), (1, .ref 2000002), (2, .int (nI i))]) (S' := [.int ((nI s) + (nI i)), .ref 12]) (f' := f) rfl ?_
      refine wq_v (y := (nI (s + i))) (nI_add s i) ?_
      refine wq_ald (j := (s + i)) (n := 160) (v := (T (s + i))) rfl rfl rfl rfl (by omega) (Nat.le_of_ble_eq_true rfl) (hT (s + i) (by omega)) ?_
      refine wq_run2 (pc' := 41) (L' := [(0, .ref 11), (1, .ref 2000002), (2, .int (nI i))]) (S' := [.int (nI i), .ref 2000002, .int (T (s + i))]) (f' := f) rfl ?_
      refine wq_callI (r := (wc 2 i)) (jp_chr2 f hi5) (Nat.le_of_ble_eq_true rfl) (pc' := 44) (L' := [(0, .ref 11), (1, .ref 2000002), (2, .int (nI i))]) (S' := [.int (T (s + i))]) rfl (Nat.le_of_ble_eq_true rfl) rfl rfl (Nat.le_of_ble_eq_true rfl) (Nat.le_of_ble_eq_true rfl) ?_
      refine wq_if (c := (T (s + i)) = (wc 2 i)) (p1 := 49) (L1 := [(0, .ref 11), (1, .ref 2000002), (2, .int (nI i))]) (S1 := []) (p2 := 47) (L2 := [(0, .ref 11), (1, .ref 2000002), (2, .int (nI i))]) (S2 := []) rfl (fun c_44 => ?_) (fun c_44 => ?_)
      · refine wq_run1 (pc' := 52) (L' := [(0, .ref 11), (1, .ref 2000002), (2, .int ((nI i) + 1))]) (S' := []) (f' := f) rfl ?_
        refine wq_L (L' := [(0, .ref 11), (1, .ref 2000002), (2, .int (nI (i + 1)))]) (by rw [show nI i + 1 = nI (i + 1) from nI_add _ _]) ?_
        refine wq_run1 (pc' := 20) (L' := [(0, .ref 11), (1, .ref 2000002), (2, .int (nI (i + 1)))]) (S' := []) (f' := f) rfl ?_
        exact ih (i + 1) (by omega) (fun j hj => by
          rcases Nat.lt_or_ge j i with q | q
          · exact h9 j q
          · have e1 : j = i := by omega
            rw [e1]; exact c_44) (by omega)
      · refine wq_run1 (pc' := 48) (L' := [(0, .ref 11), (1, .ref 2000002), (2, .int (nI i))]) (S' := [.int 0]) (f' := f) rfl ?_
        exact wq_retZ rfl (Or.inl rfl) (Ret.of (wdI_n (fun q => c_44 (q.2 i hi5))).symm rfl)
theorem sp_word2 {f : HI} {T : Nat → Int32} {n s e c : Nat} (hn1 : n ≤ 160) (hT : ∀ j, j < n → f 12 j = T j) (hx : TX (f 11) n s e c) (hse : s ≤ e) (hen : e ≤ n) : Sp 5 71 [.ref 11, .ref 2000002] f (Ret (wdI T 2 s e) f) := by
  show wq 5 71 (Ret (wdI T 2 s e) f) 0 [(0, .ref 11), (1, .ref 2000002)] [] f
  refine wq_run2 (pc' := 4) (L' := [(0, .ref 11), (1, .ref 2000002)]) (S' := [.int (f 11 3)]) (f' := f) rfl ?_
  refine wq_v (y := (nI e)) (hx.2.2.1) ?_
  refine wq_run2 (pc' := 8) (L' := [(0, .ref 11), (1, .ref 2000002)]) (S' := [.int (f 11 2), .int (nI e)]) (f' := f) rfl ?_
  refine wq_v (y := (nI s)) (hx.2.1) ?_
  refine wq_run1 (pc' := 9) (L' := [(0, .ref 11), (1, .ref 2000002)]) (S' := [.int ((nI e) - (nI s))]) (f' := f) rfl ?_
  refine wq_v (y := (nI (e - s))) (pk_sub (a := e) (b := s) (by omega)) ?_
  refine wq_run1 (pc' := 10) (L' := [(0, .ref 11), (1, .ref 2000002)]) (S' := [.ref 2000002, .int (nI (e - s))]) (f' := f) rfl ?_
  refine wq_callI (r := (nI 5)) (jp_len2 f) (Nat.le_of_ble_eq_true rfl) (pc' := 13) (L' := [(0, .ref 11), (1, .ref 2000002)]) (S' := [.int (nI (e - s))]) rfl (Nat.le_of_ble_eq_true rfl) rfl rfl (Nat.le_of_ble_eq_true rfl) (Nat.le_of_ble_eq_true rfl) ?_
  refine wq_if (c := (nI (e - s)) = (nI 5)) (p1 := 18) (L1 := [(0, .ref 11), (1, .ref 2000002)]) (S1 := []) (p2 := 16) (L2 := [(0, .ref 11), (1, .ref 2000002)]) (S2 := []) rfl (fun c_13 => ?_) (fun c_13 => ?_)
  · have k_13 : (e - s) = 5 := (nI_eq (a := (e - s)) (b := 5) (by omega) (by omega)).mp c_13
    refine wq_run2 (pc' := 20) (L' := [(0, .ref 11), (1, .ref 2000002), (2, .int 0)]) (S' := []) (f' := f) rfl ?_
    exact lp_word2 hn1 hT hx hse hen (by omega) (5 - 0 + 1) 0 (Nat.zero_le _) (fun _ h => absurd h (Nat.not_lt_zero _)) (Nat.lt_succ_self _)
  · have k_13 : ¬ (e - s) = 5 := fun q => c_13 ((nI_eq (a := (e - s)) (b := 5) (by omega) (by omega)).mpr q)
    refine wq_run1 (pc' := 17) (L' := [(0, .ref 11), (1, .ref 2000002)]) (S' := [.int 0]) (f' := f) rfl ?_
    exact wq_retZ rfl (Or.inl rfl) (Ret.of (wdI_n (fun q => k_13 (by have h := q.1; have h2 : strN.getD 2 0 = 5 := rfl; omega))).symm rfl)
theorem jp_cha3 (f : HI) {i : Nat} (hi : i < 4) : Sp 3 223 [.ref 3000003, .int (nI i)] f (Ret (wc 3 i) f) := by
  show wq 3 223 (Ret (wc 3 i) f) 0 [(0, .ref 3000003), (1, .int (nI i))] [] f
  refine wq_run3 (pc' := 3) (L' := [(0, .ref 3000003), (1, .int (nI i))]) (S' := [.int (nI 4), .int (nI i)]) (f' := f) rfl ?_
  refine wq_callV (g := f) (jp_chk f (m := 4) hi (Nat.le_of_ble_eq_true rfl)) (Nat.le_of_ble_eq_true rfl) (pc' := 6) (L' := [(0, .ref 3000003), (1, .int (nI i))]) (S' := []) rfl (Nat.le_of_ble_eq_true rfl) rfl rfl (Nat.le_of_ble_eq_true rfl) (Nat.le_of_ble_eq_true rfl) ?_
  refine wq_run2 (pc' := 8) (L' := [(0, .ref 3000003), (1, .int (nI i))]) (S' := [.int (nI i), .ref 3000003]) (f' := f) rfl ?_
  refine wq_strB (k := 3) (j := i) rfl (Nat.le_of_ble_eq_true rfl) rfl hi ?_
  refine wq_run3 (pc' := 14) (L' := [(0, .ref 3000003), (1, .int (nI i))]) (S' := [.int (((wc 3 i) &&& 255).toUInt32 % 65536).toInt32]) (f' := f) rfl ?_
  have h := wc_b 3 (Nat.le_of_ble_eq_true rfl) i hi
  exact wq_retC rfl (by rw [h.1]; exact h.2) (Ret.of h.1 rfl)
theorem jp_chr3 (f : HI) {i : Nat} (hi : i < 4) : Sp 4 219 [.ref 2000003, .int (nI i)] f (Ret (wc 3 i) f) := by
  show wq 4 219 (Ret (wc 3 i) f) 0 [(0, .ref 2000003), (1, .int (nI i))] [] f
  refine wq_run1 (pc' := 1) (L' := [(0, .ref 2000003), (1, .int (nI i))]) (S' := [.ref 2000003]) (f' := f) rfl ?_
  refine wq_callI (r := 1) (jp_lat3 f) (Nat.le_of_ble_eq_true rfl) (pc' := 4) (L' := [(0, .ref 2000003), (1, .int (nI i))]) (S' := []) rfl (Nat.le_of_ble_eq_true rfl) rfl rfl (Nat.le_of_ble_eq_true rfl) (Nat.le_of_ble_eq_true rfl) ?_
  refine wq_if (c := 1 = 0) (p1 := 16) (L1 := [(0, .ref 2000003), (1, .int (nI i))]) (S1 := []) (p2 := 7) (L2 := [(0, .ref 2000003), (1, .int (nI i))]) (S2 := []) rfl (fun q => absurd q (by decide)) (fun _ => ?_)
  refine wq_run3 (pc' := 12) (L' := [(0, .ref 2000003), (1, .int (nI i))]) (S' := [.int (nI i), .ref 3000003]) (f' := f) rfl ?_
  refine wq_callI (r := (wc 3 i)) (jp_cha3 f hi) (Nat.le_of_ble_eq_true rfl) (pc' := 15) (L' := [(0, .ref 2000003), (1, .int (nI i))]) (S' := []) rfl (Nat.le_of_ble_eq_true rfl) rfl rfl (Nat.le_of_ble_eq_true rfl) (Nat.le_of_ble_eq_true rfl) ?_
  have h := wc_b 3 (Nat.le_of_ble_eq_true rfl) i hi
  exact wq_retC rfl h.2 ⟨rfl, rfl⟩
theorem lp_word3 {f : HI} {T : Nat → Int32} {n s e c : Nat} (hn1 : n ≤ 160) (hT : ∀ j, j < n → f 12 j = T j) (hx : TX (f 11) n s e c) (hse : s ≤ e) (hen : e ≤ n) (hlen : e = s + 4) : ∀ (m9 : Nat) (i : Nat), (i ≤ 4) → (∀ j, j < i → T (s + j) = wc 3 j) → 4 - i < m9 → wq 5 71 (Ret (wdI T 3 s e) f) 20 [(0, .ref 11), (1, .ref 2000003), (2, .int (nI i))] [] f := by
  intro m9
  induction m9 with
  | zero => intro i hi h9 hn; exact absurd hn (Nat.not_lt_zero _)
  | succ m9 ih =>
    intro i hi h9 hn
    refine wq_run2 (pc' := 22) (L' := [(0, .ref 11), (1, .ref 2000003), (2, .int (nI i))]) (S' := [.ref 2000003, .int (nI i)]) (f' := f) rfl ?_
    refine wq_callI (r := (nI 4)) (jp_len3 f) (Nat.le_of_ble_eq_true rfl) (pc' := 25) (L' := [(0, .ref 11), (1, .ref 2000003), (2, .int (nI i))]) (S' := [.int (nI i)]) rfl (Nat.le_of_ble_eq_true rfl) rfl rfl (Nat.le_of_ble_eq_true rfl) (Nat.le_of_ble_eq_true rfl) ?_
    refine wq_if (c := (nI 4) ≤ (nI i)) (p1 := 55) (L1 := [(0, .ref 11), (1, .ref 2000003), (2, .int (nI i))]) (S1 := []) (p2 := 28) (L2 := [(0, .ref 11), (1, .ref 2000003), (2, .int (nI i))]) (S2 := []) rfl (fun c_25 => ?_) (fun c_25 => ?_)
    · have k_25 : 4 ≤ i := (nI_leI (a := 4) (b := i) (by omega) (by omega)).mp c_25
      refine wq_run1 (pc' := 56) (L' := [(0, .ref 11), (1, .ref 2000003), (2, .int (nI i))]) (S' := [.int 1]) (f' := f) rfl ?_
      exact wq_retZ rfl (Or.inr rfl) (Ret.of (wdI_y ⟨hlen, fun j hj => h9 j (Nat.lt_of_lt_of_le hj k_25)⟩).symm rfl)
    · have k_25 : ¬ 4 ≤ i := fun q => c_25 ((nI_leI (a := 4) (b := i) (by omega) (by omega)).mpr q)
      have hi5 : i < 4 := by omega
      refine wq_run4 (pc' := 36) (L' := [(0, .ref 11), (1, .ref 2000003), (2, .int (nI i))]) (S' := [.int (f 11 2), .ref 12]) (f' := f) rfl ?_
      refine wq_v (y := (nI s)) (hx.2.1) ?_
      refine wq_run2 (pc' := 38) (L' := [(0, .ref 11), (1, .ref 2000003), (2, .int (nI i))]) (S' := [.int ((nI s) + (nI i)), .ref 12]) (f' := f) rfl ?_
      refine wq_v (y := (nI (s + i))) (nI_add s i) ?_
      refine wq_ald (j := (s + i)) (n := 160) (v := (T (s + i))) rfl rfl rfl rfl (by omega) (Nat.le_of_ble_eq_true rfl) (hT (s + i) (by omega)) ?_
      refine wq_run2 (pc' := 41) (L' := [(0, .ref 11), (1, .ref 2000003), (2, .int (nI i))]) (S' := [.int (nI i), .ref 2000003, .int (T (s + i))]) (f' := f) rfl ?_
      refine wq_callI (r := (wc 3 i)) (jp_chr3 f hi5) (Nat.le_of_ble_eq_true rfl) (pc' := 44) (L' := [(0, .ref 11), (1, .ref 2000003), (2, .int (nI i))]) (S' := [.int (T (s + i))]) rfl (Nat.le_of_ble_eq_true rfl) rfl rfl (Nat.le_of_ble_eq_true rfl) (Nat.le_of_ble_eq_true rfl) ?_
      refine wq_if (c := (T (s + i)) = (wc 3 i)) (p1 := 49) (L1 := [(0, .ref 11), (1, .ref 2000003), (2, .int (nI i))]) (S1 := []) (p2 := 47) (L2 := [(0, .ref 11), (1, .ref 2000003), (2, .int (nI i))]) (S2 := []) rfl (fun c_44 => ?_) (fun c_44 => ?_)
      · refine wq_run1 (pc' := 52) (L' := [(0, .ref 11), (1, .ref 2000003), (2, .int ((nI i) + 1))]) (S' := []) (f' := f) rfl ?_
        refine wq_L (L' := [(0, .ref 11), (1, .ref 2000003), (2, .int (nI (i + 1)))]) (by rw [show nI i + 1 = nI (i + 1) from nI_add _ _]) ?_
        refine wq_run1 (pc' := 20) (L' := [(0, .ref 11), (1, .ref 2000003), (2, .int (nI (i + 1)))]) (S' := []) (f' := f) rfl ?_
        exact ih (i + 1) (by omega) (fun j hj => by
          rcases Nat.lt_or_ge j i with q | q
          · exact h9 j q
          · have e1 : j = i := by omega
            rw [e1]; exact c_44) (by omega)
      · refine wq_run1 (pc' := 48) (L' := [(0, .ref 11), (1, .ref 2000003), (2, .int (nI i))]) (S' := [.int 0]) (f' := f) rfl ?_
        exact wq_retZ rfl (Or.inl rfl) (Ret.of (wdI_n (fun q => c_44 (q.2 i hi5))).symm rfl)
theorem sp_word3 {f : HI} {T : Nat → Int32} {n s e c : Nat} (hn1 : n ≤ 160) (hT : ∀ j, j < n → f 12 j = T j) (hx : TX (f 11) n s e c) (hse : s ≤ e) (hen : e ≤ n) : Sp 5 71 [.ref 11, .ref 2000003] f (Ret (wdI T 3 s e) f) := by
  show wq 5 71 (Ret (wdI T 3 s e) f) 0 [(0, .ref 11), (1, .ref 2000003)] [] f
  refine wq_run2 (pc' := 4) (L' := [(0, .ref 11), (1, .ref 2000003)]) (S' := [.int (f 11 3)]) (f' := f) rfl ?_
  refine wq_v (y := (nI e)) (hx.2.2.1) ?_
  refine wq_run2 (pc' := 8) (L' := [(0, .ref 11), (1, .ref 2000003)]) (S' := [.int (f 11 2), .int (nI e)]) (f' := f) rfl ?_
  refine wq_v (y := (nI s)) (hx.2.1) ?_
  refine wq_run1 (pc' := 9) (L' := [(0, .ref 11), (1, .ref 2000003)]) (S' := [.int ((nI e) - (nI s))]) (f' := f) rfl ?_
  refine wq_v (y := (nI (e - s))) (pk_sub (a := e) (b := s) (by omega)) ?_
  refine wq_run1 (pc' := 10) (L' := [(0, .ref 11), (1, .ref 2000003)]) (S' := [.ref 2000003, .int (nI (e - s))]) (f' := f) rfl ?_
  refine wq_callI (r := (nI 4)) (jp_len3 f) (Nat.le_of_ble_eq_true rfl) (pc' := 13) (L' := [(0, .ref 11), (1, .ref 2000003)]) (S' := [.int (nI (e - s))]) rfl (Nat.le_of_ble_eq_true rfl) rfl rfl (Nat.le_of_ble_eq_true rfl) (Nat.le_of_ble_eq_true rfl) ?_
  refine wq_if (c := (nI (e - s)) = (nI 4)) (p1 := 18) (L1 := [(0, .ref 11), (1, .ref 2000003)]) (S1 := []) (p2 := 16) (L2 := [(0, .ref 11), (1, .ref 2000003)]) (S2 := []) rfl (fun c_13 => ?_) (fun c_13 => ?_)
  · have k_13 : (e - s) = 4 := (nI_eq (a := (e - s)) (b := 4) (by omega) (by omega)).mp c_13
    refine wq_run2 (pc' := 20) (L' := [(0, .ref 11), (1, .ref 2000003), (2, .int 0)]) (S' := []) (f' := f) rfl ?_
    exact lp_word3 hn1 hT hx hse hen (by omega) (4 - 0 + 1) 0 (Nat.zero_le _) (fun _ h => absurd h (Nat.not_lt_zero _)) (Nat.lt_succ_self _)
  · have k_13 : ¬ (e - s) = 4 := fun q => c_13 ((nI_eq (a := (e - s)) (b := 4) (by omega) (by omega)).mpr q)
    refine wq_run1 (pc' := 17) (L' := [(0, .ref 11), (1, .ref 2000003)]) (S' := [.int 0]) (f' := f) rfl ?_
    exact wq_retZ rfl (Or.inl rfl) (Ret.of (wdI_n (fun q => k_13 (by have h := q.1; have h2 : strN.getD 3 0 = 4 := rfl; omega))).symm rfl)
theorem jp_cha4 (f : HI) {i : Nat} (hi : i < 5) : Sp 3 223 [.ref 3000004, .int (nI i)] f (Ret (wc 4 i) f) := by
  show wq 3 223 (Ret (wc 4 i) f) 0 [(0, .ref 3000004), (1, .int (nI i))] [] f
  refine wq_run3 (pc' := 3) (L' := [(0, .ref 3000004), (1, .int (nI i))]) (S' := [.int (nI 5), .int (nI i)]) (f' := f) rfl ?_
  refine wq_callV (g := f) (jp_chk f (m := 5) hi (Nat.le_of_ble_eq_true rfl)) (Nat.le_of_ble_eq_true rfl) (pc' := 6) (L' := [(0, .ref 3000004), (1, .int (nI i))]) (S' := []) rfl (Nat.le_of_ble_eq_true rfl) rfl rfl (Nat.le_of_ble_eq_true rfl) (Nat.le_of_ble_eq_true rfl) ?_
  refine wq_run2 (pc' := 8) (L' := [(0, .ref 3000004), (1, .int (nI i))]) (S' := [.int (nI i), .ref 3000004]) (f' := f) rfl ?_
  refine wq_strB (k := 4) (j := i) rfl (Nat.le_of_ble_eq_true rfl) rfl hi ?_
  refine wq_run3 (pc' := 14) (L' := [(0, .ref 3000004), (1, .int (nI i))]) (S' := [.int (((wc 4 i) &&& 255).toUInt32 % 65536).toInt32]) (f' := f) rfl ?_
  have h := wc_b 4 (Nat.le_of_ble_eq_true rfl) i hi
  exact wq_retC rfl (by rw [h.1]; exact h.2) (Ret.of h.1 rfl)
theorem jp_chr4 (f : HI) {i : Nat} (hi : i < 5) : Sp 4 219 [.ref 2000004, .int (nI i)] f (Ret (wc 4 i) f) := by
  show wq 4 219 (Ret (wc 4 i) f) 0 [(0, .ref 2000004), (1, .int (nI i))] [] f
  refine wq_run1 (pc' := 1) (L' := [(0, .ref 2000004), (1, .int (nI i))]) (S' := [.ref 2000004]) (f' := f) rfl ?_
  refine wq_callI (r := 1) (jp_lat4 f) (Nat.le_of_ble_eq_true rfl) (pc' := 4) (L' := [(0, .ref 2000004), (1, .int (nI i))]) (S' := []) rfl (Nat.le_of_ble_eq_true rfl) rfl rfl (Nat.le_of_ble_eq_true rfl) (Nat.le_of_ble_eq_true rfl) ?_
  refine wq_if (c := 1 = 0) (p1 := 16) (L1 := [(0, .ref 2000004), (1, .int (nI i))]) (S1 := []) (p2 := 7) (L2 := [(0, .ref 2000004), (1, .int (nI i))]) (S2 := []) rfl (fun q => absurd q (by decide)) (fun _ => ?_)
  refine wq_run3 (pc' := 12) (L' := [(0, .ref 2000004), (1, .int (nI i))]) (S' := [.int (nI i), .ref 3000004]) (f' := f) rfl ?_
  refine wq_callI (r := (wc 4 i)) (jp_cha4 f hi) (Nat.le_of_ble_eq_true rfl) (pc' := 15) (L' := [(0, .ref 2000004), (1, .int (nI i))]) (S' := []) rfl (Nat.le_of_ble_eq_true rfl) rfl rfl (Nat.le_of_ble_eq_true rfl) (Nat.le_of_ble_eq_true rfl) ?_
  have h := wc_b 4 (Nat.le_of_ble_eq_true rfl) i hi
  exact wq_retC rfl h.2 ⟨rfl, rfl⟩
theorem lp_word4 {f : HI} {T : Nat → Int32} {n s e c : Nat} (hn1 : n ≤ 160) (hT : ∀ j, j < n → f 12 j = T j) (hx : TX (f 11) n s e c) (hse : s ≤ e) (hen : e ≤ n) (hlen : e = s + 5) : ∀ (m9 : Nat) (i : Nat), (i ≤ 5) → (∀ j, j < i → T (s + j) = wc 4 j) → 5 - i < m9 → wq 5 71 (Ret (wdI T 4 s e) f) 20 [(0, .ref 11), (1, .ref 2000004), (2, .int (nI i))] [] f := by
  intro m9
  induction m9 with
  | zero => intro i hi h9 hn; exact absurd hn (Nat.not_lt_zero _)
  | succ m9 ih =>
    intro i hi h9 hn
    refine wq_run2 (pc' := 22) (L' := [(0, .ref 11), (1, .ref 2000004), (2, .int (nI i))]) (S' := [.ref 2000004, .int (nI i)]) (f' := f) rfl ?_
    refine wq_callI (r := (nI 5)) (jp_len4 f) (Nat.le_of_ble_eq_true rfl) (pc' := 25) (L' := [(0, .ref 11), (1, .ref 2000004), (2, .int (nI i))]) (S' := [.int (nI i)]) rfl (Nat.le_of_ble_eq_true rfl) rfl rfl (Nat.le_of_ble_eq_true rfl) (Nat.le_of_ble_eq_true rfl) ?_
    refine wq_if (c := (nI 5) ≤ (nI i)) (p1 := 55) (L1 := [(0, .ref 11), (1, .ref 2000004), (2, .int (nI i))]) (S1 := []) (p2 := 28) (L2 := [(0, .ref 11), (1, .ref 2000004), (2, .int (nI i))]) (S2 := []) rfl (fun c_25 => ?_) (fun c_25 => ?_)
    · have k_25 : 5 ≤ i := (nI_leI (a := 5) (b := i) (by omega) (by omega)).mp c_25
      refine wq_run1 (pc' := 56) (L' := [(0, .ref 11), (1, .ref 2000004), (2, .int (nI i))]) (S' := [.int 1]) (f' := f) rfl ?_
      exact wq_retZ rfl (Or.inr rfl) (Ret.of (wdI_y ⟨hlen, fun j hj => h9 j (Nat.lt_of_lt_of_le hj k_25)⟩).symm rfl)
    · have k_25 : ¬ 5 ≤ i := fun q => c_25 ((nI_leI (a := 5) (b := i) (by omega) (by omega)).mpr q)
      have hi5 : i < 5 := by omega
      refine wq_run4 (pc' := 36) (L' := [(0, .ref 11), (1, .ref 2000004), (2, .int (nI i))]) (S' := [.int (f 11 2), .ref 12]) (f' := f) rfl ?_
      refine wq_v (y := (nI s)) (hx.2.1) ?_
      refine wq_run2 (pc' := 38) (L' := [(0, .ref 11), (1, .ref 2000004), (2, .int (nI i))]) (S' := [.int ((nI s) + (nI i)), .ref 12]) (f' := f) rfl ?_
      refine wq_v (y := (nI (s + i))) (nI_add s i) ?_
      refine wq_ald (j := (s + i)) (n := 160) (v := (T (s + i))) rfl rfl rfl rfl (by omega) (Nat.le_of_ble_eq_true rfl) (hT (s + i) (by omega)) ?_
      refine wq_run2 (pc' := 41) (L' := [(0, .ref 11), (1, .ref 2000004), (2, .int (nI i))]) (S' := [.int (nI i), .ref 2000004, .int (T (s + i))]) (f' := f) rfl ?_
      refine wq_callI (r := (wc 4 i)) (jp_chr4 f hi5) (Nat.le_of_ble_eq_true rfl) (pc' := 44) (L' := [(0, .ref 11), (1, .ref 2000004), (2, .int (nI i))]) (S' := [.int (T (s + i))]) rfl (Nat.le_of_ble_eq_true rfl) rfl rfl (Nat.le_of_ble_eq_true rfl) (Nat.le_of_ble_eq_true rfl) ?_
      refine wq_if (c := (T (s + i)) = (wc 4 i)) (p1 := 49) (L1 := [(0, .ref 11), (1, .ref 2000004), (2, .int (nI i))]) (S1 := []) (p2 := 47) (L2 := [(0, .ref 11), (1, .ref 2000004), (2, .int (nI i))]) (S2 := []) rfl (fun c_44 => ?_) (fun c_44 => ?_)
      · refine wq_run1 (pc' := 52) (L' := [(0, .ref 11), (1, .ref 2000004), (2, .int ((nI i) + 1))]) (S' := []) (f' := f) rfl ?_
        refine wq_L (L' := [(0, .ref 11), (1, .ref 2000004), (2, .int (nI (i + 1)))]) (by rw [show nI i + 1 = nI (i + 1) from nI_add _ _]) ?_
        refine wq_run1 (pc' := 20) (L' := [(0, .ref 11), (1, .ref 2000004), (2, .int (nI (i + 1)))]) (S' := []) (f' := f) rfl ?_
        exact ih (i + 1) (by omega) (fun j hj => by
          rcases Nat.lt_or_ge j i with q | q
          · exact h9 j q
          · have e1 : j = i := by omega
            rw [e1]; exact c_44) (by omega)
      · refine wq_run1 (pc' := 48) (L' := [(0, .ref 11), (1, .ref 2000004), (2, .int (nI i))]) (S' := [.int 0]) (f' := f) rfl ?_
        exact wq_retZ rfl (Or.inl rfl) (Ret.of (wdI_n (fun q => c_44 (q.2 i hi5))).symm rfl)
theorem sp_word4 {f : HI} {T : Nat → Int32} {n s e c : Nat} (hn1 : n ≤ 160) (hT : ∀ j, j < n → f 12 j = T j) (hx : TX (f 11) n s e c) (hse : s ≤ e) (hen : e ≤ n) : Sp 5 71 [.ref 11, .ref 2000004] f (Ret (wdI T 4 s e) f) := by
  show wq 5 71 (Ret (wdI T 4 s e) f) 0 [(0, .ref 11), (1, .ref 2000004)] [] f
  refine wq_run2 (pc' := 4) (L' := [(0, .ref 11), (1, .ref 2000004)]) (S' := [.int (f 11 3)]) (f' := f) rfl ?_
  refine wq_v (y := (nI e)) (hx.2.2.1) ?_
  refine wq_run2 (pc' := 8) (L' := [(0, .ref 11), (1, .ref 2000004)]) (S' := [.int (f 11 2), .int (nI e)]) (f' := f) rfl ?_
  refine wq_v (y := (nI s)) (hx.2.1) ?_
  refine wq_run1 (pc' := 9) (L' := [(0, .ref 11), (1, .ref 2000004)]) (S' := [.int ((nI e) - (nI s))]) (f' := f) rfl ?_
  refine wq_v (y := (nI (e - s))) (pk_sub (a := e) (b := s) (by omega)) ?_
  refine wq_run1 (pc' := 10) (L' := [(0, .ref 11), (1, .ref 2000004)]) (S' := [.ref 2000004, .int (nI (e - s))]) (f' := f) rfl ?_
  refine wq_callI (r := (nI 5)) (jp_len4 f) (Nat.le_of_ble_eq_true rfl) (pc' := 13) (L' := [(0, .ref 11), (1, .ref 2000004)]) (S' := [.int (nI (e - s))]) rfl (Nat.le_of_ble_eq_true rfl) rfl rfl (Nat.le_of_ble_eq_true rfl) (Nat.le_of_ble_eq_true rfl) ?_
  refine wq_if (c := (nI (e - s)) = (nI 5)) (p1 := 18) (L1 := [(0, .ref 11), (1, .ref 2000004)]) (S1 := []) (p2 := 16) (L2 := [(0, .ref 11), (1, .ref 2000004)]) (S2 := []) rfl (fun c_13 => ?_) (fun c_13 => ?_)
  · have k_13 : (e - s) = 5 := (nI_eq (a := (e - s)) (b := 5) (by omega) (by omega)).mp c_13
    refine wq_run2 (pc' := 20) (L' := [(0, .ref 11), (1, .ref 2000004), (2, .int 0)]) (S' := []) (f' := f) rfl ?_
    exact lp_word4 hn1 hT hx hse hen (by omega) (5 - 0 + 1) 0 (Nat.zero_le _) (fun _ h => absurd h (Nat.not_lt_zero _)) (Nat.lt_succ_self _)
  · have k_13 : ¬ (e - s) = 5 := fun q => c_13 ((nI_eq (a := (e - s)) (b := 5) (by omega) (by omega)).mpr q)
    refine wq_run1 (pc' := 17) (L' := [(0, .ref 11), (1, .ref 2000004)]) (S' := [.int 0]) (f' := f) rfl ?_
    exact wq_retZ rfl (Or.inl rfl) (Ret.of (wdI_n (fun q => k_13 (by have h := q.1; have h2 : strN.getD 4 0 = 5 := rfl; omega))).symm rfl)
theorem jp_cha5 (f : HI) {i : Nat} (hi : i < 5) : Sp 3 223 [.ref 3000005, .int (nI i)] f (Ret (wc 5 i) f) := by
  show wq 3 223 (Ret (wc 5 i) f) 0 [(0, .ref 3000005), (1, .int (nI i))] [] f
  refine wq_run3 (pc' := 3) (L' := [(0, .ref 3000005), (1, .int (nI i))]) (S' := [.int (nI 5), .int (nI i)]) (f' := f) rfl ?_
  refine wq_callV (g := f) (jp_chk f (m := 5) hi (Nat.le_of_ble_eq_true rfl)) (Nat.le_of_ble_eq_true rfl) (pc' := 6) (L' := [(0, .ref 3000005), (1, .int (nI i))]) (S' := []) rfl (Nat.le_of_ble_eq_true rfl) rfl rfl (Nat.le_of_ble_eq_true rfl) (Nat.le_of_ble_eq_true rfl) ?_
  refine wq_run2 (pc' := 8) (L' := [(0, .ref 3000005), (1, .int (nI i))]) (S' := [.int (nI i), .ref 3000005]) (f' := f) rfl ?_
  refine wq_strB (k := 5) (j := i) rfl (Nat.le_of_ble_eq_true rfl) rfl hi ?_
  refine wq_run3 (pc' := 14) (L' := [(0, .ref 3000005), (1, .int (nI i))]) (S' := [.int (((wc 5 i) &&& 255).toUInt32 % 65536).toInt32]) (f' := f) rfl ?_
  have h := wc_b 5 (Nat.le_of_ble_eq_true rfl) i hi
  exact wq_retC rfl (by rw [h.1]; exact h.2) (Ret.of h.1 rfl)
theorem jp_chr5 (f : HI) {i : Nat} (hi : i < 5) : Sp 4 219 [.ref 2000005, .int (nI i)] f (Ret (wc 5 i) f) := by
  show wq 4 219 (Ret (wc 5 i) f) 0 [(0, .ref 2000005), (1, .int (nI i))] [] f
  refine wq_run1 (pc' := 1) (L' := [(0, .ref 2000005), (1, .int (nI i))]) (S' := [.ref 2000005]) (f' := f) rfl ?_
  refine wq_callI (r := 1) (jp_lat5 f) (Nat.le_of_ble_eq_true rfl) (pc' := 4) (L' := [(0, .ref 2000005), (1, .int (nI i))]) (S' := []) rfl (Nat.le_of_ble_eq_true rfl) rfl rfl (Nat.le_of_ble_eq_true rfl) (Nat.le_of_ble_eq_true rfl) ?_
  refine wq_if (c := 1 = 0) (p1 := 16) (L1 := [(0, .ref 2000005), (1, .int (nI i))]) (S1 := []) (p2 := 7) (L2 := [(0, .ref 2000005), (1, .int (nI i))]) (S2 := []) rfl (fun q => absurd q (by decide)) (fun _ => ?_)
  refine wq_run3 (pc' := 12) (L' := [(0, .ref 2000005), (1, .int (nI i))]) (S' := [.int (nI i), .ref 3000005]) (f' := f) rfl ?_
  refine wq_callI (r := (wc 5 i)) (jp_cha5 f hi) (Nat.le_of_ble_eq_true rfl) (pc' := 15) (L' := [(0, .ref 2000005), (1, .int (nI i))]) (S' := []) rfl (Nat.le_of_ble_eq_true rfl) rfl rfl (Nat.le_of_ble_eq_true rfl) (Nat.le_of_ble_eq_true rfl) ?_
  have h := wc_b 5 (Nat.le_of_ble_eq_true rfl) i hi
  exact wq_retC rfl h.2 ⟨rfl, rfl⟩
theorem lp_word5 {f : HI} {T : Nat → Int32} {n s e c : Nat} (hn1 : n ≤ 160) (hT : ∀ j, j < n → f 12 j = T j) (hx : TX (f 11) n s e c) (hse : s ≤ e) (hen : e ≤ n) (hlen : e = s + 5) : ∀ (m9 : Nat) (i : Nat), (i ≤ 5) → (∀ j, j < i → T (s + j) = wc 5 j) → 5 - i < m9 → wq 5 71 (Ret (wdI T 5 s e) f) 20 [(0, .ref 11), (1, .ref 2000005), (2, .int (nI i))] [] f := by
  intro m9
  induction m9 with
  | zero => intro i hi h9 hn; exact absurd hn (Nat.not_lt_zero _)
  | succ m9 ih =>
    intro i hi h9 hn
    refine wq_run2 (pc' := 22) (L' := [(0, .ref 11), (1, .ref 2000005), (2, .int (nI i))]) (S' := [.ref 2000005, .int (nI i)]) (f' := f) rfl ?_
    refine wq_callI (r := (nI 5)) (jp_len5 f) (Nat.le_of_ble_eq_true rfl) (pc' := 25) (L' := [(0, .ref 11), (1, .ref 2000005), (2, .int (nI i))]) (S' := [.int (nI i)]) rfl (Nat.le_of_ble_eq_true rfl) rfl rfl (Nat.le_of_ble_eq_true rfl) (Nat.le_of_ble_eq_true rfl) ?_
    refine wq_if (c := (nI 5) ≤ (nI i)) (p1 := 55) (L1 := [(0, .ref 11), (1, .ref 2000005), (2, .int (nI i))]) (S1 := []) (p2 := 28) (L2 := [(0, .ref 11), (1, .ref 2000005), (2, .int (nI i))]) (S2 := []) rfl (fun c_25 => ?_) (fun c_25 => ?_)
    · have k_25 : 5 ≤ i := (nI_leI (a := 5) (b := i) (by omega) (by omega)).mp c_25
      refine wq_run1 (pc' := 56) (L' := [(0, .ref 11), (1, .ref 2000005), (2, .int (nI i))]) (S' := [.int 1]) (f' := f) rfl ?_
      exact wq_retZ rfl (Or.inr rfl) (Ret.of (wdI_y ⟨hlen, fun j hj => h9 j (Nat.lt_of_lt_of_le hj k_25)⟩).symm rfl)
    · have k_25 : ¬ 5 ≤ i := fun q => c_25 ((nI_leI (a := 5) (b := i) (by omega) (by omega)).mpr q)
      have hi5 : i < 5 := by omega
      refine wq_run4 (pc' := 36) (L' := [(0, .ref 11), (1, .ref 2000005), (2, .int (nI i))]) (S' := [.int (f 11 2), .ref 12]) (f' := f) rfl ?_
      refine wq_v (y := (nI s)) (hx.2.1) ?_
      refine wq_run2 (pc' := 38) (L' := [(0, .ref 11), (1, .ref 2000005), (2, .int (nI i))]) (S' := [.int ((nI s) + (nI i)), .ref 12]) (f' := f) rfl ?_
      refine wq_v (y := (nI (s + i))) (nI_add s i) ?_
      refine wq_ald (j := (s + i)) (n := 160) (v := (T (s + i))) rfl rfl rfl rfl (by omega) (Nat.le_of_ble_eq_true rfl) (hT (s + i) (by omega)) ?_
      refine wq_run2 (pc' := 41) (L' := [(0, .ref 11), (1, .ref 2000005), (2, .int (nI i))]) (S' := [.int (nI i), .ref 2000005, .int (T (s + i))]) (f' := f) rfl ?_
      refine wq_callI (r := (wc 5 i)) (jp_chr5 f hi5) (Nat.le_of_ble_eq_true rfl) (pc' := 44) (L' := [(0, .ref 11), (1, .ref 2000005), (2, .int (nI i))]) (S' := [.int (T (s + i))]) rfl (Nat.le_of_ble_eq_true rfl) rfl rfl (Nat.le_of_ble_eq_true rfl) (Nat.le_of_ble_eq_true rfl) ?_
      refine wq_if (c := (T (s + i)) = (wc 5 i)) (p1 := 49) (L1 := [(0, .ref 11), (1, .ref 2000005), (2, .int (nI i))]) (S1 := []) (p2 := 47) (L2 := [(0, .ref 11), (1, .ref 2000005), (2, .int (nI i))]) (S2 := []) rfl (fun c_44 => ?_) (fun c_44 => ?_)
      · refine wq_run1 (pc' := 52) (L' := [(0, .ref 11), (1, .ref 2000005), (2, .int ((nI i) + 1))]) (S' := []) (f' := f) rfl ?_
        refine wq_L (L' := [(0, .ref 11), (1, .ref 2000005), (2, .int (nI (i + 1)))]) (by rw [show nI i + 1 = nI (i + 1) from nI_add _ _]) ?_
        refine wq_run1 (pc' := 20) (L' := [(0, .ref 11), (1, .ref 2000005), (2, .int (nI (i + 1)))]) (S' := []) (f' := f) rfl ?_
        exact ih (i + 1) (by omega) (fun j hj => by
          rcases Nat.lt_or_ge j i with q | q
          · exact h9 j q
          · have e1 : j = i := by omega
            rw [e1]; exact c_44) (by omega)
      · refine wq_run1 (pc' := 48) (L' := [(0, .ref 11), (1, .ref 2000005), (2, .int (nI i))]) (S' := [.int 0]) (f' := f) rfl ?_
        exact wq_retZ rfl (Or.inl rfl) (Ret.of (wdI_n (fun q => c_44 (q.2 i hi5))).symm rfl)
theorem sp_word5 {f : HI} {T : Nat → Int32} {n s e c : Nat} (hn1 : n ≤ 160) (hT : ∀ j, j < n → f 12 j = T j) (hx : TX (f 11) n s e c) (hse : s ≤ e) (hen : e ≤ n) : Sp 5 71 [.ref 11, .ref 2000005] f (Ret (wdI T 5 s e) f) := by
  show wq 5 71 (Ret (wdI T 5 s e) f) 0 [(0, .ref 11), (1, .ref 2000005)] [] f
  refine wq_run2 (pc' := 4) (L' := [(0, .ref 11), (1, .ref 2000005)]) (S' := [.int (f 11 3)]) (f' := f) rfl ?_
  refine wq_v (y := (nI e)) (hx.2.2.1) ?_
  refine wq_run2 (pc' := 8) (L' := [(0, .ref 11), (1, .ref 2000005)]) (S' := [.int (f 11 2), .int (nI e)]) (f' := f) rfl ?_
  refine wq_v (y := (nI s)) (hx.2.1) ?_
  refine wq_run1 (pc' := 9) (L' := [(0, .ref 11), (1, .ref 2000005)]) (S' := [.int ((nI e) - (nI s))]) (f' := f) rfl ?_
  refine wq_v (y := (nI (e - s))) (pk_sub (a := e) (b := s) (by omega)) ?_
  refine wq_run1 (pc' := 10) (L' := [(0, .ref 11), (1, .ref 2000005)]) (S' := [.ref 2000005, .int (nI (e - s))]) (f' := f) rfl ?_
  refine wq_callI (r := (nI 5)) (jp_len5 f) (Nat.le_of_ble_eq_true rfl) (pc' := 13) (L' := [(0, .ref 11), (1, .ref 2000005)]) (S' := [.int (nI (e - s))]) rfl (Nat.le_of_ble_eq_true rfl) rfl rfl (Nat.le_of_ble_eq_true rfl) (Nat.le_of_ble_eq_true rfl) ?_
  refine wq_if (c := (nI (e - s)) = (nI 5)) (p1 := 18) (L1 := [(0, .ref 11), (1, .ref 2000005)]) (S1 := []) (p2 := 16) (L2 := [(0, .ref 11), (1, .ref 2000005)]) (S2 := []) rfl (fun c_13 => ?_) (fun c_13 => ?_)
  · have k_13 : (e - s) = 5 := (nI_eq (a := (e - s)) (b := 5) (by omega) (by omega)).mp c_13
    refine wq_run2 (pc' := 20) (L' := [(0, .ref 11), (1, .ref 2000005), (2, .int 0)]) (S' := []) (f' := f) rfl ?_
    exact lp_word5 hn1 hT hx hse hen (by omega) (5 - 0 + 1) 0 (Nat.zero_le _) (fun _ h => absurd h (Nat.not_lt_zero _)) (Nat.lt_succ_self _)
  · have k_13 : ¬ (e - s) = 5 := fun q => c_13 ((nI_eq (a := (e - s)) (b := 5) (by omega) (by omega)).mpr q)
    refine wq_run1 (pc' := 17) (L' := [(0, .ref 11), (1, .ref 2000005)]) (S' := [.int 0]) (f' := f) rfl ?_
    exact wq_retZ rfl (Or.inl rfl) (Ret.of (wdI_n (fun q => k_13 (by have h := q.1; have h2 : strN.getD 5 0 = 5 := rfl; omega))).symm rfl)
theorem jp_cha6 (f : HI) {i : Nat} (hi : i < 3) : Sp 3 223 [.ref 3000006, .int (nI i)] f (Ret (wc 6 i) f) := by
  show wq 3 223 (Ret (wc 6 i) f) 0 [(0, .ref 3000006), (1, .int (nI i))] [] f
  refine wq_run3 (pc' := 3) (L' := [(0, .ref 3000006), (1, .int (nI i))]) (S' := [.int (nI 3), .int (nI i)]) (f' := f) rfl ?_
  refine wq_callV (g := f) (jp_chk f (m := 3) hi (Nat.le_of_ble_eq_true rfl)) (Nat.le_of_ble_eq_true rfl) (pc' := 6) (L' := [(0, .ref 3000006), (1, .int (nI i))]) (S' := []) rfl (Nat.le_of_ble_eq_true rfl) rfl rfl (Nat.le_of_ble_eq_true rfl) (Nat.le_of_ble_eq_true rfl) ?_
  refine wq_run2 (pc' := 8) (L' := [(0, .ref 3000006), (1, .int (nI i))]) (S' := [.int (nI i), .ref 3000006]) (f' := f) rfl ?_
  refine wq_strB (k := 6) (j := i) rfl (Nat.le_of_ble_eq_true rfl) rfl hi ?_
  refine wq_run3 (pc' := 14) (L' := [(0, .ref 3000006), (1, .int (nI i))]) (S' := [.int (((wc 6 i) &&& 255).toUInt32 % 65536).toInt32]) (f' := f) rfl ?_
  have h := wc_b 6 (Nat.le_of_ble_eq_true rfl) i hi
  exact wq_retC rfl (by rw [h.1]; exact h.2) (Ret.of h.1 rfl)
theorem jp_chr6 (f : HI) {i : Nat} (hi : i < 3) : Sp 4 219 [.ref 2000006, .int (nI i)] f (Ret (wc 6 i) f) := by
  show wq 4 219 (Ret (wc 6 i) f) 0 [(0, .ref 2000006), (1, .int (nI i))] [] f
  refine wq_run1 (pc' := 1) (L' := [(0, .ref 2000006), (1, .int (nI i))]) (S' := [.ref 2000006]) (f' := f) rfl ?_
  refine wq_callI (r := 1) (jp_lat6 f) (Nat.le_of_ble_eq_true rfl) (pc' := 4) (L' := [(0, .ref 2000006), (1, .int (nI i))]) (S' := []) rfl (Nat.le_of_ble_eq_true rfl) rfl rfl (Nat.le_of_ble_eq_true rfl) (Nat.le_of_ble_eq_true rfl) ?_
  refine wq_if (c := 1 = 0) (p1 := 16) (L1 := [(0, .ref 2000006), (1, .int (nI i))]) (S1 := []) (p2 := 7) (L2 := [(0, .ref 2000006), (1, .int (nI i))]) (S2 := []) rfl (fun q => absurd q (by decide)) (fun _ => ?_)
  refine wq_run3 (pc' := 12) (L' := [(0, .ref 2000006), (1, .int (nI i))]) (S' := [.int (nI i), .ref 3000006]) (f' := f) rfl ?_
  refine wq_callI (r := (wc 6 i)) (jp_cha6 f hi) (Nat.le_of_ble_eq_true rfl) (pc' := 15) (L' := [(0, .ref 2000006), (1, .int (nI i))]) (S' := []) rfl (Nat.le_of_ble_eq_true rfl) rfl rfl (Nat.le_of_ble_eq_true rfl) (Nat.le_of_ble_eq_true rfl) ?_
  have h := wc_b 6 (Nat.le_of_ble_eq_true rfl) i hi
  exact wq_retC rfl h.2 ⟨rfl, rfl⟩
theorem lp_word6 {f : HI} {T : Nat → Int32} {n s e c : Nat} (hn1 : n ≤ 160) (hT : ∀ j, j < n → f 12 j = T j) (hx : TX (f 11) n s e c) (hse : s ≤ e) (hen : e ≤ n) (hlen : e = s + 3) : ∀ (m9 : Nat) (i : Nat), (i ≤ 3) → (∀ j, j < i → T (s + j) = wc 6 j) → 3 - i < m9 → wq 5 71 (Ret (wdI T 6 s e) f) 20 [(0, .ref 11), (1, .ref 2000006), (2, .int (nI i))] [] f := by
  intro m9
  induction m9 with
  | zero => intro i hi h9 hn; exact absurd hn (Nat.not_lt_zero _)
  | succ m9 ih =>
    intro i hi h9 hn
    refine wq_run2 (pc' := 22) (L' := [(0, .ref 11), (1, .ref 2000006), (2, .int (nI i))]) (S' := [.ref 2000006, .int (nI i)]) (f' := f) rfl ?_
    refine wq_callI (r := (nI 3)) (jp_len6 f) (Nat.le_of_ble_eq_true rfl) (pc' := 25) (L' := [(0, .ref 11), (1, .ref 2000006), (2, .int (nI i))]) (S' := [.int (nI i)]) rfl (Nat.le_of_ble_eq_true rfl) rfl rfl (Nat.le_of_ble_eq_true rfl) (Nat.le_of_ble_eq_true rfl) ?_
    refine wq_if (c := (nI 3) ≤ (nI i)) (p1 := 55) (L1 := [(0, .ref 11), (1, .ref 2000006), (2, .int (nI i))]) (S1 := []) (p2 := 28) (L2 := [(0, .ref 11), (1, .ref 2000006), (2, .int (nI i))]) (S2 := []) rfl (fun c_25 => ?_) (fun c_25 => ?_)
    · have k_25 : 3 ≤ i := (nI_leI (a := 3) (b := i) (by omega) (by omega)).mp c_25
      refine wq_run1 (pc' := 56) (L' := [(0, .ref 11), (1, .ref 2000006), (2, .int (nI i))]) (S' := [.int 1]) (f' := f) rfl ?_
      exact wq_retZ rfl (Or.inr rfl) (Ret.of (wdI_y ⟨hlen, fun j hj => h9 j (Nat.lt_of_lt_of_le hj k_25)⟩).symm rfl)
    · have k_25 : ¬ 3 ≤ i := fun q => c_25 ((nI_leI (a := 3) (b := i) (by omega) (by omega)).mpr q)
      have hi5 : i < 3 := by omega
      refine wq_run4 (pc' := 36) (L' := [(0, .ref 11), (1, .ref 2000006), (2, .int (nI i))]) (S' := [.int (f 11 2), .ref 12]) (f' := f) rfl ?_
      refine wq_v (y := (nI s)) (hx.2.1) ?_
      refine wq_run2 (pc' := 38) (L' := [(0, .ref 11), (1, .ref 2000006), (2, .int (nI i))]) (S' := [.int ((nI s) + (nI i)), .ref 12]) (f' := f) rfl ?_
      refine wq_v (y := (nI (s + i))) (nI_add s i) ?_
      refine wq_ald (j := (s + i)) (n := 160) (v := (T (s + i))) rfl rfl rfl rfl (by omega) (Nat.le_of_ble_eq_true rfl) (hT (s + i) (by omega)) ?_
      refine wq_run2 (pc' := 41) (L' := [(0, .ref 11), (1, .ref 2000006), (2, .int (nI i))]) (S' := [.int (nI i), .ref 2000006, .int (T (s + i))]) (f' := f) rfl ?_
      refine wq_callI (r := (wc 6 i)) (jp_chr6 f hi5) (Nat.le_of_ble_eq_true rfl) (pc' := 44) (L' := [(0, .ref 11), (1, .ref 2000006), (2, .int (nI i))]) (S' := [.int (T (s + i))]) rfl (Nat.le_of_ble_eq_true rfl) rfl rfl (Nat.le_of_ble_eq_true rfl) (Nat.le_of_ble_eq_true rfl) ?_
      refine wq_if (c := (T (s + i)) = (wc 6 i)) (p1 := 49) (L1 := [(0, .ref 11), (1, .ref 2000006), (2, .int (nI i))]) (S1 := []) (p2 := 47) (L2 := [(0, .ref 11), (1, .ref 2000006), (2, .int (nI i))]) (S2 := []) rfl (fun c_44 => ?_) (fun c_44 => ?_)
      · refine wq_run1 (pc' := 52) (L' := [(0, .ref 11), (1, .ref 2000006), (2, .int ((nI i) + 1))]) (S' := []) (f' := f) rfl ?_
        refine wq_L (L' := [(0, .ref 11), (1, .ref 2000006), (2, .int (nI (i + 1)))]) (by rw [show nI i + 1 = nI (i + 1) from nI_add _ _]) ?_
        refine wq_run1 (pc' := 20) (L' := [(0, .ref 11), (1, .ref 2000006), (2, .int (nI (i + 1)))]) (S' := []) (f' := f) rfl ?_
        exact ih (i + 1) (by omega) (fun j hj => by
          rcases Nat.lt_or_ge j i with q | q
          · exact h9 j q
          · have e1 : j = i := by omega
            rw [e1]; exact c_44) (by omega)
      · refine wq_run1 (pc' := 48) (L' := [(0, .ref 11), (1, .ref 2000006), (2, .int (nI i))]) (S' := [.int 0]) (f' := f) rfl ?_
        exact wq_retZ rfl (Or.inl rfl) (Ret.of (wdI_n (fun q => c_44 (q.2 i hi5))).symm rfl)
theorem sp_word6 {f : HI} {T : Nat → Int32} {n s e c : Nat} (hn1 : n ≤ 160) (hT : ∀ j, j < n → f 12 j = T j) (hx : TX (f 11) n s e c) (hse : s ≤ e) (hen : e ≤ n) : Sp 5 71 [.ref 11, .ref 2000006] f (Ret (wdI T 6 s e) f) := by
  show wq 5 71 (Ret (wdI T 6 s e) f) 0 [(0, .ref 11), (1, .ref 2000006)] [] f
  refine wq_run2 (pc' := 4) (L' := [(0, .ref 11), (1, .ref 2000006)]) (S' := [.int (f 11 3)]) (f' := f) rfl ?_
  refine wq_v (y := (nI e)) (hx.2.2.1) ?_
  refine wq_run2 (pc' := 8) (L' := [(0, .ref 11), (1, .ref 2000006)]) (S' := [.int (f 11 2), .int (nI e)]) (f' := f) rfl ?_
  refine wq_v (y := (nI s)) (hx.2.1) ?_
  refine wq_run1 (pc' := 9) (L' := [(0, .ref 11), (1, .ref 2000006)]) (S' := [.int ((nI e) - (nI s))]) (f' := f) rfl ?_
  refine wq_v (y := (nI (e - s))) (pk_sub (a := e) (b := s) (by omega)) ?_
  refine wq_run1 (pc' := 10) (L' := [(0, .ref 11), (1, .ref 2000006)]) (S' := [.ref 2000006, .int (nI (e - s))]) (f' := f) rfl ?_
  refine wq_callI (r := (nI 3)) (jp_len6 f) (Nat.le_of_ble_eq_true rfl) (pc' := 13) (L' := [(0, .ref 11), (1, .ref 2000006)]) (S' := [.int (nI (e - s))]) rfl (Nat.le_of_ble_eq_true rfl) rfl rfl (Nat.le_of_ble_eq_true rfl) (Nat.le_of_ble_eq_true rfl) ?_
  refine wq_if (c := (nI (e - s)) = (nI 3)) (p1 := 18) (L1 := [(0, .ref 11), (1, .ref 2000006)]) (S1 := []) (p2 := 16) (L2 := [(0, .ref 11), (1, .ref 2000006)]) (S2 := []) rfl (fun c_13 => ?_) (fun c_13 => ?_)
  · have k_13 : (e - s) = 3 := (nI_eq (a := (e - s)) (b := 3) (by omega) (by omega)).mp c_13
    refine wq_run2 (pc' := 20) (L' := [(0, .ref 11), (1, .ref 2000006), (2, .int 0)]) (S' := []) (f' := f) rfl ?_
    exact lp_word6 hn1 hT hx hse hen (by omega) (3 - 0 + 1) 0 (Nat.zero_le _) (fun _ h => absurd h (Nat.not_lt_zero _)) (Nat.lt_succ_self _)
  · have k_13 : ¬ (e - s) = 3 := fun q => c_13 ((nI_eq (a := (e - s)) (b := 3) (by omega) (by omega)).mpr q)
    refine wq_run1 (pc' := 17) (L' := [(0, .ref 11), (1, .ref 2000006)]) (S' := [.int 0]) (f' := f) rfl ?_
    exact wq_retZ rfl (Or.inl rfl) (Ret.of (wdI_n (fun q => k_13 (by have h := q.1; have h2 : strN.getD 6 0 = 3 := rfl; omega))).symm rfl)
