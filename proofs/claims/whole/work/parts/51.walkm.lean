/-! walk of the reference -/
theorem andnot {S s : Nat} (hS : S < 4096) : nI S &&& (nI s ^^^ (-1)) = nI (S &&& (4095 ^^^ s)) := by
  apply Int32.toBitVec_inj.1
  show BitVec.ofNat 32 S &&& (BitVec.ofNat 32 s ^^^ BitVec.allOnes 32) = BitVec.ofNat 32 (S &&& (4095 ^^^ s))
  apply BitVec.eq_of_getLsbD_eq
  intro i hi
  rw [BitVec.getLsbD_and, BitVec.getLsbD_xor, BitVec.getLsbD_ofNat, BitVec.getLsbD_ofNat, BitVec.getLsbD_ofNat, BitVec.getLsbD_allOnes, Nat.testBit_and, Nat.testBit_xor, show (4095 : Nat) = 2 ^ 12 - 1 from rfl, Nat.testBit_two_pow_sub_one]
  rcases Nat.lt_or_ge i 12 with c | c
  · simp [hi, c]
  · rw [Nat.testBit_lt_two_pow (Nat.lt_of_lt_of_le (show S < 2 ^ 12 from hS) (Nat.pow_le_pow_right (by decide) c))]
    simp
theorem bN_an {S s e : Nat} (he : e < 12) : bN (S &&& (4095 ^^^ s)) e = 1 ↔ bN S e = 1 ∧ ¬ bN s e = 1 := by
  rw [bN_tb, bN_tb, bN_tb, Nat.testBit_and, Nat.testBit_xor, show (4095 : Nat) = 2 ^ 12 - 1 from rfl, Nat.testBit_two_pow_sub_one, decide_eq_true he]
  cases S.testBit e <;> cases s.testBit e <;> simp
theorem bit2N {S s e : Nat} (hS : S < 4096) (he : e < 12) : ((nI S &&& (nI s ^^^ (-1))) >>> (nI e &&& 31)) &&& 1 = nI (bN (S &&& (4095 ^^^ s)) e) := by
  rw [andnot hS]
  exact bitN (Nat.lt_of_le_of_lt Nat.and_le_left (by omega)) (by omega)
def idN (i : Nat) : Nat := i
theorem map_idN (l : List Nat) : l.map idN = l := by
  induction l with
  | nil => rfl
  | cons a l ih => show idN a :: l.map idN = a :: l; rw [ih]; rfl
def vTN (A : Nat → Nat → Nat) (s d : Nat) : Nat := if s = 0 ∧ d = 0 then 0 else A s d
theorem vl_0 {K i : Nat} {l : List Nat} (h : vaL K 0 (i :: l)) : False := bN_zero i ((h.2 i).mp List.mem_cons_self).2
theorem snT_1 {D : Nat → Nat → Nat} {n S U : Nat} {A : Nat → Nat → Nat} {e : Nat} (he : e < n) (hb : bN S e = 1) (h : SndT D idN n S U A) : SndT D idN n S U (updE A (0 ||| 2 ^ e) e (min (A (0 ||| 2 ^ e) e) (D 0 e))) := by
  intro m i hm hi
  unfold updE
  by_cases c : m = 0 ||| 2 ^ e ∧ i = e
  · rw [if_pos c]
    have h1 := h (0 ||| 2 ^ e) e (or_pw_lt (Nat.two_pow_pos n) he) he
    refine ⟨Nat.le_trans (Nat.min_le_left _ _) h1.1, ?_⟩
    rcases Nat.le_total (A (0 ||| 2 ^ e) e) (D 0 e) with q | q
    · rw [Nat.min_eq_left q, c.1, c.2]; exact h1.2
    · rw [Nat.min_eq_right q]
      right
      refine ⟨[], ?_, fun x hx => ?_, ?_⟩
      · rw [c.1, c.2]; exact va_or (va_nil n) he (bN_zero e)
      · rw [List.mem_singleton.mp hx, c.2]; exact hb
      · rw [c.2]; rfl
  · rw [if_neg c]; exact h m i hm hi
theorem cp_1 {D : Nat → Nat → Nat} {n S : Nat} {A : Nat → Nat → Nat} {e : Nat} (he : e < n) (h : Cpl D idN n S A (fun i => i < e) (dnP 0 0 e)) : Cpl D idN n S (updE A (0 ||| 2 ^ e) e (min (A (0 ||| 2 ^ e) e) (D 0 e))) (fun i => i < e + 1) (dnP 0 0 (e + 1)) := by
  intro m i l hm hv hS hd hn
  obtain ⟨p, hp, hvp, e1, hb, hi⟩ := vl_tail hm hv
  cases l with
  | cons j l' =>
    have h1 := hn j l' rfl p hp hvp
    have h2 : p = 0 := by unfold dnP at h1; omega
    rw [h2] at hvp
    exact absurd hvp vl_0
  | nil =>
    have h3 := va_u hp (Nat.two_pow_pos n) hvp (va_nil n)
    rw [h3] at e1
    unfold updE
    by_cases c : i = e
    · rw [if_pos ⟨by rw [e1, c], c⟩, c]
      exact Nat.min_le_right _ _
    · rw [if_neg (fun q => c q.2)]
      exact h m i [] hm hv hS (fun _ => by have := hd rfl; omega) (fun j l' q => by cases q)
/-- a step that is no step -/
theorem cp_far {D : Nat → Nat → Nat} {P : Nat → Nat} {n S U : Nat} {A : Nat → Nat → Nat} {d0 : Nat → Prop} {s j e : Nat} (hd : ∀ i, i < n → d0 i) (hs : s < 2 ^ n) (hA : SndT D P n S U A) (hU : U ≤ A s j + D (P j) (P e)) (h : Cpl D P n S A d0 (dnP s j e)) : Cpl D P n S A d0 (dnP s j (e + 1)) := by
  intro m i l hm hva hS hd1 hn
  obtain ⟨p, hp, hvp, e1, hb, hi⟩ := vl_tail hm hva
  cases l with
  | nil => exact h m i [] hm hva hS (fun _ => hd i hi) (fun j l' q => by cases q)
  | cons j' l' =>
    have hdn := hn j' l' rfl p hp hvp
    by_cases c2 : p = s ∧ j' = j ∧ i = e
    · have h2 := h s j l' hs (by rw [← c2.1, ← c2.2.1]; exact hvp) (fun x hx => hS x (by rw [← c2.2.1] at hx; exact List.mem_cons_of_mem _ hx)) (fun _ => hd j (by rw [← c2.2.1]; exact ((hvp.2 j').mp List.mem_cons_self).1)) (fun j2 l2 q p2 hp2 hv2 => by
          left
          obtain ⟨p3, hp3, hv3, e3, hb3, _⟩ := vl_tail hp hvp
          have e4 := va_u hp2 hp3 hv2 hv3
          rw [e4, ← c2.1, e3]
          exact or_gt hb3)
      have h3 := (hA m i hm hi).1
      show A m i ≤ tzN D (l'.map P) (P j') + D (P j') (P i)
      rw [c2.2.1, c2.2.2] at *
      omega
    · refine h m i (j' :: l') hm hva hS (fun q => by cases q) (fun j2 l2 q p2 hp2 hv2 => ?_)
      cases q
      have e4 := va_u hp2 hp hv2 hvp
      rw [e4]
      unfold dnP at hdn ⊢
      omega
theorem cp_far2 {D : Nat → Nat → Nat} {P : Nat → Nat} {n S U : Nat} {A : Nat → Nat → Nat} {d0 : Nat → Prop} {s j : Nat} (hd : ∀ i, i < n → d0 i) (hs : s < 2 ^ n) (hA : SndT D P n S U A) (hU : A s j = U) (h : Cpl D P n S A d0 (dnP s j 0)) : Cpl D P n S A d0 (dnP s j n) := by
  have : ∀ e, Cpl D P n S A d0 (dnP s j e) := by
    intro e
    induction e with
    | zero => exact h
    | succ e ih => exact cp_far hd hs hA (by omega) ih
  exact this n
theorem sn_bit {D : Nat → Nat → Nat} {P : Nat → Nat} {n S U : Nat} {A : Nat → Nat → Nat} {m i : Nat} (hA : SndT D P n S U A) (hm : m < 2 ^ n) (hi : i < n) (h : A m i < U) : bN m i = 1 ∧ bN S i = 1 := by
  rcases (hA m i hm hi).2 with q | ⟨l, q1, q2, _⟩
  · omega
  · exact ⟨((q1.2 i).mp List.mem_cons_self).2, q2 i List.mem_cons_self⟩
/-- the best of the rounds that end at doors below d -/
def PB (D : Nat → Nat → Nat) (n S U d b : Nat) : Prop := b ≤ U ∧ (∀ i l, i < d → vaL n S (i :: l) → b ≤ tzN D (i :: l) 0) ∧ (S = 0 → 0 < d → b = 0) ∧ (b = U ∨ ∃ L, vaL n S L ∧ b = tzN D L 0)
theorem pb_0 (D : Nat → Nat → Nat) (n S U : Nat) : PB D n S U 0 U := ⟨Nat.le_refl _, fun i l h => absurd h (Nat.not_lt_zero _), fun _ h => absurd h (Nat.not_lt_zero _), Or.inl rfl⟩
theorem pb_s {D : Nat → Nat → Nat} {n S U d b : Nat} {A : Nat → Nat → Nat} (h0 : D 0 0 = 0) (hS : S < 2 ^ n) (hd : d < n) (hA : SndT D idN n S U A) (hC : ¬ (S = 0 ∧ d = 0) → Cpl D idN n S A (fun _ => True) (dnP S d 0)) (h : PB D n S U d b) : PB D n S U (d + 1) (if vTN A S d < U then min b (vTN A S d + D d 0) else b) := by
  by_cases z : S = 0 ∧ d = 0
  · have e : vTN A S d = 0 := if_pos z
    rw [e]
    by_cases u : 0 < U
    · rw [if_pos u, z.2, h0]
      have e2 : min b (0 + 0) = 0 := Nat.min_eq_right (Nat.zero_le _)
      rw [e2]
      exact ⟨Nat.zero_le _, fun i l hi hv => Nat.zero_le _, fun _ _ => rfl, Or.inr ⟨[], by rw [z.1]; exact va_nil n, h0.symm⟩⟩
    · have e2 : U = 0 := by omega
      rw [if_neg u]
      have e3 : b = 0 := by have := h.1; omega
      exact ⟨h.1, fun i l _ _ => by rw [e3]; exact Nat.zero_le _, fun _ _ => e3, h.2.2.2⟩
  · have e : vTN A S d = A S d := if_neg z
    rw [e]
    have hmono : ∀ i l, i < d → vaL n S (i :: l) → b ≤ tzN D (i :: l) 0 := h.2.1
    have hnew : ∀ l, vaL n S (d :: l) → A S d ≤ tzN D l d := fun l hv => by
      have h2 := hC z S d l hS hv (fun x hx => ((hv.2 x).mp hx).2) (fun _ => trivial) (fun j l' q p hp hvp => by
        obtain ⟨p2, hp2, hv2, e3, hb, _⟩ := vl_tail hS hv
        have e4 := va_u hp hp2 hvp hv2
        left
        have h5 := or_gt hb
        rw [e4]
        omega)
      rw [map_idN] at h2
      exact h2
    by_cases u : A S d < U
    · rw [if_pos u]
      have hbit := sn_bit hA hS hd u
      have hS0 : ¬ S = 0 := fun q => bN_zero d (by rw [q] at hbit; exact hbit.1)
      refine ⟨Nat.le_trans (Nat.min_le_left _ _) h.1, fun i l hi hv => ?_, fun q => absurd q hS0, ?_⟩
      · rcases Nat.lt_or_ge i d with c | c
        · exact Nat.le_trans (Nat.min_le_left _ _) (hmono i l c hv)
        · have e5 : i = d := by omega
          rw [e5] at hv ⊢
          exact Nat.le_trans (Nat.min_le_right _ _) (Nat.add_le_add_right (hnew l hv) _)
      · rcases Nat.le_total b (A S d + D d 0) with c | c
        · rw [Nat.min_eq_left c]; exact h.2.2.2
        · rw [Nat.min_eq_right c]
          right
          rcases (hA S d hS hd).2 with q | ⟨l, q1, q2, q3⟩
          · rw [q] at u; exact absurd u (Nat.lt_irrefl _)
          · refine ⟨d :: l, q1, ?_⟩
            rw [q3, map_idN]
            rfl
    · rw [if_neg u]
      refine ⟨h.1, fun i l hi hv => ?_, fun q1 q2 => ?_, h.2.2.2⟩
      · rcases Nat.lt_or_ge i d with c | c
        · exact hmono i l c hv
        · have e5 : i = d := by omega
          rw [e5] at hv ⊢
          have h6 := hnew l hv
          have h7 := h.1
          show b ≤ tzN D l d + D d 0
          omega
      · exact h.2.2.1 q1 (Nat.pos_of_ne_zero (fun q => z ⟨q1, q⟩))
def WkM (D : Nat → Nat → Nat) (n S : Nat) (r0 : Int32) : Prop := (r0 = -1 ∧ ∀ L, vaL n S L → 268435456 ≤ tzN D L 0) ∨ ∃ r, r < 268435456 ∧ r0 = nI r ∧ (∃ L, vaL n S L ∧ r = tzN D L 0) ∧ ∀ L, vaL n S L → r ≤ tzN D L 0
theorem wk_end {D : Nat → Nat → Nat} {n S b : Nat} (hn : 0 < n) (h0 : D 0 0 = 0) (hS : S < 2 ^ n) (h : PB D n S 268435456 n b) : WkM D n S (if b < 268435456 then nI b else -1) := by
  have hall : ∀ L, vaL n S L → b ≤ tzN D L 0 := by
    intro L hL
    cases L with
    | nil =>
      have e := va_u hS (Nat.two_pow_pos n) hL ⟨List.nodup_nil, fun i => ⟨fun q => (by cases q), fun q => absurd q.2 (bN_zero i)⟩⟩
      rw [h.2.2.1 e hn]
      exact Nat.zero_le _
    | cons i l => exact h.2.1 i l ((hL.2 i).mp List.mem_cons_self).1 hL
  by_cases c : b < 268435456
  · rw [if_pos c]
    right
    refine ⟨b, c, rfl, ?_, hall⟩
    rcases h.2.2.2 with q | q
    · omega
    · exact q
  · rw [if_neg c]
    left
    exact ⟨rfl, fun L hL => Nat.le_trans (Nat.le_of_not_lt c) (hall L hL)⟩
