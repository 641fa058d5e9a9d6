/-! walks: lists of doors and tables -/
/-- through the doors of a list (the last one first), then to z -/
def tzN (D : Nat → Nat → Nat) : List Nat → Nat → Nat
  | [], z => D 0 z
  | i :: l, z => tzN D l i + D i z
def vaL (K m : Nat) (l : List Nat) : Prop := l.Nodup ∧ ∀ i, i ∈ l ↔ i < K ∧ bN m i = 1
theorem bN_tb {m i : Nat} : bN m i = 1 ↔ m.testBit i = true := by
  rw [Nat.testBit_eq_decide_div_mod_eq]
  unfold bN
  exact ⟨fun h => decide_eq_true h, fun h => of_decide_eq_true h⟩
theorem bN_0 {m i : Nat} : bN m i = 0 ↔ ¬ bN m i = 1 := by
  have := bN_lt m i
  omega
theorem bN_or {m i j : Nat} : bN (m ||| 2 ^ i) j = 1 ↔ bN m j = 1 ∨ j = i := by
  rw [bN_tb, bN_tb, Nat.testBit_or, Nat.testBit_two_pow]
  by_cases h : i = j
  · subst h; simp
  · have h2 : ¬ j = i := fun q => h q.symm
    simp [h, h2]
theorem bN_zero (i : Nat) : ¬ bN 0 i = 1 := by
  rw [bN_tb, Nat.zero_testBit]
  decide
theorem or_pw_lt {K m i : Nat} (hm : m < 2 ^ K) (hi : i < K) : m ||| 2 ^ i < 2 ^ K := Nat.or_lt_two_pow hm (Nat.pow_lt_pow_right (by decide) hi)
theorem va_u {K m p : Nat} {l : List Nat} (hm : m < 2 ^ K) (hp : p < 2 ^ K) (h1 : vaL K m l) (h2 : vaL K p l) : m = p := by
  apply Nat.eq_of_testBit_eq
  intro i
  rcases Nat.lt_or_ge i K with c | c
  · have e : bN m i = 1 ↔ bN p i = 1 := by
      have a := h1.2 i
      have b := h2.2 i
      constructor
      · intro q; exact (b.mp (a.mpr ⟨c, q⟩)).2
      · intro q; exact (a.mp (b.mpr ⟨c, q⟩)).2
    rw [bN_tb, bN_tb] at e
    cases h3 : m.testBit i <;> cases h4 : p.testBit i <;> simp_all
  · rw [Nat.testBit_lt_two_pow (Nat.lt_of_lt_of_le hm (Nat.pow_le_pow_right (by decide) c)), Nat.testBit_lt_two_pow (Nat.lt_of_lt_of_le hp (Nat.pow_le_pow_right (by decide) c))]
theorem va_or {K m i : Nat} {l : List Nat} (h : vaL K m l) (hi : i < K) (hb : ¬ bN m i = 1) : vaL K (m ||| 2 ^ i) (i :: l) := by
  refine ⟨List.nodup_cons.mpr ⟨fun q => hb ((h.2 i).mp q).2, h.1⟩, fun j => ?_⟩
  rw [List.mem_cons, h.2 j, bN_or]
  constructor
  · rintro (q | q)
    · rw [q]; exact ⟨hi, Or.inr rfl⟩
    · exact ⟨q.1, Or.inl q.2⟩
  · rintro ⟨q1, q2 | q2⟩
    · exact Or.inr ⟨q1, q2⟩
    · exact Or.inl q2
theorem bN_xor {m i j : Nat} : bN (m ^^^ 2 ^ i) j = 1 ↔ ((bN m j = 1 ∧ j ≠ i) ∨ (¬ bN m j = 1 ∧ j = i)) := by
  rw [bN_tb, bN_tb, Nat.testBit_xor, Nat.testBit_two_pow]
  by_cases h : i = j
  · subst h; cases m.testBit i <;> simp
  · have h2 : ¬ j = i := fun q => h q.symm
    cases m.testBit j <;> simp [h, h2]
/-- without its head -/
theorem vl_tail {K m i : Nat} {l : List Nat} (hm : m < 2 ^ K) (h : vaL K m (i :: l)) : ∃ p, p < 2 ^ K ∧ vaL K p l ∧ m = p ||| 2 ^ i ∧ ¬ bN p i = 1 ∧ i < K := by
  have hi := (h.2 i).mp List.mem_cons_self
  have hn := List.nodup_cons.mp h.1
  have h3 : vaL K (m ^^^ 2 ^ i) l := by
    refine ⟨hn.2, fun j => ?_⟩
    rw [bN_xor]
    have a := h.2 j
    rw [List.mem_cons] at a
    constructor
    · intro q
      have b := a.mp (Or.inr q)
      exact ⟨b.1, Or.inl ⟨b.2, fun z => hn.1 (z ▸ q)⟩⟩
    · rintro ⟨q1, q2 | q2⟩
      · exact (a.mpr ⟨q1, q2.1⟩).resolve_left q2.2
      · exact absurd hi.2 (q2.2 ▸ q2.1)
  have h4 : m ^^^ 2 ^ i < 2 ^ K := Nat.xor_lt_two_pow hm (Nat.pow_lt_pow_right (by decide) hi.1)
  have h5 : ¬ bN (m ^^^ 2 ^ i) i = 1 := fun q => hn.1 ((h3.2 i).mpr ⟨hi.1, q⟩)
  exact ⟨m ^^^ 2 ^ i, h4, h3, va_u hm (or_pw_lt h4 hi.1) h (va_or h3 hi.1 h5), h5, hi.1⟩
theorem or_gt {p i : Nat} (h : ¬ bN p i = 1) : p < p ||| 2 ^ i := by
  have h1 : p ≤ p ||| 2 ^ i := Nat.left_le_or
  rcases Nat.lt_or_ge p (p ||| 2 ^ i) with c | c
  · exact c
  · have e : p ||| 2 ^ i = p := Nat.le_antisymm c h1
    exact absurd ((bN_or (m := p) (i := i) (j := i)).mpr (Or.inr rfl)) (by rw [e]; exact h)
abbrev inS (S : Nat) (l : List Nat) : Prop := ∀ x, x ∈ l → bN S x = 1
def SndT (D : Nat → Nat → Nat) (P : Nat → Nat) (K S U : Nat) (A : Nat → Nat → Nat) : Prop := ∀ m i, m < 2 ^ K → i < K → A m i ≤ U ∧ (A m i = U ∨ ∃ l, vaL K m (i :: l) ∧ inS S (i :: l) ∧ A m i = tzN D (l.map P) (P i))
def Cpl (D : Nat → Nat → Nat) (P : Nat → Nat) (K S : Nat) (A : Nat → Nat → Nat) (d0 : Nat → Prop) (dn : Nat → Nat → Nat → Prop) : Prop := ∀ m i l, m < 2 ^ K → vaL K m (i :: l) → inS S (i :: l) → (l = [] → d0 i) → (∀ j l', l = j :: l' → ∀ p, p < 2 ^ K → vaL K p l → dn p j i) → A m i ≤ tzN D (l.map P) (P i)
abbrev dnP (s j0 e0 p j i : Nat) : Prop := p < s ∨ p = s ∧ (j < j0 ∨ j = j0 ∧ i < e0)
theorem cp_mono {D : Nat → Nat → Nat} {P : Nat → Nat} {K S : Nat} {A : Nat → Nat → Nat} {d0 d0' : Nat → Prop} {dn dn' : Nat → Nat → Nat → Prop} (h : Cpl D P K S A d0 dn) (h0 : ∀ i, i < K → bN S i = 1 → d0' i → d0 i)
    (h1 : ∀ p j i l', p < 2 ^ K → vaL K p (j :: l') → j < K → i < K → bN p j = 1 → ¬ bN p i = 1 → bN S i = 1 → dn' p j i → dn p j i) : Cpl D P K S A d0' dn' := by
  intro m i l hm hv hS hd hn
  obtain ⟨p, hp, hvp, e, hb, hi⟩ := vl_tail hm hv
  refine h m i l hm hv hS (fun q => h0 i hi (hS i List.mem_cons_self) (hd q)) (fun j l' e2 p' hp' hv' => ?_)
  have e3 := va_u hp' hp hv' hvp
  subst e3
  have hv2 := hv'
  rw [e2] at hv2
  have hj := (hv2.2 j).mp List.mem_cons_self
  exact h1 p' j i l' hp' hv2 hj.1 hi hj.2 hb (hS i List.mem_cons_self) (hn j l' e2 p' hp' hv')
theorem cp_rlx {D : Nat → Nat → Nat} {P : Nat → Nat} {K S : Nat} {A : Nat → Nat → Nat} {d0 : Nat → Prop} {s j e v : Nat} (hd : ∀ i, i < K → d0 i) (hs : s < 2 ^ K) (he : e < K) (hbe : ¬ bN s e = 1) (hv : v = min (A (s ||| 2 ^ e) e) (A s j + D (P j) (P e))) (h : Cpl D P K S A d0 (dnP s j e)) : Cpl D P K S (updE A (s ||| 2 ^ e) e v) d0 (dnP s j (e + 1)) := by
  intro m i l hm hva hS hd1 hn
  obtain ⟨p, hp, hvp, e1, hb, hi⟩ := vl_tail hm hva
  unfold updE
  by_cases c : m = s ||| 2 ^ e ∧ i = e
  · rw [if_pos c, hv]
    cases l with
    | nil =>
      have := h m i [] hm hva hS (fun _ => hd i hi) (fun j l' q => by cases q)
      rw [c.1, c.2] at this
      rw [c.2]
      omega
    | cons j' l' =>
      have hdn := hn j' l' rfl p hp hvp
      by_cases c2 : p = s ∧ j' = j
      · -- the new one
        have h2 := h s j l' hs (by rw [← c2.1, ← c2.2]; exact hvp) (fun x hx => hS x (by rw [← c2.2] at hx; exact List.mem_cons_of_mem _ hx)) (fun _ => hd j (by rw [← c2.2]; exact ((hvp.2 j').mp List.mem_cons_self).1)) (fun j2 l2 q p2 hp2 hv2 => by
          left
          obtain ⟨p3, hp3, hv3, e3, hb3, _⟩ := vl_tail hp hvp
          have e4 := va_u hp2 hp3 hv2 hv3
          rw [e4, ← c2.1, e3]
          exact or_gt hb3)
        show min (A (s ||| 2 ^ e) e) (A s j + D (P j) (P e)) ≤ tzN D (l'.map P) (P j') + D (P j') (P i)
        rw [c.2, c2.2]
        omega
      · have h2 := h m i (j' :: l') hm hva hS (fun q => by cases q) (fun j2 l2 q p2 hp2 hv2 => by
          cases q
          have e4 := va_u hp2 hp hv2 hvp
          rw [e4]
          rw [c.2] at hdn ⊢
          unfold dnP at hdn ⊢
          omega)
        rw [c.1, c.2] at h2
        rw [c.2]
        omega
  · rw [if_neg c]
    refine h m i l hm hva hS hd1 (fun j' l' q p2 hp2 hv2 => ?_)
    have e4 := va_u hp2 hp hv2 hvp
    have hdn := hn j' l' q p2 hp2 hv2
    have c3 : ¬ (p2 = s ∧ i = e) := fun z => c ⟨by rw [e1, ← e4, z.1, z.2], z.2⟩
    unfold dnP at hdn ⊢
    omega
theorem sn_rlx {D : Nat → Nat → Nat} {P : Nat → Nat} {K S U : Nat} {A : Nat → Nat → Nat} {s j e v : Nat} (hs : s < 2 ^ K) (hj : j < K) (he : e < K) (hbe : ¬ bN s e = 1) (hSe : bN S e = 1) (hv : v = min (A (s ||| 2 ^ e) e) (A s j + D (P j) (P e))) (h : SndT D P K S U A) : SndT D P K S U (updE A (s ||| 2 ^ e) e v) := by
  intro m i hm hi
  unfold updE
  by_cases c : m = s ||| 2 ^ e ∧ i = e
  · rw [if_pos c, hv]
    have h1 := h (s ||| 2 ^ e) e (or_pw_lt hs he) he
    refine ⟨Nat.le_trans (Nat.min_le_left _ _) h1.1, ?_⟩
    rcases Nat.lt_or_ge (A s j + D (P j) (P e)) (A (s ||| 2 ^ e) e) with q | q
    · rw [Nat.min_eq_right (Nat.le_of_lt q)]
      have h2 := h s j hs hj
      rcases h2.2 with h3 | ⟨l, h3, h4, h5⟩
      · have h9 := h1.1
        rw [h3] at q
        exact absurd (Nat.lt_of_lt_of_le q h9) (Nat.not_lt.mpr (Nat.le_add_right _ _))
      · right
        refine ⟨j :: l, ?_, ?_, ?_⟩
        · rw [c.1, c.2]; exact va_or h3 he hbe
        · intro x hx
          rcases List.mem_cons.mp hx with z | z
          · rw [z, c.2]; exact hSe
          · exact h4 x z
        · rw [h5, c.2]; rfl
    · rw [Nat.min_eq_left q, c.1, c.2]
      exact h1.2
  · rw [if_neg c]; exact h m i hm hi
theorem tz_tri {n K L : Nat} {D : Nat → Nat → Nat} (hD : Mt n K L D) (h0 : 0 < n) : ∀ (l : List Nat), (∀ x, x ∈ l → x < n) → ∀ i z, i < n → z < n → tzN D l z ≤ tzN D l i + D i z := by
  intro l hl i z hi hz
  cases l with
  | nil => exact hD.2.2.1 0 i z h0 hi hz
  | cons j l =>
    have := hD.2.2.1 j i z (hl j List.mem_cons_self) hi hz
    show tzN D l j + D j z ≤ tzN D l j + D j i + D i z
    omega
theorem tz_fil {n K L : Nat} {D : Nat → Nat → Nat} (hD : Mt n K L D) (h0 : 0 < n) : ∀ (l : List Nat), (∀ x, x ∈ l → x < n) → ∀ z, z < n → tzN D (l.filter (fun x => decide (x ≠ 0))) z ≤ tzN D l z := by
  intro l
  induction l with
  | nil => intro _ z _; exact Nat.le_refl _
  | cons i l ih =>
    intro hl z hz
    have hl2 : ∀ x, x ∈ l → x < n := fun x hx => hl x (List.mem_cons_of_mem _ hx)
    have hi := hl i List.mem_cons_self
    by_cases c : i = 0
    · rw [List.filter_cons, if_neg (by rw [c]; decide)]
      exact Nat.le_trans (ih hl2 z hz) (tz_tri hD h0 l hl2 i z hi hz)
    · rw [List.filter_cons, if_pos (decide_eq_true c)]
      have := ih hl2 i hi
      show tzN D _ i + D i z ≤ tzN D l i + D i z
      omega
/-- every door of a list is not further from door 0 than the walk -/
theorem tz_ge {n K L : Nat} {D : Nat → Nat → Nat} (hD : Mt n K L D) (h0 : 0 < n) : ∀ (l : List Nat), (∀ x, x ∈ l → x < n) → ∀ z, z < n → D 0 z ≤ tzN D l z ∧ ∀ x, x ∈ l → D 0 x ≤ tzN D l z := by
  intro l
  induction l with
  | nil => intro _ z _; exact ⟨Nat.le_refl _, fun x hx => by cases hx⟩
  | cons i l ih =>
    intro hl z hz
    have hl2 : ∀ x, x ∈ l → x < n := fun x hx => hl x (List.mem_cons_of_mem _ hx)
    have hi := hl i List.mem_cons_self
    have h1 := ih hl2 i hi
    have h2 := hD.2.2.1 0 i z h0 hi hz
    refine ⟨?_, fun x hx => ?_⟩
    · show D 0 z ≤ tzN D l i + D i z
      omega
    · show D 0 x ≤ tzN D l i + D i z
      rcases List.mem_cons.mp hx with q | q
      · rw [q]; omega
      · have := h1.2 x q; omega
