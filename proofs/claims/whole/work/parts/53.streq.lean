/-! the street: both sides alike -/
/-- lengths of the class and of the reference: alike, but for none -/
def StR (n : Nat) (DC DM : Nat → Nat → Nat) : Prop := ∀ p q, p < n → q < n → DM p q = if 100000000 ≤ DC p q then 268435456 else DC p q
theorem st_cs {n p q : Nat} {DC DM : Nat → Nat → Nat} (hn : n ≤ 12) (hC : Mt 12 100000000 30 DC) (h : StR n DC DM) (hp : p < n) (hq : q < n) : (DC p q = 100000000 ∧ DM p q = 268435456) ∨ (DC p q ≤ 360 ∧ DM p q = DC p q) := by
  have h1 := h p q hp hq
  have h2 := hC.2.2.2.1 p q (by omega) (by omega)
  rcases Nat.lt_or_ge (DC p q) 100000000 with c | c
  · rw [if_neg (by omega)] at h1
    exact Or.inr ⟨mt_b hC (by omega) (by omega) c, h1⟩
  · rw [if_pos c] at h1
    exact Or.inl ⟨by omega, h1⟩
theorem st_0 (n : Nat) : StR n (d0N 100000000) (d0N 268435456) := by
  intro p q _ _
  unfold d0N
  by_cases c : p = q
  · rw [if_pos c, if_pos c]; rfl
  · rw [if_neg c, if_neg c]; rfl
theorem st_jn {n a b l : Nat} {DC DM : Nat → Nat → Nat} (hn : n ≤ 12) (hC : Mt 12 100000000 30 DC) (h : StR n DC DM) (ha : a < n) (hb : b < n) (hl : l ≤ 30) : StR n (jnD DC a b l) (jnD DM a b l) := by
  intro p q hp hq
  have h1 := st_cs hn hC h hp hq
  have h2 := st_cs hn hC h hp ha
  have h3 := st_cs hn hC h hb hq
  have h4 := st_cs hn hC h hp hb
  have h5 := st_cs hn hC h ha hq
  have e1 : jnD DC a b l p q = min (DC p q) (min (DC p a + l + DC b q) (DC p b + l + DC a q)) := rfl
  have e2 : jnD DM a b l p q = min (DM p q) (min (DM p a + l + DM b q) (DM p b + l + DM a q)) := rfl
  by_cases c : 100000000 ≤ jnD DC a b l p q
  · rw [if_pos c]; omega
  · rw [if_neg c]; omega
theorem nb_eq {n r i : Nat} {DC DM : Nat → Nat → Nat} (hn : n ≤ 12) (hC : Mt 12 100000000 30 DC) (h : StR n DC DM) (hr : r ≤ 200) (hi : i < n) : ∀ j, j ≤ n → nbN DM r i j = nbN DC r i j := by
  intro j
  induction j with
  | zero => intro _; rfl
  | succ j ih =>
    intro hj
    have h1 := st_cs hn hC h hi (show j < n by omega)
    unfold nbN
    rw [ih (by omega)]
    by_cases c : DC i j ≤ r
    · rw [if_pos c, if_pos (by omega)]
    · rw [if_neg c, if_neg (by omega)]
theorem cv_eq {n r s : Nat} {DC DM : Nat → Nat → Nat} (hn : n ≤ 12) (hC : Mt 12 100000000 30 DC) (h : StR n DC DM) (hr : r ≤ 200) : ∀ i, i ≤ n → cvN DM r n s i = cvN DC r n s i := by
  intro i
  induction i with
  | zero => intro _; rfl
  | succ i ih =>
    intro hi
    unfold cvN
    rw [ih (by omega), nb_eq hn hC h hr (by omega) n (Nat.le_refl _)]
theorem bx_eq {n r : Nat} {DC DM : Nat → Nat → Nat} (hn : n ≤ 12) (hC : Mt 12 100000000 30 DC) (h : StR n DC DM) (hr : r ≤ 200) : ∀ s, bxN DM r n s = bxN DC r n s := by
  intro s
  induction s with
  | zero => rfl
  | succ s ih =>
    unfold bxN
    rw [ih, cv_eq hn hC h hr n (Nat.le_refl _)]
theorem tz_eq {n : Nat} {DC DM : Nat → Nat → Nat} (hn : n ≤ 12) (hC : Mt 12 100000000 30 DC) (h : StR n DC DM) (h0 : 0 < n) : ∀ (L : List Nat), (∀ x, x ∈ L → x < n ∧ DC 0 x < 100000000) → ∀ z, z < n → DC 0 z < 100000000 → tzN DM L z = tzN DC L z := by
  intro L
  induction L with
  | nil =>
    intro _ z hz hf
    have := st_cs hn hC h h0 hz
    show DM 0 z = DC 0 z
    omega
  | cons x L ih =>
    intro hL z hz hf
    have hx := hL x List.mem_cons_self
    have h1 := ih (fun y hy => hL y (List.mem_cons_of_mem _ hy)) x hx.1 hx.2
    have h2 := st_cs hn hC h hx.1 hz
    have h3 := st_fin hC (show x < 12 by omega) (show z < 12 by omega) hx.2 hf
    show tzN DM L x + DM x z = tzN DC L x + DC x z
    omega
theorem tz_a0 {D : Nat → Nat → Nat} (h : D 0 0 = 0) : ∀ (L : List Nat) z, tzN D (L ++ [0]) z = tzN D L z := by
  intro L
  induction L with
  | nil =>
    intro z
    show D 0 0 + D 0 z = D 0 z
    omega
  | cons x L ih =>
    intro z
    show tzN D (L ++ [0]) x + D x z = tzN D L x + D x z
    rw [ih]
theorem nd_len : ∀ (n : Nat) (L : List Nat), L.Nodup → (∀ x, x ∈ L → x < n) → L.length ≤ n := by
  intro n
  induction n with
  | zero =>
    intro L _ h
    cases L with
    | nil => exact Nat.le_refl _
    | cons x L => exact absurd (h x List.mem_cons_self) (Nat.not_lt_zero _)
  | succ n ih =>
    intro L hL h
    have h1 := ih (L.erase n) (hL.erase n) (fun x hx => by
      have h2 := (List.Nodup.mem_erase_iff hL).mp hx
      have := h x h2.2
      have := h2.1
      omega)
    have h2 := List.length_erase (a := n) (l := L)
    split at h2 <;> omega
theorem wk_eq {n S : Nat} {DC DM : Nat → Nat → Nat} {r1 r2 : Int32} (hn : n ≤ 12) (h0 : 0 < n) (hC : Mt 12 100000000 30 DC) (hM : Mt n 268435456 30 DM) (h : StR n DC DM) (w1 : WkR DC n S r1) (w2 : WkM DM n S r2) : r1 = r2 := by
  have hc00 := hC.2.1 0 (by omega)
  have hm00 := hM.2.1 0 h0
  rcases w1 with ⟨e1, d, hd1, hdn, hb, hd⟩ | ⟨r, e1, hfin, ⟨LC, hLC, er⟩, hall⟩
  · rcases w2 with ⟨e2, _⟩ | ⟨r', hr', e2, ⟨LM, hLM, er'⟩, _⟩
    · rw [e1, e2]
    · have h1 := (tz_ge hM h0 LM (fun x hx => ((hLM.2 x).mp hx).1) 0 h0).2 d ((hLM.2 d).mpr ⟨hdn, hb⟩)
      have h2 := st_cs hn hC h h0 hdn
      omega
  · have hLCn : ∀ x, x ∈ LC → x < n ∧ DC 0 x < 100000000 := fun x hx => by
      have q := (hLC.2 x).mp hx
      exact ⟨q.2.1, hfin x q.1 q.2.1 q.2.2⟩
    have hC0 : DC 0 0 < 100000000 := by omega
    have hrb : r ≤ 360 * 13 := by
      have h1 := tz_fin hC LC (fun x hx => ⟨by have := (hLCn x hx).1; omega, (hLCn x hx).2⟩) 0 (by omega) hC0
      have h2 := nd_len n LC hLC.1 (fun x hx => (hLCn x hx).1)
      have h3 : 360 * (LC.length + 1) ≤ 360 * 13 := Nat.mul_le_mul_left 360 (by omega)
      omega
    -- the class's list, with door 0 ahead where the set has it
    have hex : ∃ L', vaL n S L' ∧ tzN DM L' 0 = r := by
      have e5 : tzN DM LC 0 = r := by rw [tz_eq hn hC h h0 LC hLCn 0 h0 hC0, er]
      by_cases c : bN S 0 = 1
      · refine ⟨LC ++ [0], ⟨?_, fun x => ?_⟩, by rw [tz_a0 hm00]; exact e5⟩
        · rw [List.nodup_append]
          refine ⟨hLC.1, by simp, fun a ha b hb q => ?_⟩
          rw [List.mem_singleton.mp hb] at q
          have := ((hLC.2 a).mp ha).1
          omega
        · rw [List.mem_append, List.mem_singleton, hLC.2 x]
          constructor
          · rintro (q | q)
            · exact ⟨q.2.1, q.2.2⟩
            · rw [q]; exact ⟨h0, c⟩
          · intro q
            rcases Nat.eq_zero_or_pos x with z | z
            · exact Or.inr z
            · exact Or.inl ⟨z, q.1, q.2⟩
      · refine ⟨LC, ⟨hLC.1, fun x => ?_⟩, e5⟩
        rw [hLC.2 x]
        constructor
        · intro q; exact ⟨q.2.1, q.2.2⟩
        · intro q
          rcases Nat.eq_zero_or_pos x with z | z
          · rw [z] at q; exact absurd q.2 c
          · exact ⟨z, q.1, q.2⟩
    obtain ⟨L', hL', e6⟩ := hex
    rcases w2 with ⟨e2, hno⟩ | ⟨r', hr', e2, ⟨LM, hLM, er'⟩, hall'⟩
    · have := hno L' hL'
      omega
    · have h1 := hall' L' hL'
      have hF : GdS n S (LM.filter (fun x => decide (x ≠ 0))) := by
        refine ⟨hLM.1.filter _, fun x => ?_⟩
        rw [List.mem_filter, hLM.2 x]
        constructor
        · rintro ⟨q1, q2⟩
          have := of_decide_eq_true q2
          exact ⟨by omega, q1.1, q1.2⟩
        · rintro ⟨q1, q2, q3⟩
          exact ⟨⟨q2, q3⟩, decide_eq_true (by omega)⟩
      have h2 := hall _ hF
      have h3 := tz_fil hM h0 LM (fun x hx => ((hLM.2 x).mp hx).1) 0 h0
      have h4 := tz_eq hn hC h h0 (LM.filter (fun x => decide (x ≠ 0))) (fun x hx => by
        have q := (hF.2 x).mp hx
        exact ⟨q.2.1, hfin x q.1 q.2.1 q.2.2⟩) 0 h0 hC0
      rw [e1, e2]
      congr 1
      omega
