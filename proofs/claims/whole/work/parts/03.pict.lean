/-! tables of the classes: how many fields, which of them are references -/
def nfT : List Nat := [6, 2, 8, 19, 12, 14, 2, 6, 8, 10, 8, 84]
def rfT : List (List Bool) := [[true, true, true, false, false, true], [false, true], [true, true, true, true, true, true, true, false], [false, false, false, false, false, false, false, false, false, false, false, false, false, false, false, false, false, false, false], [true, true, true, true, true, true, false, false, false, false, false, false], [true, true, true, true, true, true, false, true, false, false, true, true, false, false], [true, false], [true, false, false, true, true, true], [true, false, false, false, true, true, true, false], [true, true, true, true, true, true, false, true, true, false], [true, true, true, true, true, true, true, true], [true, true, true, true, true, true, true, false, false, true, false, true, true, true, true, true, true, false, true, true, true, true, true, true, true, true, true, true, true, true, true, true, true, true, true, false, true, true, false, false, false, false, false, false, false, false, false, false, false, true, true, true, false, false, false, true, true, true, true, true, true, false, true, false, true, false, false, false, false, true, true, true, true, true, true, false, false, false, true, false, false, false, false, false]]
def clC (ci : Nat) : String := (vwCl.getD ci ("", fun _ => ("", "", "", false), 0)).1
def clT (ci : Nat) : u_T := (vwCl.getD ci ("", fun _ => ("", "", "", false), 0)).2.1
def clN (ci : Nat) : Nat := (vwCl.getD ci ("", fun _ => ("", "", "", false), 0)).2.2
def clY (ci : Nat) : Nat → FieldType := [tyX0, tyX1, tyX2, tyX3, tyX4, tyX5, tyX6, tyX7, tyX8, tyX9, tyX10, tyX11].getD ci (fun _ => .int)
def allW : List Cond := lw_tbl.filter goodWord
theorem lt12 {P : Nat → Prop} (h : P 0 ∧ P 1 ∧ P 2 ∧ P 3 ∧ P 4 ∧ P 5 ∧ P 6 ∧ P 7 ∧ P 8 ∧ P 9 ∧ P 10 ∧ P 11) {i : Nat} (hi : i < 12) : P i := by
  obtain ⟨h0, h1, h2, h3, h4, h5, h6, h7, h8, h9, h10, h11⟩ := h
  match i, hi with
  | 0, _ => exact h0
  | 1, _ => exact h1
  | 2, _ => exact h2
  | 3, _ => exact h3
  | 4, _ => exact h4
  | 5, _ => exact h5
  | 6, _ => exact h6
  | 7, _ => exact h7
  | 8, _ => exact h8
  | 9, _ => exact h9
  | 10, _ => exact h10
  | 11, _ => exact h11
theorem cl_at {ci : Nat} (h : ci < 12) : vwCl[ci]? = some (clC ci, clT ci, clN ci) := lt12 (P := fun ci => vwCl[ci]? = some (clC ci, clT ci, clN ci)) ⟨rfl, rfl, rfl, rfl, rfl, rfl, rfl, rfl, rfl, rfl, rfl, rfl⟩ h
theorem cl_nf {ci : Nat} (h : ci < 12) : nfT.getD ci 0 = clN ci := lt12 (P := fun ci => nfT.getD ci 0 = clN ci) ⟨rfl, rfl, rfl, rfl, rfl, rfl, rfl, rfl, rfl, rfl, rfl, rfl⟩ h
theorem cl_ty {ci : Nat} (h : ci < 12) : ∀ k, k < clN ci → parseFieldDescriptor (clT ci k).2.2.1 = some (clY ci k) := lt12 (P := fun ci => ∀ k, k < clN ci → parseFieldDescriptor (clT ci k).2.2.1 = some (clY ci k)) ⟨tyX0_ok, tyX1_ok, tyX2_ok, tyX3_ok, tyX4_ok, tyX5_ok, tyX6_ok, tyX7_ok, tyX8_ok, tyX9_ok, tyX10_ok, tyX11_ok⟩ h
theorem cl_nm {ci : Nat} (h : ci < 12) : ∀ a, a < clN ci → ∀ b, b < clN ci → a ≠ b → (clT ci a).2.1 ≠ (clT ci b).2.1 := lt12 (P := fun ci => ∀ a, a < clN ci → ∀ b, b < clN ci → a ≠ b → (clT ci a).2.1 ≠ (clT ci b).2.1) ⟨nmX0, nmX1, nmX2, nmX3, nmX4, nmX5, nmX6, nmX7, nmX8, nmX9, nmX10, nmX11⟩ h
theorem cl_in0 : ∀ w ∈ u_ws (clC 0) (clT 0) (clN 0), w ∈ allW := by decide +kernel
theorem cl_in1 : ∀ w ∈ u_ws (clC 1) (clT 1) (clN 1), w ∈ allW := by decide +kernel
theorem cl_in2 : ∀ w ∈ u_ws (clC 2) (clT 2) (clN 2), w ∈ allW := by decide +kernel
theorem cl_in3 : ∀ w ∈ u_ws (clC 3) (clT 3) (clN 3), w ∈ allW := by decide +kernel
theorem cl_in4 : ∀ w ∈ u_ws (clC 4) (clT 4) (clN 4), w ∈ allW := by decide +kernel
theorem cl_in5 : ∀ w ∈ u_ws (clC 5) (clT 5) (clN 5), w ∈ allW := by decide +kernel
theorem cl_in6 : ∀ w ∈ u_ws (clC 6) (clT 6) (clN 6), w ∈ allW := by decide +kernel
theorem cl_in7 : ∀ w ∈ u_ws (clC 7) (clT 7) (clN 7), w ∈ allW := by decide +kernel
theorem cl_in8 : ∀ w ∈ u_ws (clC 8) (clT 8) (clN 8), w ∈ allW := by decide +kernel
theorem cl_in9 : ∀ w ∈ u_ws (clC 9) (clT 9) (clN 9), w ∈ allW := by decide +kernel
theorem cl_in10 : ∀ w ∈ u_ws (clC 10) (clT 10) (clN 10), w ∈ allW := by decide +kernel
theorem cl_in11 : ∀ w ∈ u_ws (clC 11) (clT 11) (clN 11), w ∈ allW := by decide +kernel
theorem cl_in {ci : Nat} (h : ci < 12) : ∀ w ∈ u_ws (clC ci) (clT ci) (clN ci), w ∈ allW := lt12 (P := fun ci => ∀ w ∈ u_ws (clC ci) (clT ci) (clN ci), w ∈ allW) ⟨cl_in0, cl_in1, cl_in2, cl_in3, cl_in4, cl_in5, cl_in6, cl_in7, cl_in8, cl_in9, cl_in10, cl_in11⟩ h
def nestL : List (String × Nat × MethodName × String) := [("PennyPost", 15, (⟨"PennyPost$Land", "<init>", "()V"⟩ : MethodName), "PennyPost"), ("PennyPost", 22, (⟨"PennyPost$Text", "<init>", "()V"⟩ : MethodName), "PennyPost"), ("PennyPost$Offices", 17, (⟨"PennyPost$Act", "<init>", "()V"⟩ : MethodName), "PennyPost"), ("PennyPost$Mail", 41, (⟨"PennyPost$Letter", "<init>", "()V"⟩ : MethodName), "PennyPost"), ("PennyPost", 54, (⟨"PennyPost$Street", "<init>", "()V"⟩ : MethodName), "PennyPost"), ("PennyPost$Text", 57, (⟨"PennyPost", "within", "(III)Z"⟩ : MethodName), "PennyPost"), ("PennyPost$Mail", 46, (⟨"PennyPost", "dayOf", "(I)I"⟩ : MethodName), "PennyPost"), ("PennyPost$Mail", 115, (⟨"PennyPost", "weekOf", "(I)I"⟩ : MethodName), "PennyPost")]
def strL : List (String × Nat × String × Nat) := [("PennyPost$Text", 71, "to", 0), ("PennyPost$Text", 73, "over", 1), ("PennyPost$Text", 75, "weigh", 2), ("PennyPost$Text", 77, "free", 3), ("PennyPost$Text", 79, "ahead", 4), ("PennyPost$Text", 81, "least", 5), ("PennyPost$Text", 61, "pay", 6)]
def tabL : List (String × String) := [("PennyPost$Text", "LEAST_NUMBER"), ("PennyPost$Text", "MOST_NUMBER"), ("PennyPost", "LEAST_RULE"), ("PennyPost", "MOST_RULE")]
/-! the picture of a heap, as the kit's cells -/
def qvl : Nat → Value
  | 0 => .null
  | n + 1 => .ref n
def em (ad : Nat → Nat) : Value → Value
  | .ref a => .ref (ad a)
  | .null => qvl (ad 5000000)
  | v => v
abbrev emL (ad : Nat → Nat) (L : IL) : List (Nat × Value) := L.map (fun q => (q.1, em ad q.2))
def adr (base b : Nat) (aK aV aT : Nat → Nat) (qS a : Nat) : Nat := if a < 1000000 then base + a else if a < 2000000 then b else if a < 3000000 then aK (a - 2000000) else if a < 4000000 then aV (a - 3000000) else if a < 5000000 then aT (a - 4000000) else qS
theorem adr_0 {base b : Nat} {aK aV aT : Nat → Nat} {qS a : Nat} (h : a < 1000000) : adr base b aK aV aT qS a = base + a := by unfold adr; rw [if_pos h]
theorem adr_1 {base b : Nat} {aK aV aT : Nat → Nat} {qS : Nat} : adr base b aK aV aT qS 1000000 = b := rfl
theorem adr_2 {base b : Nat} {aK aV aT : Nat → Nat} {qS a : Nat} (h1 : 2000000 ≤ a) (h2 : a < 3000000) : adr base b aK aV aT qS a = aK (a - 2000000) := by unfold adr; rw [if_neg (by omega), if_neg (by omega), if_pos h2]
theorem adr_3 {base b : Nat} {aK aV aT : Nat → Nat} {qS a : Nat} (h1 : 3000000 ≤ a) (h2 : a < 4000000) : adr base b aK aV aT qS a = aV (a - 3000000) := by unfold adr; rw [if_neg (by omega), if_neg (by omega), if_neg (by omega), if_pos h2]
theorem adr_4 {base b : Nat} {aK aV aT : Nat → Nat} {qS a : Nat} (h1 : 4000000 ≤ a) (h2 : a < 5000000) : adr base b aK aV aT qS a = aT (a - 4000000) := by unfold adr; rw [if_neg (by omega), if_neg (by omega), if_neg (by omega), if_neg (by omega), if_pos h2]
theorem adr_5 {base b : Nat} {aK aV aT : Nat → Nat} {qS : Nat} : adr base b aK aV aT qS 5000000 = qS := rfl
/-- a field's value -/
def fldv (ad : Nat → Nat) (h : Hp) (ci a k : Nat) : Value := match (rfT.getD ci []).getD k false with
  | true => va_rf ((kR h a k).map ad)
  | false => .int (h.2 a k)
def flds (ad : Nat → Nat) (h : Hp) (ci a : Nat) : List Value := (List.range (nfT.getD ci 0)).map (fldv ad h ci a)
def cel (cy : Nat → ClassId) (ad : Nat → Nat) (h : Hp) (a : Nat) : va_E := match kH h a with
  | (0, ci) => .inr (ci, flds ad h ci a)
  | (1, n) => .inl (cy 0, n, .inl (h.2 a))
  | (2, n) => .inl (cy 1, n, .inl (h.2 a))
  | (3, n) => .inl (cy 2, n, .inr (.inr (.inr (.inr (fun j => (kR h a j).map ad)))))
  | (_, n) => .inl (cy 3, n, .inr (.inr (.inr (.inr (fun j => (kR h a j).map ad)))))
def wld (cy : Nat → ClassId) (base : Nat) (ad : Nat → Nat) (h : Hp) : va_W := (List.range (kN h)).map (fun a => (base + a, cel cy ad h a))
abbrev cyT (cy : Nat → ClassId) : List (ClassId × FieldType) := [(cy 0, .int), (cy 1, .boolean), (cy 2, .object RX0), (cy 3, .object RX3)]
section P3a
variable {cy : Nat → ClassId} {base : Nat} {ad : Nat → Nat} {h h' : Hp} {a : Nat}
theorem wld_at (ha : a < kN h) : (wld cy base ad h)[a]? = some (base + a, cel cy ad h a) := by
  unfold wld
  rw [List.getElem?_map, List.getElem?_range ha]
  rfl
theorem wld_get {k : Nat} {q : Nat × va_E} (hq : (wld cy base ad h)[k]? = some q) : k < kN h ∧ q = (base + k, cel cy ad h k) := by
  have hl := (List.getElem?_eq_some_iff.mp hq).1
  have hk : k < kN h := by
    unfold wld at hl
    simpa using hl
  rw [wld_at hk] at hq
  exact ⟨hk, (Option.some.inj hq).symm⟩
theorem wld_set (ha : a < kN h) (hn : kN h' = kN h) (hc : ∀ b, b ≠ a → cel cy ad h' b = cel cy ad h b) : (wld cy base ad h).set a (base + a, cel cy ad h' a) = wld cy base ad h' := by
  apply List.ext_getElem?
  intro k
  by_cases hk : k = a
  · subst hk
    rw [List.getElem?_set_self (by unfold wld; simpa using ha), wld_at (by rw [hn]; exact ha)]
  · rw [List.getElem?_set_ne (Ne.symm hk)]
    unfold wld
    rw [List.getElem?_map, List.getElem?_map, hn]
    by_cases hkk : k < kN h
    · rw [List.getElem?_range hkk]
      show some (base + k, cel cy ad h k) = some (base + k, cel cy ad h' k)
      rw [hc k hk]
    · rw [List.getElem?_eq_none (by simpa using hkk)]
      rfl
theorem wld_push (hn : kN h' = kN h + 1) (hc : ∀ b, b < kN h → cel cy ad h' b = cel cy ad h b) : wld cy base ad h ++ [(base + kN h, cel cy ad h' (kN h))] = wld cy base ad h' := by
  unfold wld
  rw [hn, List.range_succ, List.map_append]
  congr 1
  apply List.map_congr_left
  intro b hb
  rw [hc b (List.mem_range.mp hb)]
theorem wld_D : va_D (fun q => base ≤ q) (wld cy base ad h) := by
  refine ⟨fun i j p q hi hj e => ?_, fun k q hk => ?_⟩
  · obtain ⟨-, rfl⟩ := wld_get hi
    obtain ⟨-, rfl⟩ := wld_get hj
    have e : base + i = base + j := e
    omega
  · obtain ⟨-, rfl⟩ := wld_get hk
    exact Nat.le_add_right _ _
theorem isO_spec {ci : Nat} (e : isO h a ci = true) : a < kN h ∧ kH h a = (0, ci) := by
  unfold isO at e
  simp only [Bool.and_eq_true, Nat.blt_eq, Nat.beq_eq] at e
  exact ⟨e.1, Prod.ext e.2.1 e.2.2⟩
theorem isA_spec {t : Nat} (e : isA h a t = true) : a < kN h ∧ kH h a = (t, (kH h a).2) := by
  unfold isA at e
  simp only [Bool.and_eq_true, Nat.blt_eq, Nat.beq_eq] at e
  exact ⟨e.1, Prod.ext e.2 rfl⟩
theorem cel_0 {ci : Nat} (e : kH h a = (0, ci)) : cel cy ad h a = .inr (ci, flds ad h ci a) := by unfold cel; rw [e]; rfl
theorem cel_1 {n : Nat} (e : kH h a = (1, n)) : cel cy ad h a = .inl (cy 0, n, .inl (h.2 a)) := by unfold cel; rw [e]; rfl
theorem cel_2 {n : Nat} (e : kH h a = (2, n)) : cel cy ad h a = .inl (cy 1, n, .inl (h.2 a)) := by unfold cel; rw [e]; rfl
theorem cel_3 {n : Nat} (e : kH h a = (3, n)) : cel cy ad h a = .inl (cy 2, n, .inr (.inr (.inr (.inr (fun j => (kR h a j).map ad))))) := by unfold cel; rw [e]; rfl
theorem cel_4 {n : Nat} (e : kH h a = (4, n)) : cel cy ad h a = .inl (cy 3, n, .inr (.inr (.inr (.inr (fun j => (kR h a j).map ad))))) := by unfold cel; rw [e]; rfl
theorem cel_eq (e1 : kH h' a = kH h a) (e2 : kR h' a = kR h a) (e3 : h'.2 a = h.2 a) : cel cy ad h' a = cel cy ad h a := by
  unfold cel flds
  have e4 : fldv ad h' = fun ci b k => match (rfT.getD ci []).getD k false with
      | true => va_rf ((kR h' b k).map ad)
      | false => .int (h'.2 b k) := rfl
  rw [e1, e2, e3]
  have key : ∀ ci, fldv ad h' ci a = fldv ad h ci a := fun ci => by
    funext k
    unfold fldv
    rw [e2, e3]
  generalize kH h a = z
  obtain ⟨t, n⟩ := z
  match t with
  | 0 => show Sum.inr _ = Sum.inr _; rw [key]
  | 1 => rfl
  | 2 => rfl
  | 3 => rfl
  | t + 4 => rfl
theorem flds_at {ci k : Nat} (hk : k < nfT.getD ci 0) : (flds ad h ci a)[k]? = some (fldv ad h ci a k) := by
  unfold flds
  rw [List.getElem?_map, List.getElem?_range hk]
  rfl
theorem flds_len {ci : Nat} : (flds ad h ci a).length = nfT.getD ci 0 := by unfold flds; simp
theorem flds_set {ci k : Nat} {v : Value} (hk : k < nfT.getD ci 0) (hv : fldv ad h' ci a k = v) (ho : ∀ j, j ≠ k → fldv ad h' ci a j = fldv ad h ci a j) : (flds ad h ci a).set k v = flds ad h' ci a := by
  apply List.ext_getElem?
  intro j
  by_cases hj : j = k
  · subst hj
    rw [List.getElem?_set_self (by rw [flds_len]; exact hk), flds_at hk, hv]
  · rw [List.getElem?_set_ne (Ne.symm hj)]
    unfold flds
    rw [List.getElem?_map, List.getElem?_map]
    by_cases hkk : j < nfT.getD ci 0
    · rw [List.getElem?_range hkk]
      show some _ = some _
      rw [ho j hj]
    · rw [List.getElem?_eq_none (by simpa using hkk)]
      rfl
end P3a
theorem nbq {a b : Nat} (h : a ≠ b) : Nat.beq a b = false := by
  cases e : Nat.beq a b with
  | false => rfl
  | true => exact absurd (Nat.eq_of_beq_eq_true e) h
theorem up2_s (f : HI) (a k : Nat) (v : Int32) : up2 f a k v a k = v := by unfold up2; simp
theorem up2_n {f : HI} {a k b j : Nat} {v : Int32} (h : ¬ (b = a ∧ j = k)) : up2 f a k v b j = f b j := by
  unfold up2
  have e : (Nat.beq b a && Nat.beq j k) = false := by
    rw [Bool.and_eq_false_iff]
    by_cases hb : b = a
    · exact Or.inr (nbq fun hj => h ⟨hb, hj⟩)
    · exact Or.inl (nbq hb)
  rw [e]
theorem up2_f {f : HI} {a k b : Nat} {v : Int32} (h : b ≠ a) : up2 f a k v b = f b := by
  funext j
  exact up2_n (fun q => h q.1)
theorem upr_s (f : Nat → Nat → Option Nat) (a k : Nat) (v : Option Nat) : upr f a k v a k = v := by unfold upr; simp
theorem upr_n {f : Nat → Nat → Option Nat} {a k b j : Nat} {v : Option Nat} (h : ¬ (b = a ∧ j = k)) : upr f a k v b j = f b j := by
  unfold upr
  have e : (Nat.beq b a && Nat.beq j k) = false := by
    rw [Bool.and_eq_false_iff]
    by_cases hb : b = a
    · exact Or.inr (nbq fun hj => h ⟨hb, hj⟩)
    · exact Or.inl (nbq hb)
  rw [e]
theorem upr_f {f : Nat → Nat → Option Nat} {a k b : Nat} {v : Option Nat} (h : b ≠ a) : upr f a k v b = f b := by
  funext j
  exact upr_n (fun q => h q.1)
theorem up1_s (f : HI) (a : Nat) (g : Nat → Int32) : up1 f a g a = g := by unfold up1; simp
theorem up1_f {f : HI} {a b : Nat} {g : Nat → Int32} (h : b ≠ a) : up1 f a g b = f b := by
  unfold up1
  rw [nbq h]
theorem upc_s {β : Type} (f : Nat → β) (a : Nat) (g : β) : upc f a g a = g := by unfold upc; simp
theorem upc_f {β : Type} {f : Nat → β} {a b : Nat} {g : β} (h : b ≠ a) : upc f a g b = f b := by
  unfold upc
  rw [nbq h]
theorem lkp_in : ∀ {L : IL} {i : Nat} {v : Value}, lkp L i = some v → (i, v) ∈ L := by
  intro L
  induction L with
  | nil => intro i v h; cases h
  | cons q l ih =>
    obtain ⟨j, w⟩ := q
    intro i v h
    unfold lkp at h
    cases e : Nat.beq j i with
    | true =>
      rw [e] at h
      have hj : j = i := Nat.eq_of_beq_eq_true e
      cases h
      rw [hj]
      exact List.mem_cons_self
    | false =>
      rw [e] at h
      exact List.mem_cons_of_mem _ (ih h)
theorem lkp_has {ad : Nat → Nat} {ls : Array Slot} {nL : Nat} {L : IL} {i : Nat} {v : Value} (hl : lv_has ls nL (emL ad L)) (h : lkp L i = some v) : ls[i]? = some (.val (em ad v)) :=
  hl.2.2 (i, em ad v) (List.mem_map.mpr ⟨(i, v), lkp_in h, rfl⟩)
theorem rmv_in : ∀ {L : IL} {i : Nat} {q : Nat × Value}, q ∈ rmv L i → q ∈ L ∧ q.1 ≠ i := by
  intro L
  induction L with
  | nil => intro i q h; cases h
  | cons x l ih =>
    obtain ⟨j, w⟩ := x
    intro i q h
    unfold rmv at h
    cases e : Nat.beq j i with
    | true =>
      rw [e] at h
      exact ⟨List.mem_cons_of_mem _ (ih h).1, (ih h).2⟩
    | false =>
      rw [e] at h
      have hj : j ≠ i := Nat.ne_of_beq_eq_false e
      rcases List.mem_cons.mp h with rfl | h
      · exact ⟨List.mem_cons_self, hj⟩
      · exact ⟨List.mem_cons_of_mem _ (ih h).1, (ih h).2⟩
theorem upl_in : ∀ {L : IL} {i : Nat} {v : Value} {q : Nat × Value}, q ∈ upl L i v → q = (i, v) ∨ (q ∈ L ∧ q.1 ≠ i) := by
  intro L
  induction L with
  | nil => intro i v q h; exact Or.inl (by simpa [upl] using h)
  | cons x l ih =>
    obtain ⟨j, w⟩ := x
    intro i v q h
    unfold upl at h
    cases e : Nat.beq j i with
    | true =>
      rw [e] at h
      rcases List.mem_cons.mp h with rfl | h
      · exact Or.inl rfl
      · exact Or.inr ⟨List.mem_cons_of_mem _ (rmv_in h).1, (rmv_in h).2⟩
    | false =>
      rw [e] at h
      have hj : j ≠ i := Nat.ne_of_beq_eq_false e
      rcases List.mem_cons.mp h with rfl | h
      · exact Or.inr ⟨List.mem_cons_self, hj⟩
      · rcases ih h with h | h
        · exact Or.inl h
        · exact Or.inr ⟨List.mem_cons_of_mem _ h.1, h.2⟩
theorem clr_in : ∀ {L : IL} {i : Nat}, clr L i = true → ∀ q ∈ L, q.1 + 1 = i → ¬ q.2.category = 2 := by
  intro L
  induction L with
  | nil => intro i _ q hq; cases hq
  | cons x l ih =>
    obtain ⟨j, w⟩ := x
    intro i h q hq e
    unfold clr at h
    rcases List.mem_cons.mp hq with rfl | hq
    · have e : j + 1 = i := e
      cases w <;> first | (simp [Value.category]; done) | (subst e; simp at h)
    · refine ih ?_ q hq e
      cases w <;> first | exact h | (cases e2 : Nat.beq (j + 1) i <;> rw [e2] at h <;> first | exact h | cases h)
theorem qvl_cat (n : Nat) : (qvl n).category = 1 := by cases n <;> rfl
theorem em_cat {ad : Nat → Nat} (v : Value) : (em ad v).category = v.category := by cases v <;> first | rfl | exact qvl_cat _
theorem upl_sub {ad : Nat → Nat} {L : IL} {i : Nat} {v : Value} (hc : clr L i = true) : ∀ q ∈ emL ad (upl L i v), q ∈ (i, em ad v) :: (emL ad L).filter (fun q => !(q.1 == i) && !(q.1 + 1 == i && q.2.category == 2)) := by
  intro q hq
  obtain ⟨x, hx, rfl⟩ := List.mem_map.mp hq
  rcases upl_in hx with rfl | ⟨h1, h2⟩
  · exact List.mem_cons_self
  · refine List.mem_cons_of_mem _ (List.mem_filter.mpr ⟨List.mem_map.mpr ⟨x, h1, rfl⟩, ?_⟩)
    have h3 := clr_in hc x h1
    simp only [em_cat, Bool.and_eq_true, Bool.not_eq_true', beq_eq_false_iff_ne, ne_eq, Bool.and_eq_false_iff]
    refine ⟨h2, ?_⟩
    by_cases e : x.1 + 1 = i
    · exact Or.inr (h3 e)
    · exact Or.inl e
theorem lv_less {ls : Array Slot} {nL : Nat} {l l' : List (Nat × Value)} (h : lv_has ls nL l) (hs : ∀ q ∈ l', q ∈ l) : lv_has ls nL l' := ⟨h.1, h.2.1, fun q hq => h.2.2 q (hs q hq)⟩
theorem kpl_in : ∀ {L : IL} {ks : List Nat} {q : Nat × Value}, q ∈ kpl L ks → q ∈ L := by
  intro L
  induction L with
  | nil => intro ks q h; cases h
  | cons x l ih =>
    obtain ⟨j, w⟩ := x
    intro ks q h
    unfold kpl at h
    cases e : ks.any (fun k => Nat.beq k j) with
    | true =>
      rw [e] at h
      rcases List.mem_cons.mp h with rfl | h
      · exact List.mem_cons_self
      · exact List.mem_cons_of_mem _ (ih h)
    | false =>
      rw [e] at h
      exact List.mem_cons_of_mem _ (ih h)
