/-! ends, and the making of cells -/
section P7
variable {yT : Nat → MethodName} {wT : Nat → List Cond} {mcT msT : Nat → List Value → Nat} {cc : ByteArray} {own : String} {nL : Nat} {ini : Bool} {ret : Option FieldType} {pc : Nat}
theorem cl_df0 : ∀ ci, ci < 12 → ∀ j, j < clN ci → defaultValue (clY ci j) = (match (rfT.getD ci []).getD j false with | true => .null | false => .int 0) := by decide +kernel
theorem flds_getD {ad : Nat → Nat} {h : Hp} {ci a k : Nat} (hk : k < nfT.getD ci 0) : (flds ad h ci a).getD k .null = fldv ad h ci a k := by rw [List.getD_eq_getElem?_getD, flds_at hk]; rfl
theorem pops_spec : ∀ {k : Nat} {acc s as s' : List Value}, pops k acc s = some (as, s') → as.reverse ++ s' = acc.reverse ++ s ∧ as.length = k + acc.length := by
  intro k
  induction k with
  | zero => intro acc s as s' e; cases e; exact ⟨rfl, by omega⟩
  | succ k ih =>
    intro acc s as s' e
    rcases s with _ | ⟨v, s⟩
    · cases e
    · obtain ⟨h1, h2⟩ := ih (show pops k (v :: acc) s = some (as, s') from e)
      refine ⟨by rw [h1]; simp, by rw [h2]; simp; omega⟩
theorem em_sum {ad : Nat → Nat} {s : List Value} : ((s.map (em ad)).map fun v => v.category).sum = (s.map fun v => v.category).sum := by
  rw [List.map_map]
  congr 1
  exact List.map_congr_left fun v _ => em_cat v
theorem cat_len : ∀ (s : List Value), (s.map fun v => v.category).sum ≤ 2 * s.length := by
  intro s
  induction s with
  | nil => exact Nat.le_refl _
  | cons v s ih =>
    rw [List.map_cons, List.sum_cons, List.length_cons]
    rcases lv_cat v with h | h <;> omega
theorem gAll : GoodIn allW allW := fun w hw => ⟨hw, good_of_word (List.mem_filter.mp hw).2⟩
theorem gCode {y : MethodName} {bb : ByteArray} {ml : Nat} {re : Option FieldType} (hm : Cond.code y bb ml re ∈ allW) : GoodIn allW (Cond.code y bb ml re :: allW) := fun w hw => (List.mem_cons.mp hw).elim (fun e => by rw [e]; exact gAll _ hm) (gAll w)
theorem snd_ret (hd : decode cc pc = .ok (.return_, 1)) (h0 : ret = none) : Snd yT wT mcT msT cc own nL ini ret pc (oRet) := by
  intro p l e R s m args below meth c D cy base b aK aV aT qS X mc ms d Qm Y QV CP hF hR hE hB hX hY hQ hC L stk h hf H locs k n ls hr hl
  obtain ⟨hx, hb, hml, hown, hts, hin⟩ := hF
  rcases stk with _ | ⟨v1, stk⟩
  · exact hQ _ _ hf.2.2 H locs k n ls pc hr hf.1 hf.2.1 ⟨hd, h0⟩
  · exact False.elim hf

theorem snd_reti (hd : decode cc pc = .ok (.ireturn, 1)) (h0 : ret = some .int) : Snd yT wT mcT msT cc own nL ini ret pc (oRetI) := by
  intro p l e R s m args below meth c D cy base b aK aV aT qS X mc ms d Qm Y QV CP hF hR hE hB hX hY hQ hC L stk h hf H locs k n ls hr hl
  obtain ⟨hx, hb, hml, hown, hts, hin⟩ := hF
  rcases stk with _ | ⟨v1, _ | ⟨v2, stk⟩⟩
  · exact False.elim hf
  · cases v1 <;> first | exact False.elim hf | exact hQ _ _ hf.2.2 H locs k n ls pc hr hf.1 hf.2.1 ⟨hd, _, h0, rfl⟩
  · cases v1 <;> exact False.elim hf

theorem snd_retz (hd : decode cc pc = .ok (.ireturn, 1)) (h0 : ret = some .boolean) : Snd yT wT mcT msT cc own nL ini ret pc (oRetZ) := by
  intro p l e R s m args below meth c D cy base b aK aV aT qS X mc ms d Qm Y QV CP hF hR hE hB hX hY hQ hC L stk h hf H locs k n ls hr hl
  obtain ⟨hx, hb, hml, hown, hts, hin⟩ := hF
  rcases stk with _ | ⟨v1, _ | ⟨v2, stk⟩⟩
  · exact False.elim hf
  · cases v1 with
    | int x =>
      have hf : Fst X mcT msT Y QV CP h (if x = 0 ∨ x = 1 then some (.inr (.inl (some (.int x)))) else none) := hf
      by_cases hv : x = 0 ∨ x = 1
      · rw [if_pos hv] at hf
        exact hQ _ _ hf.2.2 H locs k n ls pc hr hf.1 hf.2.1 ⟨hd, _, h0, by rcases hv with rfl | rfl <;> rfl⟩
      · rw [if_neg hv] at hf; exact False.elim hf
    | _ => exact False.elim hf
  · cases v1 <;> exact False.elim hf

theorem snd_retb (hd : decode cc pc = .ok (.ireturn, 1)) (h0 : ret = some .byte) : Snd yT wT mcT msT cc own nL ini ret pc (oRetZ) := by
  intro p l e R s m args below meth c D cy base b aK aV aT qS X mc ms d Qm Y QV CP hF hR hE hB hX hY hQ hC L stk h hf H locs k n ls hr hl
  obtain ⟨hx, hb, hml, hown, hts, hin⟩ := hF
  rcases stk with _ | ⟨v1, _ | ⟨v2, stk⟩⟩
  · exact False.elim hf
  · cases v1 with
    | int x =>
      have hf : Fst X mcT msT Y QV CP h (if x = 0 ∨ x = 1 then some (.inr (.inl (some (.int x)))) else none) := hf
      by_cases hv : x = 0 ∨ x = 1
      · rw [if_pos hv] at hf
        exact hQ _ _ hf.2.2 H locs k n ls pc hr hf.1 hf.2.1 ⟨hd, _, h0, by rcases hv with rfl | rfl <;> rfl⟩
      · rw [if_neg hv] at hf; exact False.elim hf
    | _ => exact False.elim hf
  · cases v1 <;> exact False.elim hf

theorem snd_retc (hd : decode cc pc = .ok (.ireturn, 1)) (h0 : ret = some .char) : Snd yT wT mcT msT cc own nL ini ret pc (oRetC) := by
  intro p l e R s m args below meth c D cy base b aK aV aT qS X mc ms d Qm Y QV CP hF hR hE hB hX hY hQ hC L stk h hf H locs k n ls hr hl
  obtain ⟨hx, hb, hml, hown, hts, hin⟩ := hF
  rcases stk with _ | ⟨v1, _ | ⟨v2, stk⟩⟩
  · exact False.elim hf
  · cases v1 with
    | int x =>
      have hf : Fst X mcT msT Y QV CP h (if (x.toUInt32 % 65536).toInt32 = x then some (.inr (.inl (some (.int x)))) else none) := hf
      by_cases hv : (x.toUInt32 % 65536).toInt32 = x
      · rw [if_pos hv] at hf
        exact hQ _ _ hf.2.2 H locs k n ls pc hr hf.1 hf.2.1 ⟨hd, _, h0, by rw [← hv]; exact pk_nc x⟩
      · rw [if_neg hv] at hf; exact False.elim hf
    | _ => exact False.elim hf
  · cases v1 <;> exact False.elim hf

theorem snd_reta {nm : String} (hd : decode cc pc = .ok (.areturn, 1)) (h0 : ret = some (.object nm)) : Snd yT wT mcT msT cc own nL ini ret pc (oRetA) := by
  intro p l e R s m args below meth c D cy base b aK aV aT qS X mc ms d Qm Y QV CP hF hR hE hB hX hY hQ hC L stk h hf H locs k n ls hr hl
  obtain ⟨hx, hb, hml, hown, hts, hin⟩ := hF
  rcases stk with _ | ⟨v1, _ | ⟨v2, stk⟩⟩
  · exact False.elim hf
  · cases v1 <;> first | exact False.elim hf | exact hQ _ _ hf.2.2 H locs k n ls pc hr hf.1 hf.2.1 ⟨hd, _, h0⟩
  · cases v1 <;> exact False.elim hf

theorem snd_newi (hd : decode cc pc = .ok (.newarray .int, 2)) (hm : Cond.arrayClass .int ∈ allW) : Snd yT wT mcT msT cc own nL ini ret pc (oNewa 1 (pc + 2)) := by
  intro p l e R s m args below meth c D cy base b aK aV aT qS X mc ms d Qm Y QV CP hF hR hE hB hX hY hQ hC L stk h hf H locs k n ls hr hl
  obtain ⟨hx, hb, hml, hown, hts, hin⟩ := hF
  rcases stk with _ | ⟨v1, stk⟩
  · exact False.elim hf
  cases v1 with
  | int z =>
    have hf : Fst X mcT msT Y QV CP h (if z < 0 ∨ 65536 < z.toNatClampNeg ∨ X.2.1 < kN h + 1 ∨ X.2.2 < kS h + z.toNatClampNeg ∨ 999999 < kN h then none else nxt (pc + 2, L, .ref (kN h) :: stk) ((kN h + 1, kS h + z.toNatClampNeg, upc (kH h) (kN h) (1, z.toNatClampNeg), upc (kR h) (kN h) (fun _ => none)), up1 h.2 (kN h) (fun _ => 0))) := hf
    by_cases hc : z < 0 ∨ 65536 < z.toNatClampNeg ∨ X.2.1 < kN h + 1 ∨ X.2.2 < kS h + z.toNatClampNeg ∨ 999999 < kN h
    · rw [if_pos hc] at hf; exact False.elim hf
    · rw [if_neg hc] at hf
      have c1 : ¬ z < 0 := fun q => hc (Or.inl q)
      have c2 : ¬ 65536 < z.toNatClampNeg := fun q => hc (Or.inr (Or.inl q))
      have c3 : ¬ X.2.1 < kN h + 1 := fun q => hc (Or.inr (Or.inr (Or.inl q)))
      have c4 : ¬ X.2.2 < kS h + z.toNatClampNeg := fun q => hc (Or.inr (Or.inr (Or.inr (Or.inl q))))
      have c5 : ¬ 999999 < kN h := fun q => hc (Or.inr (Or.inr (Or.inr (Or.inr q))))
      have r4 := hr.2.2.2.2.1
      have r5 := hr.2.2.2.2.2.1
      have r6 := hR.2.2.1
      have r7 := hR.2.2.2
      refine rl_sz hB hr fun hz => ?_
      refine va_newaK (atype := .int) hx hb (hts _ hm) rfl hd rfl c1 rfl (by show z.toNatClampNeg * 4 ≤ _; omega) (by omega) (by omega) rfl fun H1 cA e1 z1 o1 hAr hNm => ?_
      have hcA : cA = cy 0 := Option.some.inj (hNm.symm.trans (hE.1.2 0 _ rfl).2)
      rw [hcA] at e1
      refine W.eq (g2 := F0 m (pc + 2) ls (.ref (adr base b aK aV aT qS (kN h)) :: List.map (em (adr base b aK aV aT qS)) stk)) ?_ ?_
      · rw [adr_0 (by omega), hz]
      ·
        have hcel : cel cy (adr base b aK aV aT qS) ((kN h + 1, kS h + z.toNatClampNeg, upc (kH h) (kN h) (1, z.toNatClampNeg), upc (kR h) (kN h) (fun _ => none)), up1 h.2 (kN h) (fun _ => 0)) (kN h) = .inl (cy 0, z.toNatClampNeg, .inl (fun _ => 0)) := by
          rw [cel_1 (n := z.toNatClampNeg) (upc_s _ _ _)]
          show Sum.inl (cy 0, z.toNatClampNeg, Sum.inl (up1 h.2 (kN h) (fun _ => 0) (kN h))) = _
          rw [up1_s]
        have hpush := wld_push (cy := cy) (base := base) (ad := (adr base b aK aV aT qS)) (h := h) (h' := ((kN h + 1, kS h + z.toNatClampNeg, upc (kH h) (kN h) (1, z.toNatClampNeg), upc (kR h) (kN h) (fun _ => none)), up1 h.2 (kN h) (fun _ => 0))) rfl (fun q hq => cel_eq (upc_f (Nat.ne_of_lt hq)) (upc_f (Nat.ne_of_lt hq)) (up1_f (Nat.ne_of_lt hq)))
        rw [hcel] at hpush
        have hk9 : ∀ (k9 : Nat) (x : Nat × va_E), (wld cy base (adr base b aK aV aT qS) h)[k9]? = some x → H1[x.1]? = H[x.1]? := fun k9 x hx9 => o1 x.1 ((hr.1 k9 x hx9).lt)
        refine hY _ _ hf H1 locs (k + 1) (n + z.toNatClampNeg) ls ⟨?_, ⟨Nat.le_trans hr.2.1.1 (by omega), fun x h1 h2 => (o1 x (Nat.lt_of_lt_of_le h1 hr.2.1.1)).trans (hr.2.1.2.1 x h1 h2), hr.2.1.2.2⟩, ?_, ?_, ?_, ?_, ?_, ?_⟩ hl
        · rw [← hpush]
          refine (hr.1.kept hk9).app (fun k9 x hx9 => ?_)
          have hz9 : k9 < 1 := (List.getElem?_eq_some_iff.mp hx9).1
          rw [show k9 = 0 by omega] at hx9
          cases hx9
          show H1[base + kN h]? = some (vp_cell _ _)
          rw [← hz]; exact e1
        · show s.heap.size + (k + 1) ≤ base + (kN h + 1)
          have := hr.2.2.1
          omega
        · show kN h + 1 ≤ 1000000
          omega
        · show k + 1 + X.2.1 = mc + (kN h + 1)
          omega
        · show n + z.toNatClampNeg + X.2.2 = ms + (kS h + z.toNatClampNeg)
          omega
        · show kN h + 1 ≤ X.2.1
          omega
        · show kS h + z.toNatClampNeg ≤ X.2.2
          omega
  | _ => exact False.elim hf

theorem snd_newz (hd : decode cc pc = .ok (.newarray .boolean, 2)) (hm : Cond.arrayClass .boolean ∈ allW) : Snd yT wT mcT msT cc own nL ini ret pc (oNewa 2 (pc + 2)) := by
  intro p l e R s m args below meth c D cy base b aK aV aT qS X mc ms d Qm Y QV CP hF hR hE hB hX hY hQ hC L stk h hf H locs k n ls hr hl
  obtain ⟨hx, hb, hml, hown, hts, hin⟩ := hF
  rcases stk with _ | ⟨v1, stk⟩
  · exact False.elim hf
  cases v1 with
  | int z =>
    have hf : Fst X mcT msT Y QV CP h (if z < 0 ∨ 65536 < z.toNatClampNeg ∨ X.2.1 < kN h + 1 ∨ X.2.2 < kS h + z.toNatClampNeg ∨ 999999 < kN h then none else nxt (pc + 2, L, .ref (kN h) :: stk) ((kN h + 1, kS h + z.toNatClampNeg, upc (kH h) (kN h) (2, z.toNatClampNeg), upc (kR h) (kN h) (fun _ => none)), up1 h.2 (kN h) (fun _ => 0))) := hf
    by_cases hc : z < 0 ∨ 65536 < z.toNatClampNeg ∨ X.2.1 < kN h + 1 ∨ X.2.2 < kS h + z.toNatClampNeg ∨ 999999 < kN h
    · rw [if_pos hc] at hf; exact False.elim hf
    · rw [if_neg hc] at hf
      have c1 : ¬ z < 0 := fun q => hc (Or.inl q)
      have c2 : ¬ 65536 < z.toNatClampNeg := fun q => hc (Or.inr (Or.inl q))
      have c3 : ¬ X.2.1 < kN h + 1 := fun q => hc (Or.inr (Or.inr (Or.inl q)))
      have c4 : ¬ X.2.2 < kS h + z.toNatClampNeg := fun q => hc (Or.inr (Or.inr (Or.inr (Or.inl q))))
      have c5 : ¬ 999999 < kN h := fun q => hc (Or.inr (Or.inr (Or.inr (Or.inr q))))
      have r4 := hr.2.2.2.2.1
      have r5 := hr.2.2.2.2.2.1
      have r6 := hR.2.2.1
      have r7 := hR.2.2.2
      refine rl_sz hB hr fun hz => ?_
      refine va_newaK (atype := .boolean) hx hb (hts _ hm) rfl hd rfl c1 rfl (by show z.toNatClampNeg * 1 ≤ _; omega) (by omega) (by omega) rfl fun H1 cA e1 z1 o1 hAr hNm => ?_
      have hcA : cA = cy 1 := Option.some.inj (hNm.symm.trans (hE.1.2 1 _ rfl).2)
      rw [hcA] at e1
      refine W.eq (g2 := F0 m (pc + 2) ls (.ref (adr base b aK aV aT qS (kN h)) :: List.map (em (adr base b aK aV aT qS)) stk)) ?_ ?_
      · rw [adr_0 (by omega), hz]
      ·
        have hcel : cel cy (adr base b aK aV aT qS) ((kN h + 1, kS h + z.toNatClampNeg, upc (kH h) (kN h) (2, z.toNatClampNeg), upc (kR h) (kN h) (fun _ => none)), up1 h.2 (kN h) (fun _ => 0)) (kN h) = .inl (cy 1, z.toNatClampNeg, .inl (fun _ => 0)) := by
          rw [cel_2 (n := z.toNatClampNeg) (upc_s _ _ _)]
          show Sum.inl (cy 1, z.toNatClampNeg, Sum.inl (up1 h.2 (kN h) (fun _ => 0) (kN h))) = _
          rw [up1_s]
        have hpush := wld_push (cy := cy) (base := base) (ad := (adr base b aK aV aT qS)) (h := h) (h' := ((kN h + 1, kS h + z.toNatClampNeg, upc (kH h) (kN h) (2, z.toNatClampNeg), upc (kR h) (kN h) (fun _ => none)), up1 h.2 (kN h) (fun _ => 0))) rfl (fun q hq => cel_eq (upc_f (Nat.ne_of_lt hq)) (upc_f (Nat.ne_of_lt hq)) (up1_f (Nat.ne_of_lt hq)))
        rw [hcel] at hpush
        have hk9 : ∀ (k9 : Nat) (x : Nat × va_E), (wld cy base (adr base b aK aV aT qS) h)[k9]? = some x → H1[x.1]? = H[x.1]? := fun k9 x hx9 => o1 x.1 ((hr.1 k9 x hx9).lt)
        refine hY _ _ hf H1 locs (k + 1) (n + z.toNatClampNeg) ls ⟨?_, ⟨Nat.le_trans hr.2.1.1 (by omega), fun x h1 h2 => (o1 x (Nat.lt_of_lt_of_le h1 hr.2.1.1)).trans (hr.2.1.2.1 x h1 h2), hr.2.1.2.2⟩, ?_, ?_, ?_, ?_, ?_, ?_⟩ hl
        · rw [← hpush]
          refine (hr.1.kept hk9).app (fun k9 x hx9 => ?_)
          have hz9 : k9 < 1 := (List.getElem?_eq_some_iff.mp hx9).1
          rw [show k9 = 0 by omega] at hx9
          cases hx9
          show H1[base + kN h]? = some (vp_cell _ _)
          rw [← hz]; exact e1
        · show s.heap.size + (k + 1) ≤ base + (kN h + 1)
          have := hr.2.2.1
          omega
        · show kN h + 1 ≤ 1000000
          omega
        · show k + 1 + X.2.1 = mc + (kN h + 1)
          omega
        · show n + z.toNatClampNeg + X.2.2 = ms + (kS h + z.toNatClampNeg)
          omega
        · show kN h + 1 ≤ X.2.1
          omega
        · show kS h + z.toNatClampNeg ≤ X.2.2
          omega
  | _ => exact False.elim hf

theorem snd_newq3 {index : Nat} (hd : decode cc pc = .ok (.anewarray index, 3)) (hm : Cond.classLink own index RX0 ∈ allW) : Snd yT wT mcT msT cc own nL ini ret pc (oNewa 3 (pc + 3)) := by
  intro p l e R s m args below meth c D cy base b aK aV aT qS X mc ms d Qm Y QV CP hF hR hE hB hX hY hQ hC L stk h hf H locs k n ls hr hl
  obtain ⟨hx, hb, hml, hown, hts, hin⟩ := hF
  rcases stk with _ | ⟨v1, stk⟩
  · exact False.elim hf
  cases v1 with
  | int z =>
    have hf : Fst X mcT msT Y QV CP h (if z < 0 ∨ 65536 < z.toNatClampNeg ∨ X.2.1 < kN h + 1 ∨ X.2.2 < kS h + z.toNatClampNeg ∨ 999999 < kN h then none else nxt (pc + 3, L, .ref (kN h) :: stk) ((kN h + 1, kS h + z.toNatClampNeg, upc (kH h) (kN h) (3, z.toNatClampNeg), upc (kR h) (kN h) (fun _ => none)), up1 h.2 (kN h) (fun _ => 0))) := hf
    by_cases hc : z < 0 ∨ 65536 < z.toNatClampNeg ∨ X.2.1 < kN h + 1 ∨ X.2.2 < kS h + z.toNatClampNeg ∨ 999999 < kN h
    · rw [if_pos hc] at hf; exact False.elim hf
    · rw [if_neg hc] at hf
      have c1 : ¬ z < 0 := fun q => hc (Or.inl q)
      have c2 : ¬ 65536 < z.toNatClampNeg := fun q => hc (Or.inr (Or.inl q))
      have c3 : ¬ X.2.1 < kN h + 1 := fun q => hc (Or.inr (Or.inr (Or.inl q)))
      have c4 : ¬ X.2.2 < kS h + z.toNatClampNeg := fun q => hc (Or.inr (Or.inr (Or.inr (Or.inl q))))
      have c5 : ¬ 999999 < kN h := fun q => hc (Or.inr (Or.inr (Or.inr (Or.inr q))))
      have r4 := hr.2.2.2.2.1
      have r5 := hr.2.2.2.2.2.1
      have r6 := hR.2.2.1
      have r7 := hR.2.2.2
      refine rl_sz hB hr fun hz => ?_
      refine W.anew hx hb hown (hts _ hm) (va_AO.use hE.2.2.2.2.2.2.1) rfl hd rfl c1 (by omega) (by omega) (by omega) fun cA kA comp f1 f2 f3 f4 => ?_
      obtain ⟨kA9, comp9, g1, g2, g3, g4⟩ := (hE.1.2 2 _ rfl).2
      have hcA : cA = cy 2 := Option.some.inj (f1.symm.trans g4)
      generalize hH1 : H.push ({ cls := cA, slots := Array.replicate z.toNatClampNeg .null, vm := .none } : Cell) = H1
      have z1 : H1.size = H.size + 1 := by rw [← hH1, Array.size_push]
      have e1 : H1[H.size]? = some (arrV cA z.toNatClampNeg (fun _ => .null)) := by rw [← hH1, Array.getElem?_push_size, ← arrV_new]
      have o1 : ∀ q : Nat, q < H.size → H1[q]? = H[q]? := fun q hq => by rw [← hH1, Array.getElem?_push, if_neg (Nat.ne_of_lt hq)]
      rw [hcA] at e1
      refine W.eq (g2 := F0 m (pc + 3) ls (.ref (adr base b aK aV aT qS (kN h)) :: List.map (em (adr base b aK aV aT qS)) stk)) ?_ ?_
      · rw [adr_0 (by omega), hz]
      ·
        have hcel : cel cy (adr base b aK aV aT qS) ((kN h + 1, kS h + z.toNatClampNeg, upc (kH h) (kN h) (3, z.toNatClampNeg), upc (kR h) (kN h) (fun _ => none)), up1 h.2 (kN h) (fun _ => 0)) (kN h) = .inl (cy 2, z.toNatClampNeg, .inr (.inr (.inr (.inr (fun _ => none))))) := by
          rw [cel_3 (n := z.toNatClampNeg) (upc_s _ _ _)]
          show Sum.inl (cy 2, z.toNatClampNeg, Sum.inr (Sum.inr (Sum.inr (Sum.inr (fun j => (upc (kR h) (kN h) (fun _ => none) (kN h) j).map (adr base b aK aV aT qS)))))) = _
          rw [upc_s]
          rfl
        have hpush := wld_push (cy := cy) (base := base) (ad := (adr base b aK aV aT qS)) (h := h) (h' := ((kN h + 1, kS h + z.toNatClampNeg, upc (kH h) (kN h) (3, z.toNatClampNeg), upc (kR h) (kN h) (fun _ => none)), up1 h.2 (kN h) (fun _ => 0))) rfl (fun q hq => cel_eq (upc_f (Nat.ne_of_lt hq)) (upc_f (Nat.ne_of_lt hq)) (up1_f (Nat.ne_of_lt hq)))
        rw [hcel] at hpush
        have hk9 : ∀ (k9 : Nat) (x : Nat × va_E), (wld cy base (adr base b aK aV aT qS) h)[k9]? = some x → H1[x.1]? = H[x.1]? := fun k9 x hx9 => o1 x.1 ((hr.1 k9 x hx9).lt)
        refine hY _ _ hf H1 locs (k + 1) (n + z.toNatClampNeg) ls ⟨?_, ⟨Nat.le_trans hr.2.1.1 (by omega), fun x h1 h2 => (o1 x (Nat.lt_of_lt_of_le h1 hr.2.1.1)).trans (hr.2.1.2.1 x h1 h2), hr.2.1.2.2⟩, ?_, ?_, ?_, ?_, ?_, ?_⟩ hl
        · rw [← hpush]
          refine (hr.1.kept hk9).app (fun k9 x hx9 => ?_)
          have hz9 : k9 < 1 := (List.getElem?_eq_some_iff.mp hx9).1
          rw [show k9 = 0 by omega] at hx9
          cases hx9
          show H1[base + kN h]? = some (vp_cell _ _)
          rw [← hz]; exact e1
        · show s.heap.size + (k + 1) ≤ base + (kN h + 1)
          have := hr.2.2.1
          omega
        · show kN h + 1 ≤ 1000000
          omega
        · show k + 1 + X.2.1 = mc + (kN h + 1)
          omega
        · show n + z.toNatClampNeg + X.2.2 = ms + (kS h + z.toNatClampNeg)
          omega
        · show kN h + 1 ≤ X.2.1
          omega
        · show kS h + z.toNatClampNeg ≤ X.2.2
          omega
  | _ => exact False.elim hf

theorem snd_newq4 {index : Nat} (hd : decode cc pc = .ok (.anewarray index, 3)) (hm : Cond.classLink own index RX3 ∈ allW) : Snd yT wT mcT msT cc own nL ini ret pc (oNewa 4 (pc + 3)) := by
  intro p l e R s m args below meth c D cy base b aK aV aT qS X mc ms d Qm Y QV CP hF hR hE hB hX hY hQ hC L stk h hf H locs k n ls hr hl
  obtain ⟨hx, hb, hml, hown, hts, hin⟩ := hF
  rcases stk with _ | ⟨v1, stk⟩
  · exact False.elim hf
  cases v1 with
  | int z =>
    have hf : Fst X mcT msT Y QV CP h (if z < 0 ∨ 65536 < z.toNatClampNeg ∨ X.2.1 < kN h + 1 ∨ X.2.2 < kS h + z.toNatClampNeg ∨ 999999 < kN h then none else nxt (pc + 3, L, .ref (kN h) :: stk) ((kN h + 1, kS h + z.toNatClampNeg, upc (kH h) (kN h) (4, z.toNatClampNeg), upc (kR h) (kN h) (fun _ => none)), up1 h.2 (kN h) (fun _ => 0))) := hf
    by_cases hc : z < 0 ∨ 65536 < z.toNatClampNeg ∨ X.2.1 < kN h + 1 ∨ X.2.2 < kS h + z.toNatClampNeg ∨ 999999 < kN h
    · rw [if_pos hc] at hf; exact False.elim hf
    · rw [if_neg hc] at hf
      have c1 : ¬ z < 0 := fun q => hc (Or.inl q)
      have c2 : ¬ 65536 < z.toNatClampNeg := fun q => hc (Or.inr (Or.inl q))
      have c3 : ¬ X.2.1 < kN h + 1 := fun q => hc (Or.inr (Or.inr (Or.inl q)))
      have c4 : ¬ X.2.2 < kS h + z.toNatClampNeg := fun q => hc (Or.inr (Or.inr (Or.inr (Or.inl q))))
      have c5 : ¬ 999999 < kN h := fun q => hc (Or.inr (Or.inr (Or.inr (Or.inr q))))
      have r4 := hr.2.2.2.2.1
      have r5 := hr.2.2.2.2.2.1
      have r6 := hR.2.2.1
      have r7 := hR.2.2.2
      refine rl_sz hB hr fun hz => ?_
      refine W.anew hx hb hown (hts _ hm) (va_AO.use hE.2.2.2.2.2.2.2.1) rfl hd rfl c1 (by omega) (by omega) (by omega) fun cA kA comp f1 f2 f3 f4 => ?_
      obtain ⟨kA9, comp9, g1, g2, g3, g4⟩ := (hE.1.2 3 _ rfl).2
      have hcA : cA = cy 3 := Option.some.inj (f1.symm.trans g4)
      generalize hH1 : H.push ({ cls := cA, slots := Array.replicate z.toNatClampNeg .null, vm := .none } : Cell) = H1
      have z1 : H1.size = H.size + 1 := by rw [← hH1, Array.size_push]
      have e1 : H1[H.size]? = some (arrV cA z.toNatClampNeg (fun _ => .null)) := by rw [← hH1, Array.getElem?_push_size, ← arrV_new]
      have o1 : ∀ q : Nat, q < H.size → H1[q]? = H[q]? := fun q hq => by rw [← hH1, Array.getElem?_push, if_neg (Nat.ne_of_lt hq)]
      rw [hcA] at e1
      refine W.eq (g2 := F0 m (pc + 3) ls (.ref (adr base b aK aV aT qS (kN h)) :: List.map (em (adr base b aK aV aT qS)) stk)) ?_ ?_
      · rw [adr_0 (by omega), hz]
      ·
        have hcel : cel cy (adr base b aK aV aT qS) ((kN h + 1, kS h + z.toNatClampNeg, upc (kH h) (kN h) (4, z.toNatClampNeg), upc (kR h) (kN h) (fun _ => none)), up1 h.2 (kN h) (fun _ => 0)) (kN h) = .inl (cy 3, z.toNatClampNeg, .inr (.inr (.inr (.inr (fun _ => none))))) := by
          rw [cel_4 (n := z.toNatClampNeg) (upc_s _ _ _)]
          show Sum.inl (cy 3, z.toNatClampNeg, Sum.inr (Sum.inr (Sum.inr (Sum.inr (fun j => (upc (kR h) (kN h) (fun _ => none) (kN h) j).map (adr base b aK aV aT qS)))))) = _
          rw [upc_s]
          rfl
        have hpush := wld_push (cy := cy) (base := base) (ad := (adr base b aK aV aT qS)) (h := h) (h' := ((kN h + 1, kS h + z.toNatClampNeg, upc (kH h) (kN h) (4, z.toNatClampNeg), upc (kR h) (kN h) (fun _ => none)), up1 h.2 (kN h) (fun _ => 0))) rfl (fun q hq => cel_eq (upc_f (Nat.ne_of_lt hq)) (upc_f (Nat.ne_of_lt hq)) (up1_f (Nat.ne_of_lt hq)))
        rw [hcel] at hpush
        have hk9 : ∀ (k9 : Nat) (x : Nat × va_E), (wld cy base (adr base b aK aV aT qS) h)[k9]? = some x → H1[x.1]? = H[x.1]? := fun k9 x hx9 => o1 x.1 ((hr.1 k9 x hx9).lt)
        refine hY _ _ hf H1 locs (k + 1) (n + z.toNatClampNeg) ls ⟨?_, ⟨Nat.le_trans hr.2.1.1 (by omega), fun x h1 h2 => (o1 x (Nat.lt_of_lt_of_le h1 hr.2.1.1)).trans (hr.2.1.2.1 x h1 h2), hr.2.1.2.2⟩, ?_, ?_, ?_, ?_, ?_, ?_⟩ hl
        · rw [← hpush]
          refine (hr.1.kept hk9).app (fun k9 x hx9 => ?_)
          have hz9 : k9 < 1 := (List.getElem?_eq_some_iff.mp hx9).1
          rw [show k9 = 0 by omega] at hx9
          cases hx9
          show H1[base + kN h]? = some (vp_cell _ _)
          rw [← hz]; exact e1
        · show s.heap.size + (k + 1) ≤ base + (kN h + 1)
          have := hr.2.2.1
          omega
        · show kN h + 1 ≤ 1000000
          omega
        · show k + 1 + X.2.1 = mc + (kN h + 1)
          omega
        · show n + z.toNatClampNeg + X.2.2 = ms + (kS h + z.toNatClampNeg)
          omega
        · show kN h + 1 ≤ X.2.1
          omega
        · show kS h + z.toNatClampNeg ≤ X.2.2
          omega
  | _ => exact False.elim hf

theorem snd_new {ci index : Nat} (hci : ci < 12) (hd : decode cc pc = .ok (.new index, 3)) (hm : Cond.classLink own index (clC ci) ∈ allW) (hm2 : Cond.instantiable (clC ci) (clN ci) ∈ allW) (hm3 : Cond.initialized (clC ci) ∈ allW) : Snd yT wT mcT msT cc own nL ini ret pc (oNew ci (clN ci) (pc + 3)) := by
  intro p l e R s m args below meth c D cy base b aK aV aT qS X mc ms d Qm Y QV CP hF hR hE hB hX hY hQ hC L stk h hf H locs k n ls hr hl
  obtain ⟨hx, hb, hml, hown, hts, hin⟩ := hF
  have hf : Fst X mcT msT Y QV CP h (if X.2.1 < kN h + 1 ∨ X.2.2 < kS h + clN ci ∨ 999999 < kN h then none else nxt (pc + 3, L, .ref (kN h) :: stk) ((kN h + 1, kS h + clN ci, upc (kH h) (kN h) (0, ci), upc (kR h) (kN h) (fun _ => none)), up1 h.2 (kN h) (fun _ => 0))) := hf
  by_cases hc : X.2.1 < kN h + 1 ∨ X.2.2 < kS h + clN ci ∨ 999999 < kN h
  · rw [if_pos hc] at hf; exact False.elim hf
  · rw [if_neg hc] at hf
    have c3 : ¬ X.2.1 < kN h + 1 := fun q => hc (Or.inl q)
    have c4 : ¬ X.2.2 < kS h + clN ci := fun q => hc (Or.inr (Or.inl q))
    have c5 : ¬ 999999 < kN h := fun q => hc (Or.inr (Or.inr q))
    have r4 := hr.2.2.2.2.1
    have r5 := hr.2.2.2.2.2.1
    have r6 := hR.2.2.1
    have r7 := hR.2.2.2
    have hKn := hE.1.1 ci _ (cl_at hci)
    refine rl_sz hB hr fun hz => ?_
    refine W.newcK hx hb hown (hts _ hm) (hts _ hm2) (hts _ hm3) rfl hd (by omega) (by omega) hKn.2.1 rfl fun H1 kC hkC e1 z1 o1 => ?_
    refine W.eq (g2 := F0 m (pc + 3) ls (.ref (adr base b aK aV aT qS (kN h)) :: List.map (em (adr base b aK aV aT qS)) stk)) ?_ ?_
    · rw [adr_0 (by omega), hz]
    · have hpush := wld_push (cy := cy) (base := base) (ad := (adr base b aK aV aT qS)) (h := h) (h' := ((kN h + 1, kS h + clN ci, upc (kH h) (kN h) (0, ci), upc (kR h) (kN h) (fun _ => none)), up1 h.2 (kN h) (fun _ => 0))) rfl (fun q hq => cel_eq (upc_f (Nat.ne_of_lt hq)) (upc_f (Nat.ne_of_lt hq)) (up1_f (Nat.ne_of_lt hq)))
      rw [cel_0 (ci := ci) (upc_s _ _ _)] at hpush
      have hk9 : ∀ (k9 : Nat) (x : Nat × va_E), (wld cy base (adr base b aK aV aT qS) h)[k9]? = some x → H1[x.1]? = H[x.1]? := fun k9 x hx9 => o1 x.1 ((hr.1 k9 x hx9).lt)
      refine hY _ _ hf H1 locs (k + 1) (n + clN ci) ls ⟨?_, ⟨Nat.le_trans hr.2.1.1 (by omega), fun x h1 h2 => (o1 x (Nat.lt_of_lt_of_le h1 hr.2.1.1)).trans (hr.2.1.2.1 x h1 h2), hr.2.1.2.2⟩, ?_, ?_, ?_, ?_, ?_, ?_⟩ hl
      · rw [← hpush]
        refine (hr.1.kept hk9).app (fun k9 x hx9 => ?_)
        have hz9 : k9 < 1 := (List.getElem?_eq_some_iff.mp hx9).1
        rw [show k9 = 0 by omega] at hx9
        cases hx9
        refine ⟨_, cl_at hci, ?_⟩
        show t_OB (base + kN h) _ _ _ H1 _
        rw [← hz]
        refine (u_born (clY ci) hts (cl_in hci) hKn hkC e1 (cl_ty hci)).to (fun j hj => ?_)
        rw [cl_df0 ci hci j hj]
        refine Eq.trans ?_ (flds_getD (by rw [cl_nf hci]; exact hj)).symm
        unfold fldv
        rw [show kR ((kN h + 1, kS h + clN ci, upc (kH h) (kN h) (0, ci), upc (kR h) (kN h) (fun _ => none)), up1 h.2 (kN h) (fun _ => 0)) (kN h) = fun _ => none from upc_s _ _ _, show ((kN h + 1, kS h + clN ci, upc (kH h) (kN h) (0, ci), upc (kR h) (kN h) (fun _ => none)), up1 h.2 (kN h) (fun _ => 0)).2 (kN h) = fun _ => 0 from up1_s _ _ _]
        cases (rfT.getD ci []).getD j false <;> rfl
      · show s.heap.size + (k + 1) ≤ base + (kN h + 1)
        have := hr.2.2.1
        omega
      · show kN h + 1 ≤ 1000000
        omega
      · show k + 1 + X.2.1 = mc + (kN h + 1)
        omega
      · show n + clN ci + X.2.2 = ms + (kS h + clN ci)
        omega
      · show kN h + 1 ≤ X.2.1
        omega
      · show kS h + clN ci ≤ X.2.2
        omega

end P7
