/-! calls, strings, the script, rows of objects -/
section P8
variable {yT : Nat → MethodName} {wT : Nat → List Cond} {mcT msT : Nat → List Value → Nat} {cc : ByteArray} {own : String} {nL : Nat} {ini : Bool} {ret : Option FieldType} {pc : Nat}
theorem rgK {a : Nat} (h : 2000000 ≤ a ∧ a < 2000007) : a < 3000000 ∧ a - 2000000 < 7 ∧ 3000000 ≤ a + 1000000 ∧ a + 1000000 < 4000000 ∧ a + 1000000 - 3000000 = a - 2000000 := by omega
theorem rgV {a : Nat} (h : 3000000 ≤ a ∧ a < 3000007) : a < 4000000 ∧ a - 3000000 < 7 := by omega
theorem snd_callV {mid k0 index ml : Nat} {by0 : ByteArray} {re : Option FieldType} (hw : wT mid = Cond.code (yT mid) by0 ml re :: allW) (hm : Cond.code (yT mid) by0 ml re ∈ allW) (hml0 : ml ≤ 45) (hini : Cond.initialized (yT mid).cls ∈ allW) (hdy : (yT mid).cls ≠ "java/lang/invoke/MethodHandle" ∧ (yT mid).cls ≠ "java/lang/invoke/VarHandle" ∧ (parseMethodDescriptor (yT mid).desc).map (fun d => d.parameters.length) = some k0) {ci : Nat} (hci : ci < 12) (hyc : (yT mid).cls = clC ci) (hl0 : Cond.methodLink own index (yT mid) ∈ allW) (hi0 : Cond.instanceMethod (yT mid) ∈ allW) (hs0 : Cond.selects (yT mid).cls (yT mid) (yT mid) ∈ allW) (hd : decode cc pc = .ok (.invokevirtual index, 3)) : Snd yT wT mcT msT cc own nL ini ret pc (oCallV mid ci k0 (pc + 3)) := by
  intro p l e R s m args below meth c D cy base b aK aV aT qS X mc ms d Qm Y QV CP hF hR hE hB hX hY hQ hC L stk h hf H locs k n ls hr hl
  obtain ⟨hx, hb, hml, hown, hts, hin⟩ := hF
  have hf : Fst X mcT msT Y QV CP h (match pops k0 [] stk with | some (as, .ref b0 :: s2) => (match isO h b0 ci with | true => some (.inr (.inr (mid, .ref b0 :: as, (pc + 3, L, s2)))) | false => none) | _ => none) := hf
  generalize ep : pops k0 [] stk = q at hf
  rcases q with _ | ⟨as, rest0⟩
  · exact False.elim hf
  rcases rest0 with _ | ⟨v0, rest⟩
  · exact False.elim hf
  cases v0 with
  | ref b0 =>
    cases eo : isO h b0 ci with
    | false => exact absurd hf (by dsimp only; rw [eo]; exact fun z => z)
    | true =>
    have hf : Fst X mcT msT Y QV CP h (some (.inr (.inr (mid, .ref b0 :: as, (pc + 3, L, rest))))) := by have hf2 := hf; dsimp only at hf2; rw [eo] at hf2; exact hf2
    obtain ⟨ha, hsh⟩ := isO_spec eo
    have ead : adr base b aK aV aT qS b0 = base + b0 := adr_0 (Nat.lt_of_lt_of_le ha hr.2.2.2.1)
    have hw9 := wld_at (cy := cy) (base := base) (ad := (adr base b aK aV aT qS)) ha
    rw [cel_0 hsh] at hw9
    have hrec := va_recv hE.1 hr.1 (cl_at hci) hw9
    obtain ⟨f1, f2, f3, f4⟩ := hf
    have f2 : kN h + mcT mid (.ref b0 :: as) ≤ X.2.1 := f2
    have f3 : kS h + msT mid (.ref b0 :: as) ≤ X.2.2 := f3
    obtain ⟨p1, p2⟩ := pops_spec ep
    have p2 : as.length = k0 := by simpa using p2
    have p1 : stk = as.reverse ++ .ref b0 :: rest := by simpa using p1.symm
    have r3 := hr.2.2.1
    have r4 := hr.2.2.2.2.1
    have r5 := hr.2.2.2.2.2.1
    have r6 := hR.2.2.1
    have r7 := hR.2.2.2
    refine rl_sz hB hr fun hz => ?_
    have hM := hC mid (.ref b0 :: as) _ _ h f4
    have hpre : ∀ U : State, U.heap = H → s.WarmedH U.vm → PcT D cy base (adr base b aK aV aT qS) aK aV aT qS (.ref b0 :: as) h (Value.ref (base + b0) :: as.map (em (adr base b aK aV aT qS))).toArray U := fun U hU hW => ⟨by rw [List.map_cons]; show _ = (Value.ref (adr base b aK aV aT qS b0) :: _).toArray; rw [ead], by rw [hU]; exact hz, hr.2.2.2.1, by rw [hU]; exact hr.1, by rw [hU]; exact EvS.warm hW (fun q h1 h2 => hr.2.1.2.1 q h1 h2) hE⟩
    have hst : stk.map (em (adr base b aK aV aT qS)) = (as.map (em (adr base b aK aV aT qS))).reverse ++ .ref (base + b0) :: rest.map (em (adr base b aK aV aT qS)) := by
      rw [p1, List.map_append, List.map_reverse, List.map_cons]
      show _ ++ (Value.ref (adr base b aK aV aT qS b0) :: _) = _
      rw [ead]
    refine W.eq (g2 := F0 m pc ls (stk.map (em (adr base b aK aV aT qS)))) rfl ?_
    refine my_call (mc := mcT mid (.ref b0 :: as)) (ms := msT mid (.ref b0 :: as)) (rest := rest.map (em (adr base b aK aV aT qS))) (va_runV ⟨hx, hb, hml, hown, hts⟩ hM ⟨callB_of k0 hts (by rw [hw]; exact gCode hm) hw rfl rfl (hts _ hini) (hts _ hl0) hdy ⟨by show d + 1 ≤ R.frames; exact hR.1, by show 8 + (ml + 11) + 64 * d ≤ R.locals; have := hR.2.1; omega⟩, hts _ hi0, hts _ hs0⟩ ⟨PcT.blind, by rw [hyc]; exact hrec, hpre⟩ rfl (by rw [List.length_map]; exact p2) (hl.1) hst (lv_room (by rw [em_sum]; exact f1)) hd ⟨by omega, by omega⟩) hr.2.1 (fun v h2 H1 locs1 hq hP1 hz1 hn1 hn2 hn3 hS1 => W.eq (g2 := F0 m (pc + 3) ls ((v.toList ++ rest).map (em (adr base b aK aV aT qS)))) (by cases v <;> rfl) (hY _ _ hq H1 locs1 _ _ ls ⟨hP1, hS1, by rw [hn1]; show s.heap.size + (k + mcT mid (.ref b0 :: as)) ≤ base + (kN h + mcT mid (.ref b0 :: as)); omega, hn3, by rw [hn1]; show k + mcT mid (.ref b0 :: as) + X.2.1 = mc + (kN h + mcT mid (.ref b0 :: as)); omega, by rw [hn2]; show n + msT mid (.ref b0 :: as) + X.2.2 = ms + (kS h + msT mid (.ref b0 :: as)); omega, by rw [hn1]; exact f2, by rw [hn2]; exact f3⟩ hl))
  | _ => exact False.elim hf

theorem snd_callK {mid k0 index ml : Nat} {by0 : ByteArray} {re : Option FieldType} (hw : wT mid = Cond.code (yT mid) by0 ml re :: allW) (hm : Cond.code (yT mid) by0 ml re ∈ allW) (hml0 : ml ≤ 45) (hini : Cond.initialized (yT mid).cls ∈ allW) (hdy : (yT mid).cls ≠ "java/lang/invoke/MethodHandle" ∧ (yT mid).cls ≠ "java/lang/invoke/VarHandle" ∧ (parseMethodDescriptor (yT mid).desc).map (fun d => d.parameters.length) = some k0) (hyc : (yT mid).cls = "java/lang/String") (hl0 : Cond.methodLink own index (yT mid) ∈ allW) (hi0 : Cond.instanceMethod (yT mid) ∈ allW) (hs0 : Cond.selects (yT mid).cls (yT mid) (yT mid) ∈ allW) (hd : decode cc pc = .ok (.invokevirtual index, 3)) : Snd yT wT mcT msT cc own nL ini ret pc (oCallK mid k0 (pc + 3)) := by
  intro p l e R s m args below meth c D cy base b aK aV aT qS X mc ms d Qm Y QV CP hF hR hE hB hX hY hQ hC L stk h hf H locs k n ls hr hl
  obtain ⟨hx, hb, hml, hown, hts, hin⟩ := hF
  have hf : Fst X mcT msT Y QV CP h (match pops k0 [] stk with | some (as, .ref b0 :: s2) => (if 2000000 ≤ b0 ∧ b0 < 2000007 then some (.inr (.inr (mid, .ref b0 :: as, (pc + 3, L, s2)))) else none) | _ => none) := hf
  generalize ep : pops k0 [] stk = q at hf
  rcases q with _ | ⟨as, rest0⟩
  · exact False.elim hf
  rcases rest0 with _ | ⟨v0, rest⟩
  · exact False.elim hf
  cases v0 with
  | ref b0 =>
    by_cases eo : 2000000 ≤ b0 ∧ b0 < 2000007
    rotate_left
    · exact absurd hf (by dsimp only; rw [if_neg eo]; exact fun z => z)
    have hf : Fst X mcT msT Y QV CP h (some (.inr (.inr (mid, .ref b0 :: as, (pc + 3, L, rest))))) := by have hf2 := hf; dsimp only at hf2; rw [if_pos eo] at hf2; exact hf2
    have ead : adr base b aK aV aT qS b0 = aK (b0 - 2000000) := adr_2 eo.1 (rgK eo).1
    have hrec := vk_recv hE.2.1 (i := b0 - 2000000) (rgK eo).2.1 hr.2.1
    obtain ⟨f1, f2, f3, f4⟩ := hf
    have f2 : kN h + mcT mid (.ref b0 :: as) ≤ X.2.1 := f2
    have f3 : kS h + msT mid (.ref b0 :: as) ≤ X.2.2 := f3
    obtain ⟨p1, p2⟩ := pops_spec ep
    have p2 : as.length = k0 := by simpa using p2
    have p1 : stk = as.reverse ++ .ref b0 :: rest := by simpa using p1.symm
    have r3 := hr.2.2.1
    have r4 := hr.2.2.2.2.1
    have r5 := hr.2.2.2.2.2.1
    have r6 := hR.2.2.1
    have r7 := hR.2.2.2
    refine rl_sz hB hr fun hz => ?_
    have hM := hC mid (.ref b0 :: as) _ _ h f4
    have hpre : ∀ U : State, U.heap = H → s.WarmedH U.vm → PcT D cy base (adr base b aK aV aT qS) aK aV aT qS (.ref b0 :: as) h (Value.ref (aK (b0 - 2000000)) :: as.map (em (adr base b aK aV aT qS))).toArray U := fun U hU hW => ⟨by rw [List.map_cons]; show _ = (Value.ref (adr base b aK aV aT qS b0) :: _).toArray; rw [ead], by rw [hU]; exact hz, hr.2.2.2.1, by rw [hU]; exact hr.1, by rw [hU]; exact EvS.warm hW (fun q h1 h2 => hr.2.1.2.1 q h1 h2) hE⟩
    have hst : stk.map (em (adr base b aK aV aT qS)) = (as.map (em (adr base b aK aV aT qS))).reverse ++ .ref (aK (b0 - 2000000)) :: rest.map (em (adr base b aK aV aT qS)) := by
      rw [p1, List.map_append, List.map_reverse, List.map_cons]
      show _ ++ (Value.ref (adr base b aK aV aT qS b0) :: _) = _
      rw [ead]
    refine W.eq (g2 := F0 m pc ls (stk.map (em (adr base b aK aV aT qS)))) rfl ?_
    refine my_call (mc := mcT mid (.ref b0 :: as)) (ms := msT mid (.ref b0 :: as)) (rest := rest.map (em (adr base b aK aV aT qS))) (va_runV ⟨hx, hb, hml, hown, hts⟩ hM ⟨callB_of k0 hts (by rw [hw]; exact gCode hm) hw rfl rfl (hts _ hini) (hts _ hl0) hdy ⟨by show d + 1 ≤ R.frames; exact hR.1, by show 8 + (ml + 11) + 64 * d ≤ R.locals; have := hR.2.1; omega⟩, hts _ hi0, hts _ hs0⟩ ⟨PcT.blind, by rw [hyc]; exact hrec, hpre⟩ rfl (by rw [List.length_map]; exact p2) (hl.1) hst (lv_room (by rw [em_sum]; exact f1)) hd ⟨by omega, by omega⟩) hr.2.1 (fun v h2 H1 locs1 hq hP1 hz1 hn1 hn2 hn3 hS1 => W.eq (g2 := F0 m (pc + 3) ls ((v.toList ++ rest).map (em (adr base b aK aV aT qS)))) (by cases v <;> rfl) (hY _ _ hq H1 locs1 _ _ ls ⟨hP1, hS1, by rw [hn1]; show s.heap.size + (k + mcT mid (.ref b0 :: as)) ≤ base + (kN h + mcT mid (.ref b0 :: as)); omega, hn3, by rw [hn1]; show k + mcT mid (.ref b0 :: as) + X.2.1 = mc + (kN h + mcT mid (.ref b0 :: as)); omega, by rw [hn2]; show n + msT mid (.ref b0 :: as) + X.2.2 = ms + (kS h + msT mid (.ref b0 :: as)); omega, by rw [hn1]; exact f2, by rw [hn2]; exact f3⟩ hl))
  | _ => exact False.elim hf

theorem snd_callI {mid k0 index ml : Nat} {by0 : ByteArray} {re : Option FieldType} (hw : wT mid = Cond.code (yT mid) by0 ml re :: allW) (hm : Cond.code (yT mid) by0 ml re ∈ allW) (hml0 : ml ≤ 45) (hini : Cond.initialized (yT mid).cls ∈ allW) (hdy : (yT mid).cls ≠ "java/lang/invoke/MethodHandle" ∧ (yT mid).cls ≠ "java/lang/invoke/VarHandle" ∧ (parseMethodDescriptor (yT mid).desc).map (fun d => d.parameters.length) = some k0) {ci : Nat} (hci : ci < 12) (hre : re = none) (hyn : (yT mid).name = "<init>") (hl0 : Cond.methodLink own index (yT mid) ∈ allW) (hi0 : Cond.instanceMethod (yT mid) ∈ allW) (hd : decode cc pc = .ok (.invokespecial index, 3)) : Snd yT wT mcT msT cc own nL ini ret pc (oCallV mid ci k0 (pc + 3)) := by
  intro p l e R s m args below meth c D cy base b aK aV aT qS X mc ms d Qm Y QV CP hF hR hE hB hX hY hQ hC L stk h hf H locs k n ls hr hl
  obtain ⟨hx, hb, hml, hown, hts, hin⟩ := hF
  have hf : Fst X mcT msT Y QV CP h (match pops k0 [] stk with | some (as, .ref b0 :: s2) => (match isO h b0 ci with | true => some (.inr (.inr (mid, .ref b0 :: as, (pc + 3, L, s2)))) | false => none) | _ => none) := hf
  generalize ep : pops k0 [] stk = q at hf
  rcases q with _ | ⟨as, rest0⟩
  · exact False.elim hf
  rcases rest0 with _ | ⟨v0, rest⟩
  · exact False.elim hf
  cases v0 with
  | ref b0 =>
    cases eo : isO h b0 ci with
    | false => exact absurd hf (by dsimp only; rw [eo]; exact fun z => z)
    | true =>
    have hf : Fst X mcT msT Y QV CP h (some (.inr (.inr (mid, .ref b0 :: as, (pc + 3, L, rest))))) := by have hf2 := hf; dsimp only at hf2; rw [eo] at hf2; exact hf2
    obtain ⟨ha, hsh⟩ := isO_spec eo
    have ead : adr base b aK aV aT qS b0 = base + b0 := adr_0 (Nat.lt_of_lt_of_le ha hr.2.2.2.1)
    have hw9 := wld_at (cy := cy) (base := base) (ad := (adr base b aK aV aT qS)) ha
    rw [cel_0 hsh] at hw9
    have hrec := va_recv hE.1 hr.1 (cl_at hci) hw9
    obtain ⟨f1, f2, f3, f4⟩ := hf
    have f2 : kN h + mcT mid (.ref b0 :: as) ≤ X.2.1 := f2
    have f3 : kS h + msT mid (.ref b0 :: as) ≤ X.2.2 := f3
    obtain ⟨p1, p2⟩ := pops_spec ep
    have p2 : as.length = k0 := by simpa using p2
    have p1 : stk = as.reverse ++ .ref b0 :: rest := by simpa using p1.symm
    have r3 := hr.2.2.1
    have r4 := hr.2.2.2.2.1
    have r5 := hr.2.2.2.2.2.1
    have r6 := hR.2.2.1
    have r7 := hR.2.2.2
    refine rl_sz hB hr fun hz => ?_
    have hM := hC mid (.ref b0 :: as) _ _ h f4
    have hpre : ∀ U : State, U.heap = H → s.WarmedH U.vm → PcT D cy base (adr base b aK aV aT qS) aK aV aT qS (.ref b0 :: as) h (Value.ref (base + b0) :: as.map (em (adr base b aK aV aT qS))).toArray U := fun U hU hW => ⟨by rw [List.map_cons]; show _ = (Value.ref (adr base b aK aV aT qS b0) :: _).toArray; rw [ead], by rw [hU]; exact hz, hr.2.2.2.1, by rw [hU]; exact hr.1, by rw [hU]; exact EvS.warm hW (fun q h1 h2 => hr.2.1.2.1 q h1 h2) hE⟩
    have hst : stk.map (em (adr base b aK aV aT qS)) = (as.map (em (adr base b aK aV aT qS))).reverse ++ .ref (base + b0) :: rest.map (em (adr base b aK aV aT qS)) := by
      rw [p1, List.map_append, List.map_reverse, List.map_cons]
      show _ ++ (Value.ref (adr base b aK aV aT qS b0) :: _) = _
      rw [ead]
    refine W.eq (g2 := F0 m pc ls (stk.map (em (adr base b aK aV aT qS)))) rfl ?_
    refine my_call (mc := mcT mid (.ref b0 :: as)) (ms := msT mid (.ref b0 :: as)) (rest := rest.map (em (adr base b aK aV aT qS))) (va_runI ⟨hx, hb, hml, hown, hts⟩ hM ⟨callB_of k0 hts (by rw [hw]; exact gCode hm) (by rw [hw, hre]) rfl rfl (hts _ hini) (hts _ hl0) hdy ⟨by show d + 1 ≤ R.frames; exact hR.1, by show 8 + (ml + 11) + 64 * d ≤ R.locals; have := hR.2.1; omega⟩, hyn, hts _ hi0⟩ ⟨PcT.blind, hpre⟩ rfl (by rw [List.length_map]; exact p2) (hl.1) hst (lv_room (by rw [em_sum]; exact f1)) hd ⟨by omega, by omega⟩) hr.2.1 (fun v h2 H1 locs1 hq hP1 hz1 hn1 hn2 hn3 hS1 => W.eq (g2 := F0 m (pc + 3) ls ((v.toList ++ rest).map (em (adr base b aK aV aT qS)))) (by cases v <;> rfl) (hY _ _ hq H1 locs1 _ _ ls ⟨hP1, hS1, by rw [hn1]; show s.heap.size + (k + mcT mid (.ref b0 :: as)) ≤ base + (kN h + mcT mid (.ref b0 :: as)); omega, hn3, by rw [hn1]; show k + mcT mid (.ref b0 :: as) + X.2.1 = mc + (kN h + mcT mid (.ref b0 :: as)); omega, by rw [hn2]; show n + msT mid (.ref b0 :: as) + X.2.2 = ms + (kS h + msT mid (.ref b0 :: as)); omega, by rw [hn1]; exact f2, by rw [hn2]; exact f3⟩ hl))
  | _ => exact False.elim hf

theorem snd_callIN {mid k0 index ml : Nat} {by0 : ByteArray} {re : Option FieldType} (hw : wT mid = Cond.code (yT mid) by0 ml re :: allW) (hm : Cond.code (yT mid) by0 ml re ∈ allW) (hml0 : ml ≤ 45) (hini : Cond.initialized (yT mid).cls ∈ allW) (hdy : (yT mid).cls ≠ "java/lang/invoke/MethodHandle" ∧ (yT mid).cls ≠ "java/lang/invoke/VarHandle" ∧ (parseMethodDescriptor (yT mid).desc).map (fun d => d.parameters.length) = some k0) {ci : Nat} (hci : ci < 12) (hre : re = none) (hyn : (yT mid).name = "<init>") {host : String} (hl0 : (own, index, yT mid, host) ∈ nestL) (hi0 : Cond.instanceMethod (yT mid) ∈ allW) (hd : decode cc pc = .ok (.invokespecial index, 3)) : Snd yT wT mcT msT cc own nL ini ret pc (oCallV mid ci k0 (pc + 3)) := by
  intro p l e R s m args below meth c D cy base b aK aV aT qS X mc ms d Qm Y QV CP hF hR hE hB hX hY hQ hC L stk h hf H locs k n ls hr hl
  obtain ⟨hx, hb, hml, hown, hts, hin⟩ := hF
  have hf : Fst X mcT msT Y QV CP h (match pops k0 [] stk with | some (as, .ref b0 :: s2) => (match isO h b0 ci with | true => some (.inr (.inr (mid, .ref b0 :: as, (pc + 3, L, s2)))) | false => none) | _ => none) := hf
  generalize ep : pops k0 [] stk = q at hf
  rcases q with _ | ⟨as, rest0⟩
  · exact False.elim hf
  rcases rest0 with _ | ⟨v0, rest⟩
  · exact False.elim hf
  cases v0 with
  | ref b0 =>
    cases eo : isO h b0 ci with
    | false => exact absurd hf (by dsimp only; rw [eo]; exact fun z => z)
    | true =>
    have hf : Fst X mcT msT Y QV CP h (some (.inr (.inr (mid, .ref b0 :: as, (pc + 3, L, rest))))) := by have hf2 := hf; dsimp only at hf2; rw [eo] at hf2; exact hf2
    obtain ⟨ha, hsh⟩ := isO_spec eo
    have ead : adr base b aK aV aT qS b0 = base + b0 := adr_0 (Nat.lt_of_lt_of_le ha hr.2.2.2.1)
    have hw9 := wld_at (cy := cy) (base := base) (ad := (adr base b aK aV aT qS)) ha
    rw [cel_0 hsh] at hw9
    have hrec := va_recv hE.1 hr.1 (cl_at hci) hw9
    obtain ⟨f1, f2, f3, f4⟩ := hf
    have f2 : kN h + mcT mid (.ref b0 :: as) ≤ X.2.1 := f2
    have f3 : kS h + msT mid (.ref b0 :: as) ≤ X.2.2 := f3
    obtain ⟨p1, p2⟩ := pops_spec ep
    have p2 : as.length = k0 := by simpa using p2
    have p1 : stk = as.reverse ++ .ref b0 :: rest := by simpa using p1.symm
    have r3 := hr.2.2.1
    have r4 := hr.2.2.2.2.1
    have r5 := hr.2.2.2.2.2.1
    have r6 := hR.2.2.1
    have r7 := hR.2.2.2
    refine rl_sz hB hr fun hz => ?_
    have hM := hC mid (.ref b0 :: as) _ _ h f4
    have hpre : ∀ U : State, U.heap = H → s.WarmedH U.vm → PcT D cy base (adr base b aK aV aT qS) aK aV aT qS (.ref b0 :: as) h (Value.ref (base + b0) :: as.map (em (adr base b aK aV aT qS))).toArray U := fun U hU hW => ⟨by rw [List.map_cons]; show _ = (Value.ref (adr base b aK aV aT qS b0) :: _).toArray; rw [ead], by rw [hU]; exact hz, hr.2.2.2.1, by rw [hU]; exact hr.1, by rw [hU]; exact EvS.warm hW (fun q h1 h2 => hr.2.1.2.1 q h1 h2) hE⟩
    have hst : stk.map (em (adr base b aK aV aT qS)) = (as.map (em (adr base b aK aV aT qS))).reverse ++ .ref (base + b0) :: rest.map (em (adr base b aK aV aT qS)) := by
      rw [p1, List.map_append, List.map_reverse, List.map_cons]
      show _ ++ (Value.ref (adr base b aK aV aT qS b0) :: _) = _
      rw [ead]
    refine W.eq (g2 := F0 m pc ls (stk.map (em (adr base b aK aV aT qS)))) rfl ?_
    refine my_call (mc := mcT mid (.ref b0 :: as)) (ms := msT mid (.ref b0 :: as)) (rest := rest.map (em (adr base b aK aV aT qS))) (va_runIN ⟨hx, hb, hml, hown, hts⟩ hM ⟨va_cnB k0 hts (by rw [hw]; exact gCode hm) (by rw [hw, hre]) rfl rfl (hE.2.2.2.2.2.1 _ hl0) (hts _ hini) hdy ⟨by show d + 1 ≤ R.frames; exact hR.1, by show 8 + (ml + 11) + 64 * d ≤ R.locals; have := hR.2.1; omega⟩, hyn, hts _ hi0⟩ ⟨PcT.blind, hpre⟩ rfl (by rw [List.length_map]; exact p2) (hl.1) hst (lv_room (by rw [em_sum]; exact f1)) hd ⟨by omega, by omega⟩) hr.2.1 (fun v h2 H1 locs1 hq hP1 hz1 hn1 hn2 hn3 hS1 => W.eq (g2 := F0 m (pc + 3) ls ((v.toList ++ rest).map (em (adr base b aK aV aT qS)))) (by cases v <;> rfl) (hY _ _ hq H1 locs1 _ _ ls ⟨hP1, hS1, by rw [hn1]; show s.heap.size + (k + mcT mid (.ref b0 :: as)) ≤ base + (kN h + mcT mid (.ref b0 :: as)); omega, hn3, by rw [hn1]; show k + mcT mid (.ref b0 :: as) + X.2.1 = mc + (kN h + mcT mid (.ref b0 :: as)); omega, by rw [hn2]; show n + msT mid (.ref b0 :: as) + X.2.2 = ms + (kS h + msT mid (.ref b0 :: as)); omega, by rw [hn1]; exact f2, by rw [hn2]; exact f3⟩ hl))
  | _ => exact False.elim hf

theorem snd_callS {mid k0 index ml : Nat} {by0 : ByteArray} {re : Option FieldType} (hw : wT mid = Cond.code (yT mid) by0 ml re :: allW) (hm : Cond.code (yT mid) by0 ml re ∈ allW) (hml0 : ml ≤ 45) (hini : Cond.initialized (yT mid).cls ∈ allW) (hdy : (yT mid).cls ≠ "java/lang/invoke/MethodHandle" ∧ (yT mid).cls ≠ "java/lang/invoke/VarHandle" ∧ (parseMethodDescriptor (yT mid).desc).map (fun d => d.parameters.length) = some k0) (hl0 : Cond.methodLink own index (yT mid) ∈ allW) (hi0 : Cond.static (yT mid) ∈ allW) (hd : decode cc pc = .ok (.invokestatic index, 3)) : Snd yT wT mcT msT cc own nL ini ret pc (oCallS mid k0 (pc + 3)) := by
  intro p l e R s m args below meth c D cy base b aK aV aT qS X mc ms d Qm Y QV CP hF hR hE hB hX hY hQ hC L stk h hf H locs k n ls hr hl
  obtain ⟨hx, hb, hml, hown, hts, hin⟩ := hF
  have hf : Fst X mcT msT Y QV CP h (match pops k0 [] stk with | some (as, s2) => some (.inr (.inr (mid, as, (pc + 3, L, s2)))) | none => none) := hf
  generalize ep : pops k0 [] stk = q at hf
  rcases q with _ | ⟨as, rest⟩
  · exact False.elim hf
  obtain ⟨f1, f2, f3, f4⟩ := hf
  have f2 : kN h + mcT mid as ≤ X.2.1 := f2
  have f3 : kS h + msT mid as ≤ X.2.2 := f3
  obtain ⟨p1, p2⟩ := pops_spec ep
  have p2 : as.length = k0 := by simpa using p2
  have p1 : stk = as.reverse ++ rest := by simpa using p1.symm
  have r3 := hr.2.2.1
  have r4 := hr.2.2.2.2.1
  have r5 := hr.2.2.2.2.2.1
  have r6 := hR.2.2.1
  have r7 := hR.2.2.2
  refine rl_sz hB hr fun hz => ?_
  have hM := hC mid as _ _ h f4
  have hpre : ∀ U : State, U.heap = H → s.WarmedH U.vm → PcT D cy base (adr base b aK aV aT qS) aK aV aT qS as h (as.map (em (adr base b aK aV aT qS))).toArray U := fun U hU hW => ⟨rfl, by rw [hU]; exact hz, hr.2.2.2.1, by rw [hU]; exact hr.1, by rw [hU]; exact EvS.warm hW (fun q h1 h2 => hr.2.1.2.1 q h1 h2) hE⟩
  have hst : stk.map (em (adr base b aK aV aT qS)) = (as.map (em (adr base b aK aV aT qS))).reverse ++ rest.map (em (adr base b aK aV aT qS)) := by rw [p1, List.map_append, List.map_reverse]
  refine W.eq (g2 := F0 m pc ls (stk.map (em (adr base b aK aV aT qS)))) rfl ?_
  exact my_call (mc := mcT mid as) (ms := msT mid as) (rest := rest.map (em (adr base b aK aV aT qS))) (va_runS ⟨hx, hb, hml, hown, hts⟩ hM ⟨callB_of k0 hts (by rw [hw]; exact gCode hm) hw rfl rfl (hts _ hini) (hts _ hl0) hdy ⟨by show d + 1 ≤ R.frames; exact hR.1, by show 8 + (ml + 11) + 64 * d ≤ R.locals; have := hR.2.1; omega⟩, hts _ hi0⟩ ⟨PcT.blind, hpre⟩ rfl (by rw [List.length_map]; exact p2) (hl.1) hst (lv_room (by rw [em_sum]; exact f1)) hd ⟨by omega, by omega⟩) hr.2.1 (fun v h2 H1 locs1 hq hP1 hz1 hn1 hn2 hn3 hS1 => W.eq (g2 := F0 m (pc + 3) ls ((v.toList ++ rest).map (em (adr base b aK aV aT qS)))) (by cases v <;> rfl) (hY _ _ hq H1 locs1 _ _ ls ⟨hP1, hS1, by rw [hn1]; show s.heap.size + (k + mcT mid as) ≤ base + (kN h + mcT mid as); omega, hn3, by rw [hn1]; show k + mcT mid as + X.2.1 = mc + (kN h + mcT mid as); omega, by rw [hn2]; show n + msT mid as + X.2.2 = ms + (kS h + msT mid as); omega, by rw [hn1]; exact f2, by rw [hn2]; exact f3⟩ hl))

theorem snd_callSN {mid k0 index ml : Nat} {by0 : ByteArray} {re : Option FieldType} (hw : wT mid = Cond.code (yT mid) by0 ml re :: allW) (hm : Cond.code (yT mid) by0 ml re ∈ allW) (hml0 : ml ≤ 45) (hini : Cond.initialized (yT mid).cls ∈ allW) (hdy : (yT mid).cls ≠ "java/lang/invoke/MethodHandle" ∧ (yT mid).cls ≠ "java/lang/invoke/VarHandle" ∧ (parseMethodDescriptor (yT mid).desc).map (fun d => d.parameters.length) = some k0) {host : String} (hl0 : (own, index, yT mid, host) ∈ nestL) (hi0 : Cond.static (yT mid) ∈ allW) (hd : decode cc pc = .ok (.invokestatic index, 3)) : Snd yT wT mcT msT cc own nL ini ret pc (oCallS mid k0 (pc + 3)) := by
  intro p l e R s m args below meth c D cy base b aK aV aT qS X mc ms d Qm Y QV CP hF hR hE hB hX hY hQ hC L stk h hf H locs k n ls hr hl
  obtain ⟨hx, hb, hml, hown, hts, hin⟩ := hF
  have hf : Fst X mcT msT Y QV CP h (match pops k0 [] stk with | some (as, s2) => some (.inr (.inr (mid, as, (pc + 3, L, s2)))) | none => none) := hf
  generalize ep : pops k0 [] stk = q at hf
  rcases q with _ | ⟨as, rest⟩
  · exact False.elim hf
  obtain ⟨f1, f2, f3, f4⟩ := hf
  have f2 : kN h + mcT mid as ≤ X.2.1 := f2
  have f3 : kS h + msT mid as ≤ X.2.2 := f3
  obtain ⟨p1, p2⟩ := pops_spec ep
  have p2 : as.length = k0 := by simpa using p2
  have p1 : stk = as.reverse ++ rest := by simpa using p1.symm
  have r3 := hr.2.2.1
  have r4 := hr.2.2.2.2.1
  have r5 := hr.2.2.2.2.2.1
  have r6 := hR.2.2.1
  have r7 := hR.2.2.2
  refine rl_sz hB hr fun hz => ?_
  have hM := hC mid as _ _ h f4
  have hpre : ∀ U : State, U.heap = H → s.WarmedH U.vm → PcT D cy base (adr base b aK aV aT qS) aK aV aT qS as h (as.map (em (adr base b aK aV aT qS))).toArray U := fun U hU hW => ⟨rfl, by rw [hU]; exact hz, hr.2.2.2.1, by rw [hU]; exact hr.1, by rw [hU]; exact EvS.warm hW (fun q h1 h2 => hr.2.1.2.1 q h1 h2) hE⟩
  have hst : stk.map (em (adr base b aK aV aT qS)) = (as.map (em (adr base b aK aV aT qS))).reverse ++ rest.map (em (adr base b aK aV aT qS)) := by rw [p1, List.map_append, List.map_reverse]
  refine W.eq (g2 := F0 m pc ls (stk.map (em (adr base b aK aV aT qS)))) rfl ?_
  exact my_call (mc := mcT mid as) (ms := msT mid as) (rest := rest.map (em (adr base b aK aV aT qS))) (va_runSN ⟨hx, hb, hml, hown, hts⟩ hM ⟨va_cnB k0 hts (by rw [hw]; exact gCode hm) hw rfl rfl (hE.2.2.2.2.2.1 _ hl0) (hts _ hini) hdy ⟨by show d + 1 ≤ R.frames; exact hR.1, by show 8 + (ml + 11) + 64 * d ≤ R.locals; have := hR.2.1; omega⟩, hts _ hi0, trivial⟩ ⟨PcT.blind, hpre⟩ rfl (by rw [List.length_map]; exact p2) (hl.1) hst (lv_room (by rw [em_sum]; exact f1)) hd ⟨by omega, by omega⟩) hr.2.1 (fun v h2 H1 locs1 hq hP1 hz1 hn1 hn2 hn3 hS1 => W.eq (g2 := F0 m (pc + 3) ls ((v.toList ++ rest).map (em (adr base b aK aV aT qS)))) (by cases v <;> rfl) (hY _ _ hq H1 locs1 _ _ ls ⟨hP1, hS1, by rw [hn1]; show s.heap.size + (k + mcT mid as) ≤ base + (kN h + mcT mid as); omega, hn3, by rw [hn1]; show k + mcT mid as + X.2.1 = mc + (kN h + mcT mid as); omega, by rw [hn2]; show n + msT mid as + X.2.2 = ms + (kS h + msT mid as); omega, by rw [hn1]; exact f2, by rw [hn2]; exact f3⟩ hl))

theorem snd_obj {index : Nat} (hd : decode cc pc = .ok (.invokespecial index, 3)) (h1 : Cond.methodLink own index Lib.objectInit ∈ allW) (h2 : Cond.instanceMethod Lib.objectInit ∈ allW) (h3 : Cond.code Lib.objectInit ⟨#[0xb1]⟩ 1 none ∈ allW) : Snd yT wT mcT msT cc own nL ini ret pc (oObj (pc + 3)) := by
  intro p l e R s m args below meth c D cy base b aK aV aT qS X mc ms d Qm Y QV CP hF hR hE hB hX hY hQ hC L stk h hf H locs k n ls hr hl
  obtain ⟨hx, hb, hml, hown, hts, hin⟩ := hF
  rcases stk with _ | ⟨v1, _ | ⟨v2, stk⟩⟩
  · exact False.elim hf
  · cases v1 <;> first | exact False.elim hf | exact W.objInit hx hb hown (hts _ h1) (hts _ h2) (hts _ h3) rfl (by rw [hml]; exact hl.1) rfl hd (by have := hR.1; omega) (by show 2 * 0 + 0 + 12 ≤ R.locals; have := hR.2.1; omega) (hY _ _ hf H locs k n ls hr hl)
  · cases v1 <;> exact False.elim hf

theorem snd_str {index k0 : Nat} {tx : String} (hk : k0 < 7) (hm : (own, index, tx, k0) ∈ strL) (hd : decode cc pc = .ok (.ldc index, 2)) : Snd yT wT mcT msT cc own nL ini ret pc (oStr k0 (pc + 2)) := by
  intro p l e R s m args below meth c D cy base b aK aV aT qS X mc ms d Qm Y QV CP hF hR hE hB hX hY hQ hC L stk h hf H locs k n ls hr hl
  obtain ⟨hx, hb, hml, hown, hts, hin⟩ := hF
  refine va_ldcS hx hb hown (hE.2.2.2.2.1 _ hm) hd ?_
  refine W.eq (g2 := F0 m (pc + 2) ls (.ref (adr base b aK aV aT qS (2000000 + k0)) :: stk.map (em (adr base b aK aV aT qS)))) ?_ (hY _ _ hf H locs k n ls hr hl)
  rw [adr_2 (by omega) (by omega), show 2000000 + k0 - 2000000 = k0 by omega]

theorem snd_strV {index : Nat} (hm : Cond.fieldLink own index "java/lang/String" "value" "[B" ∈ allW) (hd : decode cc pc = .ok (.getfield index, 3)) : Snd yT wT mcT msT cc own nL ini ret pc (oStrV (pc + 3)) := by
  intro p l e R s m args below meth c D cy base b aK aV aT qS X mc ms d Qm Y QV CP hF hR hE hB hX hY hQ hC L stk h hf H locs k n ls hr hl
  obtain ⟨hx, hb, hml, hown, hts, hin⟩ := hF
  rcases stk with _ | ⟨v1, stk⟩
  · exact False.elim hf
  cases v1 with
  | ref a =>
    have hf : Fst X mcT msT Y QV CP h (if 2000000 ≤ a ∧ a < 2000007 then nxt (pc + 3, L, .ref (a + 1000000) :: stk) h else none) := hf
    by_cases hc : 2000000 ≤ a ∧ a < 2000007
    · rw [if_pos hc] at hf
      refine W.eq (g2 := F0 m pc ls (.ref (aK (a - 2000000)) :: stk.map (em (adr base b aK aV aT qS)))) (by show F0 m pc ls (.ref (adr base b aK aV aT qS a) :: stk.map (em (adr base b aK aV aT qS))) = _; rw [adr_2 hc.1 (rgK hc).1]) ?_
      refine vk_getf hx hb (hE.2.1.1 (a - 2000000) (rgK hc).2.1).2.2.1 hr.2.1 hown (hts _ hm) (fun _ h9 => h9) hd ?_
      refine W.eq (g2 := F0 m (pc + 3) ls (.ref (adr base b aK aV aT qS (a + 1000000)) :: stk.map (em (adr base b aK aV aT qS)))) ?_ (hY _ _ hf H locs k n ls hr hl)
      rw [adr_3 (rgK hc).2.2.1 (rgK hc).2.2.2.1, (rgK hc).2.2.2.2]
    · rw [if_neg hc] at hf; exact False.elim hf
  | _ => exact False.elim hf

theorem snd_strC {index : Nat} (hm : Cond.fieldLink own index "java/lang/String" "coder" "B" ∈ allW) (hd : decode cc pc = .ok (.getfield index, 3)) : Snd yT wT mcT msT cc own nL ini ret pc (oStrC (pc + 3)) := by
  intro p l e R s m args below meth c D cy base b aK aV aT qS X mc ms d Qm Y QV CP hF hR hE hB hX hY hQ hC L stk h hf H locs k n ls hr hl
  obtain ⟨hx, hb, hml, hown, hts, hin⟩ := hF
  rcases stk with _ | ⟨v1, stk⟩
  · exact False.elim hf
  cases v1 with
  | ref a =>
    have hf : Fst X mcT msT Y QV CP h (if 2000000 ≤ a ∧ a < 2000007 then nxt (pc + 3, L, .int 0 :: stk) h else none) := hf
    by_cases hc : 2000000 ≤ a ∧ a < 2000007
    · rw [if_pos hc] at hf
      refine W.eq (g2 := F0 m pc ls (.ref (aK (a - 2000000)) :: stk.map (em (adr base b aK aV aT qS)))) (by show F0 m pc ls (.ref (adr base b aK aV aT qS a) :: stk.map (em (adr base b aK aV aT qS))) = _; rw [adr_2 hc.1 (rgK hc).1]) ?_
      refine vk_getf hx hb (hE.2.1.1 (a - 2000000) (rgK hc).2.1).2.1 hr.2.1 hown (hts _ hm) (fun _ h9 => h9) hd ?_
      exact (hY _ _ hf H locs k n ls hr hl)
    · rw [if_neg hc] at hf; exact False.elim hf
  | _ => exact False.elim hf

theorem snd_strL (hd : decode cc pc = .ok (.arraylength, 1)) : Snd yT wT mcT msT cc own nL ini ret pc (oStrL (pc + 1)) := by
  intro p l e R s m args below meth c D cy base b aK aV aT qS X mc ms d Qm Y QV CP hF hR hE hB hX hY hQ hC L stk h hf H locs k n ls hr hl
  obtain ⟨hx, hb, hml, hown, hts, hin⟩ := hF
  rcases stk with _ | ⟨v1, stk⟩
  · exact False.elim hf
  cases v1 with
  | ref a =>
    have hf : Fst X mcT msT Y QV CP h (if 3000000 ≤ a ∧ a < 3000007 then nxt (pc + 1, L, .int (nI (strN.getD (a - 3000000) 0)) :: stk) h else none) := hf
    by_cases hc : 3000000 ≤ a ∧ a < 3000007
    · rw [if_pos hc] at hf
      refine W.eq (g2 := F0 m pc ls (.ref (aV (a - 3000000)) :: stk.map (em (adr base b aK aV aT qS)))) (by show F0 m pc ls (.ref (adr base b aK aV aT qS a) :: stk.map (em (adr base b aK aV aT qS))) = _; rw [adr_3 hc.1 (rgV hc).1]) ?_
      exact va_tlen hx hb (hE.2.1.1 (a - 3000000) (rgV hc).2).2.2.2 hr.2.1 rfl hd (hY _ _ hf H locs k n ls hr hl)
    · rw [if_neg hc] at hf; exact False.elim hf
  | _ => exact False.elim hf

theorem snd_strB (hd : decode cc pc = .ok (.baload, 1)) : Snd yT wT mcT msT cc own nL ini ret pc (oStrB (pc + 1)) := by
  intro p l e R s m args below meth c D cy base b aK aV aT qS X mc ms d Qm Y QV CP hF hR hE hB hX hY hQ hC L stk h hf H locs k n ls hr hl
  obtain ⟨hx, hb, hml, hown, hts, hin⟩ := hF
  rcases stk with _ | ⟨v1, _ | ⟨v2, stk⟩⟩
  · exact False.elim hf
  · cases v1 <;> exact False.elim hf
  cases v1 with
  | int i =>
    cases v2 with
    | ref a =>
      have hf : Fst X mcT msT Y QV CP h (if 3000000 ≤ a ∧ a < 3000007 then (if i < 0 ∨ strN.getD (a - 3000000) 0 ≤ i.toNatClampNeg then none else nxt (pc + 1, L, .int ((strB.getD (a - 3000000) []).getD i.toNatClampNeg 0) :: stk) h) else none) := hf
      by_cases hc : 3000000 ≤ a ∧ a < 3000007
      · rw [if_pos hc] at hf
        by_cases hi : i < 0 ∨ strN.getD (a - 3000000) 0 ≤ i.toNatClampNeg
        · rw [if_pos hi] at hf; exact False.elim hf
        · rw [if_neg hi] at hf
          refine W.eq (g2 := F0 m pc ls (.int i :: .ref (aV (a - 3000000)) :: stk.map (em (adr base b aK aV aT qS)))) (by show F0 m pc ls (.int i :: .ref (adr base b aK aV aT qS a) :: stk.map (em (adr base b aK aV aT qS))) = _; rw [adr_3 hc.1 (rgV hc).1]) ?_
          exact va_tb hx hb (hE.2.1.1 (a - 3000000) (rgV hc).2).2.2.2 hr.2.1 hi rfl hd (hY _ _ hf H locs k n ls hr hl)
      · rw [if_neg hc] at hf; exact False.elim hf
    | _ => exact False.elim hf
  | _ => cases v2 <;> exact False.elim hf

theorem snd_tabR {index k0 : Nat} {x : String × String} (hk : k0 < 4) (hx9 : tabL[k0]? = some x) (hm : Cond.fieldLink own index x.1 x.2 "[I" ∈ allW) (hd : decode cc pc = .ok (.getstatic index, 3)) : Snd yT wT mcT msT cc own nL ini ret pc (oTabR k0 (pc + 3)) := by
  intro p l e R s m args below meth c D cy base b aK aV aT qS X mc ms d Qm Y QV CP hF hR hE hB hX hY hQ hC L stk h hf H locs k n ls hr hl
  obtain ⟨hx, hb, hml, hown, hts, hin⟩ := hF
  refine va_gets hx hb (hE.2.2.2.2.2.2.2.2 k0 x hx9).1 hr.2.1 hown (hts _ hm) (fun _ h9 => h9) hd ?_
  refine W.eq (g2 := F0 m (pc + 3) ls (.ref (adr base b aK aV aT qS (4000000 + k0)) :: stk.map (em (adr base b aK aV aT qS)))) ?_ (hY _ _ hf H locs k n ls hr hl)
  rw [adr_4 (by omega) (by omega), show 4000000 + k0 - 4000000 = k0 by omega]

theorem snd_tabL {k0 : Nat} {x : String × String} (hk : k0 < 4) (hx9 : tabL[k0]? = some x) (hd : decode cc pc = .ok (.iaload, 1)) : Snd yT wT mcT msT cc own nL ini ret pc (oTabL k0 (pc + 1)) := by
  intro p l e R s m args below meth c D cy base b aK aV aT qS X mc ms d Qm Y QV CP hF hR hE hB hX hY hQ hC L stk h hf H locs k n ls hr hl
  obtain ⟨hx, hb, hml, hown, hts, hin⟩ := hF
  rcases stk with _ | ⟨v1, _ | ⟨v2, stk⟩⟩
  · exact False.elim hf
  · cases v1 <;> exact False.elim hf
  cases v1 with
  | int i =>
    cases v2 with
    | ref a =>
      have hf : Fst X mcT msT Y QV CP h (if a = 4000000 + k0 then (if i < 0 ∨ tabN.getD k0 0 ≤ i.toNatClampNeg then none else nxt (pc + 1, L, .int ((tabB.getD k0 []).getD i.toNatClampNeg 0) :: stk) h) else none) := hf
      by_cases hc : a = 4000000 + k0
      · rw [if_pos hc] at hf
        by_cases hi : i < 0 ∨ tabN.getD k0 0 ≤ i.toNatClampNeg
        · rw [if_pos hi] at hf; exact False.elim hf
        · rw [if_neg hi] at hf
          refine W.eq (g2 := F0 m pc ls (.int i :: .ref (aT k0) :: stk.map (em (adr base b aK aV aT qS)))) (by show F0 m pc ls (.int i :: .ref (adr base b aK aV aT qS a) :: stk.map (em (adr base b aK aV aT qS))) = _; rw [hc, adr_4 (by omega) (by omega), show 4000000 + k0 - 4000000 = k0 by omega]) ?_
          exact va_ti hx hb (hE.2.2.2.2.2.2.2.2 k0 x hx9).2 hr.2.1 hi rfl hd (hY _ _ hf H locs k n ls hr hl)
      · rw [if_neg hc] at hf; exact False.elim hf
    | _ => exact False.elim hf
  | _ => cases v2 <;> exact False.elim hf

theorem snd_one {index : Nat} (hm : Cond.fieldLink own index "java/lang/String" "COMPACT_STRINGS" "Z" ∈ allW) (hd : decode cc pc = .ok (.getstatic index, 3)) : Snd yT wT mcT msT cc own nL ini ret pc (oOne (pc + 3)) := by
  intro p l e R s m args below meth c D cy base b aK aV aT qS X mc ms d Qm Y QV CP hF hR hE hB hX hY hQ hC L stk h hf H locs k n ls hr hl
  obtain ⟨hx, hb, hml, hown, hts, hin⟩ := hF
  exact va_gets hx hb hE.2.2.1 hr.2.1 hown (hts _ hm) (fun _ h9 => h9) hd (hY _ _ hf H locs k n ls hr hl)

theorem snd_fmt {index : Nat} (hm : Cond.fieldLink own index "jdk/internal/util/Preconditions" "SIOOBE_FORMATTER" "Ljava/util/function/BiFunction;" ∈ allW) (hd : decode cc pc = .ok (.getstatic index, 3)) : Snd yT wT mcT msT cc own nL ini ret pc (oFmt (pc + 3)) := by
  intro p l e R s m args below meth c D cy base b aK aV aT qS X mc ms d Qm Y QV CP hF hR hE hB hX hY hQ hC L stk h hf H locs k n ls hr hl
  obtain ⟨hx, hb, hml, hown, hts, hin⟩ := hF
  exact va_gets hx hb hE.2.2.2.1 hr.2.1 hown (hts _ hm) (fun _ h9 => h9) hd (hY _ _ hf H locs k n ls hr hl)

theorem snd_slen (hd : decode cc pc = .ok (.arraylength, 1)) : Snd yT wT mcT msT cc own nL ini ret pc (oSLen (pc + 1)) := by
  intro p l e R s m args below meth c D cy base b aK aV aT qS X mc ms d Qm Y QV CP hF hR hE hB hX hY hQ hC L stk h hf H locs k n ls hr hl
  obtain ⟨hx, hb, hml, hown, hts, hin⟩ := hF
  obtain ⟨X1, X2⟩ := X
  rcases stk with _ | ⟨v1, stk⟩
  · exact False.elim hf
  cases v1 with
  | ref a =>
    rcases X1 with _ | x
    · exact False.elim hf
    have hf : Fst (some x, X2) mcT msT Y QV CP h (if a = 1000000 then nxt (pc + 1, L, .int (nI x.1) :: stk) h else none) := hf
    by_cases hc : a = 1000000
    · rw [if_pos hc] at hf
      obtain ⟨hX1, hX2⟩ := hX x rfl
      refine W.eq (g2 := F0 m pc ls (.ref b :: stk.map (em (adr base b aK aV aT qS)))) (by show F0 m pc ls (.ref (adr base b aK aV aT qS a) :: stk.map (em (adr base b aK aV aT qS))) = _; rw [hc]; rfl) ?_
      exact va_slen hx hb hX1 (Nat.lt_of_lt_of_le hX2 hB) (Nat.not_le.mpr hX2) hr.2.1 hd (hY _ _ hf H locs k n ls hr hl)
    · rw [if_neg hc] at hf; exact False.elim hf
  | _ => rcases X1 with _ | x <;> exact False.elim hf

theorem snd_sld (hd : decode cc pc = .ok (.iaload, 1)) : Snd yT wT mcT msT cc own nL ini ret pc (oSLd (pc + 1)) := by
  intro p l e R s m args below meth c D cy base b aK aV aT qS X mc ms d Qm Y QV CP hF hR hE hB hX hY hQ hC L stk h hf H locs k n ls hr hl
  obtain ⟨hx, hb, hml, hown, hts, hin⟩ := hF
  obtain ⟨X1, X2⟩ := X
  rcases stk with _ | ⟨v1, _ | ⟨v2, stk⟩⟩
  · exact False.elim hf
  · cases v1 <;> exact False.elim hf
  cases v1 with
  | int i =>
    cases v2 with
    | ref a =>
      rcases X1 with _ | x
      · exact False.elim hf
      have hf : Fst (some x, X2) mcT msT Y QV CP h (if a = 1000000 then (if i < 0 ∨ x.1 ≤ i.toNatClampNeg then none else nxt (pc + 1, L, .int (x.2 i.toNatClampNeg) :: stk) h) else none) := hf
      by_cases hc : a = 1000000
      · rw [if_pos hc] at hf
        by_cases hi : i < 0 ∨ x.1 ≤ i.toNatClampNeg
        · rw [if_pos hi] at hf; exact False.elim hf
        · rw [if_neg hi] at hf
          obtain ⟨hX1, hX2⟩ := hX x rfl
          refine W.eq (g2 := F0 m pc ls (.int i :: .ref b :: stk.map (em (adr base b aK aV aT qS)))) (by show F0 m pc ls (.int i :: .ref (adr base b aK aV aT qS a) :: stk.map (em (adr base b aK aV aT qS))) = _; rw [hc]; rfl) ?_
          exact va_sld hx hb hX1 (Nat.lt_of_lt_of_le hX2 hB) (Nat.not_le.mpr hX2) hr.2.1 hi hd (hY _ _ hf H locs k n ls hr hl)
      · rw [if_neg hc] at hf; exact False.elim hf
    | _ => rcases X1 with _ | x <;> exact False.elim hf
  | _ => cases v2 <;> rcases X1 with _ | x <;> exact False.elim hf

theorem snd_sel {dflt o1 o2 a1 a2 : Int} {len t1 t2 t : Nat} (hd : decode cc pc = .ok (.lookupswitch dflt #[(a1, o1), (a2, o2)], len)) (h12 : a1 < a2) (ht : (pc : Int) + dflt = (t : Int)) (ht1 : (pc : Int) + o1 = (t1 : Int)) (ht2 : (pc : Int) + o2 = (t2 : Int)) : Snd yT wT mcT msT cc own nL ini ret pc (oSel a1 t1 a2 t2 t) := by
  intro p l e R s m args below meth c D cy base b aK aV aT qS X mc ms d Qm Y QV CP hF hR hE hB hX hY hQ hC L stk h hf H locs k n ls hr hl
  obtain ⟨hx, hb, hml, hown, hts, hin⟩ := hF
  rcases stk with _ | ⟨v1, stk⟩
  · exact False.elim hf
  cases v1 with
  | int x =>
    have hf : Fst X mcT msT Y QV CP h (if x.toInt = a1 then nxt (t1, L, stk) h else if x.toInt = a2 then nxt (t2, L, stk) h else nxt (t, L, stk) h) := hf
    have hso : ((#[(a1, o1), (a2, o2)] : Array (Int × Int)).toList.zip ((#[(a1, o1), (a2, o2)] : Array (Int × Int)).toList.drop 1)).all (fun (a, next) => a.1 < next.1) = true := by simp [h12]
    by_cases c1 : x.toInt = a1
    · rw [if_pos c1] at hf
      exact lv_lookup hx hb hd hso (by simp [Op.lookupswitch.offset_cons, c1]) ht1 (hY _ _ hf H locs k n ls hr hl)
    · rw [if_neg c1] at hf
      by_cases c2 : x.toInt = a2
      · rw [if_pos c2] at hf
        exact lv_lookup hx hb hd hso (off := o2) (by have c4 : ¬ a1 = a2 := (fun q => absurd h12 (by omega)); simp [Op.lookupswitch.offset_cons, c2, c4]) ht2 (hY _ _ hf H locs k n ls hr hl)
      · rw [if_neg c2] at hf
        exact lv_lookup hx hb hd hso (off := dflt) (by have d1 : ¬ a1 = x.toInt := (fun q => c1 q.symm); have d2 : ¬ a2 = x.toInt := (fun q => c2 q.symm); simp [Op.lookupswitch.offset_cons, Op.lookupswitch.offset, d1, d2]) ht (hY _ _ hf H locs k n ls hr hl)
  | _ => exact False.elim hf

theorem snd_alen (hd : decode cc pc = .ok (.arraylength, 1)) : Snd yT wT mcT msT cc own nL ini ret pc (oALen (pc + 1)) := by
  intro p l e R s m args below meth c D cy base b aK aV aT qS X mc ms d Qm Y QV CP hF hR hE hB hX hY hQ hC L stk h hf H locs k n ls hr hl
  obtain ⟨hx, hb, hml, hown, hts, hin⟩ := hF
  rcases stk with _ | ⟨v1, stk⟩
  · exact False.elim hf
  cases v1 with
  | ref a =>
    have hf : Fst X mcT msT Y QV CP h (match isA h a 1 with | true => nxt (pc + 1, L, .int (nI (kH h a).2) :: stk) h | false => none) := hf
    cases eo : isA h a 1 with
    | false => rw [eo] at hf; exact False.elim hf
    | true =>
      rw [eo] at hf
      obtain ⟨ha, hsh⟩ := isA_spec eo
      have hw := wld_at (cy := cy) (base := base) (ad := (adr base b aK aV aT qS)) ha
      rw [cel_1 hsh] at hw
      refine W.eq (g2 := F0 m pc ls (.ref (base + a) :: stk.map (em (adr base b aK aV aT qS)))) (by show F0 m pc ls (.ref (adr base b aK aV aT qS a) :: stk.map (em (adr base b aK aV aT qS))) = _; rw [adr_0 (Nat.lt_of_lt_of_le ha hr.2.2.2.1)]) ?_
      exact va_alen hx hb hE.1 hr.1 a 0 hw (ty := .int) rfl rfl hd (hY _ _ hf H locs k n ls hr hl)
  | _ => exact False.elim hf

theorem snd_qld3 (hd : decode cc pc = .ok (.aaload, 1)) : Snd yT wT mcT msT cc own nL ini ret pc (oQLd 3 (pc + 1)) := by
  intro p l e R s m args below meth c D cy base b aK aV aT qS X mc ms d Qm Y QV CP hF hR hE hB hX hY hQ hC L stk h hf H locs k n ls hr hl
  obtain ⟨hx, hb, hml, hown, hts, hin⟩ := hF
  rcases stk with _ | ⟨v1, _ | ⟨v2, stk⟩⟩
  · exact False.elim hf
  · cases v1 <;> exact False.elim hf
  cases v1 with
  | int i =>
    cases v2 with
    | ref a =>
      have hf : Fst X mcT msT Y QV CP h (match isA h a 3 with | true => (if i < 0 ∨ (kH h a).2 ≤ i.toNatClampNeg then none else (match kR h a i.toNatClampNeg with | some b => nxt (pc + 1, L, .ref b :: stk) h | none => none)) | false => none) := hf
      cases eo : isA h a 3 with
      | false => rw [eo] at hf; exact False.elim hf
      | true =>
        rw [eo] at hf
        obtain ⟨ha, hsh⟩ := isA_spec eo
        by_cases hi : i < 0 ∨ (kH h a).2 ≤ i.toNatClampNeg
        · exact absurd hf (by dsimp only; rw [if_pos hi]; exact fun z => z)
        · cases er : kR h a i.toNatClampNeg with
          | none => exact absurd hf (by dsimp only; rw [if_neg hi, er]; exact fun z => z)
          | some r =>
            have hf : Y (pc + 1, L, .ref r :: stk) h := by have hf2 := hf; dsimp only at hf2; rw [if_neg hi, er] at hf2; exact hf2
            have hw := wld_at (cy := cy) (base := base) (ad := (adr base b aK aV aT qS)) ha
            rw [cel_3 hsh] at hw
            refine W.eq (g2 := F0 m pc ls (.int i :: .ref (base + a) :: stk.map (em (adr base b aK aV aT qS)))) (by show F0 m pc ls (.int i :: .ref (adr base b aK aV aT qS a) :: stk.map (em (adr base b aK aV aT qS))) = _; rw [adr_0 (Nat.lt_of_lt_of_le ha hr.2.2.2.1)]) ?_
            refine va_aldq hx hb hE.1 hr.1 a 2 hw rfl hi hd ?_
            refine W.eq (g2 := F0 m (pc + 1) ls (.ref (adr base b aK aV aT qS r) :: stk.map (em (adr base b aK aV aT qS)))) ?_ (hY _ _ hf H locs k n ls hr hl)
            rw [er]; rfl
    | _ => exact False.elim hf
  | _ => cases v2 <;> exact False.elim hf

theorem snd_qst3 (hd : decode cc pc = .ok (.aastore, 1)) : Snd yT wT mcT msT cc own nL ini ret pc (oQSt 3 0 (pc + 1)) := by
  intro p l e R s m args below meth c D cy base b aK aV aT qS X mc ms d Qm Y QV CP hF hR hE hB hX hY hQ hC L stk h hf H locs k n ls hr hl
  obtain ⟨hx, hb, hml, hown, hts, hin⟩ := hF
  rcases stk with _ | ⟨v1, _ | ⟨v2, _ | ⟨v3, stk⟩⟩⟩
  · exact False.elim hf
  · cases v1 <;> exact False.elim hf
  · cases v1 <;> cases v2 <;> exact False.elim hf
  cases v1 with
  | ref v =>
    cases v2 with
    | int i =>
      cases v3 with
      | ref a =>
        have hf : Fst X mcT msT Y QV CP h (match isA h a 3 && isO h v 0 with | true => (if i < 0 ∨ (kH h a).2 ≤ i.toNatClampNeg then none else nxt (pc + 1, L, stk) ((kN h, kS h, kH h, upr (kR h) a i.toNatClampNeg (some v)), h.2)) | false => none) := hf
        cases eo : isA h a 3 && isO h v 0 with
        | false => rw [eo] at hf; exact False.elim hf
        | true =>
          rw [eo] at hf
          rw [Bool.and_eq_true] at eo
          obtain ⟨ha, hsh⟩ := isA_spec eo.1
          obtain ⟨hv, hshv⟩ := isO_spec eo.2
          by_cases hi : i < 0 ∨ (kH h a).2 ≤ i.toNatClampNeg
          · exact absurd hf (by dsimp only; rw [if_pos hi]; exact fun z => z)
          · have hf : Fst X mcT msT Y QV CP h (nxt (pc + 1, L, stk) ((kN h, kS h, kH h, upr (kR h) a i.toNatClampNeg (some v)), h.2)) := by have hf2 := hf; dsimp only at hf2; rw [if_neg hi] at hf2; exact hf2
            have hw := wld_at (cy := cy) (base := base) (ad := (adr base b aK aV aT qS)) ha
            rw [cel_3 hsh] at hw
            have hwv := wld_at (cy := cy) (base := base) (ad := (adr base b aK aV aT qS)) hv
            rw [cel_0 hshv] at hwv
            have e1 : (wld cy base (adr base b aK aV aT qS) h).set a (base + a, .inl (cy 2, (kH h a).2, .inr (.inr (.inr (.inr (va_up (fun j => (kR h a j).map (adr base b aK aV aT qS)) i.toNatClampNeg (some (base + v)))))))) = wld cy base (adr base b aK aV aT qS) ((kN h, kS h, kH h, upr (kR h) a i.toNatClampNeg (some v)), h.2) := by
              have e2 : va_up (fun j => (kR h a j).map (adr base b aK aV aT qS)) i.toNatClampNeg (some (base + v)) = fun j => (upr (kR h) a i.toNatClampNeg (some v) a j).map (adr base b aK aV aT qS) := by
                funext j
                unfold va_up
                by_cases hj : j = i.toNatClampNeg
                · subst hj; rw [if_pos rfl, upr_s]; show _ = some (adr base b aK aV aT qS v); rw [adr_0 (Nat.lt_of_lt_of_le hv hr.2.2.2.1)]
                · rw [if_neg hj, upr_n (fun q => hj q.2)]
              rw [e2, ← cel_3 (h := ((kN h, kS h, kH h, upr (kR h) a i.toNatClampNeg (some v)), h.2)) (cy := cy) (ad := (adr base b aK aV aT qS)) hsh]
              exact wld_set ha rfl (fun q hq => cel_eq rfl (upr_f hq) rfl)
            refine W.eq (g2 := F0 m pc ls (.ref (base + v) :: .int i :: .ref (base + a) :: stk.map (em (adr base b aK aV aT qS)))) (by show F0 m pc ls (.ref (adr base b aK aV aT qS v) :: .int i :: .ref (adr base b aK aV aT qS a) :: stk.map (em (adr base b aK aV aT qS))) = _; rw [adr_0 (Nat.lt_of_lt_of_le ha hr.2.2.2.1), adr_0 (Nat.lt_of_lt_of_le hv hr.2.2.2.1)]) ?_
            exact va_astq hx hb hE.1 hr.1 wld_D hr.2.1 a 2 v 0 hw rfl hwv (cl_at (by omega)) hi hd (fun H1 locs1 h1 _ h3 => hY _ _ hf H1 locs1 k n ls ⟨by rw [← e1]; exact h1, h3, hr.2.2⟩ hl)
      | _ => exact False.elim hf
    | _ => cases v3 <;> exact False.elim hf
  | _ => cases v2 <;> cases v3 <;> exact False.elim hf

theorem snd_qld4 (hd : decode cc pc = .ok (.aaload, 1)) : Snd yT wT mcT msT cc own nL ini ret pc (oQLd 4 (pc + 1)) := by
  intro p l e R s m args below meth c D cy base b aK aV aT qS X mc ms d Qm Y QV CP hF hR hE hB hX hY hQ hC L stk h hf H locs k n ls hr hl
  obtain ⟨hx, hb, hml, hown, hts, hin⟩ := hF
  rcases stk with _ | ⟨v1, _ | ⟨v2, stk⟩⟩
  · exact False.elim hf
  · cases v1 <;> exact False.elim hf
  cases v1 with
  | int i =>
    cases v2 with
    | ref a =>
      have hf : Fst X mcT msT Y QV CP h (match isA h a 4 with | true => (if i < 0 ∨ (kH h a).2 ≤ i.toNatClampNeg then none else (match kR h a i.toNatClampNeg with | some b => nxt (pc + 1, L, .ref b :: stk) h | none => none)) | false => none) := hf
      cases eo : isA h a 4 with
      | false => rw [eo] at hf; exact False.elim hf
      | true =>
        rw [eo] at hf
        obtain ⟨ha, hsh⟩ := isA_spec eo
        by_cases hi : i < 0 ∨ (kH h a).2 ≤ i.toNatClampNeg
        · exact absurd hf (by dsimp only; rw [if_pos hi]; exact fun z => z)
        · cases er : kR h a i.toNatClampNeg with
          | none => exact absurd hf (by dsimp only; rw [if_neg hi, er]; exact fun z => z)
          | some r =>
            have hf : Y (pc + 1, L, .ref r :: stk) h := by have hf2 := hf; dsimp only at hf2; rw [if_neg hi, er] at hf2; exact hf2
            have hw := wld_at (cy := cy) (base := base) (ad := (adr base b aK aV aT qS)) ha
            rw [cel_4 hsh] at hw
            refine W.eq (g2 := F0 m pc ls (.int i :: .ref (base + a) :: stk.map (em (adr base b aK aV aT qS)))) (by show F0 m pc ls (.int i :: .ref (adr base b aK aV aT qS a) :: stk.map (em (adr base b aK aV aT qS))) = _; rw [adr_0 (Nat.lt_of_lt_of_le ha hr.2.2.2.1)]) ?_
            refine va_aldq hx hb hE.1 hr.1 a 3 hw rfl hi hd ?_
            refine W.eq (g2 := F0 m (pc + 1) ls (.ref (adr base b aK aV aT qS r) :: stk.map (em (adr base b aK aV aT qS)))) ?_ (hY _ _ hf H locs k n ls hr hl)
            rw [er]; rfl
    | _ => exact False.elim hf
  | _ => cases v2 <;> exact False.elim hf

theorem snd_qst4 (hd : decode cc pc = .ok (.aastore, 1)) : Snd yT wT mcT msT cc own nL ini ret pc (oQSt 4 3 (pc + 1)) := by
  intro p l e R s m args below meth c D cy base b aK aV aT qS X mc ms d Qm Y QV CP hF hR hE hB hX hY hQ hC L stk h hf H locs k n ls hr hl
  obtain ⟨hx, hb, hml, hown, hts, hin⟩ := hF
  rcases stk with _ | ⟨v1, _ | ⟨v2, _ | ⟨v3, stk⟩⟩⟩
  · exact False.elim hf
  · cases v1 <;> exact False.elim hf
  · cases v1 <;> cases v2 <;> exact False.elim hf
  cases v1 with
  | ref v =>
    cases v2 with
    | int i =>
      cases v3 with
      | ref a =>
        have hf : Fst X mcT msT Y QV CP h (match isA h a 4 && isO h v 3 with | true => (if i < 0 ∨ (kH h a).2 ≤ i.toNatClampNeg then none else nxt (pc + 1, L, stk) ((kN h, kS h, kH h, upr (kR h) a i.toNatClampNeg (some v)), h.2)) | false => none) := hf
        cases eo : isA h a 4 && isO h v 3 with
        | false => rw [eo] at hf; exact False.elim hf
        | true =>
          rw [eo] at hf
          rw [Bool.and_eq_true] at eo
          obtain ⟨ha, hsh⟩ := isA_spec eo.1
          obtain ⟨hv, hshv⟩ := isO_spec eo.2
          by_cases hi : i < 0 ∨ (kH h a).2 ≤ i.toNatClampNeg
          · exact absurd hf (by dsimp only; rw [if_pos hi]; exact fun z => z)
          · have hf : Fst X mcT msT Y QV CP h (nxt (pc + 1, L, stk) ((kN h, kS h, kH h, upr (kR h) a i.toNatClampNeg (some v)), h.2)) := by have hf2 := hf; dsimp only at hf2; rw [if_neg hi] at hf2; exact hf2
            have hw := wld_at (cy := cy) (base := base) (ad := (adr base b aK aV aT qS)) ha
            rw [cel_4 hsh] at hw
            have hwv := wld_at (cy := cy) (base := base) (ad := (adr base b aK aV aT qS)) hv
            rw [cel_0 hshv] at hwv
            have e1 : (wld cy base (adr base b aK aV aT qS) h).set a (base + a, .inl (cy 3, (kH h a).2, .inr (.inr (.inr (.inr (va_up (fun j => (kR h a j).map (adr base b aK aV aT qS)) i.toNatClampNeg (some (base + v)))))))) = wld cy base (adr base b aK aV aT qS) ((kN h, kS h, kH h, upr (kR h) a i.toNatClampNeg (some v)), h.2) := by
              have e2 : va_up (fun j => (kR h a j).map (adr base b aK aV aT qS)) i.toNatClampNeg (some (base + v)) = fun j => (upr (kR h) a i.toNatClampNeg (some v) a j).map (adr base b aK aV aT qS) := by
                funext j
                unfold va_up
                by_cases hj : j = i.toNatClampNeg
                · subst hj; rw [if_pos rfl, upr_s]; show _ = some (adr base b aK aV aT qS v); rw [adr_0 (Nat.lt_of_lt_of_le hv hr.2.2.2.1)]
                · rw [if_neg hj, upr_n (fun q => hj q.2)]
              rw [e2, ← cel_4 (h := ((kN h, kS h, kH h, upr (kR h) a i.toNatClampNeg (some v)), h.2)) (cy := cy) (ad := (adr base b aK aV aT qS)) hsh]
              exact wld_set ha rfl (fun q hq => cel_eq rfl (upr_f hq) rfl)
            refine W.eq (g2 := F0 m pc ls (.ref (base + v) :: .int i :: .ref (base + a) :: stk.map (em (adr base b aK aV aT qS)))) (by show F0 m pc ls (.ref (adr base b aK aV aT qS v) :: .int i :: .ref (adr base b aK aV aT qS a) :: stk.map (em (adr base b aK aV aT qS))) = _; rw [adr_0 (Nat.lt_of_lt_of_le ha hr.2.2.2.1), adr_0 (Nat.lt_of_lt_of_le hv hr.2.2.2.1)]) ?_
            exact va_astq hx hb hE.1 hr.1 wld_D hr.2.1 a 3 v 3 hw rfl hwv (cl_at (by omega)) hi hd (fun H1 locs1 h1 _ h3 => hY _ _ hf H1 locs1 k n ls ⟨by rw [← e1]; exact h1, h3, hr.2.2⟩ hl)
      | _ => exact False.elim hf
    | _ => cases v3 <;> exact False.elim hf
  | _ => cases v2 <;> cases v3 <;> exact False.elim hf

theorem snd_copy {index : Nat} (hm1 : Cond.methodLink own index arraycopyName ∈ allW) (hm2 : Cond.native arraycopyName ∈ allW) (hm3 : Cond.static arraycopyName ∈ allW) (hm4 : Cond.initialized "java/lang/System" ∈ allW) (hd : decode cc pc = .ok (.invokestatic index, 3)) : Snd yT wT mcT msT cc own nL ini ret pc (oCopy (pc + 3)) := by
  intro p l e R s m args below meth c D cy base b aK aV aT qS X mc ms d Qm Y QV CP hF hR hE hB hX hY hQ hC L stk h hf H locs k n ls hr hl
  obtain ⟨hx, hb, hml, hown, hts, hin⟩ := hF
  rcases stk with _ | ⟨v1, _ | ⟨v2, _ | ⟨v3, _ | ⟨v4, _ | ⟨v5, stk⟩⟩⟩⟩⟩
  · exact False.elim hf
  · cases v1 <;> exact False.elim hf
  · cases v1 <;> first | exact False.elim hf | (cases v2 <;> exact False.elim hf)
  · cases v1 <;> first | exact False.elim hf | (cases v2 <;> first | exact False.elim hf | (cases v3 <;> exact False.elim hf))
  · cases v1 <;> first | exact False.elim hf | (cases v2 <;> first | exact False.elim hf | (cases v3 <;> first | exact False.elim hf | (cases v4 <;> exact False.elim hf)))
  cases v1 with
  | int z =>
    cases v2 with
    | int dp =>
      cases v3 with
      | ref d0 =>
        cases v4 with
        | int sp =>
          cases v5 with
          | ref a =>
            have hf : Fst X mcT msT Y QV CP h (match isA h a 1 && isA h d0 1 with | true => (if z < 0 ∨ dp < 0 ∨ sp < 0 ∨ (kH h a).2 < sp.toNatClampNeg + z.toNatClampNeg ∨ (kH h d0).2 < dp.toNatClampNeg + z.toNatClampNeg ∨ 8 < stk.length then none else nxt (pc + 3, L, stk) (h.1, up1 h.2 d0 (va_cpy (h.2 a) (h.2 d0) sp.toNatClampNeg dp.toNatClampNeg z.toNatClampNeg))) | false => none) := hf
            cases eo : isA h a 1 && isA h d0 1 with
            | false => rw [eo] at hf; exact False.elim hf
            | true =>
              rw [eo] at hf
              rw [Bool.and_eq_true] at eo
              obtain ⟨ha, hsh⟩ := isA_spec eo.1
              obtain ⟨hd0, hshd⟩ := isA_spec eo.2
              by_cases hi : z < 0 ∨ dp < 0 ∨ sp < 0 ∨ (kH h a).2 < sp.toNatClampNeg + z.toNatClampNeg ∨ (kH h d0).2 < dp.toNatClampNeg + z.toNatClampNeg ∨ 8 < stk.length
              · exact absurd hf (by dsimp only; rw [if_pos hi]; exact fun z => z)
              · have hf : Fst X mcT msT Y QV CP h (nxt (pc + 3, L, stk) (h.1, up1 h.2 d0 (va_cpy (h.2 a) (h.2 d0) sp.toNatClampNeg dp.toNatClampNeg z.toNatClampNeg))) := by have hf2 := hf; dsimp only at hf2; rw [if_neg hi] at hf2; exact hf2
                have c1 : ¬ z < 0 := fun q => hi (Or.inl q)
                have c2 : ¬ dp < 0 := fun q => hi (Or.inr (Or.inl q))
                have c3 : ¬ sp < 0 := fun q => hi (Or.inr (Or.inr (Or.inl q)))
                have c4 : ¬ (kH h a).2 < sp.toNatClampNeg + z.toNatClampNeg := fun q => hi (Or.inr (Or.inr (Or.inr (Or.inl q))))
                have c5 : ¬ (kH h d0).2 < dp.toNatClampNeg + z.toNatClampNeg := fun q => hi (Or.inr (Or.inr (Or.inr (Or.inr (Or.inl q)))))
                have c6 : ¬ 8 < stk.length := fun q => hi (Or.inr (Or.inr (Or.inr (Or.inr (Or.inr q)))))
                have hw := wld_at (cy := cy) (base := base) (ad := (adr base b aK aV aT qS)) ha
                rw [cel_1 hsh] at hw
                have hwd := wld_at (cy := cy) (base := base) (ad := (adr base b aK aV aT qS)) hd0
                rw [cel_1 hshd] at hwd
                have e1 : (wld cy base (adr base b aK aV aT qS) h).set d0 (base + d0, .inl (cy 0, (kH h d0).2, .inl (va_cpy (h.2 a) (h.2 d0) sp.toNatClampNeg dp.toNatClampNeg z.toNatClampNeg))) = wld cy base (adr base b aK aV aT qS) (h.1, up1 h.2 d0 (va_cpy (h.2 a) (h.2 d0) sp.toNatClampNeg dp.toNatClampNeg z.toNatClampNeg)) := by
                  have e3 := wld_set (cy := cy) (base := base) (ad := (adr base b aK aV aT qS)) (h := h) (h' := (h.1, up1 h.2 d0 (va_cpy (h.2 a) (h.2 d0) sp.toNatClampNeg dp.toNatClampNeg z.toNatClampNeg))) hd0 rfl (fun q hq => cel_eq rfl rfl (up1_f hq))
                  rw [cel_1 (h := (h.1, up1 h.2 d0 (va_cpy (h.2 a) (h.2 d0) sp.toNatClampNeg dp.toNatClampNeg z.toNatClampNeg))) (cy := cy) (ad := (adr base b aK aV aT qS)) hshd, show ((h.1, up1 h.2 d0 (va_cpy (h.2 a) (h.2 d0) sp.toNatClampNeg dp.toNatClampNeg z.toNatClampNeg)) : Hp).2 d0 = va_cpy (h.2 a) (h.2 d0) sp.toNatClampNeg dp.toNatClampNeg z.toNatClampNeg from up1_s _ _ _] at e3
                  exact e3
                have hloc : ((stk.map (em (adr base b aK aV aT qS))).map fun v => v.category).sum + (nativeFrameWords "java/lang/System" "arraycopy" 5 + 11) ≤ R.locals := by
                  rw [em_sum]
                  have g1 := cat_len stk
                  have e9 : nativeFrameWords "java/lang/System" "arraycopy" 5 = 7 := by decide +kernel
                  have g2 := hR.2.1
                  omega
                refine W.eq (g2 := F0 m pc ls (.int z :: .int dp :: .ref (base + d0) :: .int sp :: .ref (base + a) :: stk.map (em (adr base b aK aV aT qS)))) (by show F0 m pc ls (.int z :: .int dp :: .ref (adr base b aK aV aT qS d0) :: .int sp :: .ref (adr base b aK aV aT qS a) :: stk.map (em (adr base b aK aV aT qS))) = _; rw [adr_0 (Nat.lt_of_lt_of_le ha hr.2.2.2.1), adr_0 (Nat.lt_of_lt_of_le hd0 hr.2.2.2.1)]) ?_
                exact va_copyi hx hb (by rw [hml]; exact hl.1.symm) hown (hts _ hm1) (hts _ hm2) (hts _ hm3) (hts _ hm4) hE.1 hr.1 wld_D hr.2.1 a d0 0 0 hw hwd (ty := .int) rfl rfl rfl c3 c2 c1 (Nat.not_lt.mp c4) (Nat.not_lt.mp c5) (fun _ _ => rfl) (by have := hR.1; omega) hloc hd (fun H1 locs1 h1 _ h3 => hY _ _ hf H1 locs1 k n ls ⟨by rw [← e1]; exact h1, h3, hr.2.2⟩ hl)
          | _ => exact False.elim hf
        | _ => exact False.elim hf
      | _ => exact False.elim hf
    | _ => exact False.elim hf
  | _ => exact False.elim hf

theorem nc_oGo {t : Nat} : ∀ X st h q, oGo t X st h ≠ some (.inr (.inr q)) := by
  intro X st h q e
  unfold oGo at e
  dsimp only [nxt] at e
  first | (cases e; done) | (split at e <;> first | (cases e; done) | (split at e <;> cases e))
theorem nc_oEq {t n : Nat} : ∀ X st h q, oEq t n X st h ≠ some (.inr (.inr q)) := by
  intro X st h q e
  unfold oEq at e
  dsimp only [nxt] at e
  first | (cases e; done) | (split at e <;> first | (cases e; done) | (split at e <;> cases e))
theorem nc_oNe {t n : Nat} : ∀ X st h q, oNe t n X st h ≠ some (.inr (.inr q)) := by
  intro X st h q e
  unfold oNe at e
  dsimp only [nxt] at e
  first | (cases e; done) | (split at e <;> first | (cases e; done) | (split at e <;> cases e))
theorem nc_oLt {t n : Nat} : ∀ X st h q, oLt t n X st h ≠ some (.inr (.inr q)) := by
  intro X st h q e
  unfold oLt at e
  dsimp only [nxt] at e
  first | (cases e; done) | (split at e <;> first | (cases e; done) | (split at e <;> cases e))
theorem nc_oGe {t n : Nat} : ∀ X st h q, oGe t n X st h ≠ some (.inr (.inr q)) := by
  intro X st h q e
  unfold oGe at e
  dsimp only [nxt] at e
  first | (cases e; done) | (split at e <;> first | (cases e; done) | (split at e <;> cases e))
theorem nc_oGt {t n : Nat} : ∀ X st h q, oGt t n X st h ≠ some (.inr (.inr q)) := by
  intro X st h q e
  unfold oGt at e
  dsimp only [nxt] at e
  first | (cases e; done) | (split at e <;> first | (cases e; done) | (split at e <;> cases e))
theorem nc_oLe {t n : Nat} : ∀ X st h q, oLe t n X st h ≠ some (.inr (.inr q)) := by
  intro X st h q e
  unfold oLe at e
  dsimp only [nxt] at e
  first | (cases e; done) | (split at e <;> first | (cases e; done) | (split at e <;> cases e))
theorem nc_oCEq {t n : Nat} : ∀ X st h q, oCEq t n X st h ≠ some (.inr (.inr q)) := by
  intro X st h q e
  unfold oCEq at e
  dsimp only [nxt] at e
  first | (cases e; done) | (split at e <;> first | (cases e; done) | (split at e <;> cases e))
theorem nc_oCNe {t n : Nat} : ∀ X st h q, oCNe t n X st h ≠ some (.inr (.inr q)) := by
  intro X st h q e
  unfold oCNe at e
  dsimp only [nxt] at e
  first | (cases e; done) | (split at e <;> first | (cases e; done) | (split at e <;> cases e))
theorem nc_oCLt {t n : Nat} : ∀ X st h q, oCLt t n X st h ≠ some (.inr (.inr q)) := by
  intro X st h q e
  unfold oCLt at e
  dsimp only [nxt] at e
  first | (cases e; done) | (split at e <;> first | (cases e; done) | (split at e <;> cases e))
theorem nc_oCGe {t n : Nat} : ∀ X st h q, oCGe t n X st h ≠ some (.inr (.inr q)) := by
  intro X st h q e
  unfold oCGe at e
  dsimp only [nxt] at e
  first | (cases e; done) | (split at e <;> first | (cases e; done) | (split at e <;> cases e))
theorem nc_oCGt {t n : Nat} : ∀ X st h q, oCGt t n X st h ≠ some (.inr (.inr q)) := by
  intro X st h q e
  unfold oCGt at e
  dsimp only [nxt] at e
  first | (cases e; done) | (split at e <;> first | (cases e; done) | (split at e <;> cases e))
theorem nc_oCLe {t n : Nat} : ∀ X st h q, oCLe t n X st h ≠ some (.inr (.inr q)) := by
  intro X st h q e
  unfold oCLe at e
  dsimp only [nxt] at e
  first | (cases e; done) | (split at e <;> first | (cases e; done) | (split at e <;> cases e))
theorem nc_oStI {i n : Nat} : ∀ X st h q, oStI i n X st h ≠ some (.inr (.inr q)) := by
  intro X st h q e
  unfold oStI at e
  dsimp only [nxt] at e
  first | (cases e; done) | (split at e <;> first | (cases e; done) | (split at e <;> cases e))
theorem nc_oStA {i n : Nat} : ∀ X st h q, oStA i n X st h ≠ some (.inr (.inr q)) := by
  intro X st h q e
  unfold oStA at e
  dsimp only [nxt] at e
  first | (cases e; done) | (split at e <;> first | (cases e; done) | (split at e <;> cases e))
theorem nc_oPutI {ci k n : Nat} : ∀ X st h q, oPutI ci k n X st h ≠ some (.inr (.inr q)) := by
  intro X st h q e
  unfold oPutI at e
  dsimp only [nxt] at e
  first | (cases e; done) | (split at e <;> first | (cases e; done) | (split at e <;> cases e))
theorem nc_oInc {i n : Nat} {c : Int32} : ∀ X st h q, oInc i c n X st h ≠ some (.inr (.inr q)) := by
  intro X st h q e
  unfold oInc at e
  dsimp only [nxt] at e
  first | (cases e; done) | (split at e <;> first | (cases e; done) | (split at e <;> cases e))
theorem snd_kp {ks : List Nat} {op : IOp} (hop : Snd yT wT mcT msT cc own nL ini ret pc op) (hnc : ∀ X st h q, op X st h ≠ some (.inr (.inr q))) : Snd yT wT mcT msT cc own nL ini ret pc (oKp ks op) := by
  intro p l e R s m args below meth c D cy base b aK aV aT qS X mc ms d Qm Y QV CP hF hR hE hB hX hY hQ hC L stk h hf
  refine hop p l e R s m args below meth c D cy base b aK aV aT qS X mc ms d Qm (fun st h => Y (st.1, kpl st.2.1 ks, st.2.2) h) QV CP hF hR hE hB hX (fun st h hh => ?_) hQ hC L stk h ?_
  · intro H locs k n ls hr hl
    exact hY _ _ hh H locs k n ls hr (lv_less hl (fun q hq => by
      obtain ⟨x, hx, rfl⟩ := List.mem_map.mp hq
      exact List.mem_map.mpr ⟨x, kpl_in hx, rfl⟩))
  · have hf2 : Fst X mcT msT Y QV CP h (match op X (pc, L, stk) h with | some (.inl (st', h')) => some (.inl ((st'.1, kpl st'.2.1 ks, st'.2.2), h')) | r => r) := hf
    generalize eo : op X (pc, L, stk) h = r at hf2 ⊢
    rcases r with _ | q | v | q
    · exact hf2
    · exact hf2
    · exact hf2
    · exact absurd eo (hnc _ _ _ _)
end P8
