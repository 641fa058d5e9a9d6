/-! the instructions of fields and rows -/
section P6
variable {yT : Nat → MethodName} {wT : Nat → List Cond} {mcT msT : Nat → List Value → Nat} {cc : ByteArray} {own : String} {nL : Nat} {ini : Bool} {ret : Option FieldType} {pc : Nat}
theorem my_put {p : Program} {l : Launch} {e : Env} {R : Room} {s : State} {m : MethodId} {args : Array Value} {below : List Frame} {meth : Method} {c : Code} {H : Heap} {locs : List Loc} {k n : Nat} {Qm : State → Prop} {D : va_G} {cy : Nat → ClassId} {base : Nat} {ad : Nat → Nat} {h h' : Hp} {a ci k0 index : Nat} {v : Value} {ls : Array Slot} {rest : List Value}
    (hx : p.tables.exec = Jvm.exec) (hb : c.code = cc) (hown : s.vm.findClass own = some m.cls) (hts : ∀ w ∈ allW, w.before args s = true) (hin : ini = true → meth.name = "<init>") (hK : va_K D vwCl (cyT cy) s) (hP : va_P D vwCl (wld cy base ad h) H) (hS : va_S (fun q => base ≤ q) s.heap H locs)
    (ha : a < kN h) (hsh : kH h a = (0, ci)) (hci : ci < 12) (hk : k0 < clN ci) (hm : Cond.fieldLink own index (clT ci k0).1 (clT ci k0).2.1 (clT ci k0).2.2.1 ∈ allW) (hfn : (clT ci k0).2.2.2 = true → ini = true ∧ (clT ci k0).1 = own) (hd : decode cc pc = .ok (.putfield index, 3)) (hnz : narrow (clY ci k0) v = v) (hfit : fits (clY ci k0) v = true)
    (hn : kN h' = kN h) (hsh' : kH h' a = (0, ci)) (hfv : fldv ad h' ci a k0 = v) (ho : ∀ j, j ≠ k0 → fldv ad h' ci a j = fldv ad h ci a j) (hc : ∀ b, b ≠ a → cel cy ad h' b = cel cy ad h b)
    (kk : ∀ (H1 : Heap) (locs1 : List Loc), va_P D vwCl (wld cy base ad h') H1 → va_S (fun q => base ≤ q) s.heap H1 locs1 → W p l e R s m args below meth c H1 locs1 k n Qm (F0 m (pc + 3) ls rest)) : W p l e R s m args below meth c H locs k n Qm (F0 m pc ls (v :: .ref (base + a) :: rest)) := by
  have hw := wld_at (cy := cy) (base := base) (ad := ad) ha
  rw [cel_0 hsh] at hw
  have hk2 : k0 < nfT.getD ci 0 := by rw [cl_nf hci]; exact hk
  have e1 : (wld cy base ad h).set a (base + a, .inr (ci, (flds ad h ci a).set k0 v)) = wld cy base ad h' := by
    rw [flds_set (h' := h') hk2 hfv ho, ← cel_0 (cy := cy) (ad := ad) hsh']
    exact wld_set ha hn hc
  by_cases hfin : (clT ci k0).2.2.2 = true
  · exact va_putF (D := D) (ci := ci) (C := clC ci) (T := clT ci) (N := clN ci) hx hb hts (cl_in hci) (clY ci) (cl_ty hci) (cl_nm hci) hown hK hP wld_D hS a hw (cl_at hci) k0 hk (hts _ hm) (fun _ h9 => h9) hfin (hin (hfn hfin).1) (hfn hfin).2 (cl_ty hci k0 hk) hnz hfit (by rw [flds_len]; exact hk2) hd (fun H1 locs1 h1 _ h3 => kk H1 locs1 (by rw [← e1]; exact h1) h3)
  · exact va_put (D := D) (ci := ci) (C := clC ci) (T := clT ci) (N := clN ci) hx hb hts (cl_in hci) (clY ci) (cl_ty hci) (cl_nm hci) hown hK hP wld_D hS a hw (cl_at hci) k0 hk (hts _ hm) (fun _ h9 => h9) (by simpa using hfin) (cl_ty hci k0 hk) hnz hfit (by rw [flds_len]; exact hk2) hd (fun H1 locs1 h1 _ h3 => kk H1 locs1 (by rw [← e1]; exact h1) h3)
theorem snd_getI {ci k0 index : Nat} (hci : ci < 12) (hk : k0 < clN ci) (hrf : (rfT.getD ci []).getD k0 false = false) (hm : Cond.fieldLink own index (clT ci k0).1 (clT ci k0).2.1 (clT ci k0).2.2.1 ∈ allW) (hd : decode cc pc = .ok (.getfield index, 3)) : Snd yT wT mcT msT cc own nL ini ret pc (oGetI ci k0 (pc + 3)) := by
  intro p l e R s m args below meth c D cy base b aK aV aT qS X mc ms d Qm Y QV CP hF hR hE hB hX hY hQ hC L stk h hf H locs k n ls hr hl
  obtain ⟨hx, hb, hml, hown, hts, hin⟩ := hF
  rcases stk with _ | ⟨v1, stk⟩
  · exact False.elim hf
  cases v1 with
  | ref a =>
    have hf : Fst X mcT msT Y QV CP h (match isO h a ci with | true => nxt (pc + 3, L, .int (h.2 a k0) :: stk) h | false => none) := hf
    cases eo : isO h a ci with
    | false => rw [eo] at hf; exact False.elim hf
    | true =>
      rw [eo] at hf
      obtain ⟨ha, hsh⟩ := isO_spec eo
      have hw := wld_at (cy := cy) (base := base) (ad := adr base b aK aV aT qS) ha
      rw [cel_0 hsh] at hw
      refine W.eq (g2 := F0 m pc ls (.ref (base + a) :: List.map (em (adr base b aK aV aT qS)) stk)) (by show F0 m pc ls (.ref (adr base b aK aV aT qS a) :: List.map (em (adr base b aK aV aT qS)) stk) = _; rw [adr_0 (Nat.lt_of_lt_of_le ha hr.2.2.2.1)]) ?_
      exact va_get (D := D) (ci := ci) (C := clC ci) (T := clT ci) (N := clN ci) hx hb hts (cl_in hci) hown hE.1 hr.1 a hw (cl_at hci) k0 hk (hts _ hm) (fun _ h9 => h9) (v := .int (h.2 a k0)) (by rw [flds_at (by rw [cl_nf hci]; exact hk)]; unfold fldv; rw [hrf]) hd (hY _ _ hf H locs k n ls hr hl)
  | _ => exact False.elim hf

theorem snd_getR {ci k0 index : Nat} (hci : ci < 12) (hk : k0 < clN ci) (hrf : (rfT.getD ci []).getD k0 false = true) (hm : Cond.fieldLink own index (clT ci k0).1 (clT ci k0).2.1 (clT ci k0).2.2.1 ∈ allW) (hd : decode cc pc = .ok (.getfield index, 3)) : Snd yT wT mcT msT cc own nL ini ret pc (oGetR ci k0 (pc + 3)) := by
  intro p l e R s m args below meth c D cy base b aK aV aT qS X mc ms d Qm Y QV CP hF hR hE hB hX hY hQ hC L stk h hf H locs k n ls hr hl
  obtain ⟨hx, hb, hml, hown, hts, hin⟩ := hF
  rcases stk with _ | ⟨v1, stk⟩
  · exact False.elim hf
  cases v1 with
  | ref a =>
    have hf : Fst X mcT msT Y QV CP h (match isO h a ci with | true => (match kR h a k0 with | some b => nxt (pc + 3, L, .ref b :: stk) h | none => none) | false => none) := hf
    cases eo : isO h a ci with
    | false => rw [eo] at hf; exact False.elim hf
    | true =>
      rw [eo] at hf
      obtain ⟨ha, hsh⟩ := isO_spec eo
      cases er : kR h a k0 with
      | none => exact absurd hf (by dsimp only; rw [er]; exact fun z => z)
      | some r =>
        have hf : Y (pc + 3, L, .ref r :: stk) h := by have hf2 := hf; dsimp only at hf2; rw [er] at hf2; exact hf2
        have hw := wld_at (cy := cy) (base := base) (ad := adr base b aK aV aT qS) ha
        rw [cel_0 hsh] at hw
        refine W.eq (g2 := F0 m pc ls (.ref (base + a) :: List.map (em (adr base b aK aV aT qS)) stk)) (by show F0 m pc ls (.ref (adr base b aK aV aT qS a) :: List.map (em (adr base b aK aV aT qS)) stk) = _; rw [adr_0 (Nat.lt_of_lt_of_le ha hr.2.2.2.1)]) ?_
        exact va_get (D := D) (ci := ci) (C := clC ci) (T := clT ci) (N := clN ci) hx hb hts (cl_in hci) hown hE.1 hr.1 a hw (cl_at hci) k0 hk (hts _ hm) (fun _ h9 => h9) (v := .ref (adr base b aK aV aT qS r)) (by rw [flds_at (by rw [cl_nf hci]; exact hk)]; unfold fldv; rw [hrf, er]; rfl) hd (hY _ _ hf H locs k n ls hr hl)
  | _ => exact False.elim hf

theorem snd_putI {ci k0 index : Nat} (hci : ci < 12) (hk : k0 < clN ci) (hrf : (rfT.getD ci []).getD k0 false = false) (hm : Cond.fieldLink own index (clT ci k0).1 (clT ci k0).2.1 (clT ci k0).2.2.1 ∈ allW) (hd : decode cc pc = .ok (.putfield index, 3)) (hty : clY ci k0 = .int) (hfn : (clT ci k0).2.2.2 = true → ini = true ∧ (clT ci k0).1 = own) : Snd yT wT mcT msT cc own nL ini ret pc (oPutI ci k0 (pc + 3)) := by
  intro p l e R s m args below meth c D cy base b aK aV aT qS X mc ms d Qm Y QV CP hF hR hE hB hX hY hQ hC L stk h hf H locs k n ls hr hl
  obtain ⟨hx, hb, hml, hown, hts, hin⟩ := hF
  rcases stk with _ | ⟨v1, _ | ⟨v2, stk⟩⟩
  · exact False.elim hf
  · cases v1 <;> exact False.elim hf
  cases v1 with
  | int v =>
    cases v2 with
    | ref a =>
      have hf : Fst X mcT msT Y QV CP h (match isO h a ci with | true => nxt (pc + 3, L, stk) (h.1, up2 h.2 a k0 v) | false => none) := hf
      cases eo : isO h a ci with
      | false => rw [eo] at hf; exact False.elim hf
      | true =>
        rw [eo] at hf
        obtain ⟨ha, hsh⟩ := isO_spec eo
        refine W.eq (g2 := F0 m pc ls (.int v :: .ref (base + a) :: List.map (em (adr base b aK aV aT qS)) stk)) (by show F0 m pc ls (.int v :: .ref (adr base b aK aV aT qS a) :: List.map (em (adr base b aK aV aT qS)) stk) = _; rw [adr_0 (Nat.lt_of_lt_of_le ha hr.2.2.2.1)]) ?_
        exact my_put (h := h) (h' := (h.1, up2 h.2 a k0 v)) hx hb hown hts hin hE.1 hr.1 hr.2.1 ha hsh hci hk hm hfn hd (by rw [hty]; rfl) (by rw [hty]; rfl) rfl hsh
          (by unfold fldv; rw [hrf]; show Value.int (up2 h.2 a k0 v a k0) = _; rw [up2_s]) (fun j hj => by unfold fldv; dsimp only; rw [up2_n (fun q => hj q.2)]) (fun q hq => cel_eq rfl rfl (up2_f hq))
          (fun H1 locs1 h1 h3 => hY _ _ hf H1 locs1 k n ls ⟨h1, h3, hr.2.2⟩ hl)
    | _ => exact False.elim hf
  | _ => cases v2 <;> exact False.elim hf

theorem snd_putZ {ci k0 index : Nat} (hci : ci < 12) (hk : k0 < clN ci) (hrf : (rfT.getD ci []).getD k0 false = false) (hm : Cond.fieldLink own index (clT ci k0).1 (clT ci k0).2.1 (clT ci k0).2.2.1 ∈ allW) (hd : decode cc pc = .ok (.putfield index, 3)) (hty : clY ci k0 = .boolean) (hfn : (clT ci k0).2.2.2 = true → ini = true ∧ (clT ci k0).1 = own) : Snd yT wT mcT msT cc own nL ini ret pc (oPutZ ci k0 (pc + 3)) := by
  intro p l e R s m args below meth c D cy base b aK aV aT qS X mc ms d Qm Y QV CP hF hR hE hB hX hY hQ hC L stk h hf H locs k n ls hr hl
  obtain ⟨hx, hb, hml, hown, hts, hin⟩ := hF
  rcases stk with _ | ⟨v1, _ | ⟨v2, stk⟩⟩
  · exact False.elim hf
  · cases v1 <;> exact False.elim hf
  cases v1 with
  | int v =>
    cases v2 with
    | ref a =>
      have hf : Fst X mcT msT Y QV CP h (match isO h a ci with | true => if v = 0 ∨ v = 1 then nxt (pc + 3, L, stk) (h.1, up2 h.2 a k0 v) else none | false => none) := hf
      cases eo : isO h a ci with
      | false => rw [eo] at hf; exact False.elim hf
      | true =>
        rw [eo] at hf
        obtain ⟨ha, hsh⟩ := isO_spec eo
        have hv : v = 0 ∨ v = 1 := by
          by_cases hv : v = 0 ∨ v = 1
          · exact hv
          · exact absurd hf (by dsimp only; rw [if_neg hv]; exact fun z => z)
        have hf : Fst X mcT msT Y QV CP h (nxt (pc + 3, L, stk) (h.1, up2 h.2 a k0 v)) := by have hf2 := hf; dsimp only at hf2; rw [if_pos hv] at hf2; exact hf2
        refine W.eq (g2 := F0 m pc ls (.int v :: .ref (base + a) :: List.map (em (adr base b aK aV aT qS)) stk)) (by show F0 m pc ls (.int v :: .ref (adr base b aK aV aT qS a) :: List.map (em (adr base b aK aV aT qS)) stk) = _; rw [adr_0 (Nat.lt_of_lt_of_le ha hr.2.2.2.1)]) ?_
        exact my_put (h := h) (h' := (h.1, up2 h.2 a k0 v)) hx hb hown hts hin hE.1 hr.1 hr.2.1 ha hsh hci hk hm hfn hd (by rw [hty]; rcases hv with rfl | rfl <;> decide) (by rw [hty]; rcases hv with rfl | rfl <;> decide) rfl hsh
          (by unfold fldv; rw [hrf]; show Value.int (up2 h.2 a k0 v a k0) = _; rw [up2_s]) (fun j hj => by unfold fldv; dsimp only; rw [up2_n (fun q => hj q.2)]) (fun q hq => cel_eq rfl rfl (up2_f hq))
          (fun H1 locs1 h1 h3 => hY _ _ hf H1 locs1 k n ls ⟨h1, h3, hr.2.2⟩ hl)
    | _ => exact False.elim hf
  | _ => cases v2 <;> exact False.elim hf

theorem snd_putR {ci k0 index : Nat} (hci : ci < 12) (hk : k0 < clN ci) (hrf : (rfT.getD ci []).getD k0 false = true) (hm : Cond.fieldLink own index (clT ci k0).1 (clT ci k0).2.1 (clT ci k0).2.2.1 ∈ allW) (hd : decode cc pc = .ok (.putfield index, 3)) (hty : (∃ q, clY ci k0 = .object q) ∨ ∃ q, clY ci k0 = .array q) (hfn : (clT ci k0).2.2.2 = true → ini = true ∧ (clT ci k0).1 = own) : Snd yT wT mcT msT cc own nL ini ret pc (oPutR ci k0 (pc + 3)) := by
  intro p l e R s m args below meth c D cy base b aK aV aT qS X mc ms d Qm Y QV CP hF hR hE hB hX hY hQ hC L stk h hf H locs k n ls hr hl
  obtain ⟨hx, hb, hml, hown, hts, hin⟩ := hF
  rcases stk with _ | ⟨v1, _ | ⟨v2, stk⟩⟩
  · exact False.elim hf
  · cases v1 <;> exact False.elim hf
  cases v1 with
  | ref v =>
    cases v2 with
    | ref a =>
      have hf : Fst X mcT msT Y QV CP h (match isO h a ci with | true => nxt (pc + 3, L, stk) ((kN h, kS h, kH h, upr (kR h) a k0 (some v)), h.2) | false => none) := hf
      cases eo : isO h a ci with
      | false => rw [eo] at hf; exact False.elim hf
      | true =>
        rw [eo] at hf
        obtain ⟨ha, hsh⟩ := isO_spec eo
        refine W.eq (g2 := F0 m pc ls (.ref (adr base b aK aV aT qS v) :: .ref (base + a) :: List.map (em (adr base b aK aV aT qS)) stk)) (by show F0 m pc ls (.ref (adr base b aK aV aT qS v) :: .ref (adr base b aK aV aT qS a) :: List.map (em (adr base b aK aV aT qS)) stk) = _; rw [adr_0 (Nat.lt_of_lt_of_le ha hr.2.2.2.1)]) ?_
        exact my_put (h := h) (h' := ((kN h, kS h, kH h, upr (kR h) a k0 (some v)), h.2)) hx hb hown hts hin hE.1 hr.1 hr.2.1 ha hsh hci hk hm hfn hd (by rcases hty with ⟨q, e9⟩ | ⟨q, e9⟩ <;> rw [e9] <;> rfl) (by rcases hty with ⟨q, e9⟩ | ⟨q, e9⟩ <;> rw [e9] <;> rfl) rfl hsh
          (by unfold fldv; rw [hrf]; show va_rf ((upr (kR h) a k0 (some v) a k0).map _) = _; rw [upr_s]; rfl) (fun j hj => by unfold fldv; dsimp only; rw [show kR ((kN h, kS h, kH h, upr (kR h) a k0 (some v)), h.2) a j = kR h a j from upr_n (fun q => hj q.2)]) (fun q hq => cel_eq rfl (upr_f hq) rfl)
          (fun H1 locs1 h1 h3 => hY _ _ hf H1 locs1 k n ls ⟨h1, h3, hr.2.2⟩ hl)
    | _ => exact False.elim hf
  | _ => cases v2 <;> exact False.elim hf

theorem snd_iald (hd : decode cc pc = .ok (.iaload, 1)) : Snd yT wT mcT msT cc own nL ini ret pc (oALd 1 (pc + 1)) := by
  intro p l e R s m args below meth c D cy base b aK aV aT qS X mc ms d Qm Y QV CP hF hR hE hB hX hY hQ hC L stk h hf H locs k n ls hr hl
  obtain ⟨hx, hb, hml, hown, hts, hin⟩ := hF
  rcases stk with _ | ⟨v1, _ | ⟨v2, stk⟩⟩
  · exact False.elim hf
  · cases v1 <;> exact False.elim hf
  cases v1 with
  | int i =>
    cases v2 with
    | ref a =>
      have hf : Fst X mcT msT Y QV CP h (match isA h a 1 with | true => (if i < 0 ∨ (kH h a).2 ≤ i.toNatClampNeg then none else nxt (pc + 1, L, .int (h.2 a i.toNatClampNeg) :: stk) h) | false => none) := hf
      cases eo : isA h a 1 with
      | false => rw [eo] at hf; exact False.elim hf
      | true =>
        rw [eo] at hf
        obtain ⟨ha, hsh⟩ := isA_spec eo
        by_cases hi : i < 0 ∨ (kH h a).2 ≤ i.toNatClampNeg
        · exact absurd hf (by dsimp only; rw [if_pos hi]; exact fun z => z)
        · have hf : Fst X mcT msT Y QV CP h (nxt (pc + 1, L, .int (h.2 a i.toNatClampNeg) :: stk) h) := by have hf2 := hf; dsimp only at hf2; rw [if_neg hi] at hf2; exact hf2
          have hw := wld_at (cy := cy) (base := base) (ad := adr base b aK aV aT qS) ha
          rw [cel_1 hsh] at hw
          refine W.eq (g2 := F0 m pc ls (.int i :: .ref (base + a) :: List.map (em (adr base b aK aV aT qS)) stk)) (by show F0 m pc ls (.int i :: .ref (adr base b aK aV aT qS a) :: List.map (em (adr base b aK aV aT qS)) stk) = _; rw [adr_0 (Nat.lt_of_lt_of_le ha hr.2.2.2.1)]) ?_
          exact va_iald hx hb hE.1 hr.1 a 0 hw rfl hi hd (hY _ _ hf H locs k n ls hr hl)
    | _ => exact False.elim hf
  | _ => cases v2 <;> exact False.elim hf

theorem snd_zald (hd : decode cc pc = .ok (.baload, 1)) : Snd yT wT mcT msT cc own nL ini ret pc (oALd 2 (pc + 1)) := by
  intro p l e R s m args below meth c D cy base b aK aV aT qS X mc ms d Qm Y QV CP hF hR hE hB hX hY hQ hC L stk h hf H locs k n ls hr hl
  obtain ⟨hx, hb, hml, hown, hts, hin⟩ := hF
  rcases stk with _ | ⟨v1, _ | ⟨v2, stk⟩⟩
  · exact False.elim hf
  · cases v1 <;> exact False.elim hf
  cases v1 with
  | int i =>
    cases v2 with
    | ref a =>
      have hf : Fst X mcT msT Y QV CP h (match isA h a 2 with | true => (if i < 0 ∨ (kH h a).2 ≤ i.toNatClampNeg then none else nxt (pc + 1, L, .int (h.2 a i.toNatClampNeg) :: stk) h) | false => none) := hf
      cases eo : isA h a 2 with
      | false => rw [eo] at hf; exact False.elim hf
      | true =>
        rw [eo] at hf
        obtain ⟨ha, hsh⟩ := isA_spec eo
        by_cases hi : i < 0 ∨ (kH h a).2 ≤ i.toNatClampNeg
        · exact absurd hf (by dsimp only; rw [if_pos hi]; exact fun z => z)
        · have hf : Fst X mcT msT Y QV CP h (nxt (pc + 1, L, .int (h.2 a i.toNatClampNeg) :: stk) h) := by have hf2 := hf; dsimp only at hf2; rw [if_neg hi] at hf2; exact hf2
          have hw := wld_at (cy := cy) (base := base) (ad := adr base b aK aV aT qS) ha
          rw [cel_2 hsh] at hw
          refine W.eq (g2 := F0 m pc ls (.int i :: .ref (base + a) :: List.map (em (adr base b aK aV aT qS)) stk)) (by show F0 m pc ls (.int i :: .ref (adr base b aK aV aT qS a) :: List.map (em (adr base b aK aV aT qS)) stk) = _; rw [adr_0 (Nat.lt_of_lt_of_le ha hr.2.2.2.1)]) ?_
          exact va_zald hx hb hE.1 hr.1 a 1 hw rfl hi hd (hY _ _ hf H locs k n ls hr hl)
    | _ => exact False.elim hf
  | _ => cases v2 <;> exact False.elim hf

theorem snd_iast (hd : decode cc pc = .ok (.iastore, 1)) : Snd yT wT mcT msT cc own nL ini ret pc (oISt (pc + 1)) := by
  intro p l e R s m args below meth c D cy base b aK aV aT qS X mc ms d Qm Y QV CP hF hR hE hB hX hY hQ hC L stk h hf H locs k n ls hr hl
  obtain ⟨hx, hb, hml, hown, hts, hin⟩ := hF
  rcases stk with _ | ⟨v1, _ | ⟨v2, _ | ⟨v3, stk⟩⟩⟩
  · exact False.elim hf
  · cases v1 <;> exact False.elim hf
  · cases v1 <;> cases v2 <;> exact False.elim hf
  cases v1 with
  | int v =>
    cases v2 with
    | int i =>
      cases v3 with
      | ref a =>
        have hf : Fst X mcT msT Y QV CP h (match isA h a 1 with | true => (if i < 0 ∨ (kH h a).2 ≤ i.toNatClampNeg then none else nxt (pc + 1, L, stk) (h.1, up2 h.2 a i.toNatClampNeg v)) | false => none) := hf
        cases eo : isA h a 1 with
        | false => rw [eo] at hf; exact False.elim hf
        | true =>
          rw [eo] at hf
          obtain ⟨ha, hsh⟩ := isA_spec eo
          by_cases hi : i < 0 ∨ (kH h a).2 ≤ i.toNatClampNeg
          · exact absurd hf (by dsimp only; rw [if_pos hi]; exact fun z => z)
          · have hf : Fst X mcT msT Y QV CP h (nxt (pc + 1, L, stk) (h.1, up2 h.2 a i.toNatClampNeg v)) := by have hf2 := hf; dsimp only at hf2; rw [if_neg hi] at hf2; exact hf2
            have hw := wld_at (cy := cy) (base := base) (ad := adr base b aK aV aT qS) ha
            rw [cel_1 hsh] at hw
            have e1 : (wld cy base (adr base b aK aV aT qS) h).set a (base + a, .inl (cy 0, (kH h a).2, .inl (upd (h.2 a) i.toNatClampNeg v))) = wld cy base (adr base b aK aV aT qS) (h.1, up2 h.2 a i.toNatClampNeg v) := by
              have e2 : upd (h.2 a) i.toNatClampNeg v = up2 h.2 a i.toNatClampNeg v a := by
                funext j
                unfold upd
                by_cases hj : j = i.toNatClampNeg
                · subst hj; rw [if_pos rfl, up2_s]
                · rw [if_neg hj, up2_n (fun q => hj q.2)]
              rw [e2, ← cel_1 (h := (h.1, up2 h.2 a i.toNatClampNeg v)) (cy := cy) (ad := adr base b aK aV aT qS) hsh]
              exact wld_set ha rfl (fun q hq => cel_eq rfl rfl (up2_f hq))
            refine W.eq (g2 := F0 m pc ls (.int v :: .int i :: .ref (base + a) :: List.map (em (adr base b aK aV aT qS)) stk)) (by show F0 m pc ls (.int v :: .int i :: .ref (adr base b aK aV aT qS a) :: List.map (em (adr base b aK aV aT qS)) stk) = _; rw [adr_0 (Nat.lt_of_lt_of_le ha hr.2.2.2.1)]) ?_
            exact va_iast hx hb hE.1 hr.1 wld_D hr.2.1 a 0 hw rfl hi hd (fun H1 locs1 h1 _ h3 => hY _ _ hf H1 locs1 k n ls ⟨by rw [← e1]; exact h1, h3, hr.2.2⟩ hl)
      | _ => exact False.elim hf
    | _ => cases v3 <;> exact False.elim hf
  | _ => cases v2 <;> cases v3 <;> exact False.elim hf

theorem snd_zast (hd : decode cc pc = .ok (.bastore, 1)) : Snd yT wT mcT msT cc own nL ini ret pc (oZSt (pc + 1)) := by
  intro p l e R s m args below meth c D cy base b aK aV aT qS X mc ms d Qm Y QV CP hF hR hE hB hX hY hQ hC L stk h hf H locs k n ls hr hl
  obtain ⟨hx, hb, hml, hown, hts, hin⟩ := hF
  rcases stk with _ | ⟨v1, _ | ⟨v2, _ | ⟨v3, stk⟩⟩⟩
  · exact False.elim hf
  · cases v1 <;> exact False.elim hf
  · cases v1 <;> cases v2 <;> exact False.elim hf
  cases v1 with
  | int v =>
    cases v2 with
    | int i =>
      cases v3 with
      | ref a =>
        have hf : Fst X mcT msT Y QV CP h (match isA h a 2 with | true => (if i < 0 ∨ (kH h a).2 ≤ i.toNatClampNeg then none else if v = 0 ∨ v = 1 then nxt (pc + 1, L, stk) (h.1, up2 h.2 a i.toNatClampNeg v) else none) | false => none) := hf
        cases eo : isA h a 2 with
        | false => rw [eo] at hf; exact False.elim hf
        | true =>
          rw [eo] at hf
          obtain ⟨ha, hsh⟩ := isA_spec eo
          by_cases hi : i < 0 ∨ (kH h a).2 ≤ i.toNatClampNeg
          · exact absurd hf (by dsimp only; rw [if_pos hi]; exact fun z => z)
          by_cases hv : v = 0 ∨ v = 1
          rotate_left
          · exact absurd hf (by dsimp only; rw [if_neg hi, if_neg hv]; exact fun z => z)
          · have hf : Fst X mcT msT Y QV CP h (nxt (pc + 1, L, stk) (h.1, up2 h.2 a i.toNatClampNeg v)) := by have hf2 := hf; dsimp only at hf2; rw [if_neg hi, if_pos hv] at hf2; exact hf2
            have hw := wld_at (cy := cy) (base := base) (ad := adr base b aK aV aT qS) ha
            rw [cel_2 hsh] at hw
            have e1 : (wld cy base (adr base b aK aV aT qS) h).set a (base + a, .inl (cy 1, (kH h a).2, .inl (upd (h.2 a) i.toNatClampNeg v))) = wld cy base (adr base b aK aV aT qS) (h.1, up2 h.2 a i.toNatClampNeg v) := by
              have e2 : upd (h.2 a) i.toNatClampNeg v = up2 h.2 a i.toNatClampNeg v a := by
                funext j
                unfold upd
                by_cases hj : j = i.toNatClampNeg
                · subst hj; rw [if_pos rfl, up2_s]
                · rw [if_neg hj, up2_n (fun q => hj q.2)]
              rw [e2, ← cel_2 (h := (h.1, up2 h.2 a i.toNatClampNeg v)) (cy := cy) (ad := adr base b aK aV aT qS) hsh]
              exact wld_set ha rfl (fun q hq => cel_eq rfl rfl (up2_f hq))
            refine W.eq (g2 := F0 m pc ls (.int v :: .int i :: .ref (base + a) :: List.map (em (adr base b aK aV aT qS)) stk)) (by show F0 m pc ls (.int v :: .int i :: .ref (adr base b aK aV aT qS a) :: List.map (em (adr base b aK aV aT qS)) stk) = _; rw [adr_0 (Nat.lt_of_lt_of_le ha hr.2.2.2.1)]) ?_
            exact va_zast hx hb hE.1 hr.1 wld_D hr.2.1 a 1 hw rfl hi hd (fun H1 locs1 h1 _ h3 => hY _ _ hf H1 locs1 k n ls ⟨by rw [← e1]; exact (show vp_nar .boolean v = v by rcases hv with rfl | rfl <;> rfl) ▸ h1, h3, hr.2.2⟩ hl)
      | _ => exact False.elim hf
    | _ => cases v3 <;> exact False.elim hf
  | _ => cases v2 <;> cases v3 <;> exact False.elim hf

end P6
