/-! the instructions of numbers, jumps and places -/
section P5
variable {yT : Nat → MethodName} {wT : Nat → List Cond} {mcT msT : Nat → List Value → Nat} {cc : ByteArray} {own : String} {nL : Nat} {ini : Bool} {ret : Option FieldType} {pc : Nat}
theorem snd_bad : Snd yT wT mcT msT cc own nL ini ret pc oBad := by
  intro p l e R s m args below meth c D cy base b aK aV aT qS X mc ms d Qm Y QV CP hF hR hE hB hX hY hQ hC L stk h hf H locs k n ls hr hl
  obtain ⟨hx, hb, hml, hown, hts, hin⟩ := hF
  exact False.elim hf
theorem snd_iload_n {k0 : Fin 4} {i : Nat} (hd : decode cc pc = .ok (.iload_n k0, 1)) (hi : (k0 : Nat) = i) : Snd yT wT mcT msT cc own nL ini ret pc (oLdI i (pc + 1)) := by
  intro p l e R s m args below meth c D cy base b aK aV aT qS X mc ms d Qm Y QV CP hF hR hE hB hX hY hQ hC L stk h hf H locs k n ls hr hl
  obtain ⟨hx, hb, hml, hown, hts, hin⟩ := hF
  have hf : Fst X mcT msT Y QV CP h (match lkp L i with | some (.int x) => nxt (pc + 1, L, .int x :: stk) h | _ => none) := hf
  generalize e : lkp L i = q at hf
  rcases q with _ | v
  · exact False.elim hf
  have hl2 := lkp_has hl e
  cases v <;> first | exact False.elim hf | exact lv_iload_n hx hb hd hi hl2 (hY _ _ hf H locs k n ls hr hl)

theorem snd_iload {i : Nat} (hd : decode cc pc = .ok (.iload i, 2)) : Snd yT wT mcT msT cc own nL ini ret pc (oLdI i (pc + 2)) := by
  intro p l e R s m args below meth c D cy base b aK aV aT qS X mc ms d Qm Y QV CP hF hR hE hB hX hY hQ hC L stk h hf H locs k n ls hr hl
  obtain ⟨hx, hb, hml, hown, hts, hin⟩ := hF
  have hf : Fst X mcT msT Y QV CP h (match lkp L i with | some (.int x) => nxt (pc + 2, L, .int x :: stk) h | _ => none) := hf
  generalize e : lkp L i = q at hf
  rcases q with _ | v
  · exact False.elim hf
  have hl2 := lkp_has hl e
  cases v <;> first | exact False.elim hf | exact lv_iload hx hb hd hl2 (hY _ _ hf H locs k n ls hr hl)

theorem snd_lload_n {k0 : Fin 4} {i : Nat} (hd : decode cc pc = .ok (.lload_n k0, 1)) (hi : (k0 : Nat) = i) : Snd yT wT mcT msT cc own nL ini ret pc (oLdL i (pc + 1)) := by
  intro p l e R s m args below meth c D cy base b aK aV aT qS X mc ms d Qm Y QV CP hF hR hE hB hX hY hQ hC L stk h hf H locs k n ls hr hl
  obtain ⟨hx, hb, hml, hown, hts, hin⟩ := hF
  have hf : Fst X mcT msT Y QV CP h (match lkp L i with | some (.long x) => nxt (pc + 1, L, .long x :: stk) h | _ => none) := hf
  generalize e : lkp L i = q at hf
  rcases q with _ | v
  · exact False.elim hf
  have hl2 := lkp_has hl e
  cases v <;> first | exact False.elim hf | exact lv_lload_n hx hb hd hi hl2 (hY _ _ hf H locs k n ls hr hl)

theorem snd_lload {i : Nat} (hd : decode cc pc = .ok (.lload i, 2)) : Snd yT wT mcT msT cc own nL ini ret pc (oLdL i (pc + 2)) := by
  intro p l e R s m args below meth c D cy base b aK aV aT qS X mc ms d Qm Y QV CP hF hR hE hB hX hY hQ hC L stk h hf H locs k n ls hr hl
  obtain ⟨hx, hb, hml, hown, hts, hin⟩ := hF
  have hf : Fst X mcT msT Y QV CP h (match lkp L i with | some (.long x) => nxt (pc + 2, L, .long x :: stk) h | _ => none) := hf
  generalize e : lkp L i = q at hf
  rcases q with _ | v
  · exact False.elim hf
  have hl2 := lkp_has hl e
  cases v <;> first | exact False.elim hf | exact lv_lload hx hb hd hl2 (hY _ _ hf H locs k n ls hr hl)

theorem snd_aload_n {k0 : Fin 4} {i : Nat} (hd : decode cc pc = .ok (.aload_n k0, 1)) (hi : (k0 : Nat) = i) : Snd yT wT mcT msT cc own nL ini ret pc (oLdA i (pc + 1)) := by
  intro p l e R s m args below meth c D cy base b aK aV aT qS X mc ms d Qm Y QV CP hF hR hE hB hX hY hQ hC L stk h hf H locs k n ls hr hl
  obtain ⟨hx, hb, hml, hown, hts, hin⟩ := hF
  have hf : Fst X mcT msT Y QV CP h (match lkp L i with | some (.ref x) => nxt (pc + 1, L, .ref x :: stk) h | _ => none) := hf
  generalize e : lkp L i = q at hf
  rcases q with _ | v
  · exact False.elim hf
  have hl2 := lkp_has hl e
  cases v <;> first | exact False.elim hf | exact lv_aload_n hx hb hd hi hl2 (hY _ _ hf H locs k n ls hr hl)

theorem snd_aload {i : Nat} (hd : decode cc pc = .ok (.aload i, 2)) : Snd yT wT mcT msT cc own nL ini ret pc (oLdA i (pc + 2)) := by
  intro p l e R s m args below meth c D cy base b aK aV aT qS X mc ms d Qm Y QV CP hF hR hE hB hX hY hQ hC L stk h hf H locs k n ls hr hl
  obtain ⟨hx, hb, hml, hown, hts, hin⟩ := hF
  have hf : Fst X mcT msT Y QV CP h (match lkp L i with | some (.ref x) => nxt (pc + 2, L, .ref x :: stk) h | _ => none) := hf
  generalize e : lkp L i = q at hf
  rcases q with _ | v
  · exact False.elim hf
  have hl2 := lkp_has hl e
  cases v <;> first | exact False.elim hf | exact lv_aload hx hb hd hl2 (hY _ _ hf H locs k n ls hr hl)

theorem snd_iconst {z : Int} {v : Int32} (hd : decode cc pc = .ok (.iconst z, 1)) (hv : Int32.ofInt z = v) : Snd yT wT mcT msT cc own nL ini ret pc (oI v (pc + 1)) := by
  intro p l e R s m args below meth c D cy base b aK aV aT qS X mc ms d Qm Y QV CP hF hR hE hB hX hY hQ hC L stk h hf H locs k n ls hr hl
  obtain ⟨hx, hb, hml, hown, hts, hin⟩ := hF
  exact lv_iconst hx hb hd hv (hY _ _ hf H locs k n ls hr hl)

theorem snd_bipush {z : Int} {v : Int32} (hd : decode cc pc = .ok (.bipush z, 2)) (hv : (Int8.ofInt z).toInt32 = v) : Snd yT wT mcT msT cc own nL ini ret pc (oI v (pc + 2)) := by
  intro p l e R s m args below meth c D cy base b aK aV aT qS X mc ms d Qm Y QV CP hF hR hE hB hX hY hQ hC L stk h hf H locs k n ls hr hl
  obtain ⟨hx, hb, hml, hown, hts, hin⟩ := hF
  exact lv_bipush hx hb hd hv (hY _ _ hf H locs k n ls hr hl)

theorem snd_sipush {z : Int} {v : Int32} (hd : decode cc pc = .ok (.sipush z, 3)) (hv : (Int16.ofInt z).toInt32 = v) : Snd yT wT mcT msT cc own nL ini ret pc (oI v (pc + 3)) := by
  intro p l e R s m args below meth c D cy base b aK aV aT qS X mc ms d Qm Y QV CP hF hR hE hB hX hY hQ hC L stk h hf H locs k n ls hr hl
  obtain ⟨hx, hb, hml, hown, hts, hin⟩ := hF
  exact lv_sipush hx hb hd hv (hY _ _ hf H locs k n ls hr hl)

theorem snd_ldc {i : Nat} {v : Int32} (hd : decode cc pc = .ok (.ldc i, 2)) (hm : Cond.constant own i v ∈ allW) : Snd yT wT mcT msT cc own nL ini ret pc (oI v (pc + 2)) := by
  intro p l e R s m args below meth c D cy base b aK aV aT qS X mc ms d Qm Y QV CP hF hR hE hB hX hY hQ hC L stk h hf H locs k n ls hr hl
  obtain ⟨hx, hb, hml, hown, hts, hin⟩ := hF
  exact lv_ldc hx hb hown (hts _ hm) hd (hY _ _ hf H locs k n ls hr hl)

theorem snd_ldcw {i : Nat} {v : Int32} (hd : decode cc pc = .ok (.ldc_w i, 3)) (hm : Cond.constant own i v ∈ allW) : Snd yT wT mcT msT cc own nL ini ret pc (oI v (pc + 3)) := by
  intro p l e R s m args below meth c D cy base b aK aV aT qS X mc ms d Qm Y QV CP hF hR hE hB hX hY hQ hC L stk h hf H locs k n ls hr hl
  obtain ⟨hx, hb, hml, hown, hts, hin⟩ := hF
  exact lv_ldcw hx hb hown (hts _ hm) hd (hY _ _ hf H locs k n ls hr hl)

theorem snd_ldc2 {i : Nat} {v : Int64} (hd : decode cc pc = .ok (.ldc2_w i, 3)) (hm : Cond.constantLong own i v ∈ allW) : Snd yT wT mcT msT cc own nL ini ret pc (oJ v (pc + 3)) := by
  intro p l e R s m args below meth c D cy base b aK aV aT qS X mc ms d Qm Y QV CP hF hR hE hB hX hY hQ hC L stk h hf H locs k n ls hr hl
  obtain ⟨hx, hb, hml, hown, hts, hin⟩ := hF
  exact lv_ldc2 hx hb hown (hts _ hm) hd (hY _ _ hf H locs k n ls hr hl)

theorem snd_lconst {z : Fin 2} {v : Int64} (hd : decode cc pc = .ok (.lconst z, 1)) (hv : Int64.ofNat (z : Nat) = v) : Snd yT wT mcT msT cc own nL ini ret pc (oJ v (pc + 1)) := by
  intro p l e R s m args below meth c D cy base b aK aV aT qS X mc ms d Qm Y QV CP hF hR hE hB hX hY hQ hC L stk h hf H locs k n ls hr hl
  obtain ⟨hx, hb, hml, hown, hts, hin⟩ := hF
  exact lv_lconst hx hb hd hv (hY _ _ hf H locs k n ls hr hl)

theorem snd_istore_n {k0 : Fin 4} {i : Nat} (hd : decode cc pc = .ok (.istore_n k0, 1)) (hi : (k0 : Nat) = i) (hn : i < nL) : Snd yT wT mcT msT cc own nL ini ret pc (oStI i (pc + 1)) := by
  intro p l e R s m args below meth c D cy base b aK aV aT qS X mc ms d Qm Y QV CP hF hR hE hB hX hY hQ hC L stk h hf H locs k n ls hr hl
  obtain ⟨hx, hb, hml, hown, hts, hin⟩ := hF
  rcases stk with _ | ⟨v1, stk⟩
  · exact False.elim hf
  cases v1 with
  | int x =>
    have hf : Fst X mcT msT Y QV CP h (match clr L i with | true => nxt (pc + 1, upl L i (.int x), stk) h | false => none) := by
      cases e : clr L i with
      | false => exact absurd hf (by dsimp only [oStI]; rw [e]; exact fun z => z)
      | true => have hf2 := hf; dsimp only [oStI] at hf2; rw [e] at hf2; exact hf2
    cases e : clr L i with
    | false => rw [e] at hf; exact False.elim hf
    | true =>
      rw [e] at hf
      exact lv_istore_n hx hb hd hi hl hn rfl (fun ls2 hl2 => hY _ _ hf H locs k n ls2 hr (lv_less hl2 (upl_sub e)))
  | _ => exact False.elim hf

theorem snd_istore {i : Nat} (hd : decode cc pc = .ok (.istore i, 2)) (hn : i < nL) : Snd yT wT mcT msT cc own nL ini ret pc (oStI i (pc + 2)) := by
  intro p l e R s m args below meth c D cy base b aK aV aT qS X mc ms d Qm Y QV CP hF hR hE hB hX hY hQ hC L stk h hf H locs k n ls hr hl
  obtain ⟨hx, hb, hml, hown, hts, hin⟩ := hF
  rcases stk with _ | ⟨v1, stk⟩
  · exact False.elim hf
  cases v1 with
  | int x =>
    have hf : Fst X mcT msT Y QV CP h (match clr L i with | true => nxt (pc + 2, upl L i (.int x), stk) h | false => none) := by
      cases e : clr L i with
      | false => exact absurd hf (by dsimp only [oStI]; rw [e]; exact fun z => z)
      | true => have hf2 := hf; dsimp only [oStI] at hf2; rw [e] at hf2; exact hf2
    cases e : clr L i with
    | false => rw [e] at hf; exact False.elim hf
    | true =>
      rw [e] at hf
      exact lv_istore hx hb hd hl hn rfl (fun ls2 hl2 => hY _ _ hf H locs k n ls2 hr (lv_less hl2 (upl_sub e)))
  | _ => exact False.elim hf

theorem snd_astore_n {k0 : Fin 4} {i : Nat} (hd : decode cc pc = .ok (.astore_n k0, 1)) (hi : (k0 : Nat) = i) (hn : i < nL) : Snd yT wT mcT msT cc own nL ini ret pc (oStA i (pc + 1)) := by
  intro p l e R s m args below meth c D cy base b aK aV aT qS X mc ms d Qm Y QV CP hF hR hE hB hX hY hQ hC L stk h hf H locs k n ls hr hl
  obtain ⟨hx, hb, hml, hown, hts, hin⟩ := hF
  rcases stk with _ | ⟨v1, stk⟩
  · exact False.elim hf
  cases v1 with
  | ref x =>
    have hf : Fst X mcT msT Y QV CP h (match clr L i with | true => nxt (pc + 1, upl L i (.ref x), stk) h | false => none) := by
      cases e : clr L i with
      | false => exact absurd hf (by dsimp only [oStA]; rw [e]; exact fun z => z)
      | true => have hf2 := hf; dsimp only [oStA] at hf2; rw [e] at hf2; exact hf2
    cases e : clr L i with
    | false => rw [e] at hf; exact False.elim hf
    | true =>
      rw [e] at hf
      exact lv_astore_n hx hb hd hi hl hn rfl (fun ls2 hl2 => hY _ _ hf H locs k n ls2 hr (lv_less hl2 (upl_sub e)))
  | _ => exact False.elim hf

theorem snd_astore {i : Nat} (hd : decode cc pc = .ok (.astore i, 2)) (hn : i < nL) : Snd yT wT mcT msT cc own nL ini ret pc (oStA i (pc + 2)) := by
  intro p l e R s m args below meth c D cy base b aK aV aT qS X mc ms d Qm Y QV CP hF hR hE hB hX hY hQ hC L stk h hf H locs k n ls hr hl
  obtain ⟨hx, hb, hml, hown, hts, hin⟩ := hF
  rcases stk with _ | ⟨v1, stk⟩
  · exact False.elim hf
  cases v1 with
  | ref x =>
    have hf : Fst X mcT msT Y QV CP h (match clr L i with | true => nxt (pc + 2, upl L i (.ref x), stk) h | false => none) := by
      cases e : clr L i with
      | false => exact absurd hf (by dsimp only [oStA]; rw [e]; exact fun z => z)
      | true => have hf2 := hf; dsimp only [oStA] at hf2; rw [e] at hf2; exact hf2
    cases e : clr L i with
    | false => rw [e] at hf; exact False.elim hf
    | true =>
      rw [e] at hf
      exact lv_astore hx hb hd hl hn rfl (fun ls2 hl2 => hY _ _ hf H locs k n ls2 hr (lv_less hl2 (upl_sub e)))
  | _ => exact False.elim hf

theorem snd_iinc {i : Nat} {z : Int} {v : Int32} (hd : decode cc pc = .ok (.iinc i z, 3)) (hv : Int32.ofInt z = v) (hn : i < nL) : Snd yT wT mcT msT cc own nL ini ret pc (oInc i v (pc + 3)) := by
  intro p l e R s m args below meth c D cy base b aK aV aT qS X mc ms d Qm Y QV CP hF hR hE hB hX hY hQ hC L stk h hf H locs k n ls hr hl
  obtain ⟨hx, hb, hml, hown, hts, hin⟩ := hF
  have hf : ∃ x, lkp L i = some (.int x) ∧ clr L i = true ∧ Y (pc + 3, upl L i (.int (x + v)), stk) h := by
    have hf2 := hf
    dsimp only [oInc] at hf2
    generalize e : lkp L i = q at hf2
    rcases q with _ | w
    · exact False.elim hf2
    cases w <;> first | exact False.elim hf2 | skip
    cases e2 : clr L i with
    | false => rw [e2] at hf2; exact False.elim hf2
    | true => rw [e2] at hf2; exact ⟨_, rfl, rfl, hf2⟩
  obtain ⟨x, e, e2, hf⟩ := hf
  obtain ⟨k9, hk9⟩ := List.getElem?_of_mem (lkp_in e)
  have hk8 : (emL (adr base b aK aV aT qS) L)[k9]? = some (i, .int x) := by rw [List.getElem?_map, hk9]; rfl
  exact lv_iinc hx hb hd hl hk8 (v := x + v) (by rw [hv]) hn rfl (fun ls2 hl2 => hY _ _ hf H locs k n ls2 hr (lv_less hl2 (upl_sub e2)))

theorem snd_iadd (hd : decode cc pc = .ok (.iadd, 1)) : Snd yT wT mcT msT cc own nL ini ret pc (o2 (fun x y => x + y) (pc + 1)) := by
  intro p l e R s m args below meth c D cy base b aK aV aT qS X mc ms d Qm Y QV CP hF hR hE hB hX hY hQ hC L stk h hf H locs k n ls hr hl
  obtain ⟨hx, hb, hml, hown, hts, hin⟩ := hF
  rcases stk with _ | ⟨v1, _ | ⟨v2, stk⟩⟩
  · exact False.elim hf
  · cases v1 <;> exact False.elim hf
  cases v1 <;> cases v2 <;> first | exact False.elim hf | exact lv_iadd hx hb hd (hY _ _ hf H locs k n ls hr hl)

theorem snd_isub (hd : decode cc pc = .ok (.isub, 1)) : Snd yT wT mcT msT cc own nL ini ret pc (o2 (fun x y => x - y) (pc + 1)) := by
  intro p l e R s m args below meth c D cy base b aK aV aT qS X mc ms d Qm Y QV CP hF hR hE hB hX hY hQ hC L stk h hf H locs k n ls hr hl
  obtain ⟨hx, hb, hml, hown, hts, hin⟩ := hF
  rcases stk with _ | ⟨v1, _ | ⟨v2, stk⟩⟩
  · exact False.elim hf
  · cases v1 <;> exact False.elim hf
  cases v1 <;> cases v2 <;> first | exact False.elim hf | exact lv_isub hx hb hd (hY _ _ hf H locs k n ls hr hl)

theorem snd_imul (hd : decode cc pc = .ok (.imul, 1)) : Snd yT wT mcT msT cc own nL ini ret pc (o2 (fun x y => x * y) (pc + 1)) := by
  intro p l e R s m args below meth c D cy base b aK aV aT qS X mc ms d Qm Y QV CP hF hR hE hB hX hY hQ hC L stk h hf H locs k n ls hr hl
  obtain ⟨hx, hb, hml, hown, hts, hin⟩ := hF
  rcases stk with _ | ⟨v1, _ | ⟨v2, stk⟩⟩
  · exact False.elim hf
  · cases v1 <;> exact False.elim hf
  cases v1 <;> cases v2 <;> first | exact False.elim hf | exact lv_imul hx hb hd (hY _ _ hf H locs k n ls hr hl)

theorem snd_iand (hd : decode cc pc = .ok (.iand, 1)) : Snd yT wT mcT msT cc own nL ini ret pc (o2 (fun x y => x &&& y) (pc + 1)) := by
  intro p l e R s m args below meth c D cy base b aK aV aT qS X mc ms d Qm Y QV CP hF hR hE hB hX hY hQ hC L stk h hf H locs k n ls hr hl
  obtain ⟨hx, hb, hml, hown, hts, hin⟩ := hF
  rcases stk with _ | ⟨v1, _ | ⟨v2, stk⟩⟩
  · exact False.elim hf
  · cases v1 <;> exact False.elim hf
  cases v1 <;> cases v2 <;> first | exact False.elim hf | exact lv_iand hx hb hd (hY _ _ hf H locs k n ls hr hl)

theorem snd_ior (hd : decode cc pc = .ok (.ior, 1)) : Snd yT wT mcT msT cc own nL ini ret pc (o2 (fun x y => x ||| y) (pc + 1)) := by
  intro p l e R s m args below meth c D cy base b aK aV aT qS X mc ms d Qm Y QV CP hF hR hE hB hX hY hQ hC L stk h hf H locs k n ls hr hl
  obtain ⟨hx, hb, hml, hown, hts, hin⟩ := hF
  rcases stk with _ | ⟨v1, _ | ⟨v2, stk⟩⟩
  · exact False.elim hf
  · cases v1 <;> exact False.elim hf
  cases v1 <;> cases v2 <;> first | exact False.elim hf | exact lv_ior hx hb hd (hY _ _ hf H locs k n ls hr hl)

theorem snd_ixor (hd : decode cc pc = .ok (.ixor, 1)) : Snd yT wT mcT msT cc own nL ini ret pc (o2 (fun x y => x ^^^ y) (pc + 1)) := by
  intro p l e R s m args below meth c D cy base b aK aV aT qS X mc ms d Qm Y QV CP hF hR hE hB hX hY hQ hC L stk h hf H locs k n ls hr hl
  obtain ⟨hx, hb, hml, hown, hts, hin⟩ := hF
  rcases stk with _ | ⟨v1, _ | ⟨v2, stk⟩⟩
  · exact False.elim hf
  · cases v1 <;> exact False.elim hf
  cases v1 <;> cases v2 <;> first | exact False.elim hf | exact lv_ixor hx hb hd (hY _ _ hf H locs k n ls hr hl)

theorem snd_ishl (hd : decode cc pc = .ok (.ishl, 1)) : Snd yT wT mcT msT cc own nL ini ret pc (o2 (fun x y => x <<< (y &&& 31)) (pc + 1)) := by
  intro p l e R s m args below meth c D cy base b aK aV aT qS X mc ms d Qm Y QV CP hF hR hE hB hX hY hQ hC L stk h hf H locs k n ls hr hl
  obtain ⟨hx, hb, hml, hown, hts, hin⟩ := hF
  rcases stk with _ | ⟨v1, _ | ⟨v2, stk⟩⟩
  · exact False.elim hf
  · cases v1 <;> exact False.elim hf
  cases v1 <;> cases v2 <;> first | exact False.elim hf | exact lv_ishl hx hb hd (hY _ _ hf H locs k n ls hr hl)

theorem snd_ishr (hd : decode cc pc = .ok (.ishr, 1)) : Snd yT wT mcT msT cc own nL ini ret pc (o2 (fun x y => x >>> (y &&& 31)) (pc + 1)) := by
  intro p l e R s m args below meth c D cy base b aK aV aT qS X mc ms d Qm Y QV CP hF hR hE hB hX hY hQ hC L stk h hf H locs k n ls hr hl
  obtain ⟨hx, hb, hml, hown, hts, hin⟩ := hF
  rcases stk with _ | ⟨v1, _ | ⟨v2, stk⟩⟩
  · exact False.elim hf
  · cases v1 <;> exact False.elim hf
  cases v1 <;> cases v2 <;> first | exact False.elim hf | exact lv_ishr hx hb hd (hY _ _ hf H locs k n ls hr hl)

theorem snd_iushr (hd : decode cc pc = .ok (.iushr, 1)) : Snd yT wT mcT msT cc own nL ini ret pc (o2 (fun x y => (x.toUInt32 >>> (y.toUInt32 &&& Int32.toUInt32 31)).toInt32) (pc + 1)) := by
  intro p l e R s m args below meth c D cy base b aK aV aT qS X mc ms d Qm Y QV CP hF hR hE hB hX hY hQ hC L stk h hf H locs k n ls hr hl
  obtain ⟨hx, hb, hml, hown, hts, hin⟩ := hF
  rcases stk with _ | ⟨v1, _ | ⟨v2, stk⟩⟩
  · exact False.elim hf
  · cases v1 <;> exact False.elim hf
  cases v1 <;> cases v2 <;> first | exact False.elim hf | exact lv_iushr hx hb hd rfl (hY _ _ hf H locs k n ls hr hl)

theorem snd_idiv (hd : decode cc pc = .ok (.idiv, 1)) : Snd yT wT mcT msT cc own nL ini ret pc (oDiv (pc + 1)) := by
  intro p l e R s m args below meth c D cy base b aK aV aT qS X mc ms d Qm Y QV CP hF hR hE hB hX hY hQ hC L stk h hf H locs k n ls hr hl
  obtain ⟨hx, hb, hml, hown, hts, hin⟩ := hF
  rcases stk with _ | ⟨v1, _ | ⟨v2, stk⟩⟩
  · exact False.elim hf
  · cases v1 <;> exact False.elim hf
  cases v1 with
  | int y =>
    cases v2 with
    | int x =>
      have hf : Fst X mcT msT Y QV CP h (if y = 0 then none else nxt (pc + 1, L, .int (x / y) :: stk) h) := hf
      by_cases hy : y = 0
      · rw [if_pos hy] at hf; exact False.elim hf
      · rw [if_neg hy] at hf; exact lv_idiv hx hb hd hy (hY _ _ hf H locs k n ls hr hl)
    | _ => exact False.elim hf
  | _ => cases v2 <;> exact False.elim hf

theorem snd_irem (hd : decode cc pc = .ok (.irem, 1)) : Snd yT wT mcT msT cc own nL ini ret pc (oRem (pc + 1)) := by
  intro p l e R s m args below meth c D cy base b aK aV aT qS X mc ms d Qm Y QV CP hF hR hE hB hX hY hQ hC L stk h hf H locs k n ls hr hl
  obtain ⟨hx, hb, hml, hown, hts, hin⟩ := hF
  rcases stk with _ | ⟨v1, _ | ⟨v2, stk⟩⟩
  · exact False.elim hf
  · cases v1 <;> exact False.elim hf
  cases v1 with
  | int y =>
    cases v2 with
    | int x =>
      have hf : Fst X mcT msT Y QV CP h (if y = 0 then none else nxt (pc + 1, L, .int (x - x / y * y) :: stk) h) := hf
      by_cases hy : y = 0
      · rw [if_pos hy] at hf; exact False.elim hf
      · rw [if_neg hy] at hf; exact lv_irem hx hb hd hy (hY _ _ hf H locs k n ls hr hl)
    | _ => exact False.elim hf
  | _ => cases v2 <;> exact False.elim hf

theorem snd_i2l (hd : decode cc pc = .ok (.i2l, 1)) : Snd yT wT mcT msT cc own nL ini ret pc (oI2l (pc + 1)) := by
  intro p l e R s m args below meth c D cy base b aK aV aT qS X mc ms d Qm Y QV CP hF hR hE hB hX hY hQ hC L stk h hf H locs k n ls hr hl
  obtain ⟨hx, hb, hml, hown, hts, hin⟩ := hF
  rcases stk with _ | ⟨v1, stk⟩
  · exact False.elim hf
  cases v1 <;> first | exact False.elim hf | exact lv_i2l hx hb hd rfl (hY _ _ hf H locs k n ls hr hl)

theorem snd_l2i (hd : decode cc pc = .ok (.l2i, 1)) : Snd yT wT mcT msT cc own nL ini ret pc (oL2i (pc + 1)) := by
  intro p l e R s m args below meth c D cy base b aK aV aT qS X mc ms d Qm Y QV CP hF hR hE hB hX hY hQ hC L stk h hf H locs k n ls hr hl
  obtain ⟨hx, hb, hml, hown, hts, hin⟩ := hF
  rcases stk with _ | ⟨v1, stk⟩
  · exact False.elim hf
  cases v1 <;> first | exact False.elim hf | exact lv_l2i hx hb hd rfl (hY _ _ hf H locs k n ls hr hl)

theorem snd_i2c (hd : decode cc pc = .ok (.i2c, 1)) : Snd yT wT mcT msT cc own nL ini ret pc (oI2c (pc + 1)) := by
  intro p l e R s m args below meth c D cy base b aK aV aT qS X mc ms d Qm Y QV CP hF hR hE hB hX hY hQ hC L stk h hf H locs k n ls hr hl
  obtain ⟨hx, hb, hml, hown, hts, hin⟩ := hF
  rcases stk with _ | ⟨v1, stk⟩
  · exact False.elim hf
  cases v1 <;> first | exact False.elim hf | exact lv_i2c hx hb hd rfl (hY _ _ hf H locs k n ls hr hl)

theorem snd_land (hd : decode cc pc = .ok (.land, 1)) : Snd yT wT mcT msT cc own nL ini ret pc (oL2 (fun x y => x &&& y) (pc + 1)) := by
  intro p l e R s m args below meth c D cy base b aK aV aT qS X mc ms d Qm Y QV CP hF hR hE hB hX hY hQ hC L stk h hf H locs k n ls hr hl
  obtain ⟨hx, hb, hml, hown, hts, hin⟩ := hF
  rcases stk with _ | ⟨v1, _ | ⟨v2, stk⟩⟩
  · exact False.elim hf
  · cases v1 <;> exact False.elim hf
  cases v1 <;> cases v2 <;> first | exact False.elim hf | exact lv_land hx hb hd (hY _ _ hf H locs k n ls hr hl)

theorem snd_lor (hd : decode cc pc = .ok (.lor, 1)) : Snd yT wT mcT msT cc own nL ini ret pc (oL2 (fun x y => x ||| y) (pc + 1)) := by
  intro p l e R s m args below meth c D cy base b aK aV aT qS X mc ms d Qm Y QV CP hF hR hE hB hX hY hQ hC L stk h hf H locs k n ls hr hl
  obtain ⟨hx, hb, hml, hown, hts, hin⟩ := hF
  rcases stk with _ | ⟨v1, _ | ⟨v2, stk⟩⟩
  · exact False.elim hf
  · cases v1 <;> exact False.elim hf
  cases v1 <;> cases v2 <;> first | exact False.elim hf | exact lv_lor hx hb hd (hY _ _ hf H locs k n ls hr hl)

theorem snd_lshl (hd : decode cc pc = .ok (.lshl, 1)) : Snd yT wT mcT msT cc own nL ini ret pc (oLs (fun x y => x <<< (y.toInt64 &&& 63)) (pc + 1)) := by
  intro p l e R s m args below meth c D cy base b aK aV aT qS X mc ms d Qm Y QV CP hF hR hE hB hX hY hQ hC L stk h hf H locs k n ls hr hl
  obtain ⟨hx, hb, hml, hown, hts, hin⟩ := hF
  rcases stk with _ | ⟨v1, _ | ⟨v2, stk⟩⟩
  · exact False.elim hf
  · cases v1 <;> exact False.elim hf
  cases v1 <;> cases v2 <;> first | exact False.elim hf | exact lv_lshl hx hb hd rfl (hY _ _ hf H locs k n ls hr hl)

theorem snd_lshr (hd : decode cc pc = .ok (.lshr, 1)) : Snd yT wT mcT msT cc own nL ini ret pc (oLs (fun x y => x >>> (y.toInt64 &&& 63)) (pc + 1)) := by
  intro p l e R s m args below meth c D cy base b aK aV aT qS X mc ms d Qm Y QV CP hF hR hE hB hX hY hQ hC L stk h hf H locs k n ls hr hl
  obtain ⟨hx, hb, hml, hown, hts, hin⟩ := hF
  rcases stk with _ | ⟨v1, _ | ⟨v2, stk⟩⟩
  · exact False.elim hf
  · cases v1 <;> exact False.elim hf
  cases v1 <;> cases v2 <;> first | exact False.elim hf | exact lv_lshr hx hb hd rfl (hY _ _ hf H locs k n ls hr hl)

theorem snd_lcmp (hd : decode cc pc = .ok (.lcmp, 1)) : Snd yT wT mcT msT cc own nL ini ret pc (oLcmp (pc + 1)) := by
  intro p l e R s m args below meth c D cy base b aK aV aT qS X mc ms d Qm Y QV CP hF hR hE hB hX hY hQ hC L stk h hf H locs k n ls hr hl
  obtain ⟨hx, hb, hml, hown, hts, hin⟩ := hF
  rcases stk with _ | ⟨v1, _ | ⟨v2, stk⟩⟩
  · exact False.elim hf
  · cases v1 <;> exact False.elim hf
  cases v1 <;> cases v2 <;> first | exact False.elim hf | exact W.lcmp hx hb hd (hY _ _ hf H locs k n ls hr hl)

theorem snd_dup (hd : decode cc pc = .ok (.dup, 1)) : Snd yT wT mcT msT cc own nL ini ret pc (oDup (pc + 1)) := by
  intro p l e R s m args below meth c D cy base b aK aV aT qS X mc ms d Qm Y QV CP hF hR hE hB hX hY hQ hC L stk h hf H locs k n ls hr hl
  obtain ⟨hx, hb, hml, hown, hts, hin⟩ := hF
  rcases stk with _ | ⟨v1, stk⟩
  · exact False.elim hf
  cases v1 <;> first | exact False.elim hf | exact lv_dup hx hb hd rfl (hY _ _ hf H locs k n ls hr hl)

theorem snd_pop (hd : decode cc pc = .ok (.pop, 1)) : Snd yT wT mcT msT cc own nL ini ret pc (oPop (pc + 1)) := by
  intro p l e R s m args below meth c D cy base b aK aV aT qS X mc ms d Qm Y QV CP hF hR hE hB hX hY hQ hC L stk h hf H locs k n ls hr hl
  obtain ⟨hx, hb, hml, hown, hts, hin⟩ := hF
  rcases stk with _ | ⟨v1, stk⟩
  · exact False.elim hf
  cases v1 <;> first | exact False.elim hf | exact lv_pop hx hb hd rfl (hY _ _ hf H locs k n ls hr hl)

theorem snd_dup2 (hd : decode cc pc = .ok (.dup2, 1)) : Snd yT wT mcT msT cc own nL ini ret pc (oDup2 (pc + 1)) := by
  intro p l e R s m args below meth c D cy base b aK aV aT qS X mc ms d Qm Y QV CP hF hR hE hB hX hY hQ hC L stk h hf H locs k n ls hr hl
  obtain ⟨hx, hb, hml, hown, hts, hin⟩ := hF
  rcases stk with _ | ⟨v1, _ | ⟨v2, stk⟩⟩
  · exact False.elim hf
  · cases v1 <;> exact False.elim hf
  cases v1 <;> cases v2 <;> first | exact False.elim hf | exact lv_dup2_11 hx hb hd rfl rfl (hY _ _ hf H locs k n ls hr hl)

theorem snd_dupx (hd : decode cc pc = .ok (.dup_x1, 1)) : Snd yT wT mcT msT cc own nL ini ret pc (oDupX (pc + 1)) := by
  intro p l e R s m args below meth c D cy base b aK aV aT qS X mc ms d Qm Y QV CP hF hR hE hB hX hY hQ hC L stk h hf H locs k n ls hr hl
  obtain ⟨hx, hb, hml, hown, hts, hin⟩ := hF
  rcases stk with _ | ⟨v1, _ | ⟨v2, stk⟩⟩
  · exact False.elim hf
  · cases v1 <;> exact False.elim hf
  cases v1 <;> cases v2 <;> first | exact False.elim hf | exact lv_dup_x1 hx hb hd rfl rfl (hY _ _ hf H locs k n ls hr hl)

theorem snd_goto {off : Int} {t : Nat} (hd : decode cc pc = .ok (.goto off, 3)) (ht : (pc : Int) + off = (t : Int)) : Snd yT wT mcT msT cc own nL ini ret pc (oGo t) := by
  intro p l e R s m args below meth c D cy base b aK aV aT qS X mc ms d Qm Y QV CP hF hR hE hB hX hY hQ hC L stk h hf H locs k n ls hr hl
  obtain ⟨hx, hb, hml, hown, hts, hin⟩ := hF
  exact lv_goto hx hb hd ht (hY _ _ hf H locs k n ls hr hl)

theorem snd_ifeq {off : Int} {t : Nat} (hd : decode cc pc = .ok (.ifCond .eq off, 3)) (ht : (pc : Int) + off = (t : Int)) : Snd yT wT mcT msT cc own nL ini ret pc (oEq t (pc + 3)) := by
  intro p l e R s m args below meth c D cy base b aK aV aT qS X mc ms d Qm Y QV CP hF hR hE hB hX hY hQ hC L stk h hf H locs k n ls hr hl
  obtain ⟨hx, hb, hml, hown, hts, hin⟩ := hF
  rcases stk with _ | ⟨v1, stk⟩
  · exact False.elim hf
  cases v1 with
  | int x =>
    have hf : Fst X mcT msT Y QV CP h (if x = 0 then nxt (t, L, stk) h else nxt (pc + 3, L, stk) h) := hf
    exact lv_if_eq hx hb hd ht (fun q => by rw [if_pos q] at hf; exact hY _ _ hf H locs k n ls hr hl) (fun q => by rw [if_neg q] at hf; exact hY _ _ hf H locs k n ls hr hl)
  | _ => exact False.elim hf

theorem snd_ifne {off : Int} {t : Nat} (hd : decode cc pc = .ok (.ifCond .ne off, 3)) (ht : (pc : Int) + off = (t : Int)) : Snd yT wT mcT msT cc own nL ini ret pc (oNe t (pc + 3)) := by
  intro p l e R s m args below meth c D cy base b aK aV aT qS X mc ms d Qm Y QV CP hF hR hE hB hX hY hQ hC L stk h hf H locs k n ls hr hl
  obtain ⟨hx, hb, hml, hown, hts, hin⟩ := hF
  rcases stk with _ | ⟨v1, stk⟩
  · exact False.elim hf
  cases v1 with
  | int x =>
    have hf : Fst X mcT msT Y QV CP h (if x = 0 then nxt (pc + 3, L, stk) h else nxt (t, L, stk) h) := hf
    exact lv_if_ne hx hb hd ht (fun q => by rw [if_neg q] at hf; exact hY _ _ hf H locs k n ls hr hl) (fun q => by rw [if_pos q] at hf; exact hY _ _ hf H locs k n ls hr hl)
  | _ => exact False.elim hf

theorem snd_iflt {off : Int} {t : Nat} (hd : decode cc pc = .ok (.ifCond .lt off, 3)) (ht : (pc : Int) + off = (t : Int)) : Snd yT wT mcT msT cc own nL ini ret pc (oLt t (pc + 3)) := by
  intro p l e R s m args below meth c D cy base b aK aV aT qS X mc ms d Qm Y QV CP hF hR hE hB hX hY hQ hC L stk h hf H locs k n ls hr hl
  obtain ⟨hx, hb, hml, hown, hts, hin⟩ := hF
  rcases stk with _ | ⟨v1, stk⟩
  · exact False.elim hf
  cases v1 with
  | int x =>
    have hf : Fst X mcT msT Y QV CP h (if x < 0 then nxt (t, L, stk) h else nxt (pc + 3, L, stk) h) := hf
    exact lv_if_lt hx hb hd ht (fun q => by rw [if_pos q] at hf; exact hY _ _ hf H locs k n ls hr hl) (fun q => by rw [if_neg q] at hf; exact hY _ _ hf H locs k n ls hr hl)
  | _ => exact False.elim hf

theorem snd_ifge {off : Int} {t : Nat} (hd : decode cc pc = .ok (.ifCond .ge off, 3)) (ht : (pc : Int) + off = (t : Int)) : Snd yT wT mcT msT cc own nL ini ret pc (oGe t (pc + 3)) := by
  intro p l e R s m args below meth c D cy base b aK aV aT qS X mc ms d Qm Y QV CP hF hR hE hB hX hY hQ hC L stk h hf H locs k n ls hr hl
  obtain ⟨hx, hb, hml, hown, hts, hin⟩ := hF
  rcases stk with _ | ⟨v1, stk⟩
  · exact False.elim hf
  cases v1 with
  | int x =>
    have hf : Fst X mcT msT Y QV CP h (if 0 ≤ x then nxt (t, L, stk) h else nxt (pc + 3, L, stk) h) := hf
    exact lv_if_ge hx hb hd ht (fun q => by rw [if_pos q] at hf; exact hY _ _ hf H locs k n ls hr hl) (fun q => by rw [if_neg q] at hf; exact hY _ _ hf H locs k n ls hr hl)
  | _ => exact False.elim hf

theorem snd_ifgt {off : Int} {t : Nat} (hd : decode cc pc = .ok (.ifCond .gt off, 3)) (ht : (pc : Int) + off = (t : Int)) : Snd yT wT mcT msT cc own nL ini ret pc (oGt t (pc + 3)) := by
  intro p l e R s m args below meth c D cy base b aK aV aT qS X mc ms d Qm Y QV CP hF hR hE hB hX hY hQ hC L stk h hf H locs k n ls hr hl
  obtain ⟨hx, hb, hml, hown, hts, hin⟩ := hF
  rcases stk with _ | ⟨v1, stk⟩
  · exact False.elim hf
  cases v1 with
  | int x =>
    have hf : Fst X mcT msT Y QV CP h (if 0 < x then nxt (t, L, stk) h else nxt (pc + 3, L, stk) h) := hf
    exact lv_if_gt hx hb hd ht (fun q => by rw [if_pos q] at hf; exact hY _ _ hf H locs k n ls hr hl) (fun q => by rw [if_neg q] at hf; exact hY _ _ hf H locs k n ls hr hl)
  | _ => exact False.elim hf

theorem snd_ifle {off : Int} {t : Nat} (hd : decode cc pc = .ok (.ifCond .le off, 3)) (ht : (pc : Int) + off = (t : Int)) : Snd yT wT mcT msT cc own nL ini ret pc (oLe t (pc + 3)) := by
  intro p l e R s m args below meth c D cy base b aK aV aT qS X mc ms d Qm Y QV CP hF hR hE hB hX hY hQ hC L stk h hf H locs k n ls hr hl
  obtain ⟨hx, hb, hml, hown, hts, hin⟩ := hF
  rcases stk with _ | ⟨v1, stk⟩
  · exact False.elim hf
  cases v1 with
  | int x =>
    have hf : Fst X mcT msT Y QV CP h (if x ≤ 0 then nxt (t, L, stk) h else nxt (pc + 3, L, stk) h) := hf
    exact lv_if_le hx hb hd ht (fun q => by rw [if_pos q] at hf; exact hY _ _ hf H locs k n ls hr hl) (fun q => by rw [if_neg q] at hf; exact hY _ _ hf H locs k n ls hr hl)
  | _ => exact False.elim hf

theorem snd_iceq {off : Int} {t : Nat} (hd : decode cc pc = .ok (.if_icmp .eq off, 3)) (ht : (pc : Int) + off = (t : Int)) : Snd yT wT mcT msT cc own nL ini ret pc (oCEq t (pc + 3)) := by
  intro p l e R s m args below meth c D cy base b aK aV aT qS X mc ms d Qm Y QV CP hF hR hE hB hX hY hQ hC L stk h hf H locs k n ls hr hl
  obtain ⟨hx, hb, hml, hown, hts, hin⟩ := hF
  rcases stk with _ | ⟨v1, _ | ⟨v2, stk⟩⟩
  · exact False.elim hf
  · cases v1 <;> exact False.elim hf
  cases v1 with
  | int y =>
    cases v2 with
    | int x =>
      have hf : Fst X mcT msT Y QV CP h (if x = y then nxt (t, L, stk) h else nxt (pc + 3, L, stk) h) := hf
      exact lv_icmp_eq hx hb hd ht (fun q => by rw [if_pos q] at hf; exact hY _ _ hf H locs k n ls hr hl) (fun q => by rw [if_neg q] at hf; exact hY _ _ hf H locs k n ls hr hl)
    | _ => exact False.elim hf
  | _ => cases v2 <;> exact False.elim hf

theorem snd_icne {off : Int} {t : Nat} (hd : decode cc pc = .ok (.if_icmp .ne off, 3)) (ht : (pc : Int) + off = (t : Int)) : Snd yT wT mcT msT cc own nL ini ret pc (oCNe t (pc + 3)) := by
  intro p l e R s m args below meth c D cy base b aK aV aT qS X mc ms d Qm Y QV CP hF hR hE hB hX hY hQ hC L stk h hf H locs k n ls hr hl
  obtain ⟨hx, hb, hml, hown, hts, hin⟩ := hF
  rcases stk with _ | ⟨v1, _ | ⟨v2, stk⟩⟩
  · exact False.elim hf
  · cases v1 <;> exact False.elim hf
  cases v1 with
  | int y =>
    cases v2 with
    | int x =>
      have hf : Fst X mcT msT Y QV CP h (if x = y then nxt (pc + 3, L, stk) h else nxt (t, L, stk) h) := hf
      exact lv_icmp_ne hx hb hd ht (fun q => by rw [if_neg q] at hf; exact hY _ _ hf H locs k n ls hr hl) (fun q => by rw [if_pos q] at hf; exact hY _ _ hf H locs k n ls hr hl)
    | _ => exact False.elim hf
  | _ => cases v2 <;> exact False.elim hf

theorem snd_iclt {off : Int} {t : Nat} (hd : decode cc pc = .ok (.if_icmp .lt off, 3)) (ht : (pc : Int) + off = (t : Int)) : Snd yT wT mcT msT cc own nL ini ret pc (oCLt t (pc + 3)) := by
  intro p l e R s m args below meth c D cy base b aK aV aT qS X mc ms d Qm Y QV CP hF hR hE hB hX hY hQ hC L stk h hf H locs k n ls hr hl
  obtain ⟨hx, hb, hml, hown, hts, hin⟩ := hF
  rcases stk with _ | ⟨v1, _ | ⟨v2, stk⟩⟩
  · exact False.elim hf
  · cases v1 <;> exact False.elim hf
  cases v1 with
  | int y =>
    cases v2 with
    | int x =>
      have hf : Fst X mcT msT Y QV CP h (if x < y then nxt (t, L, stk) h else nxt (pc + 3, L, stk) h) := hf
      exact lv_icmp_lt hx hb hd ht (fun q => by rw [if_pos q] at hf; exact hY _ _ hf H locs k n ls hr hl) (fun q => by rw [if_neg q] at hf; exact hY _ _ hf H locs k n ls hr hl)
    | _ => exact False.elim hf
  | _ => cases v2 <;> exact False.elim hf

theorem snd_icge {off : Int} {t : Nat} (hd : decode cc pc = .ok (.if_icmp .ge off, 3)) (ht : (pc : Int) + off = (t : Int)) : Snd yT wT mcT msT cc own nL ini ret pc (oCGe t (pc + 3)) := by
  intro p l e R s m args below meth c D cy base b aK aV aT qS X mc ms d Qm Y QV CP hF hR hE hB hX hY hQ hC L stk h hf H locs k n ls hr hl
  obtain ⟨hx, hb, hml, hown, hts, hin⟩ := hF
  rcases stk with _ | ⟨v1, _ | ⟨v2, stk⟩⟩
  · exact False.elim hf
  · cases v1 <;> exact False.elim hf
  cases v1 with
  | int y =>
    cases v2 with
    | int x =>
      have hf : Fst X mcT msT Y QV CP h (if y ≤ x then nxt (t, L, stk) h else nxt (pc + 3, L, stk) h) := hf
      exact lv_icmp_ge hx hb hd ht (fun q => by rw [if_pos q] at hf; exact hY _ _ hf H locs k n ls hr hl) (fun q => by rw [if_neg q] at hf; exact hY _ _ hf H locs k n ls hr hl)
    | _ => exact False.elim hf
  | _ => cases v2 <;> exact False.elim hf

theorem snd_icgt {off : Int} {t : Nat} (hd : decode cc pc = .ok (.if_icmp .gt off, 3)) (ht : (pc : Int) + off = (t : Int)) : Snd yT wT mcT msT cc own nL ini ret pc (oCGt t (pc + 3)) := by
  intro p l e R s m args below meth c D cy base b aK aV aT qS X mc ms d Qm Y QV CP hF hR hE hB hX hY hQ hC L stk h hf H locs k n ls hr hl
  obtain ⟨hx, hb, hml, hown, hts, hin⟩ := hF
  rcases stk with _ | ⟨v1, _ | ⟨v2, stk⟩⟩
  · exact False.elim hf
  · cases v1 <;> exact False.elim hf
  cases v1 with
  | int y =>
    cases v2 with
    | int x =>
      have hf : Fst X mcT msT Y QV CP h (if y < x then nxt (t, L, stk) h else nxt (pc + 3, L, stk) h) := hf
      exact lv_icmp_gt hx hb hd ht (fun q => by rw [if_pos q] at hf; exact hY _ _ hf H locs k n ls hr hl) (fun q => by rw [if_neg q] at hf; exact hY _ _ hf H locs k n ls hr hl)
    | _ => exact False.elim hf
  | _ => cases v2 <;> exact False.elim hf

theorem snd_icle {off : Int} {t : Nat} (hd : decode cc pc = .ok (.if_icmp .le off, 3)) (ht : (pc : Int) + off = (t : Int)) : Snd yT wT mcT msT cc own nL ini ret pc (oCLe t (pc + 3)) := by
  intro p l e R s m args below meth c D cy base b aK aV aT qS X mc ms d Qm Y QV CP hF hR hE hB hX hY hQ hC L stk h hf H locs k n ls hr hl
  obtain ⟨hx, hb, hml, hown, hts, hin⟩ := hF
  rcases stk with _ | ⟨v1, _ | ⟨v2, stk⟩⟩
  · exact False.elim hf
  · cases v1 <;> exact False.elim hf
  cases v1 with
  | int y =>
    cases v2 with
    | int x =>
      have hf : Fst X mcT msT Y QV CP h (if x ≤ y then nxt (t, L, stk) h else nxt (pc + 3, L, stk) h) := hf
      exact lv_icmp_le hx hb hd ht (fun q => by rw [if_pos q] at hf; exact hY _ _ hf H locs k n ls hr hl) (fun q => by rw [if_neg q] at hf; exact hY _ _ hf H locs k n ls hr hl)
    | _ => exact False.elim hf
  | _ => cases v2 <;> exact False.elim hf

theorem snd_table {dflt lo hi : Int} {offs : Array Int} {len t : Nat} {ts : List Nat} (hd : decode cc pc = .ok (.tableswitch dflt lo hi offs, len)) (ht : (pc : Int) + dflt = (t : Int)) (hts0 : offs.toList.map (fun o => (pc : Int) + o) = ts.map (fun (x : Nat) => (x : Int))) (hlen : (hi - lo + 1).toNat = ts.length) : Snd yT wT mcT msT cc own nL ini ret pc (oTab lo hi ts t) := by
  intro p l e R s m args below meth c D cy base b aK aV aT qS X mc ms d Qm Y QV CP hF hR hE hB hX hY hQ hC L stk h hf H locs k n ls hr hl
  obtain ⟨hx, hb, hml, hown, hts, hin⟩ := hF
  rcases stk with _ | ⟨v1, stk⟩
  · exact False.elim hf
  cases v1 with
  | int x =>
    have hf : Fst X mcT msT Y QV CP h (if x.toInt < lo ∨ hi < x.toInt then nxt (t, L, stk) h else nxt (ts.getD (x.toInt - lo).toNat 0, L, stk) h) := hf
    by_cases hc : x.toInt < lo ∨ hi < x.toInt
    · rw [if_pos hc] at hf
      exact lv_tableOut hx hb hd hc ht (hY _ _ hf H locs k n ls hr hl)
    · rw [if_neg hc] at hf
      have h1 : ¬ x.toInt < lo := fun q => hc (Or.inl q)
      have h2 : ¬ hi < x.toInt := fun q => hc (Or.inr q)
      have hlt : (x.toInt - lo).toNat < ts.length := by omega
      have hlt2 : (x.toInt - lo).toNat < offs.size := by
        have h9 := congrArg List.length hts0
        simp only [List.length_map, Array.length_toList] at h9
        omega
      have h3 : offs[(x.toInt - lo).toNat]? = some offs[(x.toInt - lo).toNat] := Array.getElem?_eq_getElem hlt2
      have h4 : (pc : Int) + offs[(x.toInt - lo).toNat] = ((ts.getD (x.toInt - lo).toNat 0 : Nat) : Int) := by
        have h9 := congrArg (fun l => l[(x.toInt - lo).toNat]?) hts0
        simp only [List.getElem?_map, Array.getElem?_toList, h3, Option.map_some] at h9
        rw [List.getElem?_eq_getElem hlt] at h9
        rw [List.getD_eq_getElem?_getD, List.getElem?_eq_getElem hlt]
        exact Option.some.inj h9
      exact lv_tableIn hx hb hd h1 h2 h3 h4 (hY _ _ hf H locs k n ls hr hl)
  | _ => exact False.elim hf

end P5
