/-! what holds of the machine around a method: the room, the words, the world -/
def FrOK (p : Program) (s : State) (m : MethodId) (args : Array Value) (meth : Method) (c : Code) (cc : ByteArray) (own : String) (nL : Nat) (ini : Bool) : Prop :=
  p.tables.exec = Jvm.exec ∧ c.code = cc ∧ c.maxLocals = nL ∧ s.vm.findClass own = some m.cls ∧ (∀ w ∈ allW, w.before args s = true) ∧ (ini = true → meth.name = "<init>")
def RmOK (R : Room) (d mc ms : Nat) : Prop := d + 1 ≤ R.frames ∧ 64 * (d + 1) ≤ R.locals ∧ mc ≤ R.cells ∧ ms ≤ R.slots
/-- what the world holds that no call changes -/
def EvS (D : va_G) (cy : Nat → ClassId) (base : Nat) (aK aV aT : Nat → Nat) (qS : Nat) (U : State) (H : Heap) : Prop :=
  va_K D vwCl (cyT cy) U ∧ vk_S 7 strN strB aK aV (fun q => base ≤ q) U H ∧ va_Z "java/lang/String" "COMPACT_STRINGS" "Z" (.int 1) (fun q => base ≤ q) U H ∧
  va_Z "jdk/internal/util/Preconditions" "SIOOBE_FORMATTER" "Ljava/util/function/BiFunction;" (qvl qS) (fun q => base ≤ q) U H ∧
  (∀ x ∈ strL, vk_R x.1 x.2.1 x.2.2.1 (aK x.2.2.2) U) ∧ (∀ x ∈ nestL, va_Nw (.methodLinkNest x.1 x.2.1 x.2.2.1 x.2.2.2) U) ∧ va_AO RX0 U ∧ va_AO RX3 U ∧
  (∀ (k : Nat) (x : String × String), tabL[k]? = some x → va_Z x.1 x.2 "[I" (.ref (aT k)) (fun q => base ≤ q) U H ∧ va_T .int (aT k) (tabN.getD k 0) (fun j => .int ((tabB.getD k []).getD j 0)) (fun q => base ≤ q) U H)
theorem EvS.same {D : va_G} {cy : Nat → ClassId} {base : Nat} {aK aV aT : Nat → Nat} {qS : Nat} {u U : State} {H : Heap} (hv : U.vm = u.vm) (h : EvS D cy base aK aV aT qS u H) : EvS D cy base aK aV aT qS U H := by
  obtain ⟨h1, h2, h3, h4, h5, h6, h7, h8, h9⟩ := h
  have ha : u.vm.Alike U.vm := by rw [hv]; exact Vm.Alike.refl u.vm
  exact ⟨h1.moved ha, h2.moved ha, h3.moved ha, h4.moved ha, fun x hx => vk_R.same hv (h5 x hx), fun x hx => va_Nw.same rfl hv.symm (h6 x hx), h7.moved ha, h8.moved ha, fun k x hx => ⟨(h9 k x hx).1.moved ha, (h9 k x hx).2.moved ha⟩⟩
theorem EvS.warm {D : va_G} {cy : Nat → ClassId} {base : Nat} {aK aV aT : Nat → Nat} {qS : Nat} {s U : State} {H H1 : Heap} (hW : s.WarmedH U.vm) (hq : ∀ q, q < H.size → ¬ base ≤ q → H1[q]? = H[q]?) (h : EvS D cy base aK aV aT qS s H) : EvS D cy base aK aV aT qS U H1 := by
  obtain ⟨h1, h2, h3, h4, h5, h6, h7, h8, h9⟩ := h
  have ha : s.vm.Alike U.vm := hW.alike
  exact ⟨h1.moved ha, (h2.moved ha).kept hq, (h3.moved ha).kept hq, (h4.moved ha).kept hq, fun x hx => vk_R.warm hW (h5 x hx), fun x hx => va_Nw.warmM hW (h6 x hx), h7.moved ha, h8.moved ha, fun k x hx => ⟨((h9 k x hx).1.moved ha).kept hq, ((h9 k x hx).2.moved ha).kept hq⟩⟩
/-- the script -/
def ScrOK (X : Option (Nat × (Nat → Int32))) (b base : Nat) (s : State) : Prop := ∀ x, X = some x → va_X b x.1 x.2 s s.heap ∧ b < base
/-- the heap as the picture has it -/
def Rl (D : va_G) (cy : Nat → ClassId) (base : Nat) (ad : Nat → Nat) (s : State) (lim : Nat × Nat) (mc ms : Nat) (h : Hp) (H : Heap) (locs : List Loc) (k n : Nat) : Prop :=
  va_P D vwCl (wld cy base ad h) H ∧ va_S (fun q => base ≤ q) s.heap H locs ∧ s.heap.size + k ≤ base + kN h ∧ kN h ≤ 1000000 ∧ k + lim.1 = mc + kN h ∧ n + lim.2 = ms + kS h ∧ kN h ≤ lim.1 ∧ kS h ≤ lim.2
def MW (p : Program) (l : Launch) (e : Env) (R : Room) (s : State) (m : MethodId) (args : Array Value) (below : List Frame) (meth : Method) (c : Code) (D : va_G) (cy : Nat → ClassId) (base : Nat) (ad : Nat → Nat) (lim : Nat × Nat) (mc ms nL : Nat) (Qm : State → Prop) (st : IS) (h : Hp) : Prop :=
  ∀ (H : Heap) (locs : List Loc) (k n : Nat) (ls : Array Slot), Rl D cy base ad s lim mc ms h H locs k n → lv_has ls nL (emL ad st.2.1) → W p l e R s m args below meth c H locs k n Qm (F0 m st.1 ls (st.2.2.map (em ad)))
/-- an end: what the instruction is, what the kind of the answer is -/
def REnd (cc : ByteArray) (ret : Option FieldType) (pc : Nat) (v : Option Value) : Prop := match v with
  | none => decode cc pc = .ok (.return_, 1) ∧ ret = none
  | some (.int x) => decode cc pc = .ok (.ireturn, 1) ∧ ∃ ty, ret = some ty ∧ narrow ty (.int x) = .int x
  | some (.ref _) => decode cc pc = .ok (.areturn, 1) ∧ ∃ n, ret = some (.object n)
  | _ => False
def MR (p : Program) (l : Launch) (e : Env) (R : Room) (s : State) (m : MethodId) (args : Array Value) (below : List Frame) (meth : Method) (c : Code) (D : va_G) (cy : Nat → ClassId) (base : Nat) (ad : Nat → Nat) (lim : Nat × Nat) (mc ms : Nat) (cc : ByteArray) (ret : Option FieldType) (Qm : State → Prop) (v : Option Value) (h : Hp) : Prop :=
  ∀ (H : Heap) (locs : List Loc) (k n : Nat) (ls : Array Slot) (pc : Nat), Rl D cy base ad s lim mc ms h H locs k n → kN h = lim.1 → kS h = lim.2 → REnd cc ret pc v → W p l e R s m args below meth c H locs k n Qm (F0 m pc ls (v.toList.map (em ad)))
/-- what a call gives -/
def QcT (D : va_G) (cy : Nat → ClassId) (base : Nat) (ad : Nat → Nat) (Q : Option Value → Hp → Prop) (lim : Nat × Nat) : Array Value → State → Outcome → State → Prop := fun _ st oc t =>
  (∃ (v : Option Value) (h' : Hp), oc = .returned (v.map (em ad)) ∧ Q v h' ∧ va_P D vwCl (wld cy base ad h') t.heap ∧ t.heap.size = base + kN h' ∧ kN h' = lim.1 ∧ kS h' = lim.2 ∧ kN h' ≤ 1000000) ∧ va_F (fun q => base ≤ q) st t
def PcT (D : va_G) (cy : Nat → ClassId) (base : Nat) (ad : Nat → Nat) (aK aV aT : Nat → Nat) (qS : Nat) (as : List Value) (h : Hp) : Array Value → State → Prop :=
  va_Pc (as.map (em ad)) (fun U => U.heap.size = base + kN h ∧ kN h ≤ 1000000 ∧ va_P D vwCl (wld cy base ad h) U.heap ∧ EvS D cy base aK aV aT qS U U.heap)
theorem PcT.blind {D : va_G} {cy : Nat → ClassId} {base : Nat} {ad : Nat → Nat} {aK aV aT : Nat → Nat} {qS : Nat} {as : List Value} {h : Hp} : FrameBlind (PcT D cy base ad aK aV aT qS as h) := by
  intro a U g mk q
  obtain ⟨q0, q1, q2, q3, q4⟩ := q
  exact ⟨q0, q1, q2, q3, EvS.same (u := U) (U := U.calling g mk a) rfl q4⟩
theorem rl_size {p : Program} {l : Launch} {e : Env} {R : Room} {s : State} {m : MethodId} {args : Array Value} {below : List Frame} {meth : Method} {c : Code} {D : va_G} {cy : Nat → ClassId} {base : Nat} {ad : Nat → Nat} {lim : Nat × Nat} {mc ms : Nat} {h : Hp} {H : Heap} {locs : List Loc} {k n : Nat} {T : State}
    (hB : base ≤ s.heap.size) (hr : Rl D cy base ad s lim mc ms h H locs k n) (hT : T.heap = H) (X : Stand p l e R s m args below meth c T locs k n) : H.size = base + kN h := by
  obtain ⟨hP, hS, hz, -⟩ := hr
  have h1 := X.heapSize
  rw [hT] at h1
  have h2 : base + kN h ≤ H.size := by
    by_cases h0 : kN h = 0
    · have := hS.1
      omega
    · have hw := wld_at (cy := cy) (base := base) (ad := ad) (h := h) (a := kN h - 1) (by omega)
      have := (hP _ _ hw).lt
      simp only at this
      omega
  omega
/-- the size of the heap may be used -/
theorem rl_sz {p : Program} {l : Launch} {e : Env} {R : Room} {s : State} {m : MethodId} {args : Array Value} {below : List Frame} {meth : Method} {c : Code} {D : va_G} {cy : Nat → ClassId} {base : Nat} {ad : Nat → Nat} {lim : Nat × Nat} {mc ms : Nat} {h : Hp} {H : Heap} {locs : List Loc} {k n : Nat} {Qm : State → Prop} {g : JFrame}
    (hB : base ≤ s.heap.size) (hr : Rl D cy base ad s lim mc ms h H locs k n) (kk : H.size = base + kN h → W p l e R s m args below meth c H locs k n Qm g) : W p l e R s m args below meth c H locs k n Qm g := fun T hT X => kk (rl_size hB hr hT X) T hT X
abbrev rmT (d mc ms : Nat) : Room := { frames := d, cells := mc, slots := ms, locals := 64 * d }
section P4
variable {p : Program} {l : Launch} {e : Env} {R : Room} {s : State} {m : MethodId} {args : Array Value} {below : List Frame} {meth : Method} {c : Code} {H : Heap} {locs : List Loc} {k n : Nat} {Qm : State → Prop}
variable {D : va_G} {cy : Nat → ClassId} {base : Nat} {ad : Nat → Nat}
/-- behind a call -/
theorem my_call {mc ms pc : Nat} {ls : Array Slot} {st0 rest : List Value} {a : Array Value} {Q : Option Value → Hp → Prop} {lim : Nat × Nat}
    (hr : va_Run p l e R s m args below meth c H locs k n mc ms (F0 m pc ls st0) rest (QcT D cy base ad Q lim a) (fun q => base ≤ q)) (hS : va_S (fun q => base ≤ q) s.heap H locs)
    (kk : ∀ (v : Option Value) (h' : Hp) (H1 : Heap) (locs1 : List Loc), Q v h' → va_P D vwCl (wld cy base ad h') H1 → H1.size = base + kN h' → kN h' = lim.1 → kS h' = lim.2 → kN h' ≤ 1000000 → va_S (fun q => base ≤ q) s.heap H1 locs1 →
      W p l e R s m args below meth c H1 locs1 (k + mc) (n + ms) Qm (F0 m (pc + 3) ls ((v.map (em ad)).toList ++ rest))) : W p l e R s m args below meth c H locs k n Qm (F0 m pc ls st0) := by
  intro T hT X
  obtain ⟨v, st₀, t, T', L, h0, X', hL, e1, e2, ⟨⟨v', h', hv, hq, hP, hz0, hn1, hn2, hn3⟩, hz, hk⟩, st⟩ := hr T hT X
  cases hv
  rw [h0] at hz hk
  obtain ⟨t2, a1, b1⟩ := kk v' h' T'.heap (locs ++ L) hq (by rw [e1]; exact hP) (by rw [e1]; exact hz0) hn1 hn2 hn3
    ⟨Nat.le_trans hS.1 (by rw [e1]; exact hz), fun q h1 h2 => by rw [e1, hk q (Nat.lt_of_lt_of_le h1 hS.1) h2]; exact hS.2.1 q h1 h2, fun q hq => by
      rcases List.mem_append.mp hq with h | h
      · exact hS.2.2 q h
      · exact hL q h⟩ T' rfl X'
  exact ⟨t2, st t2 a1, b1⟩
end P4
/-- one step of the small machine, as the big one needs it -/
def Fst (X : CX) (mcT msT : Nat → List Value → Nat) (Y : IS → Hp → Prop) (QV : Option Value → Hp → Prop) (CP : Nat → List Value → (Option Value → Hp → Prop) → Nat × Nat → Hp → Prop) (h : Hp) : IR → Prop
  | none => False
  | some (.inl q) => Y q.1 q.2
  | some (.inr (.inl v)) => kN h = X.2.1 ∧ kS h = X.2.2 ∧ QV v h
  | some (.inr (.inr q)) => ((q.2.2.2.2.map fun v => v.category).sum ≤ 8) ∧ kN h + mcT q.1 q.2.1 ≤ X.2.1 ∧ kS h + msT q.1 q.2.1 ≤ X.2.2 ∧ CP q.1 q.2.1 (fun v h' => Y (q.2.2.1, q.2.2.2.1, v.toList ++ q.2.2.2.2) h') (kN h + mcT q.1 q.2.1, kS h + msT q.1 q.2.1) h
def Snd (yT : Nat → MethodName) (wT : Nat → List Cond) (mcT msT : Nat → List Value → Nat) (cc : ByteArray) (own : String) (nL : Nat) (ini : Bool) (ret : Option FieldType) (pc : Nat) (op : IOp) : Prop :=
  ∀ (p : Program) (l : Launch) (e : Env) (R : Room) (s : State) (m : MethodId) (args : Array Value) (below : List Frame) (meth : Method) (c : Code) (D : va_G) (cy : Nat → ClassId) (base b : Nat) (aK aV aT : Nat → Nat) (qS : Nat) (X : CX) (mc ms d : Nat) (Qm : State → Prop)
    (Y : IS → Hp → Prop) (QV : Option Value → Hp → Prop) (CP : Nat → List Value → (Option Value → Hp → Prop) → Nat × Nat → Hp → Prop),
    FrOK p s m args meth c cc own nL ini → RmOK R d mc ms → EvS D cy base aK aV aT qS s s.heap → base ≤ s.heap.size → ScrOK X.1 b base s →
    (∀ st h, Y st h → MW p l e R s m args below meth c D cy base (adr base b aK aV aT qS) X.2 mc ms nL Qm st h) →
    (∀ v h, QV v h → MR p l e R s m args below meth c D cy base (adr base b aK aV aT qS) X.2 mc ms cc ret Qm v h) →
    (∀ mid as Q lim h, CP mid as Q lim h → Met l (yT mid) (wT mid) (rmT d (mcT mid as) (msT mid as)) (PcT D cy base (adr base b aK aV aT qS) aK aV aT qS as h) (QcT D cy base (adr base b aK aV aT qS) Q lim) (mcT mid as) (msT mid as) (fun q => base ≤ q)) →
    ∀ (L : IL) (stk : List Value) (h : Hp), Fst X mcT msT Y QV CP h (op X (pc, L, stk) h) → MW p l e R s m args below meth c D cy base (adr base b aK aV aT qS) X.2 mc ms nL Qm (pc, L, stk) h
