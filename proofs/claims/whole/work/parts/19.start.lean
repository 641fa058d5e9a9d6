/-! THE CLAIM OUT OF ONE WALK OF THE LAW'S BODY. Your part is whole_start (and what it stands on); all else here is the same for every law, but numbers. -/
def R_law : String := "PennyPostLaw"
def lw_P (b : Addr) (xs : List Int32) (args : Array Value) (s : State) : Prop := args = #[.ref b] ∧ s.IntsAt b xs ∧ xs.length ≤ 4096 ∧ (Jvm.Cond.and given_1 narrow_1).before args s = true
def lw_Q (_ : Array Value) (s : State) (o : Outcome) (t : State) : Prop := o = .returned (some (.int 1)) ∧ Framed s o t [] 600000 7302250
def lw_Z (below : List Frame) (a : Array Value) (s : State) : State → Prop := fun t => ∃ o, t.status = .running ∧ Ended t below o ∧ lw_Q a s o t
/-- the law's own end, with 1 on the stack, nothing written that was there before, its room as the claim has it -/
theorem lw_ret {p : Program} {l : Launch} {e : Env} {s : State} {m : MethodId} {below : List Frame} {meth : Method} {c : Code} {b : Nat} (hx : p.tables.exec = Jvm.exec) (hb : c.code = code) (hr : meth.sig.returnType = ret) (hlocks : meth.locks = false) {pc : Nat} {H : Heap} {ls : Array Slot} (hdg : decode code pc = .ok (.ireturn, 1)) : W p l e room_1 s m #[Value.ref b] below meth c H [] 600000 7302250 (lw_Z below #[Value.ref b] s) (F0 m pc ls [.int 1]) := by
  intro T hT X
  obtain ⟨fs, hret, hrun, hended, hW, hframe⟩ := X.leave (v := some (.int 1)) (hlocks := hlocks) (fun h => by rw [hr] at h; cases h)
  have hmeth' : T.vm.method? m = some meth := X.method'
  refine ⟨T.setFrames fs, ?_, .returned (some (.int 1)), hrun, hended, rfl, ⟨_, rfl⟩, hW, hframe⟩
  jvm_step X.here [X.here.top, hx, hb, hdg, hmeth', hr, ret, narrow_b1]
  (try refine ⟨rfl, ?_⟩); (try refine ⟨rfl, ?_⟩)
  first | (intro acts; rw [hret _ acts rfl rfl rfl]) | rw [hret _ _ rfl rfl rfl]
  exact Steps.refl _
/-- what holds at the law's entry: the machine, the code, the tables' words (any of lw_tbl by 'hts w (by decide +kernel)'), the script of L ints xs at the cell b, what the Statement gives of the start (any of its parts by flat_of_before) -/
def lw_At (p : Program) (s : State) (m : MethodId) (meth : Method) (c : Code) (b L : Nat) (xs : Nat → Int32) : Prop :=
  p.tables.exec = Jvm.exec ∧ c.code = code ∧ meth.sig.returnType = ret ∧ c.maxLocals = 4 ∧ s.vm.findClass R_law = some m.cls ∧ (∀ w ∈ lw_tbl, w.before #[Value.ref b] s = true) ∧ va_X b L xs s s.heap ∧ b < s.heap.size ∧ meth.locks = false ∧ (Jvm.Cond.and given_1 narrow_1).before #[Value.ref b] s = true
theorem ao_3 : Cond.arrayOver (.object "PennyPost$Act") ∈ lw_tbl := List.mem_append_right _ (List.mem_of_getElem? (i := 132) (by decide +kernel))
theorem ao_4 : Cond.arrayOver (.object "PennyPost$Letter") ∈ lw_tbl := List.mem_append_right _ (List.mem_of_getElem? (i := 177) (by decide +kernel))
theorem sr_0 : Cond.stringRef "PennyPost$Text" 71 "to" ∈ lw_tbl := List.mem_append_right _ (List.mem_of_getElem? (i := 557) (by decide +kernel))
theorem sr_1 : Cond.stringRef "PennyPost$Text" 73 "over" ∈ lw_tbl := List.mem_append_right _ (List.mem_of_getElem? (i := 610) (by decide +kernel))
theorem sr_2 : Cond.stringRef "PennyPost$Text" 75 "weigh" ∈ lw_tbl := List.mem_append_right _ (List.mem_of_getElem? (i := 611) (by decide +kernel))
theorem sr_3 : Cond.stringRef "PennyPost$Text" 77 "free" ∈ lw_tbl := List.mem_append_right _ (List.mem_of_getElem? (i := 612) (by decide +kernel))
theorem sr_4 : Cond.stringRef "PennyPost$Text" 79 "ahead" ∈ lw_tbl := List.mem_append_right _ (List.mem_of_getElem? (i := 613) (by decide +kernel))
theorem sr_5 : Cond.stringRef "PennyPost$Text" 81 "least" ∈ lw_tbl := List.mem_append_right _ (List.mem_of_getElem? (i := 614) (by decide +kernel))
theorem sr_6 : Cond.stringRef "PennyPost$Text" 61 "pay" ∈ lw_tbl := List.mem_append_right _ (List.mem_of_getElem? (i := 624) (by decide +kernel))
theorem ne_0 : (Jvm.Cond.methodLinkNest "PennyPost" (15 : Nat) ({ cls := "PennyPost$Land", name := "<init>", desc := "()V" } : Jvm.MethodName) "PennyPost") ∈ lw_tbl := List.mem_append_right _ (List.mem_of_getElem? (i := 31) (by decide +kernel))
theorem ne_1 : (Jvm.Cond.methodLinkNest "PennyPost" (22 : Nat) ({ cls := "PennyPost$Text", name := "<init>", desc := "()V" } : Jvm.MethodName) "PennyPost") ∈ lw_tbl := List.mem_append_right _ (List.mem_of_getElem? (i := 91) (by decide +kernel))
theorem ne_2 : (Jvm.Cond.methodLinkNest "PennyPost$Offices" (17 : Nat) ({ cls := "PennyPost$Act", name := "<init>", desc := "()V" } : Jvm.MethodName) "PennyPost") ∈ lw_tbl := List.mem_append_right _ (List.mem_of_getElem? (i := 134) (by decide +kernel))
theorem ne_3 : (Jvm.Cond.methodLinkNest "PennyPost$Mail" (41 : Nat) ({ cls := "PennyPost$Letter", name := "<init>", desc := "()V" } : Jvm.MethodName) "PennyPost") ∈ lw_tbl := List.mem_append_right _ (List.mem_of_getElem? (i := 180) (by decide +kernel))
theorem ne_4 : (Jvm.Cond.methodLinkNest "PennyPost" (54 : Nat) ({ cls := "PennyPost$Street", name := "<init>", desc := "()V" } : Jvm.MethodName) "PennyPost") ∈ lw_tbl := List.mem_append_right _ (List.mem_of_getElem? (i := 349) (by decide +kernel))
theorem ne_5 : (Jvm.Cond.methodLinkNest "PennyPost$Text" (57 : Nat) ({ cls := "PennyPost", name := "within", desc := "(III)Z" } : Jvm.MethodName) "PennyPost") ∈ lw_tbl := List.mem_append_right _ (List.mem_of_getElem? (i := 623) (by decide +kernel))
theorem ne_6 : (Jvm.Cond.methodLinkNest "PennyPost$Mail" (46 : Nat) ({ cls := "PennyPost", name := "dayOf", desc := "(I)I" } : Jvm.MethodName) "PennyPost") ∈ lw_tbl := List.mem_append_right _ (List.mem_of_getElem? (i := 713) (by decide +kernel))
theorem ne_7 : (Jvm.Cond.methodLinkNest "PennyPost$Mail" (115 : Nat) ({ cls := "PennyPost", name := "weekOf", desc := "(I)I" } : Jvm.MethodName) "PennyPost") ∈ lw_tbl := List.mem_append_right _ (List.mem_of_getElem? (i := 747) (by decide +kernel))
theorem ly_0 : (Jvm.Cond.laysStatic "java/lang/String" "COMPACT_STRINGS" "Z") ∈ lw_tbl := List.mem_append_right _ (List.mem_of_getElem? (i := 571) (by decide +kernel))
theorem li_0 : (Jvm.Cond.initialized "java/lang/String") ∈ lw_tbl := List.mem_append_right _ (List.mem_of_getElem? (i := 15) (by decide +kernel))
theorem ly_1 : (Jvm.Cond.laysStatic "jdk/internal/util/Preconditions" "SIOOBE_FORMATTER" "Ljava/util/function/BiFunction;") ∈ lw_tbl := List.mem_append_right _ (List.mem_of_getElem? (i := 587) (by decide +kernel))
theorem li_1 : (Jvm.Cond.initialized "jdk/internal/util/Preconditions") ∈ lw_tbl := List.mem_append_right _ (List.mem_of_getElem? (i := 17) (by decide +kernel))
theorem ly_2 : (Jvm.Cond.laysStatic "PennyPost$Text" "LEAST_NUMBER" "[I") ∈ lw_tbl := List.mem_append_right _ (List.mem_of_getElem? (i := 620) (by decide +kernel))
theorem li_2 : (Jvm.Cond.initialized "PennyPost$Text") ∈ lw_tbl := List.mem_append_right _ (List.mem_of_getElem? (i := 5) (by decide +kernel))
theorem ly_3 : (Jvm.Cond.laysStatic "PennyPost$Text" "MOST_NUMBER" "[I") ∈ lw_tbl := List.mem_append_right _ (List.mem_of_getElem? (i := 622) (by decide +kernel))
theorem li_3 : (Jvm.Cond.initialized "PennyPost$Text") ∈ lw_tbl := List.mem_append_right _ (List.mem_of_getElem? (i := 5) (by decide +kernel))
theorem ly_4 : (Jvm.Cond.laysStatic "PennyPost" "LEAST_RULE" "[I") ∈ lw_tbl := List.mem_append_right _ (List.mem_of_getElem? (i := 831) (by decide +kernel))
theorem li_4 : (Jvm.Cond.initialized "PennyPost") ∈ lw_tbl := List.mem_append_right _ (List.mem_of_getElem? (i := 1) (by decide +kernel))
theorem ly_5 : (Jvm.Cond.laysStatic "PennyPost" "MOST_RULE" "[I") ∈ lw_tbl := List.mem_append_right _ (List.mem_of_getElem? (i := 833) (by decide +kernel))
theorem li_5 : (Jvm.Cond.initialized "PennyPost") ∈ lw_tbl := List.mem_append_right _ (List.mem_of_getElem? (i := 1) (by decide +kernel))
def strX : List Nat := [71, 73, 75, 77, 79, 81, 61]
abbrev strM (i : Nat) : Term := Term.string "PennyPost$Text" (strX.getD i 0)
theorem fl_ex : ∀ i, i < 7 → Cond.exactly (strM i) "java/lang/String" ∈ flatC (Jvm.Cond.and given_1 narrow_1) := by decide +kernel
theorem fl_co : ∀ i, i < 7 → Cond.eq (.field (strM i) "java/lang/String" "coder" "B") (.int 0) ∈ flatC (Jvm.Cond.and given_1 narrow_1) := by decide +kernel
theorem fl_ar : ∀ i, i < 7 → Cond.arrayOf (.field (strM i) "java/lang/String" "value" "[B") .byte ∈ flatC (Jvm.Cond.and given_1 narrow_1) := by decide +kernel
theorem fl_le : ∀ i, i < 7 → Cond.eq (.length (.field (strM i) "java/lang/String" "value" "[B")) (.int (Int32.ofNat (strN.getD i 0))) ∈ flatC (Jvm.Cond.and given_1 narrow_1) := by decide +kernel
theorem fl_el : ∀ i, i < 7 → ∀ j, j < strN.getD i 0 → Cond.eq (.elem (.field (strM i) "java/lang/String" "value" "[B") (.int (Int32.ofNat j))) (.int ((strB.getD i []).getD j 0)) ∈ flatC (Jvm.Cond.and given_1 narrow_1) := by decide +kernel
theorem fl_ne : ∀ i, i < 7 → ∀ j, j < 7 → i ≠ j → (Cond.not (Cond.eq (strM i) (strM j)) ∈ flatC (Jvm.Cond.and given_1 narrow_1) ∨ Cond.not (Cond.eq (strM j) (strM i)) ∈ flatC (Jvm.Cond.and given_1 narrow_1)) := by decide +kernel
theorem fl_cs : Cond.eq (.static "java/lang/String" "COMPACT_STRINGS" "Z") (.int 1) ∈ flatC (Jvm.Cond.and given_1 narrow_1) := by decide +kernel
theorem fl_fm : Cond.isRef (.static "jdk/internal/util/Preconditions" "SIOOBE_FORMATTER" "Ljava/util/function/BiFunction;") ∈ flatC (Jvm.Cond.and given_1 narrow_1) := by decide +kernel
abbrev tabM (k : Nat) : Term := Term.static (tabL.getD k ("", "")).1 (tabL.getD k ("", "")).2 "[I"
theorem fl_ta : ∀ k, k < 4 → Cond.arrayOf (tabM k) .int ∈ flatC (Jvm.Cond.and given_1 narrow_1) := by decide +kernel
theorem fl_tl : ∀ k, k < 4 → Cond.eq (.length (tabM k)) (.int (Int32.ofNat (tabN.getD k 0))) ∈ flatC (Jvm.Cond.and given_1 narrow_1) := by decide +kernel
theorem fl_te : ∀ k, k < 4 → ∀ j, j < tabN.getD k 0 → Cond.eq (.elem (tabM k) (.int (Int32.ofNat j))) (.int ((tabB.getD k []).getD j 0)) ∈ flatC (Jvm.Cond.and given_1 narrow_1) := by decide +kernel
theorem cl_inst {ci : Nat} (h : ci < 12) : Cond.instantiable (clC ci) (clN ci) ∈ allW := lt12 (P := fun ci => Cond.instantiable (clC ci) (clN ci) ∈ allW) ⟨w_133, w_36, w_30, w_179, w_171, w_377, w_126, w_348, w_90, w_310, w_22, w_1036⟩ h
theorem ao_K {s : State} {C : String} {args : Array Value} (h : (Cond.arrayOver (.object C)).before args s = true) : ∃ cA, ArrOfT s cA (.object C) ∧ va_RA s cA (.object C) := by
  obtain ⟨comp, c, k, h1, h2, h3, h4, h5⟩ := Cond.arrayOver_spec h
  exact ⟨c, fun n z => ⟨fun k h => (by cases h), k, h3, comp, h4⟩, k, comp, h3, h4, h1, h5⟩
theorem ai_K {s : State} {args : Array Value} (h : (Cond.arrayClass .int).before args s = true) : ∃ cA, ArrOfT s cA .int ∧ va_RA s cA .int := by
  obtain ⟨c, k, comp, h1, h2, h3⟩ := Cond.arrayClass_spec h
  exact ⟨c, fun n z => ⟨fun k h => (by cases h), k, h2, comp, h3⟩, h1⟩
theorem az_K {s : State} {args : Array Value} (h : (Cond.arrayClass .boolean).before args s = true) : ∃ cA, ArrOfT s cA .boolean ∧ va_RA s cA .boolean := by
  obtain ⟨c, k, comp, h1, h2, h3⟩ := Cond.arrayClass_spec h
  exact ⟨c, fun n z => ⟨fun k h => (by cases h), k, h2, comp, h3⟩, h1⟩
theorem ev_start {s : State} {b : Nat} (hts : ∀ w ∈ lw_tbl, w.before #[Value.ref b] s = true) (hgv : (Jvm.Cond.and given_1 narrow_1).before #[Value.ref b] s = true) : ∃ (D : va_G) (cy : Nat → ClassId) (aK aV aT : Nat → Nat) (qS : Nat), EvS D cy s.heap.size aK aV aT qS s s.heap := by
  have hW : ∀ w ∈ allW, w.before #[Value.ref b] s = true := fun w h => hts w (List.mem_filter.mp h).1
  have hA : ∀ a : Nat, a < s.heap.size → ¬ (fun q : Nat => s.heap.size ≤ q) a := fun a h => Nat.not_le.mpr h
  have hs := flat_of_before _ hgv
  have hk : ∀ ci : Nat, ∃ x : ClassId × (Nat → Nat), ci < 12 → u_Kn s (clC ci) (clT ci) (clN ci) x.1 x.2 := by
    intro ci
    by_cases h : ci < 12
    · obtain ⟨cC, iS, hh⟩ := u_known hW (cl_in h) (hW _ (cl_inst h))
      exact ⟨(cC, iS), fun _ => hh⟩
    · exact ⟨(0, fun _ => 0), fun q => absurd q h⟩
  obtain ⟨fD, hD⟩ := Classical.axiomOfChoice hk
  obtain ⟨c0, q0, r0⟩ := ai_K (hW _ w_56)
  obtain ⟨c1, q1, r1⟩ := az_K (hW _ w_1300)
  obtain ⟨c2, q2, r2⟩ := ao_K (hts _ ao_3)
  obtain ⟨c3, q3, r3⟩ := ao_K (hts _ ao_4)
  obtain ⟨aK, aV, hS, hev⟩ := vk_Sof (args := #[Value.ref b]) (s := s) (N := 7) (tm := strM) (len := strN) (byt := strB) (A := fun q : Nat => s.heap.size ≤ q) (by decide) (fun i hi => hs _ (fl_ex i hi)) (fun i hi => hs _ (fl_co i hi)) (fun i hi => hs _ (fl_ar i hi)) (fun i hi => hs _ (fl_le i hi)) (fun i hi j hj => hs _ (fl_el i hi j hj)) (fun i j hi hj hne => (fl_ne i hi j hj hne).elim (fun h => Or.inl (hs _ h)) (fun h => Or.inr (hs _ h))) hA
  have ht : ∀ k : Nat, ∃ t : Nat, k < 4 → (tabM k).eval #[Value.ref b] s none [] s = some (.ref t) ∧ va_T .int t (tabN.getD k 0) (fun j => .int ((tabB.getD k []).getD j 0)) (fun q : Nat => s.heap.size ≤ q) s s.heap := by
    intro k
    by_cases h : k < 4
    · obtain ⟨t, h1, h2⟩ := va_Tof (args := #[Value.ref b]) (s := s) (tm := tabM k) (ty := .int) (N := tabN.getD k 0) (f := fun j => .int ((tabB.getD k []).getD j 0)) (A := fun q : Nat => s.heap.size ≤ q) ((by decide +kernel : ∀ k, k < 4 → tabN.getD k 0 < 2 ^ 31) k h) (hs _ (fl_ta k h)) (va_eqt (hs _ (fl_tl k h))) (fun j hj => va_eqt (hs _ (fl_te k h j hj))) hA
      exact ⟨t, fun _ => ⟨h1, h2⟩⟩
    · exact ⟨0, fun q => absurd q h⟩
  obtain ⟨aT, hT⟩ := Classical.axiomOfChoice ht
  have hfm : ∃ qS : Nat, va_Z "jdk/internal/util/Preconditions" "SIOOBE_FORMATTER" "Ljava/util/function/BiFunction;" (qvl qS) (fun q : Nat => s.heap.size ≤ q) s s.heap := by
    rcases va_Zqof (A := fun q : Nat => s.heap.size ≤ q) (hts _ ly_1) (hts _ li_1) (hs _ fl_fm) hA with h | ⟨t, h⟩
    · exact ⟨0, h⟩
    · exact ⟨t + 1, h⟩
  obtain ⟨qS, hfm⟩ := hfm
  refine ⟨(fun c => (fD c).1, fun c => (fD c).2), fun k => if k = 0 then c0 else if k = 1 then c1 else if k = 2 then c2 else c3, aK, aV, aT, qS, ⟨fun c q hq => ?_, fun k q hq => ?_⟩, hS, va_Zof (hts _ ly_0) (hts _ li_0) (va_eqt (hs _ fl_cs)) hA, hfm, fun x hx => ?_, fun x hx => ?_, va_AO.of (hts _ ao_3), va_AO.of (hts _ ao_4), fun k x hx => ?_⟩
  · have hc : c < 12 := (List.getElem?_eq_some_iff.mp hq).1
    rw [cl_at hc] at hq
    cases hq
    exact hD c hc
  · match k, hq with
    | 0, hq => cases hq; exact ⟨q0, r0⟩
    | 1, hq => cases hq; exact ⟨q1, r1⟩
    | 2, hq => cases hq; exact ⟨q2, r2⟩
    | 3, hq => cases hq; exact ⟨q3, r3⟩
    | k + 4, hq => exact absurd (List.getElem?_eq_some_iff.mp hq).1 (by simp)
  · simp only [strL, List.mem_cons, List.not_mem_nil, or_false] at hx
    rcases hx with rfl | rfl | rfl | rfl | rfl | rfl | rfl
    · exact vk_R.of (hts _ sr_0) (hev 0 (by decide))
    · exact vk_R.of (hts _ sr_1) (hev 1 (by decide))
    · exact vk_R.of (hts _ sr_2) (hev 2 (by decide))
    · exact vk_R.of (hts _ sr_3) (hev 3 (by decide))
    · exact vk_R.of (hts _ sr_4) (hev 4 (by decide))
    · exact vk_R.of (hts _ sr_5) (hev 5 (by decide))
    · exact vk_R.of (hts _ sr_6) (hev 6 (by decide))
  · simp only [nestL, List.mem_cons, List.not_mem_nil, or_false] at hx
    rcases hx with rfl | rfl | rfl | rfl | rfl | rfl | rfl | rfl
    · exact va_Nw.of rfl (hts _ ne_0)
    · exact va_Nw.of rfl (hts _ ne_1)
    · exact va_Nw.of rfl (hts _ ne_2)
    · exact va_Nw.of rfl (hts _ ne_3)
    · exact va_Nw.of rfl (hts _ ne_4)
    · exact va_Nw.of rfl (hts _ ne_5)
    · exact va_Nw.of rfl (hts _ ne_6)
    · exact va_Nw.of rfl (hts _ ne_7)
  · match k, hx with
    | 0, hx => cases hx; exact ⟨va_Zof (hts _ ly_2) (hts _ li_2) (hT 0 (by decide)).1 hA, (hT 0 (by decide)).2⟩
    | 1, hx => cases hx; exact ⟨va_Zof (hts _ ly_3) (hts _ li_3) (hT 1 (by decide)).1 hA, (hT 1 (by decide)).2⟩
    | 2, hx => cases hx; exact ⟨va_Zof (hts _ ly_4) (hts _ li_4) (hT 2 (by decide)).1 hA, (hT 2 (by decide)).2⟩
    | 3, hx => cases hx; exact ⟨va_Zof (hts _ ly_5) (hts _ li_5) (hT 3 (by decide)).1 hA, (hT 3 (by decide)).2⟩
    | k + 4, hx => exact absurd (List.getElem?_eq_some_iff.mp hx).1 (by simp [tabL])
/-- the empty picture -/
def h00 : Hp := ((0, 0, fun _ => (9, 0), fun _ _ => none), fun _ _ => 0)
theorem law_run {p : Program} {e : Env} {s : State} {m : MethodId} {below : List Frame} {meth : Method} {c : Code} (l : Launch) {b L : Nat} {xs : Nat → Int32} (C0 : lw_At p s m meth c b L xs) (d : Nat) (hd : d < 1000) (hw : wpS (d + 1) 228 (some (L, xs), 144, 74715) (fun v _ => v = some (.int 1)) (0, [(0, .ref 1000000)], []) h00) :
    W p l e room_1 s m #[Value.ref b] below meth c s.heap [] 0 0 (lw_Z below #[Value.ref b] s) (entryFrame m ([Value.ref b] : List Value).toArray 4) := by
  obtain ⟨hx, hb, hr0, hml, hown, hts, hX, hbl, hlocks, hgv⟩ := id C0
  obtain ⟨D, cy, aK, aV, aT, qS, hE⟩ := ev_start hts hgv
  have hW : ∀ w ∈ allW, w.before #[Value.ref b] s = true := fun w h => hts w (List.mem_filter.mp h).1
  have hl := lv_entry ([.ref b]) (n := 4) (Nat.le_of_ble_eq_true rfl)
  rw [lg_entry_eq]
  generalize (lg_sl ([.ref b]) ++ List.replicate (4 - (lg_sl ([.ref b])).length) Slot.unset).toArray = ls at hl ⊢
  refine hw (MW p l e room_1 s m #[Value.ref b] below meth c D cy s.heap.size (adr s.heap.size b aK aV aT qS) (144, 74715) 144 74715 4 (lw_Z below #[Value.ref b] s)) ?_ s.heap [] 0 0 ls ?_ hl
  · intro st h' hf
    obtain ⟨pc, L2, stk⟩ := st
    refine sndAll 228 pc p l e room_1 s m #[Value.ref b] below meth c D cy s.heap.size b aK aV aT qS (some (L, xs), 144, 74715) 144 74715 d (lw_Z below #[Value.ref b] s) _ (fun v _ => v = some (.int 1)) (fun m' as' Q' lim' h' => lim' = (kN h' + mcT m' as', kS h' + msT m' as') ∧ m' < 228 ∧ (lg_sl as').length ≤ lT m' ∧ wpS d m' (none, lim') Q' (0, lv_args 0 as', []) h') ?_ ?_ hE (Nat.le_refl _) ?_ (fun _ _ q => q) ?_ ?_ L2 stk h' (fst_cp (fun _ _ _ q => ⟨rfl, q⟩) hf)
    · exact ⟨hx, hb, hml, hown, hW, fun q => by cases q⟩
    · exact ⟨by show d + 1 ≤ 2048; omega, by show 64 * (d + 1) ≤ 84000; omega, Nat.le_of_ble_eq_true rfl, Nat.le_of_ble_eq_true rfl⟩
    · intro x hx2
      cases hx2
      exact ⟨hX, hbl⟩
    · intro v h2 hq H locs k n ls pc hr hk1 hk2 hend
      subst hq
      have e1 : k = 144 := by have := hr.2.2.2.2.1; omega
      have e2 : n = 74715 := by have := hr.2.2.2.2.2.1; omega
      refine va_forget (fun q hq => hr.2.1.2.2 q hq) ?_
      refine W.widen (k := 600000) (n := 7302250) (by omega) (by omega) ?_
      exact lw_ret hx hb hr0 hlocks hend.1
    · intro m' as' Q' lim' h2 q
      exact metAll d m' as' Q' lim' h2 q.2.1 q.2.2.1 q.1 q.2.2.2
  · exact ⟨fun k q hq => absurd (wld_get hq).1 (Nat.not_lt_zero _), va_S.rf, Nat.le_refl _, Nat.zero_le _, rfl, rfl, Nat.zero_le _, Nat.zero_le _⟩
