/-! the whole program: runs of the small machine, and what they say of the big one -/
def AllM : Nat → List (List (List IOp)) → Prop
  | _, [] => True
  | m, B :: r => SndB m 0 B ∧ AllM (m + 1) r
def AllR : Nat → List (List (List (List IOp))) → Prop
  | _, [] => True
  | m, R :: r => AllM m R ∧ AllR (m + 16) r
theorem allM_at : ∀ {R : List (List (List IOp))} {m : Nat}, AllM m R → ∀ i, SndB (m + i) 0 (R.getD i []) := by
  intro R
  induction R with
  | nil => intro m _ i; exact trivial
  | cons B R ih =>
    intro m h i
    cases i with
    | zero => exact h.1
    | succ i =>
      have h2 := ih h.2 i
      rw [show m + 1 + i = m + (i + 1) by omega] at h2
      exact h2
theorem allR_at : ∀ {R : List (List (List (List IOp)))} {m : Nat}, AllR m R → ∀ i j, SndB (m + 16 * i + j) 0 ((R.getD i []).getD j []) := by
  intro R
  induction R with
  | nil => intro m _ i j; exact trivial
  | cons B R ih =>
    intro m h i j
    cases i with
    | zero => exact allM_at h.1 j
    | succ i =>
      have h2 := ih h.2 i j
      rw [show m + 16 + 16 * i + j = m + 16 * (i + 1) + j by omega] at h2
      exact h2
theorem all_0 : AllM 0 (cdL.getD 0 []) := ⟨sn_0, sn_1, sn_2, sn_3, sn_4, sn_5, sn_6, sn_7, sn_8, sn_9, sn_10, sn_11, sn_12, sn_13, sn_14, sn_15, trivial⟩
theorem all_1 : AllM 16 (cdL.getD 1 []) := ⟨sn_16, sn_17, sn_18, sn_19, sn_20, sn_21, sn_22, sn_23, sn_24, sn_25, sn_26, sn_27, sn_28, sn_29, sn_30, sn_31, trivial⟩
theorem all_2 : AllM 32 (cdL.getD 2 []) := ⟨sn_32, sn_33, sn_34, sn_35, sn_36, sn_37, sn_38, sn_39, sn_40, sn_41, sn_42, sn_43, sn_44, sn_45, sn_46, sn_47, trivial⟩
theorem all_3 : AllM 48 (cdL.getD 3 []) := ⟨sn_48, sn_49, sn_50, sn_51, sn_52, sn_53, sn_54, sn_55, sn_56, sn_57, sn_58, sn_59, sn_60, sn_61, sn_62, sn_63, trivial⟩
theorem all_4 : AllM 64 (cdL.getD 4 []) := ⟨sn_64, sn_65, sn_66, sn_67, sn_68, sn_69, sn_70, sn_71, sn_72, sn_73, sn_74, sn_75, sn_76, sn_77, sn_78, sn_79, trivial⟩
theorem all_5 : AllM 80 (cdL.getD 5 []) := ⟨sn_80, sn_81, sn_82, sn_83, sn_84, sn_85, sn_86, sn_87, sn_88, sn_89, sn_90, sn_91, sn_92, sn_93, sn_94, sn_95, trivial⟩
theorem all_6 : AllM 96 (cdL.getD 6 []) := ⟨sn_96, sn_97, sn_98, sn_99, sn_100, sn_101, sn_102, sn_103, sn_104, sn_105, sn_106, sn_107, sn_108, sn_109, sn_110, sn_111, trivial⟩
theorem all_7 : AllM 112 (cdL.getD 7 []) := ⟨sn_112, sn_113, sn_114, sn_115, sn_116, sn_117, sn_118, sn_119, sn_120, sn_121, sn_122, sn_123, sn_124, sn_125, sn_126, sn_127, trivial⟩
theorem all_8 : AllM 128 (cdL.getD 8 []) := ⟨sn_128, sn_129, sn_130, sn_131, sn_132, sn_133, sn_134, sn_135, sn_136, sn_137, sn_138, sn_139, sn_140, sn_141, sn_142, sn_143, trivial⟩
theorem all_9 : AllM 144 (cdL.getD 9 []) := ⟨sn_144, sn_145, sn_146, sn_147, sn_148, sn_149, sn_150, sn_151, sn_152, sn_153, sn_154, sn_155, sn_156, sn_157, sn_158, sn_159, trivial⟩
theorem all_10 : AllM 160 (cdL.getD 10 []) := ⟨sn_160, sn_161, sn_162, sn_163, sn_164, sn_165, sn_166, sn_167, sn_168, sn_169, sn_170, sn_171, sn_172, sn_173, sn_174, sn_175, trivial⟩
theorem all_11 : AllM 176 (cdL.getD 11 []) := ⟨sn_176, sn_177, sn_178, sn_179, sn_180, sn_181, sn_182, sn_183, sn_184, sn_185, sn_186, sn_187, sn_188, sn_189, sn_190, sn_191, trivial⟩
theorem all_12 : AllM 192 (cdL.getD 12 []) := ⟨sn_192, sn_193, sn_194, sn_195, sn_196, sn_197, sn_198, sn_199, sn_200, sn_201, sn_202, sn_203, sn_204, sn_205, sn_206, sn_207, trivial⟩
theorem all_13 : AllM 208 (cdL.getD 13 []) := ⟨sn_208, sn_209, sn_210, sn_211, sn_212, sn_213, sn_214, sn_215, sn_216, sn_217, sn_218, sn_219, sn_220, sn_221, sn_222, sn_223, trivial⟩
theorem all_14 : AllM 224 (cdL.getD 14 []) := ⟨sn_224, sn_225, sn_226, sn_227, sn_228, trivial⟩
theorem all_rows : AllR 0 cdL := ⟨all_0, all_1, all_2, all_3, all_4, all_5, all_6, all_7, all_8, all_9, all_10, all_11, all_12, all_13, all_14, trivial⟩
theorem sndAll (mid pc : Nat) : SndP mid pc (fetch mid pc) := by
  have h := allR_at all_rows (mid / 16) (mid % 16)
  rw [show 0 + 16 * (mid / 16) + mid % 16 = mid by omega] at h
  exact snd_of h rfl pc
theorem mok : ∀ mid, mid < 228 → plainFor (yT mid) = true ∧ oT mid = (yT mid).cls ∧ (iT mid = true → (yT mid).name = "<init>") := by decide +kernel
/-- a contract out of a walk of the body, by the method's own name -/
theorem my_ofW {l : Launch} {y : MethodName} {ws ws' : List Cond} {rm : Room} {Pc : Array Value → State → Prop} {Qc : Array Value → State → Outcome → State → Prop} {mc ms : Nat} {free : Addr → Prop} {cc : ByteArray} {maxL : Nat} {ret : Option FieldType}
    (hy : plainFor y = true) (hw : ws = Cond.code y cc maxL ret :: ws')
    (body : ∀ p e s m args below meth c s₁, BodyLoose p l y (headSpec ws rm) cc maxL ret e s m args below meth c s₁ → c.maxLocals = maxL → Pc args s →
      W p l e (headSpec ws rm).room s m args below meth c s.heap [] 0 0 (MQ below Qc args s mc ms free) (entryFrame m args maxL)) : Met l y ws rm Pc Qc mc ms free := by
  refine MetFree.of_bodySF (code := cc) (maxLocals := maxL) (ret := ret) hy ?_ ?_
  · intro args s m h hn
    obtain ⟨meth, c, h1, h2, h3, h4, h5, h6, -, -⟩ := Cond.code_spec hn (atoms_spec (ws := ws) h _ (by rw [hw]; exact List.mem_cons_self))
    exact ⟨meth, c, h1, h2, h3, h4, h5, h6⟩
  · intro p e s m args below meth c s₁ B hml hP _
    obtain ⟨t, a1, o, b1, b2, b3⟩ := body p e s m args below meth c s₁ B hml hP s₁ (by rw [B.state]; rfl) (Stand.of_body B)
    exact ⟨t, o, a1, b1, b2, ⟨b3.1, b3.2⟩⟩
/-- a run of a method at depth d ends, and Q holds of its answer and heap -/
def wpS : Nat → Nat → CX → (Option Value → Hp → Prop) → IS → Hp → Prop
  | 0, _, _, _, _, _ => False
  | d + 1, mid, X, Q, st, h => ∀ Y : IS → Hp → Prop, (∀ st h, Fst X mcT msT Y Q (fun m' as Q' lim' h' => m' < 228 ∧ (lg_sl as).length ≤ lT m' ∧ wpS d m' (none, lim') Q' (0, lv_args 0 as, []) h') h (fetch mid st.1 X st h) → Y st h) → Y st h
theorem lg_len {ad : Nat → Nat} : ∀ (as : List Value), (lg_sl (as.map (em ad))).length = (lg_sl as).length := by
  intro as
  induction as with
  | nil => rfl
  | cons v as ih =>
    show (lg_sl (em ad v :: as.map (em ad))).length = _
    unfold lg_sl at ih ⊢
    rw [List.flatMap_cons, List.flatMap_cons, List.length_append, List.length_append, ih, em_cat]
    split <;> rfl
theorem args_em {ad : Nat → Nat} : ∀ (as : List Value) (i : Nat), lv_args i (as.map (em ad)) = emL ad (lv_args i as) := by
  intro as
  induction as with
  | nil => intro i; rfl
  | cons v as ih =>
    intro i
    show lv_args i (em ad v :: as.map (em ad)) = _
    unfold lv_args
    rw [ih, em_cat]
    rfl
theorem fst_cp {X : CX} {Y : IS → Hp → Prop} {QV : Option Value → Hp → Prop} {C1 C2 : Nat → List Value → (Option Value → Hp → Prop) → Nat × Nat → Hp → Prop} {h : Hp} {r : IR} (hc : ∀ m as Q, C1 m as Q (kN h + mcT m as, kS h + msT m as) h → C2 m as Q (kN h + mcT m as, kS h + msT m as) h) (hf : Fst X mcT msT Y QV C1 h r) : Fst X mcT msT Y QV C2 h r := by
  rcases r with _ | q | v | q
  · exact hf
  · exact hf
  · exact hf
  · exact ⟨hf.1, hf.2.1, hf.2.2.1, hc _ _ _ hf.2.2.2⟩
theorem metAll {l : Launch} {D : va_G} {cy : Nat → ClassId} {base b : Nat} {aK aV aT : Nat → Nat} {qS : Nat} : ∀ (d mid : Nat) (as : List Value) (Q : Option Value → Hp → Prop) (lim : Nat × Nat) (h : Hp), mid < 228 → (lg_sl as).length ≤ lT mid → lim = (kN h + mcT mid as, kS h + msT mid as) → wpS d mid (none, lim) Q (0, lv_args 0 as, []) h →
    Met l (yT mid) (wT mid) (rmT d (mcT mid as) (msT mid as)) (PcT D cy base (adr base b aK aV aT qS) aK aV aT qS as h) (QcT D cy base (adr base b aK aV aT qS) Q lim) (mcT mid as) (msT mid as) (fun q => base ≤ q) := by
  intro d
  induction d with
  | zero => intro mid as Q lim h _ _ _ hw; exact False.elim hw
  | succ d ih =>
    intro mid as Q lim h hmid hlen hlim hw
    obtain ⟨k1, k2, k3⟩ := mok mid hmid
    refine my_ofW (cc := bT mid) (maxL := lT mid) (ret := eT mid) k1 rfl ?_
    intro p e s m args below meth c s₁ B hml hv
    obtain ⟨rfl, hz, hn, hP, hE⟩ := hv
    have hx := B.exec
    have hb := B.bytes
    have hr0 := B.returns
    have hts := atoms_spec (ws := wT mid) B.pre
    have hown : s.vm.findClass (yT mid).cls = some m.cls := findClass_of_methodNamed B.named
    have hlocks := B.notSynchronized
    have hnm : meth.name = (yT mid).name := (name_of_methodNamed B.named B.method).1
    have hB : base ≤ s.heap.size := by omega
    have hl := lv_entry (as.map (em (adr base b aK aV aT qS))) (n := lT mid) (by rw [lg_len]; exact hlen)
    rw [args_em] at hl
    rw [lg_entry_eq]
    generalize (lg_sl (as.map (em (adr base b aK aV aT qS))) ++ List.replicate (lT mid - (lg_sl (as.map (em (adr base b aK aV aT qS)))).length) Slot.unset).toArray = ls at hl ⊢
    refine hw (MW p l e (headSpec (wT mid) (rmT (d + 1) (mcT mid as) (msT mid as))).room s m _ below meth c D cy base (adr base b aK aV aT qS) lim (mcT mid as) (msT mid as) (lT mid) _) ?_ s.heap [] 0 0 ls ?_ hl
    · intro st h' hf
      obtain ⟨pc, L, stk⟩ := st
      refine sndAll mid pc p l e _ s m _ below meth c D cy base b aK aV aT qS (none, lim) (mcT mid as) (msT mid as) d _ _ Q (fun m' as' Q' lim' h' => lim' = (kN h' + mcT m' as', kS h' + msT m' as') ∧ m' < 228 ∧ (lg_sl as').length ≤ lT m' ∧ wpS d m' (none, lim') Q' (0, lv_args 0 as', []) h') ?_ ?_ hE hB (fun x q => by cases q) (fun _ _ q => q) ?_ ?_ L stk h' (fst_cp (fun _ _ _ q => ⟨rfl, q⟩) hf)
      · exact ⟨hx, hb, hml, by rw [k2]; exact hown, fun w hw => hts w (List.mem_cons_of_mem _ hw), fun q => hnm.trans (k3 q)⟩
      · exact ⟨Nat.le_refl _, Nat.le_refl _, Nat.le_refl _, Nat.le_refl _⟩
      · intro v h2 hq H locs k n ls pc hr hk1 hk2 hend
        have e1 : k = mcT mid as := by have := hr.2.2.2.2.1; omega
        have e2 : n = msT mid as := by have := hr.2.2.2.2.2.1; omega
        refine rl_sz hB hr fun hz2 => ?_
        rw [e1, e2]
        rcases v with _ | v
        · exact W.vret hx hb (hr0.trans hend.2) (fun t ht hW => ⟨⟨none, h2, rfl, hq, by rw [ht]; exact hr.1, by rw [ht]; exact hz2, hk1, hk2, hr.2.2.2.1⟩, hr.2.1.F ht⟩) hr.2.1.2.2 hend.1
        · cases v with
          | int x =>
            obtain ⟨g1, ty, g2, g3⟩ := hend
            exact W.zret hx hb (hr0.trans g2) g3 (fun t ht hW => ⟨⟨some (.int x), h2, rfl, hq, by rw [ht]; exact hr.1, by rw [ht]; exact hz2, hk1, hk2, hr.2.2.2.1⟩, hr.2.1.F ht⟩) hr.2.1.2.2 g1
          | ref x =>
            obtain ⟨g1, nm, g2⟩ := hend
            exact W.aret hx hb (hr0.trans g2) (Or.inl ⟨_, rfl⟩) (Or.inr ⟨_, rfl⟩) (fun t ht hW => ⟨⟨some (.ref x), h2, rfl, hq, by rw [ht]; exact hr.1, by rw [ht]; exact hz2, hk1, hk2, hr.2.2.2.1⟩, hr.2.1.F ht⟩) hr.2.1.2.2 g1
          | _ => exact False.elim hend
      · intro m' as' Q' lim' h2 q
        exact ih m' as' Q' lim' h2 q.2.1 q.2.2.1 q.1 q.2.2.2
    · refine ⟨hP, va_S.rf, by omega, hn, ?_, ?_, ?_, ?_⟩
      · rw [hlim]; show 0 + (kN h + mcT mid as) = _; omega
      · rw [hlim]; show 0 + (kS h + msT mid as) = _; omega
      · rw [hlim]; exact Nat.le_add_right _ _
      · rw [hlim]; exact Nat.le_add_right _ _
