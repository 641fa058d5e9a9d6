/-! rules of runs -/
abbrev CPd (d : Nat) : Nat → List Value → (Option Value → Hp → Prop) → Nat × Nat → Hp → Prop := fun m' as Q' lim' h' => m' < 228 ∧ (lg_sl as).length ≤ lT m' ∧ wpS d m' (none, lim') Q' (0, lv_args 0 as, []) h'
theorem fst_mono {X : CX} {Y Y' : IS → Hp → Prop} {QV QV' : Option Value → Hp → Prop} {C C' : Nat → List Value → (Option Value → Hp → Prop) → Nat × Nat → Hp → Prop} {h : Hp} {r : IR} (hY : ∀ st h, Y st h → Y' st h) (hQ : ∀ v h, QV v h → QV' v h) (hC : ∀ m as (Q Q' : Option Value → Hp → Prop) lim h, (∀ v h, Q v h → Q' v h) → C m as Q lim h → C' m as Q' lim h) (hf : Fst X mcT msT Y QV C h r) : Fst X mcT msT Y' QV' C' h r := by
  rcases r with _ | q | v | q
  · exact hf
  · exact hY _ _ hf
  · exact ⟨hf.1, hf.2.1, hQ _ _ hf.2.2⟩
  · exact ⟨hf.1, hf.2.1, hf.2.2.1, hC _ _ _ _ _ _ (fun v h' q => hY _ _ q) hf.2.2.2⟩
theorem wpS_mono : ∀ {d mid : Nat} {X : CX} {Q Q' : Option Value → Hp → Prop} {st : IS} {h : Hp}, (∀ v h, Q v h → Q' v h) → wpS d mid X Q st h → wpS d mid X Q' st h := by
  intro d
  induction d with
  | zero => intro mid X Q Q' st h _ hw; exact hw
  | succ d ih =>
    intro mid X Q Q' st h hQ hw Y hY
    exact hw Y (fun st h hf => hY st h (fst_mono (fun _ _ q => q) hQ (fun m as Q Q' lim h hq q => ⟨q.1, q.2.1, ih hq q.2.2⟩) hf))
theorem wpS_up : ∀ {d mid : Nat} {X : CX} {Q : Option Value → Hp → Prop} {st : IS} {h : Hp}, wpS d mid X Q st h → wpS (d + 1) mid X Q st h := by
  intro d
  induction d with
  | zero => intro mid X Q st h hw; exact False.elim hw
  | succ d ih =>
    intro mid X Q st h hw Y hY
    exact hw Y (fun st h hf => hY st h (fst_mono (fun _ _ q => q) (fun _ _ q => q) (fun m as Q Q' lim h hq q => ⟨q.1, q.2.1, wpS_mono hq (ih q.2.2)⟩) hf))
theorem wpS_le {d d' mid : Nat} {X : CX} {Q : Option Value → Hp → Prop} {st : IS} {h : Hp} (hd : d ≤ d') (hw : wpS d mid X Q st h) : wpS d' mid X Q st h := by
  obtain ⟨k, rfl⟩ := Nat.exists_eq_add_of_le hd
  induction k with
  | zero => exact hw
  | succ k ih => exact wpS_up (ih (Nat.le_add_right _ _))
theorem wp_fold {d mid : Nat} {X : CX} {Q : Option Value → Hp → Prop} {st : IS} {h : Hp} (hf : Fst X mcT msT (wpS (d + 1) mid X Q) Q (CPd d) h (fetch mid st.1 X st h)) : wpS (d + 1) mid X Q st h := by
  intro Y hY
  exact hY st h (fst_mono (fun st h q => q Y hY) (fun _ _ q => q) (fun m as Q Q' lim h hq q => ⟨q.1, q.2.1, wpS_mono hq q.2.2⟩) hf)
section P20
variable {d mid : Nat} {X : CX} {Q : Option Value → Hp → Prop} {st st' : IS} {h h' : Hp}
theorem wp_next (e : fetch mid st.1 X st h = some (.inl (st', h'))) (k : wpS (d + 1) mid X Q st' h') : wpS (d + 1) mid X Q st h := wp_fold (by rw [e]; exact k)
theorem wp_ret {v : Option Value} (e : fetch mid st.1 X st h = some (.inr (.inl v))) (h1 : kN h = X.2.1) (h2 : kS h = X.2.2) (q : Q v h) : wpS (d + 1) mid X Q st h := wp_fold (by rw [e]; exact ⟨h1, h2, q⟩)
theorem wp_call {m' : Nat} {as : List Value} (e : fetch mid st.1 X st h = some (.inr (.inr (m', as, st')))) (hs : (st'.2.2.map fun v => v.category).sum ≤ 8) (h1 : kN h + mcT m' as ≤ X.2.1) (h2 : kS h + msT m' as ≤ X.2.2) (hm : m' < 228) (hl : (lg_sl as).length ≤ lT m')
    (k : wpS d m' (none, kN h + mcT m' as, kS h + msT m' as) (fun v h' => wpS (d + 1) mid X Q (st'.1, st'.2.1, v.toList ++ st'.2.2) h') (0, lv_args 0 as, []) h) : wpS (d + 1) mid X Q st h := wp_fold (by rw [e]; exact ⟨hs, h1, h2, hm, hl, k⟩)
theorem wp_if {c : Prop} [Decidable c] {st1 st2 : IS} (e : fetch mid st.1 X st h = if c then nxt st1 h else nxt st2 h) (h1 : c → wpS (d + 1) mid X Q st1 h) (h2 : ¬ c → wpS (d + 1) mid X Q st2 h) : wpS (d + 1) mid X Q st h := by
  by_cases hc : c
  · exact wp_next (by rw [e, if_pos hc]) (h1 hc)
  · exact wp_next (by rw [e, if_neg hc]) (h2 hc)
/-- an index or a divisor that is looked at -/
theorem wp_ok {c : Prop} [Decidable c] (hc : ¬ c) (e : fetch mid st.1 X st h = if c then none else nxt st' h') (k : wpS (d + 1) mid X Q st' h') : wpS (d + 1) mid X Q st h := wp_next (by rw [e, if_neg hc]) k
end P20
def stp (mid : Nat) (X : CX) (q : Option (IS × Hp)) : Option (IS × Hp) := match q with
  | some ((pc, L, S), h) => (match fetch mid pc X (pc, L, S) h with
    | some (.inl r) => some r
    | _ => none)
  | none => none
theorem stp_some {mid : Nat} {X : CX} {q : Option (IS × Hp)} {r : IS × Hp} (e : stp mid X q = some r) : ∃ q0, q = some q0 ∧ ∀ {d : Nat} {Q : Option Value → Hp → Prop}, wpS (d + 1) mid X Q r.1 r.2 → wpS (d + 1) mid X Q q0.1 q0.2 := by
  rcases q with _ | q
  · cases e
  · refine ⟨q, rfl, fun k => ?_⟩
    have e : (match fetch mid q.1.1 X q.1 q.2 with | some (.inl r) => some r | _ => none) = some r := e
    generalize ef : fetch mid q.1.1 X q.1 q.2 = z at e
    rcases z with _ | z | z
    · cases e
    · cases e; exact wp_next ef k
    · cases e
/-! the picture behind the makers -/
def shL : List (List (Nat × Nat)) := [[(0, 10), (1, 7), (0, 2), (0, 1), (1, 100), (1, 16), (1, 16), (1, 32), (1, 16), (1, 16), (1, 10), (0, 8), (1, 160), (1, 8), (1, 8), (1, 8)],
 [(0, 6), (3, 5), (0, 0), (1, 8), (1, 8), (1, 8), (1, 10), (0, 0), (1, 8), (1, 8), (1, 8), (1, 10), (0, 0), (1, 8), (1, 8), (1, 8)],
 [(1, 10), (0, 0), (1, 8), (1, 8), (1, 8), (1, 10), (0, 0), (1, 8), (1, 8), (1, 8), (1, 10), (0, 4), (4, 24), (1, 10), (1, 100), (0, 3)],
 [(0, 3), (0, 3), (0, 3), (0, 3), (0, 3), (0, 3), (0, 3), (0, 3), (0, 3), (0, 3), (0, 3), (0, 3), (0, 3), (0, 3), (0, 3), (0, 3)],
 [(0, 3), (0, 3), (0, 3), (0, 3), (0, 3), (0, 3), (0, 3), (0, 9), (1, 12), (1, 12), (1, 12), (1, 24), (1, 24), (0, 7), (0, 1), (1, 144)],
 [(1, 12), (1, 11), (1, 22528), (0, 5), (1, 8), (1, 8), (1, 8), (1, 8), (1, 48), (1, 6), (1, 5), (1, 5), (0, 11), (1, 16), (1, 16), (1, 16)],
 [(1, 16), (1, 16), (1, 16), (1, 16), (1, 160), (1, 6), (1, 48), (1, 48), (1, 48), (1, 5), (1, 50), (1, 24), (1, 24), (1, 24), (1, 24), (1, 24)],
 [(1, 24), (1, 24), (1, 24), (1, 24), (1, 24), (1, 24), (1, 24), (2, 24), (1, 24), (1, 24), (1, 24), (1, 24), (1, 10), (1, 100), (1, 12), (1, 12)],
 [(1, 12), (1, 144), (1, 8), (1, 8), (1, 8), (1, 8), (1, 8), (1, 6), (1, 10), (1, 24), (1, 24), (1, 24), (1, 24), (1, 49152), (1, 8), (1, 5)]]
def shT (a : Nat) : Nat × Nat := (shL.getD (a / 16) []).getD (a % 16) (9, 0)
def rvL : List (List (List (Option Nat))) := [[[some 1, some 2, some 11, some 16, some 43, some 71, some 77, some 83], [], [some 3, some 5, some 6, some 7, some 8, some 9, some 10], [none, some 4], [], [], [], [], [], [], [], [some 12, none, none, none, some 13, some 14, some 15], [], [], [], []],
 [[some 17], [some 18, some 23, some 28, some 33, some 38], [some 19, some 20, some 21, none, none, some 22], [], [], [], [], [some 24, some 25, some 26, none, none, some 27], [], [], [], [], [some 29, some 30, some 31, none, none, some 32], [], [], []],
 [[], [some 34, some 35, some 36, none, none, some 37], [], [], [], [], [some 39, some 40, some 41, none, none, some 42], [], [], [], [], [some 2, some 16, some 1, some 44, some 45, some 46], [some 47, some 48, some 49, some 50, some 51, some 52, some 53, some 54, some 55, some 56, some 57, some 58, some 59, some 60, some 61, some 62, some 63, some 64, some 65, some 66, some 67, some 68, some 69, some 70], [], [], []],
 [[], [], [], [], [], [], [], [], [], [], [], [], [], [], [], []],
 [[], [], [], [], [], [], [], [some 2, some 43, some 1, some 72, some 73, some 74, none, some 75, some 76], [], [], [], [], [], [some 78, none, none, some 80, some 81, some 82], [none, some 79], []],
 [[], [], [], [some 1, some 84, some 85, some 86, some 87, some 88, none, some 89, none, none, some 90, some 91], [], [], [], [], [], [], [], [], [some 93, some 94, some 95, some 96, some 97, some 98, some 99, none, none, some 100, none, some 101, some 102, some 103, some 104, some 105, some 106, none, some 107, some 108, some 109, some 110, some 111, some 112, some 113, some 114, some 115, some 116, some 117, some 118, some 119, some 120, some 121, some 122, some 123, none, some 124, some 125, none, none, none, none, none, none, none, none, none, none, none, some 126, some 127, some 128, none, none, none, some 129, some 130, some 131, some 132, some 133, some 134, none, some 135, none, some 136, none, none, none, none, some 137, some 138, some 139, some 140, some 141, some 142, none, none, none, some 143], [], [], []],
 [[], [], [], [], [], [], [], [], [], [], [], [], [], [], [], []],
 [[], [], [], [], [], [], [], [], [], [], [], [], [], [], [], []],
 [[], [], [], [], [], [], [], [], [], [], [], [], [], [], [], []]]
def rvT (a k : Nat) : Option Nat := ((rvL.getD (a / 16) []).getD (a % 16) []).getD k none
def K0 : HK := (144, 74715, shT, rvT)
abbrev X2 : CX := (none, 144, 74715)
/-- a method's run over the ints of the heap -/
def Sp (d mid : Nat) (as : List Value) (f : HI) (Q : Option Value → HI → Prop) : Prop := wpS d mid X2 (fun v h => h.1 = K0 ∧ Q v h.2) (0, lv_args 0 as, []) (K0, f)
theorem Sp.mono {d d' mid : Nat} {as : List Value} {f : HI} {Q Q' : Option Value → HI → Prop} (h : Sp d mid as f Q) (hd : d ≤ d') (hQ : ∀ v f, Q v f → Q' v f) : Sp d' mid as f Q' := wpS_le hd (wpS_mono (fun v h q => ⟨q.1, hQ _ _ q.2⟩) h)
abbrev wq (d mid : Nat) (Q : Option Value → HI → Prop) (pc : Nat) (L : IL) (S : List Value) (f : HI) : Prop := wpS d mid X2 (fun v h => h.1 = K0 ∧ Q v h.2) (pc, L, S) (K0, f)
section P20b
variable {d mid : Nat} {Q : Option Value → HI → Prop} {pc pc' : Nat} {L L' : IL} {S S' : List Value} {f f' : HI}
theorem wq_run1 (e : stp mid X2 (some ((pc, L, S), (K0, f))) = some ((pc', L', S'), (K0, f'))) (k : wq (d + 1) mid Q pc' L' S' f') : wq (d + 1) mid Q pc L S f := by
  obtain ⟨q0, e0, k0⟩ := stp_some e
  cases e0
  exact k0 k
theorem wq_run2 (e : stp mid X2 (stp mid X2 (some ((pc, L, S), (K0, f)))) = some ((pc', L', S'), (K0, f'))) (k : wq (d + 1) mid Q pc' L' S' f') : wq (d + 1) mid Q pc L S f := by
  obtain ⟨q0, e0, k0⟩ := stp_some e
  obtain ⟨q1, e1, k1⟩ := stp_some e0
  cases e1
  exact k1 (k0 k)
theorem wq_run3 (e : stp mid X2 (stp mid X2 (stp mid X2 (some ((pc, L, S), (K0, f))))) = some ((pc', L', S'), (K0, f'))) (k : wq (d + 1) mid Q pc' L' S' f') : wq (d + 1) mid Q pc L S f := by
  obtain ⟨q0, e0, k0⟩ := stp_some e
  obtain ⟨q1, e1, k1⟩ := stp_some e0
  obtain ⟨q2, e2, k2⟩ := stp_some e1
  cases e2
  exact k2 (k1 (k0 k))
theorem wq_run4 (e : stp mid X2 (stp mid X2 (stp mid X2 (stp mid X2 (some ((pc, L, S), (K0, f)))))) = some ((pc', L', S'), (K0, f'))) (k : wq (d + 1) mid Q pc' L' S' f') : wq (d + 1) mid Q pc L S f := by
  obtain ⟨q0, e0, k0⟩ := stp_some e
  obtain ⟨q1, e1, k1⟩ := stp_some e0
  obtain ⟨q2, e2, k2⟩ := stp_some e1
  obtain ⟨q3, e3, k3⟩ := stp_some e2
  cases e3
  exact k3 (k2 (k1 (k0 k)))
theorem wq_run5 (e : stp mid X2 (stp mid X2 (stp mid X2 (stp mid X2 (stp mid X2 (some ((pc, L, S), (K0, f))))))) = some ((pc', L', S'), (K0, f'))) (k : wq (d + 1) mid Q pc' L' S' f') : wq (d + 1) mid Q pc L S f := by
  obtain ⟨q0, e0, k0⟩ := stp_some e
  obtain ⟨q1, e1, k1⟩ := stp_some e0
  obtain ⟨q2, e2, k2⟩ := stp_some e1
  obtain ⟨q3, e3, k3⟩ := stp_some e2
  obtain ⟨q4, e4, k4⟩ := stp_some e3
  cases e4
  exact k4 (k3 (k2 (k1 (k0 k))))
theorem wq_run6 (e : stp mid X2 (stp mid X2 (stp mid X2 (stp mid X2 (stp mid X2 (stp mid X2 (some ((pc, L, S), (K0, f)))))))) = some ((pc', L', S'), (K0, f'))) (k : wq (d + 1) mid Q pc' L' S' f') : wq (d + 1) mid Q pc L S f := by
  obtain ⟨q0, e0, k0⟩ := stp_some e
  obtain ⟨q1, e1, k1⟩ := stp_some e0
  obtain ⟨q2, e2, k2⟩ := stp_some e1
  obtain ⟨q3, e3, k3⟩ := stp_some e2
  obtain ⟨q4, e4, k4⟩ := stp_some e3
  obtain ⟨q5, e5, k5⟩ := stp_some e4
  cases e5
  exact k5 (k4 (k3 (k2 (k1 (k0 k)))))
theorem wq_run7 (e : stp mid X2 (stp mid X2 (stp mid X2 (stp mid X2 (stp mid X2 (stp mid X2 (stp mid X2 (some ((pc, L, S), (K0, f))))))))) = some ((pc', L', S'), (K0, f'))) (k : wq (d + 1) mid Q pc' L' S' f') : wq (d + 1) mid Q pc L S f := by
  obtain ⟨q0, e0, k0⟩ := stp_some e
  obtain ⟨q1, e1, k1⟩ := stp_some e0
  obtain ⟨q2, e2, k2⟩ := stp_some e1
  obtain ⟨q3, e3, k3⟩ := stp_some e2
  obtain ⟨q4, e4, k4⟩ := stp_some e3
  obtain ⟨q5, e5, k5⟩ := stp_some e4
  obtain ⟨q6, e6, k6⟩ := stp_some e5
  cases e6
  exact k6 (k5 (k4 (k3 (k2 (k1 (k0 k))))))
theorem wq_run8 (e : stp mid X2 (stp mid X2 (stp mid X2 (stp mid X2 (stp mid X2 (stp mid X2 (stp mid X2 (stp mid X2 (some ((pc, L, S), (K0, f)))))))))) = some ((pc', L', S'), (K0, f'))) (k : wq (d + 1) mid Q pc' L' S' f') : wq (d + 1) mid Q pc L S f := by
  obtain ⟨q0, e0, k0⟩ := stp_some e
  obtain ⟨q1, e1, k1⟩ := stp_some e0
  obtain ⟨q2, e2, k2⟩ := stp_some e1
  obtain ⟨q3, e3, k3⟩ := stp_some e2
  obtain ⟨q4, e4, k4⟩ := stp_some e3
  obtain ⟨q5, e5, k5⟩ := stp_some e4
  obtain ⟨q6, e6, k6⟩ := stp_some e5
  obtain ⟨q7, e7, k7⟩ := stp_some e6
  cases e7
  exact k7 (k6 (k5 (k4 (k3 (k2 (k1 (k0 k)))))))
theorem wq_run9 (e : stp mid X2 (stp mid X2 (stp mid X2 (stp mid X2 (stp mid X2 (stp mid X2 (stp mid X2 (stp mid X2 (stp mid X2 (some ((pc, L, S), (K0, f))))))))))) = some ((pc', L', S'), (K0, f'))) (k : wq (d + 1) mid Q pc' L' S' f') : wq (d + 1) mid Q pc L S f := by
  obtain ⟨q0, e0, k0⟩ := stp_some e
  obtain ⟨q1, e1, k1⟩ := stp_some e0
  obtain ⟨q2, e2, k2⟩ := stp_some e1
  obtain ⟨q3, e3, k3⟩ := stp_some e2
  obtain ⟨q4, e4, k4⟩ := stp_some e3
  obtain ⟨q5, e5, k5⟩ := stp_some e4
  obtain ⟨q6, e6, k6⟩ := stp_some e5
  obtain ⟨q7, e7, k7⟩ := stp_some e6
  obtain ⟨q8, e8, k8⟩ := stp_some e7
  cases e8
  exact k8 (k7 (k6 (k5 (k4 (k3 (k2 (k1 (k0 k))))))))
theorem wq_run10 (e : stp mid X2 (stp mid X2 (stp mid X2 (stp mid X2 (stp mid X2 (stp mid X2 (stp mid X2 (stp mid X2 (stp mid X2 (stp mid X2 (some ((pc, L, S), (K0, f)))))))))))) = some ((pc', L', S'), (K0, f'))) (k : wq (d + 1) mid Q pc' L' S' f') : wq (d + 1) mid Q pc L S f := by
  obtain ⟨q0, e0, k0⟩ := stp_some e
  obtain ⟨q1, e1, k1⟩ := stp_some e0
  obtain ⟨q2, e2, k2⟩ := stp_some e1
  obtain ⟨q3, e3, k3⟩ := stp_some e2
  obtain ⟨q4, e4, k4⟩ := stp_some e3
  obtain ⟨q5, e5, k5⟩ := stp_some e4
  obtain ⟨q6, e6, k6⟩ := stp_some e5
  obtain ⟨q7, e7, k7⟩ := stp_some e6
  obtain ⟨q8, e8, k8⟩ := stp_some e7
  obtain ⟨q9, e9, k9⟩ := stp_some e8
  cases e9
  exact k9 (k8 (k7 (k6 (k5 (k4 (k3 (k2 (k1 (k0 k)))))))))
theorem wq_run11 (e : stp mid X2 (stp mid X2 (stp mid X2 (stp mid X2 (stp mid X2 (stp mid X2 (stp mid X2 (stp mid X2 (stp mid X2 (stp mid X2 (stp mid X2 (some ((pc, L, S), (K0, f))))))))))))) = some ((pc', L', S'), (K0, f'))) (k : wq (d + 1) mid Q pc' L' S' f') : wq (d + 1) mid Q pc L S f := by
  obtain ⟨q0, e0, k0⟩ := stp_some e
  obtain ⟨q1, e1, k1⟩ := stp_some e0
  obtain ⟨q2, e2, k2⟩ := stp_some e1
  obtain ⟨q3, e3, k3⟩ := stp_some e2
  obtain ⟨q4, e4, k4⟩ := stp_some e3
  obtain ⟨q5, e5, k5⟩ := stp_some e4
  obtain ⟨q6, e6, k6⟩ := stp_some e5
  obtain ⟨q7, e7, k7⟩ := stp_some e6
  obtain ⟨q8, e8, k8⟩ := stp_some e7
  obtain ⟨q9, e9, k9⟩ := stp_some e8
  obtain ⟨q10, e10, k10⟩ := stp_some e9
  cases e10
  exact k10 (k9 (k8 (k7 (k6 (k5 (k4 (k3 (k2 (k1 (k0 k))))))))))
theorem wq_run12 (e : stp mid X2 (stp mid X2 (stp mid X2 (stp mid X2 (stp mid X2 (stp mid X2 (stp mid X2 (stp mid X2 (stp mid X2 (stp mid X2 (stp mid X2 (stp mid X2 (some ((pc, L, S), (K0, f)))))))))))))) = some ((pc', L', S'), (K0, f'))) (k : wq (d + 1) mid Q pc' L' S' f') : wq (d + 1) mid Q pc L S f := by
  obtain ⟨q0, e0, k0⟩ := stp_some e
  obtain ⟨q1, e1, k1⟩ := stp_some e0
  obtain ⟨q2, e2, k2⟩ := stp_some e1
  obtain ⟨q3, e3, k3⟩ := stp_some e2
  obtain ⟨q4, e4, k4⟩ := stp_some e3
  obtain ⟨q5, e5, k5⟩ := stp_some e4
  obtain ⟨q6, e6, k6⟩ := stp_some e5
  obtain ⟨q7, e7, k7⟩ := stp_some e6
  obtain ⟨q8, e8, k8⟩ := stp_some e7
  obtain ⟨q9, e9, k9⟩ := stp_some e8
  obtain ⟨q10, e10, k10⟩ := stp_some e9
  obtain ⟨q11, e11, k11⟩ := stp_some e10
  cases e11
  exact k11 (k10 (k9 (k8 (k7 (k6 (k5 (k4 (k3 (k2 (k1 (k0 k)))))))))))
theorem wq_run13 (e : stp mid X2 (stp mid X2 (stp mid X2 (stp mid X2 (stp mid X2 (stp mid X2 (stp mid X2 (stp mid X2 (stp mid X2 (stp mid X2 (stp mid X2 (stp mid X2 (stp mid X2 (some ((pc, L, S), (K0, f))))))))))))))) = some ((pc', L', S'), (K0, f'))) (k : wq (d + 1) mid Q pc' L' S' f') : wq (d + 1) mid Q pc L S f := by
  obtain ⟨q0, e0, k0⟩ := stp_some e
  obtain ⟨q1, e1, k1⟩ := stp_some e0
  obtain ⟨q2, e2, k2⟩ := stp_some e1
  obtain ⟨q3, e3, k3⟩ := stp_some e2
  obtain ⟨q4, e4, k4⟩ := stp_some e3
  obtain ⟨q5, e5, k5⟩ := stp_some e4
  obtain ⟨q6, e6, k6⟩ := stp_some e5
  obtain ⟨q7, e7, k7⟩ := stp_some e6
  obtain ⟨q8, e8, k8⟩ := stp_some e7
  obtain ⟨q9, e9, k9⟩ := stp_some e8
  obtain ⟨q10, e10, k10⟩ := stp_some e9
  obtain ⟨q11, e11, k11⟩ := stp_some e10
  obtain ⟨q12, e12, k12⟩ := stp_some e11
  cases e12
  exact k12 (k11 (k10 (k9 (k8 (k7 (k6 (k5 (k4 (k3 (k2 (k1 (k0 k))))))))))))
theorem wq_run14 (e : stp mid X2 (stp mid X2 (stp mid X2 (stp mid X2 (stp mid X2 (stp mid X2 (stp mid X2 (stp mid X2 (stp mid X2 (stp mid X2 (stp mid X2 (stp mid X2 (stp mid X2 (stp mid X2 (some ((pc, L, S), (K0, f)))))))))))))))) = some ((pc', L', S'), (K0, f'))) (k : wq (d + 1) mid Q pc' L' S' f') : wq (d + 1) mid Q pc L S f := by
  obtain ⟨q0, e0, k0⟩ := stp_some e
  obtain ⟨q1, e1, k1⟩ := stp_some e0
  obtain ⟨q2, e2, k2⟩ := stp_some e1
  obtain ⟨q3, e3, k3⟩ := stp_some e2
  obtain ⟨q4, e4, k4⟩ := stp_some e3
  obtain ⟨q5, e5, k5⟩ := stp_some e4
  obtain ⟨q6, e6, k6⟩ := stp_some e5
  obtain ⟨q7, e7, k7⟩ := stp_some e6
  obtain ⟨q8, e8, k8⟩ := stp_some e7
  obtain ⟨q9, e9, k9⟩ := stp_some e8
  obtain ⟨q10, e10, k10⟩ := stp_some e9
  obtain ⟨q11, e11, k11⟩ := stp_some e10
  obtain ⟨q12, e12, k12⟩ := stp_some e11
  obtain ⟨q13, e13, k13⟩ := stp_some e12
  cases e13
  exact k13 (k12 (k11 (k10 (k9 (k8 (k7 (k6 (k5 (k4 (k3 (k2 (k1 (k0 k)))))))))))))
theorem wq_run15 (e : stp mid X2 (stp mid X2 (stp mid X2 (stp mid X2 (stp mid X2 (stp mid X2 (stp mid X2 (stp mid X2 (stp mid X2 (stp mid X2 (stp mid X2 (stp mid X2 (stp mid X2 (stp mid X2 (stp mid X2 (some ((pc, L, S), (K0, f))))))))))))))))) = some ((pc', L', S'), (K0, f'))) (k : wq (d + 1) mid Q pc' L' S' f') : wq (d + 1) mid Q pc L S f := by
  obtain ⟨q0, e0, k0⟩ := stp_some e
  obtain ⟨q1, e1, k1⟩ := stp_some e0
  obtain ⟨q2, e2, k2⟩ := stp_some e1
  obtain ⟨q3, e3, k3⟩ := stp_some e2
  obtain ⟨q4, e4, k4⟩ := stp_some e3
  obtain ⟨q5, e5, k5⟩ := stp_some e4
  obtain ⟨q6, e6, k6⟩ := stp_some e5
  obtain ⟨q7, e7, k7⟩ := stp_some e6
  obtain ⟨q8, e8, k8⟩ := stp_some e7
  obtain ⟨q9, e9, k9⟩ := stp_some e8
  obtain ⟨q10, e10, k10⟩ := stp_some e9
  obtain ⟨q11, e11, k11⟩ := stp_some e10
  obtain ⟨q12, e12, k12⟩ := stp_some e11
  obtain ⟨q13, e13, k13⟩ := stp_some e12
  obtain ⟨q14, e14, k14⟩ := stp_some e13
  cases e14
  exact k14 (k13 (k12 (k11 (k10 (k9 (k8 (k7 (k6 (k5 (k4 (k3 (k2 (k1 (k0 k))))))))))))))
theorem wq_run16 (e : stp mid X2 (stp mid X2 (stp mid X2 (stp mid X2 (stp mid X2 (stp mid X2 (stp mid X2 (stp mid X2 (stp mid X2 (stp mid X2 (stp mid X2 (stp mid X2 (stp mid X2 (stp mid X2 (stp mid X2 (stp mid X2 (some ((pc, L, S), (K0, f)))))))))))))))))) = some ((pc', L', S'), (K0, f'))) (k : wq (d + 1) mid Q pc' L' S' f') : wq (d + 1) mid Q pc L S f := by
  obtain ⟨q0, e0, k0⟩ := stp_some e
  obtain ⟨q1, e1, k1⟩ := stp_some e0
  obtain ⟨q2, e2, k2⟩ := stp_some e1
  obtain ⟨q3, e3, k3⟩ := stp_some e2
  obtain ⟨q4, e4, k4⟩ := stp_some e3
  obtain ⟨q5, e5, k5⟩ := stp_some e4
  obtain ⟨q6, e6, k6⟩ := stp_some e5
  obtain ⟨q7, e7, k7⟩ := stp_some e6
  obtain ⟨q8, e8, k8⟩ := stp_some e7
  obtain ⟨q9, e9, k9⟩ := stp_some e8
  obtain ⟨q10, e10, k10⟩ := stp_some e9
  obtain ⟨q11, e11, k11⟩ := stp_some e10
  obtain ⟨q12, e12, k12⟩ := stp_some e11
  obtain ⟨q13, e13, k13⟩ := stp_some e12
  obtain ⟨q14, e14, k14⟩ := stp_some e13
  obtain ⟨q15, e15, k15⟩ := stp_some e14
  cases e15
  exact k15 (k14 (k13 (k12 (k11 (k10 (k9 (k8 (k7 (k6 (k5 (k4 (k3 (k2 (k1 (k0 k)))))))))))))))
theorem wq_run17 (e : stp mid X2 (stp mid X2 (stp mid X2 (stp mid X2 (stp mid X2 (stp mid X2 (stp mid X2 (stp mid X2 (stp mid X2 (stp mid X2 (stp mid X2 (stp mid X2 (stp mid X2 (stp mid X2 (stp mid X2 (stp mid X2 (stp mid X2 (some ((pc, L, S), (K0, f))))))))))))))))))) = some ((pc', L', S'), (K0, f'))) (k : wq (d + 1) mid Q pc' L' S' f') : wq (d + 1) mid Q pc L S f := by
  obtain ⟨q0, e0, k0⟩ := stp_some e
  obtain ⟨q1, e1, k1⟩ := stp_some e0
  obtain ⟨q2, e2, k2⟩ := stp_some e1
  obtain ⟨q3, e3, k3⟩ := stp_some e2
  obtain ⟨q4, e4, k4⟩ := stp_some e3
  obtain ⟨q5, e5, k5⟩ := stp_some e4
  obtain ⟨q6, e6, k6⟩ := stp_some e5
  obtain ⟨q7, e7, k7⟩ := stp_some e6
  obtain ⟨q8, e8, k8⟩ := stp_some e7
  obtain ⟨q9, e9, k9⟩ := stp_some e8
  obtain ⟨q10, e10, k10⟩ := stp_some e9
  obtain ⟨q11, e11, k11⟩ := stp_some e10
  obtain ⟨q12, e12, k12⟩ := stp_some e11
  obtain ⟨q13, e13, k13⟩ := stp_some e12
  obtain ⟨q14, e14, k14⟩ := stp_some e13
  obtain ⟨q15, e15, k15⟩ := stp_some e14
  obtain ⟨q16, e16, k16⟩ := stp_some e15
  cases e16
  exact k16 (k15 (k14 (k13 (k12 (k11 (k10 (k9 (k8 (k7 (k6 (k5 (k4 (k3 (k2 (k1 (k0 k))))))))))))))))
theorem wq_run18 (e : stp mid X2 (stp mid X2 (stp mid X2 (stp mid X2 (stp mid X2 (stp mid X2 (stp mid X2 (stp mid X2 (stp mid X2 (stp mid X2 (stp mid X2 (stp mid X2 (stp mid X2 (stp mid X2 (stp mid X2 (stp mid X2 (stp mid X2 (stp mid X2 (some ((pc, L, S), (K0, f)))))))))))))))))))) = some ((pc', L', S'), (K0, f'))) (k : wq (d + 1) mid Q pc' L' S' f') : wq (d + 1) mid Q pc L S f := by
  obtain ⟨q0, e0, k0⟩ := stp_some e
  obtain ⟨q1, e1, k1⟩ := stp_some e0
  obtain ⟨q2, e2, k2⟩ := stp_some e1
  obtain ⟨q3, e3, k3⟩ := stp_some e2
  obtain ⟨q4, e4, k4⟩ := stp_some e3
  obtain ⟨q5, e5, k5⟩ := stp_some e4
  obtain ⟨q6, e6, k6⟩ := stp_some e5
  obtain ⟨q7, e7, k7⟩ := stp_some e6
  obtain ⟨q8, e8, k8⟩ := stp_some e7
  obtain ⟨q9, e9, k9⟩ := stp_some e8
  obtain ⟨q10, e10, k10⟩ := stp_some e9
  obtain ⟨q11, e11, k11⟩ := stp_some e10
  obtain ⟨q12, e12, k12⟩ := stp_some e11
  obtain ⟨q13, e13, k13⟩ := stp_some e12
  obtain ⟨q14, e14, k14⟩ := stp_some e13
  obtain ⟨q15, e15, k15⟩ := stp_some e14
  obtain ⟨q16, e16, k16⟩ := stp_some e15
  obtain ⟨q17, e17, k17⟩ := stp_some e16
  cases e17
  exact k17 (k16 (k15 (k14 (k13 (k12 (k11 (k10 (k9 (k8 (k7 (k6 (k5 (k4 (k3 (k2 (k1 (k0 k)))))))))))))))))
theorem wq_run19 (e : stp mid X2 (stp mid X2 (stp mid X2 (stp mid X2 (stp mid X2 (stp mid X2 (stp mid X2 (stp mid X2 (stp mid X2 (stp mid X2 (stp mid X2 (stp mid X2 (stp mid X2 (stp mid X2 (stp mid X2 (stp mid X2 (stp mid X2 (stp mid X2 (stp mid X2 (some ((pc, L, S), (K0, f))))))))))))))))))))) = some ((pc', L', S'), (K0, f'))) (k : wq (d + 1) mid Q pc' L' S' f') : wq (d + 1) mid Q pc L S f := by
  obtain ⟨q0, e0, k0⟩ := stp_some e
  obtain ⟨q1, e1, k1⟩ := stp_some e0
  obtain ⟨q2, e2, k2⟩ := stp_some e1
  obtain ⟨q3, e3, k3⟩ := stp_some e2
  obtain ⟨q4, e4, k4⟩ := stp_some e3
  obtain ⟨q5, e5, k5⟩ := stp_some e4
  obtain ⟨q6, e6, k6⟩ := stp_some e5
  obtain ⟨q7, e7, k7⟩ := stp_some e6
  obtain ⟨q8, e8, k8⟩ := stp_some e7
  obtain ⟨q9, e9, k9⟩ := stp_some e8
  obtain ⟨q10, e10, k10⟩ := stp_some e9
  obtain ⟨q11, e11, k11⟩ := stp_some e10
  obtain ⟨q12, e12, k12⟩ := stp_some e11
  obtain ⟨q13, e13, k13⟩ := stp_some e12
  obtain ⟨q14, e14, k14⟩ := stp_some e13
  obtain ⟨q15, e15, k15⟩ := stp_some e14
  obtain ⟨q16, e16, k16⟩ := stp_some e15
  obtain ⟨q17, e17, k17⟩ := stp_some e16
  obtain ⟨q18, e18, k18⟩ := stp_some e17
  cases e18
  exact k18 (k17 (k16 (k15 (k14 (k13 (k12 (k11 (k10 (k9 (k8 (k7 (k6 (k5 (k4 (k3 (k2 (k1 (k0 k))))))))))))))))))
theorem wq_run20 (e : stp mid X2 (stp mid X2 (stp mid X2 (stp mid X2 (stp mid X2 (stp mid X2 (stp mid X2 (stp mid X2 (stp mid X2 (stp mid X2 (stp mid X2 (stp mid X2 (stp mid X2 (stp mid X2 (stp mid X2 (stp mid X2 (stp mid X2 (stp mid X2 (stp mid X2 (stp mid X2 (some ((pc, L, S), (K0, f)))))))))))))))))))))) = some ((pc', L', S'), (K0, f'))) (k : wq (d + 1) mid Q pc' L' S' f') : wq (d + 1) mid Q pc L S f := by
  obtain ⟨q0, e0, k0⟩ := stp_some e
  obtain ⟨q1, e1, k1⟩ := stp_some e0
  obtain ⟨q2, e2, k2⟩ := stp_some e1
  obtain ⟨q3, e3, k3⟩ := stp_some e2
  obtain ⟨q4, e4, k4⟩ := stp_some e3
  obtain ⟨q5, e5, k5⟩ := stp_some e4
  obtain ⟨q6, e6, k6⟩ := stp_some e5
  obtain ⟨q7, e7, k7⟩ := stp_some e6
  obtain ⟨q8, e8, k8⟩ := stp_some e7
  obtain ⟨q9, e9, k9⟩ := stp_some e8
  obtain ⟨q10, e10, k10⟩ := stp_some e9
  obtain ⟨q11, e11, k11⟩ := stp_some e10
  obtain ⟨q12, e12, k12⟩ := stp_some e11
  obtain ⟨q13, e13, k13⟩ := stp_some e12
  obtain ⟨q14, e14, k14⟩ := stp_some e13
  obtain ⟨q15, e15, k15⟩ := stp_some e14
  obtain ⟨q16, e16, k16⟩ := stp_some e15
  obtain ⟨q17, e17, k17⟩ := stp_some e16
  obtain ⟨q18, e18, k18⟩ := stp_some e17
  obtain ⟨q19, e19, k19⟩ := stp_some e18
  cases e19
  exact k19 (k18 (k17 (k16 (k15 (k14 (k13 (k12 (k11 (k10 (k9 (k8 (k7 (k6 (k5 (k4 (k3 (k2 (k1 (k0 k)))))))))))))))))))
theorem wq_run21 (e : stp mid X2 (stp mid X2 (stp mid X2 (stp mid X2 (stp mid X2 (stp mid X2 (stp mid X2 (stp mid X2 (stp mid X2 (stp mid X2 (stp mid X2 (stp mid X2 (stp mid X2 (stp mid X2 (stp mid X2 (stp mid X2 (stp mid X2 (stp mid X2 (stp mid X2 (stp mid X2 (stp mid X2 (some ((pc, L, S), (K0, f))))))))))))))))))))))) = some ((pc', L', S'), (K0, f'))) (k : wq (d + 1) mid Q pc' L' S' f') : wq (d + 1) mid Q pc L S f := by
  obtain ⟨q0, e0, k0⟩ := stp_some e
  obtain ⟨q1, e1, k1⟩ := stp_some e0
  obtain ⟨q2, e2, k2⟩ := stp_some e1
  obtain ⟨q3, e3, k3⟩ := stp_some e2
  obtain ⟨q4, e4, k4⟩ := stp_some e3
  obtain ⟨q5, e5, k5⟩ := stp_some e4
  obtain ⟨q6, e6, k6⟩ := stp_some e5
  obtain ⟨q7, e7, k7⟩ := stp_some e6
  obtain ⟨q8, e8, k8⟩ := stp_some e7
  obtain ⟨q9, e9, k9⟩ := stp_some e8
  obtain ⟨q10, e10, k10⟩ := stp_some e9
  obtain ⟨q11, e11, k11⟩ := stp_some e10
  obtain ⟨q12, e12, k12⟩ := stp_some e11
  obtain ⟨q13, e13, k13⟩ := stp_some e12
  obtain ⟨q14, e14, k14⟩ := stp_some e13
  obtain ⟨q15, e15, k15⟩ := stp_some e14
  obtain ⟨q16, e16, k16⟩ := stp_some e15
  obtain ⟨q17, e17, k17⟩ := stp_some e16
  obtain ⟨q18, e18, k18⟩ := stp_some e17
  obtain ⟨q19, e19, k19⟩ := stp_some e18
  obtain ⟨q20, e20, k20⟩ := stp_some e19
  cases e20
  exact k20 (k19 (k18 (k17 (k16 (k15 (k14 (k13 (k12 (k11 (k10 (k9 (k8 (k7 (k6 (k5 (k4 (k3 (k2 (k1 (k0 k))))))))))))))))))))
theorem wq_run22 (e : stp mid X2 (stp mid X2 (stp mid X2 (stp mid X2 (stp mid X2 (stp mid X2 (stp mid X2 (stp mid X2 (stp mid X2 (stp mid X2 (stp mid X2 (stp mid X2 (stp mid X2 (stp mid X2 (stp mid X2 (stp mid X2 (stp mid X2 (stp mid X2 (stp mid X2 (stp mid X2 (stp mid X2 (stp mid X2 (some ((pc, L, S), (K0, f)))))))))))))))))))))))) = some ((pc', L', S'), (K0, f'))) (k : wq (d + 1) mid Q pc' L' S' f') : wq (d + 1) mid Q pc L S f := by
  obtain ⟨q0, e0, k0⟩ := stp_some e
  obtain ⟨q1, e1, k1⟩ := stp_some e0
  obtain ⟨q2, e2, k2⟩ := stp_some e1
  obtain ⟨q3, e3, k3⟩ := stp_some e2
  obtain ⟨q4, e4, k4⟩ := stp_some e3
  obtain ⟨q5, e5, k5⟩ := stp_some e4
  obtain ⟨q6, e6, k6⟩ := stp_some e5
  obtain ⟨q7, e7, k7⟩ := stp_some e6
  obtain ⟨q8, e8, k8⟩ := stp_some e7
  obtain ⟨q9, e9, k9⟩ := stp_some e8
  obtain ⟨q10, e10, k10⟩ := stp_some e9
  obtain ⟨q11, e11, k11⟩ := stp_some e10
  obtain ⟨q12, e12, k12⟩ := stp_some e11
  obtain ⟨q13, e13, k13⟩ := stp_some e12
  obtain ⟨q14, e14, k14⟩ := stp_some e13
  obtain ⟨q15, e15, k15⟩ := stp_some e14
  obtain ⟨q16, e16, k16⟩ := stp_some e15
  obtain ⟨q17, e17, k17⟩ := stp_some e16
  obtain ⟨q18, e18, k18⟩ := stp_some e17
  obtain ⟨q19, e19, k19⟩ := stp_some e18
  obtain ⟨q20, e20, k20⟩ := stp_some e19
  obtain ⟨q21, e21, k21⟩ := stp_some e20
  cases e21
  exact k21 (k20 (k19 (k18 (k17 (k16 (k15 (k14 (k13 (k12 (k11 (k10 (k9 (k8 (k7 (k6 (k5 (k4 (k3 (k2 (k1 (k0 k)))))))))))))))))))))
theorem wq_run23 (e : stp mid X2 (stp mid X2 (stp mid X2 (stp mid X2 (stp mid X2 (stp mid X2 (stp mid X2 (stp mid X2 (stp mid X2 (stp mid X2 (stp mid X2 (stp mid X2 (stp mid X2 (stp mid X2 (stp mid X2 (stp mid X2 (stp mid X2 (stp mid X2 (stp mid X2 (stp mid X2 (stp mid X2 (stp mid X2 (stp mid X2 (some ((pc, L, S), (K0, f))))))))))))))))))))))))) = some ((pc', L', S'), (K0, f'))) (k : wq (d + 1) mid Q pc' L' S' f') : wq (d + 1) mid Q pc L S f := by
  obtain ⟨q0, e0, k0⟩ := stp_some e
  obtain ⟨q1, e1, k1⟩ := stp_some e0
  obtain ⟨q2, e2, k2⟩ := stp_some e1
  obtain ⟨q3, e3, k3⟩ := stp_some e2
  obtain ⟨q4, e4, k4⟩ := stp_some e3
  obtain ⟨q5, e5, k5⟩ := stp_some e4
  obtain ⟨q6, e6, k6⟩ := stp_some e5
  obtain ⟨q7, e7, k7⟩ := stp_some e6
  obtain ⟨q8, e8, k8⟩ := stp_some e7
  obtain ⟨q9, e9, k9⟩ := stp_some e8
  obtain ⟨q10, e10, k10⟩ := stp_some e9
  obtain ⟨q11, e11, k11⟩ := stp_some e10
  obtain ⟨q12, e12, k12⟩ := stp_some e11
  obtain ⟨q13, e13, k13⟩ := stp_some e12
  obtain ⟨q14, e14, k14⟩ := stp_some e13
  obtain ⟨q15, e15, k15⟩ := stp_some e14
  obtain ⟨q16, e16, k16⟩ := stp_some e15
  obtain ⟨q17, e17, k17⟩ := stp_some e16
  obtain ⟨q18, e18, k18⟩ := stp_some e17
  obtain ⟨q19, e19, k19⟩ := stp_some e18
  obtain ⟨q20, e20, k20⟩ := stp_some e19
  obtain ⟨q21, e21, k21⟩ := stp_some e20
  obtain ⟨q22, e22, k22⟩ := stp_some e21
  cases e22
  exact k22 (k21 (k20 (k19 (k18 (k17 (k16 (k15 (k14 (k13 (k12 (k11 (k10 (k9 (k8 (k7 (k6 (k5 (k4 (k3 (k2 (k1 (k0 k))))))))))))))))))))))
theorem wq_run24 (e : stp mid X2 (stp mid X2 (stp mid X2 (stp mid X2 (stp mid X2 (stp mid X2 (stp mid X2 (stp mid X2 (stp mid X2 (stp mid X2 (stp mid X2 (stp mid X2 (stp mid X2 (stp mid X2 (stp mid X2 (stp mid X2 (stp mid X2 (stp mid X2 (stp mid X2 (stp mid X2 (stp mid X2 (stp mid X2 (stp mid X2 (stp mid X2 (some ((pc, L, S), (K0, f)))))))))))))))))))))))))) = some ((pc', L', S'), (K0, f'))) (k : wq (d + 1) mid Q pc' L' S' f') : wq (d + 1) mid Q pc L S f := by
  obtain ⟨q0, e0, k0⟩ := stp_some e
  obtain ⟨q1, e1, k1⟩ := stp_some e0
  obtain ⟨q2, e2, k2⟩ := stp_some e1
  obtain ⟨q3, e3, k3⟩ := stp_some e2
  obtain ⟨q4, e4, k4⟩ := stp_some e3
  obtain ⟨q5, e5, k5⟩ := stp_some e4
  obtain ⟨q6, e6, k6⟩ := stp_some e5
  obtain ⟨q7, e7, k7⟩ := stp_some e6
  obtain ⟨q8, e8, k8⟩ := stp_some e7
  obtain ⟨q9, e9, k9⟩ := stp_some e8
  obtain ⟨q10, e10, k10⟩ := stp_some e9
  obtain ⟨q11, e11, k11⟩ := stp_some e10
  obtain ⟨q12, e12, k12⟩ := stp_some e11
  obtain ⟨q13, e13, k13⟩ := stp_some e12
  obtain ⟨q14, e14, k14⟩ := stp_some e13
  obtain ⟨q15, e15, k15⟩ := stp_some e14
  obtain ⟨q16, e16, k16⟩ := stp_some e15
  obtain ⟨q17, e17, k17⟩ := stp_some e16
  obtain ⟨q18, e18, k18⟩ := stp_some e17
  obtain ⟨q19, e19, k19⟩ := stp_some e18
  obtain ⟨q20, e20, k20⟩ := stp_some e19
  obtain ⟨q21, e21, k21⟩ := stp_some e20
  obtain ⟨q22, e22, k22⟩ := stp_some e21
  obtain ⟨q23, e23, k23⟩ := stp_some e22
  cases e23
  exact k23 (k22 (k21 (k20 (k19 (k18 (k17 (k16 (k15 (k14 (k13 (k12 (k11 (k10 (k9 (k8 (k7 (k6 (k5 (k4 (k3 (k2 (k1 (k0 k)))))))))))))))))))))))
theorem wq_run25 (e : stp mid X2 (stp mid X2 (stp mid X2 (stp mid X2 (stp mid X2 (stp mid X2 (stp mid X2 (stp mid X2 (stp mid X2 (stp mid X2 (stp mid X2 (stp mid X2 (stp mid X2 (stp mid X2 (stp mid X2 (stp mid X2 (stp mid X2 (stp mid X2 (stp mid X2 (stp mid X2 (stp mid X2 (stp mid X2 (stp mid X2 (stp mid X2 (stp mid X2 (some ((pc, L, S), (K0, f))))))))))))))))))))))))))) = some ((pc', L', S'), (K0, f'))) (k : wq (d + 1) mid Q pc' L' S' f') : wq (d + 1) mid Q pc L S f := by
  obtain ⟨q0, e0, k0⟩ := stp_some e
  obtain ⟨q1, e1, k1⟩ := stp_some e0
  obtain ⟨q2, e2, k2⟩ := stp_some e1
  obtain ⟨q3, e3, k3⟩ := stp_some e2
  obtain ⟨q4, e4, k4⟩ := stp_some e3
  obtain ⟨q5, e5, k5⟩ := stp_some e4
  obtain ⟨q6, e6, k6⟩ := stp_some e5
  obtain ⟨q7, e7, k7⟩ := stp_some e6
  obtain ⟨q8, e8, k8⟩ := stp_some e7
  obtain ⟨q9, e9, k9⟩ := stp_some e8
  obtain ⟨q10, e10, k10⟩ := stp_some e9
  obtain ⟨q11, e11, k11⟩ := stp_some e10
  obtain ⟨q12, e12, k12⟩ := stp_some e11
  obtain ⟨q13, e13, k13⟩ := stp_some e12
  obtain ⟨q14, e14, k14⟩ := stp_some e13
  obtain ⟨q15, e15, k15⟩ := stp_some e14
  obtain ⟨q16, e16, k16⟩ := stp_some e15
  obtain ⟨q17, e17, k17⟩ := stp_some e16
  obtain ⟨q18, e18, k18⟩ := stp_some e17
  obtain ⟨q19, e19, k19⟩ := stp_some e18
  obtain ⟨q20, e20, k20⟩ := stp_some e19
  obtain ⟨q21, e21, k21⟩ := stp_some e20
  obtain ⟨q22, e22, k22⟩ := stp_some e21
  obtain ⟨q23, e23, k23⟩ := stp_some e22
  obtain ⟨q24, e24, k24⟩ := stp_some e23
  cases e24
  exact k24 (k23 (k22 (k21 (k20 (k19 (k18 (k17 (k16 (k15 (k14 (k13 (k12 (k11 (k10 (k9 (k8 (k7 (k6 (k5 (k4 (k3 (k2 (k1 (k0 k))))))))))))))))))))))))
theorem wq_run26 (e : stp mid X2 (stp mid X2 (stp mid X2 (stp mid X2 (stp mid X2 (stp mid X2 (stp mid X2 (stp mid X2 (stp mid X2 (stp mid X2 (stp mid X2 (stp mid X2 (stp mid X2 (stp mid X2 (stp mid X2 (stp mid X2 (stp mid X2 (stp mid X2 (stp mid X2 (stp mid X2 (stp mid X2 (stp mid X2 (stp mid X2 (stp mid X2 (stp mid X2 (stp mid X2 (some ((pc, L, S), (K0, f)))))))))))))))))))))))))))) = some ((pc', L', S'), (K0, f'))) (k : wq (d + 1) mid Q pc' L' S' f') : wq (d + 1) mid Q pc L S f := by
  obtain ⟨q0, e0, k0⟩ := stp_some e
  obtain ⟨q1, e1, k1⟩ := stp_some e0
  obtain ⟨q2, e2, k2⟩ := stp_some e1
  obtain ⟨q3, e3, k3⟩ := stp_some e2
  obtain ⟨q4, e4, k4⟩ := stp_some e3
  obtain ⟨q5, e5, k5⟩ := stp_some e4
  obtain ⟨q6, e6, k6⟩ := stp_some e5
  obtain ⟨q7, e7, k7⟩ := stp_some e6
  obtain ⟨q8, e8, k8⟩ := stp_some e7
  obtain ⟨q9, e9, k9⟩ := stp_some e8
  obtain ⟨q10, e10, k10⟩ := stp_some e9
  obtain ⟨q11, e11, k11⟩ := stp_some e10
  obtain ⟨q12, e12, k12⟩ := stp_some e11
  obtain ⟨q13, e13, k13⟩ := stp_some e12
  obtain ⟨q14, e14, k14⟩ := stp_some e13
  obtain ⟨q15, e15, k15⟩ := stp_some e14
  obtain ⟨q16, e16, k16⟩ := stp_some e15
  obtain ⟨q17, e17, k17⟩ := stp_some e16
  obtain ⟨q18, e18, k18⟩ := stp_some e17
  obtain ⟨q19, e19, k19⟩ := stp_some e18
  obtain ⟨q20, e20, k20⟩ := stp_some e19
  obtain ⟨q21, e21, k21⟩ := stp_some e20
  obtain ⟨q22, e22, k22⟩ := stp_some e21
  obtain ⟨q23, e23, k23⟩ := stp_some e22
  obtain ⟨q24, e24, k24⟩ := stp_some e23
  obtain ⟨q25, e25, k25⟩ := stp_some e24
  cases e25
  exact k25 (k24 (k23 (k22 (k21 (k20 (k19 (k18 (k17 (k16 (k15 (k14 (k13 (k12 (k11 (k10 (k9 (k8 (k7 (k6 (k5 (k4 (k3 (k2 (k1 (k0 k)))))))))))))))))))))))))
theorem wq_run27 (e : stp mid X2 (stp mid X2 (stp mid X2 (stp mid X2 (stp mid X2 (stp mid X2 (stp mid X2 (stp mid X2 (stp mid X2 (stp mid X2 (stp mid X2 (stp mid X2 (stp mid X2 (stp mid X2 (stp mid X2 (stp mid X2 (stp mid X2 (stp mid X2 (stp mid X2 (stp mid X2 (stp mid X2 (stp mid X2 (stp mid X2 (stp mid X2 (stp mid X2 (stp mid X2 (stp mid X2 (some ((pc, L, S), (K0, f))))))))))))))))))))))))))))) = some ((pc', L', S'), (K0, f'))) (k : wq (d + 1) mid Q pc' L' S' f') : wq (d + 1) mid Q pc L S f := by
  obtain ⟨q0, e0, k0⟩ := stp_some e
  obtain ⟨q1, e1, k1⟩ := stp_some e0
  obtain ⟨q2, e2, k2⟩ := stp_some e1
  obtain ⟨q3, e3, k3⟩ := stp_some e2
  obtain ⟨q4, e4, k4⟩ := stp_some e3
  obtain ⟨q5, e5, k5⟩ := stp_some e4
  obtain ⟨q6, e6, k6⟩ := stp_some e5
  obtain ⟨q7, e7, k7⟩ := stp_some e6
  obtain ⟨q8, e8, k8⟩ := stp_some e7
  obtain ⟨q9, e9, k9⟩ := stp_some e8
  obtain ⟨q10, e10, k10⟩ := stp_some e9
  obtain ⟨q11, e11, k11⟩ := stp_some e10
  obtain ⟨q12, e12, k12⟩ := stp_some e11
  obtain ⟨q13, e13, k13⟩ := stp_some e12
  obtain ⟨q14, e14, k14⟩ := stp_some e13
  obtain ⟨q15, e15, k15⟩ := stp_some e14
  obtain ⟨q16, e16, k16⟩ := stp_some e15
  obtain ⟨q17, e17, k17⟩ := stp_some e16
  obtain ⟨q18, e18, k18⟩ := stp_some e17
  obtain ⟨q19, e19, k19⟩ := stp_some e18
  obtain ⟨q20, e20, k20⟩ := stp_some e19
  obtain ⟨q21, e21, k21⟩ := stp_some e20
  obtain ⟨q22, e22, k22⟩ := stp_some e21
  obtain ⟨q23, e23, k23⟩ := stp_some e22
  obtain ⟨q24, e24, k24⟩ := stp_some e23
  obtain ⟨q25, e25, k25⟩ := stp_some e24
  obtain ⟨q26, e26, k26⟩ := stp_some e25
  cases e26
  exact k26 (k25 (k24 (k23 (k22 (k21 (k20 (k19 (k18 (k17 (k16 (k15 (k14 (k13 (k12 (k11 (k10 (k9 (k8 (k7 (k6 (k5 (k4 (k3 (k2 (k1 (k0 k))))))))))))))))))))))))))
theorem wq_run28 (e : stp mid X2 (stp mid X2 (stp mid X2 (stp mid X2 (stp mid X2 (stp mid X2 (stp mid X2 (stp mid X2 (stp mid X2 (stp mid X2 (stp mid X2 (stp mid X2 (stp mid X2 (stp mid X2 (stp mid X2 (stp mid X2 (stp mid X2 (stp mid X2 (stp mid X2 (stp mid X2 (stp mid X2 (stp mid X2 (stp mid X2 (stp mid X2 (stp mid X2 (stp mid X2 (stp mid X2 (stp mid X2 (some ((pc, L, S), (K0, f)))))))))))))))))))))))))))))) = some ((pc', L', S'), (K0, f'))) (k : wq (d + 1) mid Q pc' L' S' f') : wq (d + 1) mid Q pc L S f := by
  obtain ⟨q0, e0, k0⟩ := stp_some e
  obtain ⟨q1, e1, k1⟩ := stp_some e0
  obtain ⟨q2, e2, k2⟩ := stp_some e1
  obtain ⟨q3, e3, k3⟩ := stp_some e2
  obtain ⟨q4, e4, k4⟩ := stp_some e3
  obtain ⟨q5, e5, k5⟩ := stp_some e4
  obtain ⟨q6, e6, k6⟩ := stp_some e5
  obtain ⟨q7, e7, k7⟩ := stp_some e6
  obtain ⟨q8, e8, k8⟩ := stp_some e7
  obtain ⟨q9, e9, k9⟩ := stp_some e8
  obtain ⟨q10, e10, k10⟩ := stp_some e9
  obtain ⟨q11, e11, k11⟩ := stp_some e10
  obtain ⟨q12, e12, k12⟩ := stp_some e11
  obtain ⟨q13, e13, k13⟩ := stp_some e12
  obtain ⟨q14, e14, k14⟩ := stp_some e13
  obtain ⟨q15, e15, k15⟩ := stp_some e14
  obtain ⟨q16, e16, k16⟩ := stp_some e15
  obtain ⟨q17, e17, k17⟩ := stp_some e16
  obtain ⟨q18, e18, k18⟩ := stp_some e17
  obtain ⟨q19, e19, k19⟩ := stp_some e18
  obtain ⟨q20, e20, k20⟩ := stp_some e19
  obtain ⟨q21, e21, k21⟩ := stp_some e20
  obtain ⟨q22, e22, k22⟩ := stp_some e21
  obtain ⟨q23, e23, k23⟩ := stp_some e22
  obtain ⟨q24, e24, k24⟩ := stp_some e23
  obtain ⟨q25, e25, k25⟩ := stp_some e24
  obtain ⟨q26, e26, k26⟩ := stp_some e25
  obtain ⟨q27, e27, k27⟩ := stp_some e26
  cases e27
  exact k27 (k26 (k25 (k24 (k23 (k22 (k21 (k20 (k19 (k18 (k17 (k16 (k15 (k14 (k13 (k12 (k11 (k10 (k9 (k8 (k7 (k6 (k5 (k4 (k3 (k2 (k1 (k0 k)))))))))))))))))))))))))))
theorem wq_run29 (e : stp mid X2 (stp mid X2 (stp mid X2 (stp mid X2 (stp mid X2 (stp mid X2 (stp mid X2 (stp mid X2 (stp mid X2 (stp mid X2 (stp mid X2 (stp mid X2 (stp mid X2 (stp mid X2 (stp mid X2 (stp mid X2 (stp mid X2 (stp mid X2 (stp mid X2 (stp mid X2 (stp mid X2 (stp mid X2 (stp mid X2 (stp mid X2 (stp mid X2 (stp mid X2 (stp mid X2 (stp mid X2 (stp mid X2 (some ((pc, L, S), (K0, f))))))))))))))))))))))))))))))) = some ((pc', L', S'), (K0, f'))) (k : wq (d + 1) mid Q pc' L' S' f') : wq (d + 1) mid Q pc L S f := by
  obtain ⟨q0, e0, k0⟩ := stp_some e
  obtain ⟨q1, e1, k1⟩ := stp_some e0
  obtain ⟨q2, e2, k2⟩ := stp_some e1
  obtain ⟨q3, e3, k3⟩ := stp_some e2
  obtain ⟨q4, e4, k4⟩ := stp_some e3
  obtain ⟨q5, e5, k5⟩ := stp_some e4
  obtain ⟨q6, e6, k6⟩ := stp_some e5
  obtain ⟨q7, e7, k7⟩ := stp_some e6
  obtain ⟨q8, e8, k8⟩ := stp_some e7
  obtain ⟨q9, e9, k9⟩ := stp_some e8
  obtain ⟨q10, e10, k10⟩ := stp_some e9
  obtain ⟨q11, e11, k11⟩ := stp_some e10
  obtain ⟨q12, e12, k12⟩ := stp_some e11
  obtain ⟨q13, e13, k13⟩ := stp_some e12
  obtain ⟨q14, e14, k14⟩ := stp_some e13
  obtain ⟨q15, e15, k15⟩ := stp_some e14
  obtain ⟨q16, e16, k16⟩ := stp_some e15
  obtain ⟨q17, e17, k17⟩ := stp_some e16
  obtain ⟨q18, e18, k18⟩ := stp_some e17
  obtain ⟨q19, e19, k19⟩ := stp_some e18
  obtain ⟨q20, e20, k20⟩ := stp_some e19
  obtain ⟨q21, e21, k21⟩ := stp_some e20
  obtain ⟨q22, e22, k22⟩ := stp_some e21
  obtain ⟨q23, e23, k23⟩ := stp_some e22
  obtain ⟨q24, e24, k24⟩ := stp_some e23
  obtain ⟨q25, e25, k25⟩ := stp_some e24
  obtain ⟨q26, e26, k26⟩ := stp_some e25
  obtain ⟨q27, e27, k27⟩ := stp_some e26
  obtain ⟨q28, e28, k28⟩ := stp_some e27
  cases e28
  exact k28 (k27 (k26 (k25 (k24 (k23 (k22 (k21 (k20 (k19 (k18 (k17 (k16 (k15 (k14 (k13 (k12 (k11 (k10 (k9 (k8 (k7 (k6 (k5 (k4 (k3 (k2 (k1 (k0 k))))))))))))))))))))))))))))
theorem wq_run30 (e : stp mid X2 (stp mid X2 (stp mid X2 (stp mid X2 (stp mid X2 (stp mid X2 (stp mid X2 (stp mid X2 (stp mid X2 (stp mid X2 (stp mid X2 (stp mid X2 (stp mid X2 (stp mid X2 (stp mid X2 (stp mid X2 (stp mid X2 (stp mid X2 (stp mid X2 (stp mid X2 (stp mid X2 (stp mid X2 (stp mid X2 (stp mid X2 (stp mid X2 (stp mid X2 (stp mid X2 (stp mid X2 (stp mid X2 (stp mid X2 (some ((pc, L, S), (K0, f)))))))))))))))))))))))))))))))) = some ((pc', L', S'), (K0, f'))) (k : wq (d + 1) mid Q pc' L' S' f') : wq (d + 1) mid Q pc L S f := by
  obtain ⟨q0, e0, k0⟩ := stp_some e
  obtain ⟨q1, e1, k1⟩ := stp_some e0
  obtain ⟨q2, e2, k2⟩ := stp_some e1
  obtain ⟨q3, e3, k3⟩ := stp_some e2
  obtain ⟨q4, e4, k4⟩ := stp_some e3
  obtain ⟨q5, e5, k5⟩ := stp_some e4
  obtain ⟨q6, e6, k6⟩ := stp_some e5
  obtain ⟨q7, e7, k7⟩ := stp_some e6
  obtain ⟨q8, e8, k8⟩ := stp_some e7
  obtain ⟨q9, e9, k9⟩ := stp_some e8
  obtain ⟨q10, e10, k10⟩ := stp_some e9
  obtain ⟨q11, e11, k11⟩ := stp_some e10
  obtain ⟨q12, e12, k12⟩ := stp_some e11
  obtain ⟨q13, e13, k13⟩ := stp_some e12
  obtain ⟨q14, e14, k14⟩ := stp_some e13
  obtain ⟨q15, e15, k15⟩ := stp_some e14
  obtain ⟨q16, e16, k16⟩ := stp_some e15
  obtain ⟨q17, e17, k17⟩ := stp_some e16
  obtain ⟨q18, e18, k18⟩ := stp_some e17
  obtain ⟨q19, e19, k19⟩ := stp_some e18
  obtain ⟨q20, e20, k20⟩ := stp_some e19
  obtain ⟨q21, e21, k21⟩ := stp_some e20
  obtain ⟨q22, e22, k22⟩ := stp_some e21
  obtain ⟨q23, e23, k23⟩ := stp_some e22
  obtain ⟨q24, e24, k24⟩ := stp_some e23
  obtain ⟨q25, e25, k25⟩ := stp_some e24
  obtain ⟨q26, e26, k26⟩ := stp_some e25
  obtain ⟨q27, e27, k27⟩ := stp_some e26
  obtain ⟨q28, e28, k28⟩ := stp_some e27
  obtain ⟨q29, e29, k29⟩ := stp_some e28
  cases e29
  exact k29 (k28 (k27 (k26 (k25 (k24 (k23 (k22 (k21 (k20 (k19 (k18 (k17 (k16 (k15 (k14 (k13 (k12 (k11 (k10 (k9 (k8 (k7 (k6 (k5 (k4 (k3 (k2 (k1 (k0 k)))))))))))))))))))))))))))))
theorem wq_run31 (e : stp mid X2 (stp mid X2 (stp mid X2 (stp mid X2 (stp mid X2 (stp mid X2 (stp mid X2 (stp mid X2 (stp mid X2 (stp mid X2 (stp mid X2 (stp mid X2 (stp mid X2 (stp mid X2 (stp mid X2 (stp mid X2 (stp mid X2 (stp mid X2 (stp mid X2 (stp mid X2 (stp mid X2 (stp mid X2 (stp mid X2 (stp mid X2 (stp mid X2 (stp mid X2 (stp mid X2 (stp mid X2 (stp mid X2 (stp mid X2 (stp mid X2 (some ((pc, L, S), (K0, f))))))))))))))))))))))))))))))))) = some ((pc', L', S'), (K0, f'))) (k : wq (d + 1) mid Q pc' L' S' f') : wq (d + 1) mid Q pc L S f := by
  obtain ⟨q0, e0, k0⟩ := stp_some e
  obtain ⟨q1, e1, k1⟩ := stp_some e0
  obtain ⟨q2, e2, k2⟩ := stp_some e1
  obtain ⟨q3, e3, k3⟩ := stp_some e2
  obtain ⟨q4, e4, k4⟩ := stp_some e3
  obtain ⟨q5, e5, k5⟩ := stp_some e4
  obtain ⟨q6, e6, k6⟩ := stp_some e5
  obtain ⟨q7, e7, k7⟩ := stp_some e6
  obtain ⟨q8, e8, k8⟩ := stp_some e7
  obtain ⟨q9, e9, k9⟩ := stp_some e8
  obtain ⟨q10, e10, k10⟩ := stp_some e9
  obtain ⟨q11, e11, k11⟩ := stp_some e10
  obtain ⟨q12, e12, k12⟩ := stp_some e11
  obtain ⟨q13, e13, k13⟩ := stp_some e12
  obtain ⟨q14, e14, k14⟩ := stp_some e13
  obtain ⟨q15, e15, k15⟩ := stp_some e14
  obtain ⟨q16, e16, k16⟩ := stp_some e15
  obtain ⟨q17, e17, k17⟩ := stp_some e16
  obtain ⟨q18, e18, k18⟩ := stp_some e17
  obtain ⟨q19, e19, k19⟩ := stp_some e18
  obtain ⟨q20, e20, k20⟩ := stp_some e19
  obtain ⟨q21, e21, k21⟩ := stp_some e20
  obtain ⟨q22, e22, k22⟩ := stp_some e21
  obtain ⟨q23, e23, k23⟩ := stp_some e22
  obtain ⟨q24, e24, k24⟩ := stp_some e23
  obtain ⟨q25, e25, k25⟩ := stp_some e24
  obtain ⟨q26, e26, k26⟩ := stp_some e25
  obtain ⟨q27, e27, k27⟩ := stp_some e26
  obtain ⟨q28, e28, k28⟩ := stp_some e27
  obtain ⟨q29, e29, k29⟩ := stp_some e28
  obtain ⟨q30, e30, k30⟩ := stp_some e29
  cases e30
  exact k30 (k29 (k28 (k27 (k26 (k25 (k24 (k23 (k22 (k21 (k20 (k19 (k18 (k17 (k16 (k15 (k14 (k13 (k12 (k11 (k10 (k9 (k8 (k7 (k6 (k5 (k4 (k3 (k2 (k1 (k0 k))))))))))))))))))))))))))))))
theorem wq_run32 (e : stp mid X2 (stp mid X2 (stp mid X2 (stp mid X2 (stp mid X2 (stp mid X2 (stp mid X2 (stp mid X2 (stp mid X2 (stp mid X2 (stp mid X2 (stp mid X2 (stp mid X2 (stp mid X2 (stp mid X2 (stp mid X2 (stp mid X2 (stp mid X2 (stp mid X2 (stp mid X2 (stp mid X2 (stp mid X2 (stp mid X2 (stp mid X2 (stp mid X2 (stp mid X2 (stp mid X2 (stp mid X2 (stp mid X2 (stp mid X2 (stp mid X2 (stp mid X2 (some ((pc, L, S), (K0, f)))))))))))))))))))))))))))))))))) = some ((pc', L', S'), (K0, f'))) (k : wq (d + 1) mid Q pc' L' S' f') : wq (d + 1) mid Q pc L S f := by
  obtain ⟨q0, e0, k0⟩ := stp_some e
  obtain ⟨q1, e1, k1⟩ := stp_some e0
  obtain ⟨q2, e2, k2⟩ := stp_some e1
  obtain ⟨q3, e3, k3⟩ := stp_some e2
  obtain ⟨q4, e4, k4⟩ := stp_some e3
  obtain ⟨q5, e5, k5⟩ := stp_some e4
  obtain ⟨q6, e6, k6⟩ := stp_some e5
  obtain ⟨q7, e7, k7⟩ := stp_some e6
  obtain ⟨q8, e8, k8⟩ := stp_some e7
  obtain ⟨q9, e9, k9⟩ := stp_some e8
  obtain ⟨q10, e10, k10⟩ := stp_some e9
  obtain ⟨q11, e11, k11⟩ := stp_some e10
  obtain ⟨q12, e12, k12⟩ := stp_some e11
  obtain ⟨q13, e13, k13⟩ := stp_some e12
  obtain ⟨q14, e14, k14⟩ := stp_some e13
  obtain ⟨q15, e15, k15⟩ := stp_some e14
  obtain ⟨q16, e16, k16⟩ := stp_some e15
  obtain ⟨q17, e17, k17⟩ := stp_some e16
  obtain ⟨q18, e18, k18⟩ := stp_some e17
  obtain ⟨q19, e19, k19⟩ := stp_some e18
  obtain ⟨q20, e20, k20⟩ := stp_some e19
  obtain ⟨q21, e21, k21⟩ := stp_some e20
  obtain ⟨q22, e22, k22⟩ := stp_some e21
  obtain ⟨q23, e23, k23⟩ := stp_some e22
  obtain ⟨q24, e24, k24⟩ := stp_some e23
  obtain ⟨q25, e25, k25⟩ := stp_some e24
  obtain ⟨q26, e26, k26⟩ := stp_some e25
  obtain ⟨q27, e27, k27⟩ := stp_some e26
  obtain ⟨q28, e28, k28⟩ := stp_some e27
  obtain ⟨q29, e29, k29⟩ := stp_some e28
  obtain ⟨q30, e30, k30⟩ := stp_some e29
  obtain ⟨q31, e31, k31⟩ := stp_some e30
  cases e31
  exact k31 (k30 (k29 (k28 (k27 (k26 (k25 (k24 (k23 (k22 (k21 (k20 (k19 (k18 (k17 (k16 (k15 (k14 (k13 (k12 (k11 (k10 (k9 (k8 (k7 (k6 (k5 (k4 (k3 (k2 (k1 (k0 k)))))))))))))))))))))))))))))))
theorem wq_run33 (e : stp mid X2 (stp mid X2 (stp mid X2 (stp mid X2 (stp mid X2 (stp mid X2 (stp mid X2 (stp mid X2 (stp mid X2 (stp mid X2 (stp mid X2 (stp mid X2 (stp mid X2 (stp mid X2 (stp mid X2 (stp mid X2 (stp mid X2 (stp mid X2 (stp mid X2 (stp mid X2 (stp mid X2 (stp mid X2 (stp mid X2 (stp mid X2 (stp mid X2 (stp mid X2 (stp mid X2 (stp mid X2 (stp mid X2 (stp mid X2 (stp mid X2 (stp mid X2 (stp mid X2 (some ((pc, L, S), (K0, f))))))))))))))))))))))))))))))))))) = some ((pc', L', S'), (K0, f'))) (k : wq (d + 1) mid Q pc' L' S' f') : wq (d + 1) mid Q pc L S f := by
  obtain ⟨q0, e0, k0⟩ := stp_some e
  obtain ⟨q1, e1, k1⟩ := stp_some e0
  obtain ⟨q2, e2, k2⟩ := stp_some e1
  obtain ⟨q3, e3, k3⟩ := stp_some e2
  obtain ⟨q4, e4, k4⟩ := stp_some e3
  obtain ⟨q5, e5, k5⟩ := stp_some e4
  obtain ⟨q6, e6, k6⟩ := stp_some e5
  obtain ⟨q7, e7, k7⟩ := stp_some e6
  obtain ⟨q8, e8, k8⟩ := stp_some e7
  obtain ⟨q9, e9, k9⟩ := stp_some e8
  obtain ⟨q10, e10, k10⟩ := stp_some e9
  obtain ⟨q11, e11, k11⟩ := stp_some e10
  obtain ⟨q12, e12, k12⟩ := stp_some e11
  obtain ⟨q13, e13, k13⟩ := stp_some e12
  obtain ⟨q14, e14, k14⟩ := stp_some e13
  obtain ⟨q15, e15, k15⟩ := stp_some e14
  obtain ⟨q16, e16, k16⟩ := stp_some e15
  obtain ⟨q17, e17, k17⟩ := stp_some e16
  obtain ⟨q18, e18, k18⟩ := stp_some e17
  obtain ⟨q19, e19, k19⟩ := stp_some e18
  obtain ⟨q20, e20, k20⟩ := stp_some e19
  obtain ⟨q21, e21, k21⟩ := stp_some e20
  obtain ⟨q22, e22, k22⟩ := stp_some e21
  obtain ⟨q23, e23, k23⟩ := stp_some e22
  obtain ⟨q24, e24, k24⟩ := stp_some e23
  obtain ⟨q25, e25, k25⟩ := stp_some e24
  obtain ⟨q26, e26, k26⟩ := stp_some e25
  obtain ⟨q27, e27, k27⟩ := stp_some e26
  obtain ⟨q28, e28, k28⟩ := stp_some e27
  obtain ⟨q29, e29, k29⟩ := stp_some e28
  obtain ⟨q30, e30, k30⟩ := stp_some e29
  obtain ⟨q31, e31, k31⟩ := stp_some e30
  obtain ⟨q32, e32, k32⟩ := stp_some e31
  cases e32
  exact k32 (k31 (k30 (k29 (k28 (k27 (k26 (k25 (k24 (k23 (k22 (k21 (k20 (k19 (k18 (k17 (k16 (k15 (k14 (k13 (k12 (k11 (k10 (k9 (k8 (k7 (k6 (k5 (k4 (k3 (k2 (k1 (k0 k))))))))))))))))))))))))))))))))
theorem wq_run34 (e : stp mid X2 (stp mid X2 (stp mid X2 (stp mid X2 (stp mid X2 (stp mid X2 (stp mid X2 (stp mid X2 (stp mid X2 (stp mid X2 (stp mid X2 (stp mid X2 (stp mid X2 (stp mid X2 (stp mid X2 (stp mid X2 (stp mid X2 (stp mid X2 (stp mid X2 (stp mid X2 (stp mid X2 (stp mid X2 (stp mid X2 (stp mid X2 (stp mid X2 (stp mid X2 (stp mid X2 (stp mid X2 (stp mid X2 (stp mid X2 (stp mid X2 (stp mid X2 (stp mid X2 (stp mid X2 (some ((pc, L, S), (K0, f)))))))))))))))))))))))))))))))))))) = some ((pc', L', S'), (K0, f'))) (k : wq (d + 1) mid Q pc' L' S' f') : wq (d + 1) mid Q pc L S f := by
  obtain ⟨q0, e0, k0⟩ := stp_some e
  obtain ⟨q1, e1, k1⟩ := stp_some e0
  obtain ⟨q2, e2, k2⟩ := stp_some e1
  obtain ⟨q3, e3, k3⟩ := stp_some e2
  obtain ⟨q4, e4, k4⟩ := stp_some e3
  obtain ⟨q5, e5, k5⟩ := stp_some e4
  obtain ⟨q6, e6, k6⟩ := stp_some e5
  obtain ⟨q7, e7, k7⟩ := stp_some e6
  obtain ⟨q8, e8, k8⟩ := stp_some e7
  obtain ⟨q9, e9, k9⟩ := stp_some e8
  obtain ⟨q10, e10, k10⟩ := stp_some e9
  obtain ⟨q11, e11, k11⟩ := stp_some e10
  obtain ⟨q12, e12, k12⟩ := stp_some e11
  obtain ⟨q13, e13, k13⟩ := stp_some e12
  obtain ⟨q14, e14, k14⟩ := stp_some e13
  obtain ⟨q15, e15, k15⟩ := stp_some e14
  obtain ⟨q16, e16, k16⟩ := stp_some e15
  obtain ⟨q17, e17, k17⟩ := stp_some e16
  obtain ⟨q18, e18, k18⟩ := stp_some e17
  obtain ⟨q19, e19, k19⟩ := stp_some e18
  obtain ⟨q20, e20, k20⟩ := stp_some e19
  obtain ⟨q21, e21, k21⟩ := stp_some e20
  obtain ⟨q22, e22, k22⟩ := stp_some e21
  obtain ⟨q23, e23, k23⟩ := stp_some e22
  obtain ⟨q24, e24, k24⟩ := stp_some e23
  obtain ⟨q25, e25, k25⟩ := stp_some e24
  obtain ⟨q26, e26, k26⟩ := stp_some e25
  obtain ⟨q27, e27, k27⟩ := stp_some e26
  obtain ⟨q28, e28, k28⟩ := stp_some e27
  obtain ⟨q29, e29, k29⟩ := stp_some e28
  obtain ⟨q30, e30, k30⟩ := stp_some e29
  obtain ⟨q31, e31, k31⟩ := stp_some e30
  obtain ⟨q32, e32, k32⟩ := stp_some e31
  obtain ⟨q33, e33, k33⟩ := stp_some e32
  cases e33
  exact k33 (k32 (k31 (k30 (k29 (k28 (k27 (k26 (k25 (k24 (k23 (k22 (k21 (k20 (k19 (k18 (k17 (k16 (k15 (k14 (k13 (k12 (k11 (k10 (k9 (k8 (k7 (k6 (k5 (k4 (k3 (k2 (k1 (k0 k)))))))))))))))))))))))))))))))))
theorem wq_run35 (e : stp mid X2 (stp mid X2 (stp mid X2 (stp mid X2 (stp mid X2 (stp mid X2 (stp mid X2 (stp mid X2 (stp mid X2 (stp mid X2 (stp mid X2 (stp mid X2 (stp mid X2 (stp mid X2 (stp mid X2 (stp mid X2 (stp mid X2 (stp mid X2 (stp mid X2 (stp mid X2 (stp mid X2 (stp mid X2 (stp mid X2 (stp mid X2 (stp mid X2 (stp mid X2 (stp mid X2 (stp mid X2 (stp mid X2 (stp mid X2 (stp mid X2 (stp mid X2 (stp mid X2 (stp mid X2 (stp mid X2 (some ((pc, L, S), (K0, f))))))))))))))))))))))))))))))))))))) = some ((pc', L', S'), (K0, f'))) (k : wq (d + 1) mid Q pc' L' S' f') : wq (d + 1) mid Q pc L S f := by
  obtain ⟨q0, e0, k0⟩ := stp_some e
  obtain ⟨q1, e1, k1⟩ := stp_some e0
  obtain ⟨q2, e2, k2⟩ := stp_some e1
  obtain ⟨q3, e3, k3⟩ := stp_some e2
  obtain ⟨q4, e4, k4⟩ := stp_some e3
  obtain ⟨q5, e5, k5⟩ := stp_some e4
  obtain ⟨q6, e6, k6⟩ := stp_some e5
  obtain ⟨q7, e7, k7⟩ := stp_some e6
  obtain ⟨q8, e8, k8⟩ := stp_some e7
  obtain ⟨q9, e9, k9⟩ := stp_some e8
  obtain ⟨q10, e10, k10⟩ := stp_some e9
  obtain ⟨q11, e11, k11⟩ := stp_some e10
  obtain ⟨q12, e12, k12⟩ := stp_some e11
  obtain ⟨q13, e13, k13⟩ := stp_some e12
  obtain ⟨q14, e14, k14⟩ := stp_some e13
  obtain ⟨q15, e15, k15⟩ := stp_some e14
  obtain ⟨q16, e16, k16⟩ := stp_some e15
  obtain ⟨q17, e17, k17⟩ := stp_some e16
  obtain ⟨q18, e18, k18⟩ := stp_some e17
  obtain ⟨q19, e19, k19⟩ := stp_some e18
  obtain ⟨q20, e20, k20⟩ := stp_some e19
  obtain ⟨q21, e21, k21⟩ := stp_some e20
  obtain ⟨q22, e22, k22⟩ := stp_some e21
  obtain ⟨q23, e23, k23⟩ := stp_some e22
  obtain ⟨q24, e24, k24⟩ := stp_some e23
  obtain ⟨q25, e25, k25⟩ := stp_some e24
  obtain ⟨q26, e26, k26⟩ := stp_some e25
  obtain ⟨q27, e27, k27⟩ := stp_some e26
  obtain ⟨q28, e28, k28⟩ := stp_some e27
  obtain ⟨q29, e29, k29⟩ := stp_some e28
  obtain ⟨q30, e30, k30⟩ := stp_some e29
  obtain ⟨q31, e31, k31⟩ := stp_some e30
  obtain ⟨q32, e32, k32⟩ := stp_some e31
  obtain ⟨q33, e33, k33⟩ := stp_some e32
  obtain ⟨q34, e34, k34⟩ := stp_some e33
  cases e34
  exact k34 (k33 (k32 (k31 (k30 (k29 (k28 (k27 (k26 (k25 (k24 (k23 (k22 (k21 (k20 (k19 (k18 (k17 (k16 (k15 (k14 (k13 (k12 (k11 (k10 (k9 (k8 (k7 (k6 (k5 (k4 (k3 (k2 (k1 (k0 k))))))))))))))))))))))))))))))))))
theorem wq_run36 (e : stp mid X2 (stp mid X2 (stp mid X2 (stp mid X2 (stp mid X2 (stp mid X2 (stp mid X2 (stp mid X2 (stp mid X2 (stp mid X2 (stp mid X2 (stp mid X2 (stp mid X2 (stp mid X2 (stp mid X2 (stp mid X2 (stp mid X2 (stp mid X2 (stp mid X2 (stp mid X2 (stp mid X2 (stp mid X2 (stp mid X2 (stp mid X2 (stp mid X2 (stp mid X2 (stp mid X2 (stp mid X2 (stp mid X2 (stp mid X2 (stp mid X2 (stp mid X2 (stp mid X2 (stp mid X2 (stp mid X2 (stp mid X2 (some ((pc, L, S), (K0, f)))))))))))))))))))))))))))))))))))))) = some ((pc', L', S'), (K0, f'))) (k : wq (d + 1) mid Q pc' L' S' f') : wq (d + 1) mid Q pc L S f := by
  obtain ⟨q0, e0, k0⟩ := stp_some e
  obtain ⟨q1, e1, k1⟩ := stp_some e0
  obtain ⟨q2, e2, k2⟩ := stp_some e1
  obtain ⟨q3, e3, k3⟩ := stp_some e2
  obtain ⟨q4, e4, k4⟩ := stp_some e3
  obtain ⟨q5, e5, k5⟩ := stp_some e4
  obtain ⟨q6, e6, k6⟩ := stp_some e5
  obtain ⟨q7, e7, k7⟩ := stp_some e6
  obtain ⟨q8, e8, k8⟩ := stp_some e7
  obtain ⟨q9, e9, k9⟩ := stp_some e8
  obtain ⟨q10, e10, k10⟩ := stp_some e9
  obtain ⟨q11, e11, k11⟩ := stp_some e10
  obtain ⟨q12, e12, k12⟩ := stp_some e11
  obtain ⟨q13, e13, k13⟩ := stp_some e12
  obtain ⟨q14, e14, k14⟩ := stp_some e13
  obtain ⟨q15, e15, k15⟩ := stp_some e14
  obtain ⟨q16, e16, k16⟩ := stp_some e15
  obtain ⟨q17, e17, k17⟩ := stp_some e16
  obtain ⟨q18, e18, k18⟩ := stp_some e17
  obtain ⟨q19, e19, k19⟩ := stp_some e18
  obtain ⟨q20, e20, k20⟩ := stp_some e19
  obtain ⟨q21, e21, k21⟩ := stp_some e20
  obtain ⟨q22, e22, k22⟩ := stp_some e21
  obtain ⟨q23, e23, k23⟩ := stp_some e22
  obtain ⟨q24, e24, k24⟩ := stp_some e23
  obtain ⟨q25, e25, k25⟩ := stp_some e24
  obtain ⟨q26, e26, k26⟩ := stp_some e25
  obtain ⟨q27, e27, k27⟩ := stp_some e26
  obtain ⟨q28, e28, k28⟩ := stp_some e27
  obtain ⟨q29, e29, k29⟩ := stp_some e28
  obtain ⟨q30, e30, k30⟩ := stp_some e29
  obtain ⟨q31, e31, k31⟩ := stp_some e30
  obtain ⟨q32, e32, k32⟩ := stp_some e31
  obtain ⟨q33, e33, k33⟩ := stp_some e32
  obtain ⟨q34, e34, k34⟩ := stp_some e33
  obtain ⟨q35, e35, k35⟩ := stp_some e34
  cases e35
  exact k35 (k34 (k33 (k32 (k31 (k30 (k29 (k28 (k27 (k26 (k25 (k24 (k23 (k22 (k21 (k20 (k19 (k18 (k17 (k16 (k15 (k14 (k13 (k12 (k11 (k10 (k9 (k8 (k7 (k6 (k5 (k4 (k3 (k2 (k1 (k0 k)))))))))))))))))))))))))))))))))))
theorem wq_run37 (e : stp mid X2 (stp mid X2 (stp mid X2 (stp mid X2 (stp mid X2 (stp mid X2 (stp mid X2 (stp mid X2 (stp mid X2 (stp mid X2 (stp mid X2 (stp mid X2 (stp mid X2 (stp mid X2 (stp mid X2 (stp mid X2 (stp mid X2 (stp mid X2 (stp mid X2 (stp mid X2 (stp mid X2 (stp mid X2 (stp mid X2 (stp mid X2 (stp mid X2 (stp mid X2 (stp mid X2 (stp mid X2 (stp mid X2 (stp mid X2 (stp mid X2 (stp mid X2 (stp mid X2 (stp mid X2 (stp mid X2 (stp mid X2 (stp mid X2 (some ((pc, L, S), (K0, f))))))))))))))))))))))))))))))))))))))) = some ((pc', L', S'), (K0, f'))) (k : wq (d + 1) mid Q pc' L' S' f') : wq (d + 1) mid Q pc L S f := by
  obtain ⟨q0, e0, k0⟩ := stp_some e
  obtain ⟨q1, e1, k1⟩ := stp_some e0
  obtain ⟨q2, e2, k2⟩ := stp_some e1
  obtain ⟨q3, e3, k3⟩ := stp_some e2
  obtain ⟨q4, e4, k4⟩ := stp_some e3
  obtain ⟨q5, e5, k5⟩ := stp_some e4
  obtain ⟨q6, e6, k6⟩ := stp_some e5
  obtain ⟨q7, e7, k7⟩ := stp_some e6
  obtain ⟨q8, e8, k8⟩ := stp_some e7
  obtain ⟨q9, e9, k9⟩ := stp_some e8
  obtain ⟨q10, e10, k10⟩ := stp_some e9
  obtain ⟨q11, e11, k11⟩ := stp_some e10
  obtain ⟨q12, e12, k12⟩ := stp_some e11
  obtain ⟨q13, e13, k13⟩ := stp_some e12
  obtain ⟨q14, e14, k14⟩ := stp_some e13
  obtain ⟨q15, e15, k15⟩ := stp_some e14
  obtain ⟨q16, e16, k16⟩ := stp_some e15
  obtain ⟨q17, e17, k17⟩ := stp_some e16
  obtain ⟨q18, e18, k18⟩ := stp_some e17
  obtain ⟨q19, e19, k19⟩ := stp_some e18
  obtain ⟨q20, e20, k20⟩ := stp_some e19
  obtain ⟨q21, e21, k21⟩ := stp_some e20
  obtain ⟨q22, e22, k22⟩ := stp_some e21
  obtain ⟨q23, e23, k23⟩ := stp_some e22
  obtain ⟨q24, e24, k24⟩ := stp_some e23
  obtain ⟨q25, e25, k25⟩ := stp_some e24
  obtain ⟨q26, e26, k26⟩ := stp_some e25
  obtain ⟨q27, e27, k27⟩ := stp_some e26
  obtain ⟨q28, e28, k28⟩ := stp_some e27
  obtain ⟨q29, e29, k29⟩ := stp_some e28
  obtain ⟨q30, e30, k30⟩ := stp_some e29
  obtain ⟨q31, e31, k31⟩ := stp_some e30
  obtain ⟨q32, e32, k32⟩ := stp_some e31
  obtain ⟨q33, e33, k33⟩ := stp_some e32
  obtain ⟨q34, e34, k34⟩ := stp_some e33
  obtain ⟨q35, e35, k35⟩ := stp_some e34
  obtain ⟨q36, e36, k36⟩ := stp_some e35
  cases e36
  exact k36 (k35 (k34 (k33 (k32 (k31 (k30 (k29 (k28 (k27 (k26 (k25 (k24 (k23 (k22 (k21 (k20 (k19 (k18 (k17 (k16 (k15 (k14 (k13 (k12 (k11 (k10 (k9 (k8 (k7 (k6 (k5 (k4 (k3 (k2 (k1 (k0 k))))))))))))))))))))))))))))))))))))
theorem wq_run38 (e : stp mid X2 (stp mid X2 (stp mid X2 (stp mid X2 (stp mid X2 (stp mid X2 (stp mid X2 (stp mid X2 (stp mid X2 (stp mid X2 (stp mid X2 (stp mid X2 (stp mid X2 (stp mid X2 (stp mid X2 (stp mid X2 (stp mid X2 (stp mid X2 (stp mid X2 (stp mid X2 (stp mid X2 (stp mid X2 (stp mid X2 (stp mid X2 (stp mid X2 (stp mid X2 (stp mid X2 (stp mid X2 (stp mid X2 (stp mid X2 (stp mid X2 (stp mid X2 (stp mid X2 (stp mid X2 (stp mid X2 (stp mid X2 (stp mid X2 (stp mid X2 (some ((pc, L, S), (K0, f)))))))))))))))))))))))))))))))))))))))) = some ((pc', L', S'), (K0, f'))) (k : wq (d + 1) mid Q pc' L' S' f') : wq (d + 1) mid Q pc L S f := by
  obtain ⟨q0, e0, k0⟩ := stp_some e
  obtain ⟨q1, e1, k1⟩ := stp_some e0
  obtain ⟨q2, e2, k2⟩ := stp_some e1
  obtain ⟨q3, e3, k3⟩ := stp_some e2
  obtain ⟨q4, e4, k4⟩ := stp_some e3
  obtain ⟨q5, e5, k5⟩ := stp_some e4
  obtain ⟨q6, e6, k6⟩ := stp_some e5
  obtain ⟨q7, e7, k7⟩ := stp_some e6
  obtain ⟨q8, e8, k8⟩ := stp_some e7
  obtain ⟨q9, e9, k9⟩ := stp_some e8
  obtain ⟨q10, e10, k10⟩ := stp_some e9
  obtain ⟨q11, e11, k11⟩ := stp_some e10
  obtain ⟨q12, e12, k12⟩ := stp_some e11
  obtain ⟨q13, e13, k13⟩ := stp_some e12
  obtain ⟨q14, e14, k14⟩ := stp_some e13
  obtain ⟨q15, e15, k15⟩ := stp_some e14
  obtain ⟨q16, e16, k16⟩ := stp_some e15
  obtain ⟨q17, e17, k17⟩ := stp_some e16
  obtain ⟨q18, e18, k18⟩ := stp_some e17
  obtain ⟨q19, e19, k19⟩ := stp_some e18
  obtain ⟨q20, e20, k20⟩ := stp_some e19
  obtain ⟨q21, e21, k21⟩ := stp_some e20
  obtain ⟨q22, e22, k22⟩ := stp_some e21
  obtain ⟨q23, e23, k23⟩ := stp_some e22
  obtain ⟨q24, e24, k24⟩ := stp_some e23
  obtain ⟨q25, e25, k25⟩ := stp_some e24
  obtain ⟨q26, e26, k26⟩ := stp_some e25
  obtain ⟨q27, e27, k27⟩ := stp_some e26
  obtain ⟨q28, e28, k28⟩ := stp_some e27
  obtain ⟨q29, e29, k29⟩ := stp_some e28
  obtain ⟨q30, e30, k30⟩ := stp_some e29
  obtain ⟨q31, e31, k31⟩ := stp_some e30
  obtain ⟨q32, e32, k32⟩ := stp_some e31
  obtain ⟨q33, e33, k33⟩ := stp_some e32
  obtain ⟨q34, e34, k34⟩ := stp_some e33
  obtain ⟨q35, e35, k35⟩ := stp_some e34
  obtain ⟨q36, e36, k36⟩ := stp_some e35
  obtain ⟨q37, e37, k37⟩ := stp_some e36
  cases e37
  exact k37 (k36 (k35 (k34 (k33 (k32 (k31 (k30 (k29 (k28 (k27 (k26 (k25 (k24 (k23 (k22 (k21 (k20 (k19 (k18 (k17 (k16 (k15 (k14 (k13 (k12 (k11 (k10 (k9 (k8 (k7 (k6 (k5 (k4 (k3 (k2 (k1 (k0 k)))))))))))))))))))))))))))))))))))))
theorem wq_run39 (e : stp mid X2 (stp mid X2 (stp mid X2 (stp mid X2 (stp mid X2 (stp mid X2 (stp mid X2 (stp mid X2 (stp mid X2 (stp mid X2 (stp mid X2 (stp mid X2 (stp mid X2 (stp mid X2 (stp mid X2 (stp mid X2 (stp mid X2 (stp mid X2 (stp mid X2 (stp mid X2 (stp mid X2 (stp mid X2 (stp mid X2 (stp mid X2 (stp mid X2 (stp mid X2 (stp mid X2 (stp mid X2 (stp mid X2 (stp mid X2 (stp mid X2 (stp mid X2 (stp mid X2 (stp mid X2 (stp mid X2 (stp mid X2 (stp mid X2 (stp mid X2 (stp mid X2 (some ((pc, L, S), (K0, f))))))))))))))))))))))))))))))))))))))))) = some ((pc', L', S'), (K0, f'))) (k : wq (d + 1) mid Q pc' L' S' f') : wq (d + 1) mid Q pc L S f := by
  obtain ⟨q0, e0, k0⟩ := stp_some e
  obtain ⟨q1, e1, k1⟩ := stp_some e0
  obtain ⟨q2, e2, k2⟩ := stp_some e1
  obtain ⟨q3, e3, k3⟩ := stp_some e2
  obtain ⟨q4, e4, k4⟩ := stp_some e3
  obtain ⟨q5, e5, k5⟩ := stp_some e4
  obtain ⟨q6, e6, k6⟩ := stp_some e5
  obtain ⟨q7, e7, k7⟩ := stp_some e6
  obtain ⟨q8, e8, k8⟩ := stp_some e7
  obtain ⟨q9, e9, k9⟩ := stp_some e8
  obtain ⟨q10, e10, k10⟩ := stp_some e9
  obtain ⟨q11, e11, k11⟩ := stp_some e10
  obtain ⟨q12, e12, k12⟩ := stp_some e11
  obtain ⟨q13, e13, k13⟩ := stp_some e12
  obtain ⟨q14, e14, k14⟩ := stp_some e13
  obtain ⟨q15, e15, k15⟩ := stp_some e14
  obtain ⟨q16, e16, k16⟩ := stp_some e15
  obtain ⟨q17, e17, k17⟩ := stp_some e16
  obtain ⟨q18, e18, k18⟩ := stp_some e17
  obtain ⟨q19, e19, k19⟩ := stp_some e18
  obtain ⟨q20, e20, k20⟩ := stp_some e19
  obtain ⟨q21, e21, k21⟩ := stp_some e20
  obtain ⟨q22, e22, k22⟩ := stp_some e21
  obtain ⟨q23, e23, k23⟩ := stp_some e22
  obtain ⟨q24, e24, k24⟩ := stp_some e23
  obtain ⟨q25, e25, k25⟩ := stp_some e24
  obtain ⟨q26, e26, k26⟩ := stp_some e25
  obtain ⟨q27, e27, k27⟩ := stp_some e26
  obtain ⟨q28, e28, k28⟩ := stp_some e27
  obtain ⟨q29, e29, k29⟩ := stp_some e28
  obtain ⟨q30, e30, k30⟩ := stp_some e29
  obtain ⟨q31, e31, k31⟩ := stp_some e30
  obtain ⟨q32, e32, k32⟩ := stp_some e31
  obtain ⟨q33, e33, k33⟩ := stp_some e32
  obtain ⟨q34, e34, k34⟩ := stp_some e33
  obtain ⟨q35, e35, k35⟩ := stp_some e34
  obtain ⟨q36, e36, k36⟩ := stp_some e35
  obtain ⟨q37, e37, k37⟩ := stp_some e36
  obtain ⟨q38, e38, k38⟩ := stp_some e37
  cases e38
  exact k38 (k37 (k36 (k35 (k34 (k33 (k32 (k31 (k30 (k29 (k28 (k27 (k26 (k25 (k24 (k23 (k22 (k21 (k20 (k19 (k18 (k17 (k16 (k15 (k14 (k13 (k12 (k11 (k10 (k9 (k8 (k7 (k6 (k5 (k4 (k3 (k2 (k1 (k0 k))))))))))))))))))))))))))))))))))))))
theorem wq_run40 (e : stp mid X2 (stp mid X2 (stp mid X2 (stp mid X2 (stp mid X2 (stp mid X2 (stp mid X2 (stp mid X2 (stp mid X2 (stp mid X2 (stp mid X2 (stp mid X2 (stp mid X2 (stp mid X2 (stp mid X2 (stp mid X2 (stp mid X2 (stp mid X2 (stp mid X2 (stp mid X2 (stp mid X2 (stp mid X2 (stp mid X2 (stp mid X2 (stp mid X2 (stp mid X2 (stp mid X2 (stp mid X2 (stp mid X2 (stp mid X2 (stp mid X2 (stp mid X2 (stp mid X2 (stp mid X2 (stp mid X2 (stp mid X2 (stp mid X2 (stp mid X2 (stp mid X2 (stp mid X2 (some ((pc, L, S), (K0, f)))))))))))))))))))))))))))))))))))))))))) = some ((pc', L', S'), (K0, f'))) (k : wq (d + 1) mid Q pc' L' S' f') : wq (d + 1) mid Q pc L S f := by
  obtain ⟨q0, e0, k0⟩ := stp_some e
  obtain ⟨q1, e1, k1⟩ := stp_some e0
  obtain ⟨q2, e2, k2⟩ := stp_some e1
  obtain ⟨q3, e3, k3⟩ := stp_some e2
  obtain ⟨q4, e4, k4⟩ := stp_some e3
  obtain ⟨q5, e5, k5⟩ := stp_some e4
  obtain ⟨q6, e6, k6⟩ := stp_some e5
  obtain ⟨q7, e7, k7⟩ := stp_some e6
  obtain ⟨q8, e8, k8⟩ := stp_some e7
  obtain ⟨q9, e9, k9⟩ := stp_some e8
  obtain ⟨q10, e10, k10⟩ := stp_some e9
  obtain ⟨q11, e11, k11⟩ := stp_some e10
  obtain ⟨q12, e12, k12⟩ := stp_some e11
  obtain ⟨q13, e13, k13⟩ := stp_some e12
  obtain ⟨q14, e14, k14⟩ := stp_some e13
  obtain ⟨q15, e15, k15⟩ := stp_some e14
  obtain ⟨q16, e16, k16⟩ := stp_some e15
  obtain ⟨q17, e17, k17⟩ := stp_some e16
  obtain ⟨q18, e18, k18⟩ := stp_some e17
  obtain ⟨q19, e19, k19⟩ := stp_some e18
  obtain ⟨q20, e20, k20⟩ := stp_some e19
  obtain ⟨q21, e21, k21⟩ := stp_some e20
  obtain ⟨q22, e22, k22⟩ := stp_some e21
  obtain ⟨q23, e23, k23⟩ := stp_some e22
  obtain ⟨q24, e24, k24⟩ := stp_some e23
  obtain ⟨q25, e25, k25⟩ := stp_some e24
  obtain ⟨q26, e26, k26⟩ := stp_some e25
  obtain ⟨q27, e27, k27⟩ := stp_some e26
  obtain ⟨q28, e28, k28⟩ := stp_some e27
  obtain ⟨q29, e29, k29⟩ := stp_some e28
  obtain ⟨q30, e30, k30⟩ := stp_some e29
  obtain ⟨q31, e31, k31⟩ := stp_some e30
  obtain ⟨q32, e32, k32⟩ := stp_some e31
  obtain ⟨q33, e33, k33⟩ := stp_some e32
  obtain ⟨q34, e34, k34⟩ := stp_some e33
  obtain ⟨q35, e35, k35⟩ := stp_some e34
  obtain ⟨q36, e36, k36⟩ := stp_some e35
  obtain ⟨q37, e37, k37⟩ := stp_some e36
  obtain ⟨q38, e38, k38⟩ := stp_some e37
  obtain ⟨q39, e39, k39⟩ := stp_some e38
  cases e39
  exact k39 (k38 (k37 (k36 (k35 (k34 (k33 (k32 (k31 (k30 (k29 (k28 (k27 (k26 (k25 (k24 (k23 (k22 (k21 (k20 (k19 (k18 (k17 (k16 (k15 (k14 (k13 (k12 (k11 (k10 (k9 (k8 (k7 (k6 (k5 (k4 (k3 (k2 (k1 (k0 k)))))))))))))))))))))))))))))))))))))))

theorem wq_ret {v : Option Value} (e : fetch mid pc X2 (pc, L, S) (K0, f) = some (.inr (.inl v))) (q : Q v f) : wq (d + 1) mid Q pc L S f := wp_ret (st := (pc, L, S)) e rfl rfl ⟨rfl, q⟩
theorem wq_if {c : Prop} [Decidable c] {p1 p2 : Nat} {L1 L2 : IL} {S1 S2 : List Value} (e : fetch mid pc X2 (pc, L, S) (K0, f) = if c then nxt (p1, L1, S1) (K0, f) else nxt (p2, L2, S2) (K0, f)) (h1 : c → wq (d + 1) mid Q p1 L1 S1 f) (h2 : ¬ c → wq (d + 1) mid Q p2 L2 S2 f) : wq (d + 1) mid Q pc L S f := wp_if (st := (pc, L, S)) e h1 h2
theorem wq_ok {c : Prop} [Decidable c] (hc : ¬ c) (e : fetch mid pc X2 (pc, L, S) (K0, f) = if c then none else nxt (pc', L', S') (K0, f')) (k : wq (d + 1) mid Q pc' L' S' f') : wq (d + 1) mid Q pc L S f := wp_ok (st := (pc, L, S)) hc e k
theorem wq_call {d0 m' : Nat} {as : List Value} {P : Option Value → HI → Prop} (sp : Sp d0 m' as f P) (hd : d0 ≤ d) (e : fetch mid pc X2 (pc, L, S) (K0, f) = some (.inr (.inr (m', as, (pc', L', S'))))) (hs : (S'.map fun v => v.category).sum ≤ 8) (h1 : mcT m' as = 0) (h2 : msT m' as = 0) (hm : m' < 228) (hl : (lg_sl as).length ≤ lT m')
    (k : ∀ v f', P v f' → wq (d + 1) mid Q pc' L' (v.toList ++ S') f') : wq (d + 1) mid Q pc L S f := by
  refine wp_call (st := (pc, L, S)) (st' := (pc', L', S')) e hs (by rw [h1]; exact Nat.le_refl _) (by rw [h2]; exact Nat.le_refl _) hm hl ?_
  rw [h1, h2]
  refine wpS_le hd (wpS_mono (fun v h q => ?_) sp)
  obtain ⟨K, g⟩ := h
  obtain ⟨q1, q2⟩ := q
  have q1 : K = K0 := q1
  subst q1
  exact k v g q2
end P20b
