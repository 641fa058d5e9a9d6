/-! rules over ints, rows and answers; facts on ints -/
abbrev Ret (r : Int32) (g : HI) : Option Value → HI → Prop := fun v f' => v = some (.int r) ∧ f' = g
abbrev RetV (g : HI) : Option Value → HI → Prop := fun v f' => v = none ∧ f' = g
def b2i (p : Prop) [Decidable p] : Int32 := if p then 1 else 0
theorem b2i_t {p : Prop} [Decidable p] (h : p) : b2i p = 1 := if_pos h
theorem b2i_f {p : Prop} [Decidable p] (h : ¬ p) : b2i p = 0 := if_neg h
theorem b2i_0 {p : Prop} [Decidable p] : b2i p = 0 ↔ ¬ p := by
  unfold b2i
  by_cases h : p
  · rw [if_pos h]; exact ⟨fun q => absurd q (by decide), fun q => absurd h q⟩
  · rw [if_neg h]; exact ⟨fun _ => h, fun _ => rfl⟩
theorem b2i_n0 {p : Prop} [Decidable p] : ¬ b2i p = 0 ↔ p := by
  rw [b2i_0]
  exact Decidable.not_not
theorem b2i_z {p : Prop} [Decidable p] : b2i p = 0 ∨ b2i p = 1 := by
  unfold b2i
  by_cases h : p
  · rw [if_pos h]; exact Or.inr rfl
  · rw [if_neg h]; exact Or.inl rfl
theorem b2i_c {p q : Prop} [Decidable p] [Decidable q] (h : p ↔ q) : b2i p = b2i q := by
  unfold b2i
  by_cases hp : p
  · rw [if_pos hp, if_pos (h.mp hp)]
  · rw [if_neg hp, if_neg (fun q => hp (h.mpr q))]
theorem lgc_lt {x y : Int64} : lg_cmp x y < 0 ↔ x < y := by
  unfold lg_cmp
  by_cases h1 : x > y
  · rw [if_pos h1]
    refine ⟨fun q => absurd q (by decide), fun q => ?_⟩
    have h1 := Int64.lt_iff_toInt_lt.mp h1
    have q := Int64.lt_iff_toInt_lt.mp q
    omega
  · rw [if_neg h1]
    by_cases h2 : x = y
    · rw [if_pos h2]
      refine ⟨fun q => absurd q (by decide), fun q => ?_⟩
      rw [h2] at q
      have q := Int64.lt_iff_toInt_lt.mp q
      omega
    · rw [if_neg h2]
      refine ⟨fun _ => ?_, fun _ => by decide⟩
      apply Int64.lt_iff_toInt_lt.mpr
      have h1 : ¬ y.toInt < x.toInt := fun q => h1 (Int64.lt_iff_toInt_lt.mpr q)
      have h2 : ¬ x.toInt = y.toInt := fun q => h2 (Int64.toInt_inj.mp q)
      omega
theorem lgc_gt {x y : Int64} : 0 < lg_cmp x y ↔ y < x := by
  unfold lg_cmp
  by_cases h1 : x > y
  · rw [if_pos h1]; exact ⟨fun _ => h1, fun _ => by decide⟩
  · rw [if_neg h1]
    refine ⟨fun q => ?_, fun q => absurd q h1⟩
    by_cases h2 : x = y
    · rw [if_pos h2] at q; exact absurd q (by decide)
    · rw [if_neg h2] at q; exact absurd q (by decide)
section P21
variable {d mid : Nat} {Q : Option Value → HI → Prop} {pc pc' : Nat} {L L' : IL} {S S' : List Value} {f f' : HI}
theorem wq_ald {t a n j : Nat} {x v : Int32} (e1 : fetch mid pc = oALd t pc') (e2 : isA (K0, f) a t = true) (e3 : (kH (K0, f) a).2 = n) (hx : x = nI j) (hj : j < n) (hn : n < 2 ^ 31) (hv : f a j = v) (k : wq (d + 1) mid Q pc' L (.int v :: S) f) : wq (d + 1) mid Q pc L (.int x :: .ref a :: S) f := by
  refine wp_next (st := (pc, L, .int x :: .ref a :: S)) ?_ k
  rw [show (pc, L, Value.int x :: Value.ref a :: S).1 = pc from rfl, e1]
  unfold oALd
  dsimp only
  rw [e2]
  dsimp only
  rw [e3, hx, if_neg (nI_in hj hn), nI_clamp (by omega), hv]
theorem wq_ist {a n j : Nat} {x v : Int32} (e1 : fetch mid pc = oISt pc') (e2 : isA (K0, f) a 1 = true) (e3 : (kH (K0, f) a).2 = n) (hx : x = nI j) (hj : j < n) (hn : n < 2 ^ 31) (k : wq (d + 1) mid Q pc' L S (up2 f a j v)) : wq (d + 1) mid Q pc L (.int v :: .int x :: .ref a :: S) f := by
  refine wp_next (st := (pc, L, .int v :: .int x :: .ref a :: S)) ?_ k
  rw [show (pc, L, Value.int v :: Value.int x :: Value.ref a :: S).1 = pc from rfl, e1]
  unfold oISt
  dsimp only
  rw [e2]
  dsimp only
  rw [e3, hx, if_neg (nI_in hj hn), nI_clamp (by omega)]
theorem wq_zst {a n j : Nat} {x v : Int32} (e1 : fetch mid pc = oZSt pc') (e2 : isA (K0, f) a 2 = true) (e3 : (kH (K0, f) a).2 = n) (hx : x = nI j) (hj : j < n) (hn : n < 2 ^ 31) (hv : v = 0 ∨ v = 1) (k : wq (d + 1) mid Q pc' L S (up2 f a j v)) : wq (d + 1) mid Q pc L (.int v :: .int x :: .ref a :: S) f := by
  refine wp_next (st := (pc, L, .int v :: .int x :: .ref a :: S)) ?_ k
  rw [show (pc, L, Value.int v :: Value.int x :: Value.ref a :: S).1 = pc from rfl, e1]
  unfold oZSt
  dsimp only
  rw [e2]
  dsimp only
  rw [e3, hx, if_neg (nI_in hj hn), nI_clamp (by omega), if_pos hv]
theorem wq_getI {a ci k0 : Nat} {v : Int32} (e1 : fetch mid pc = oGetI ci k0 pc') (e2 : isO (K0, f) a ci = true) (hv : f a k0 = v) (k : wq (d + 1) mid Q pc' L (.int v :: S) f) : wq (d + 1) mid Q pc L (.ref a :: S) f := by
  refine wp_next (st := (pc, L, .ref a :: S)) ?_ k
  rw [show (pc, L, Value.ref a :: S).1 = pc from rfl, e1]
  unfold oGetI
  dsimp only
  rw [e2]
  dsimp only
  rw [hv]
theorem wq_getR {a b ci k0 : Nat} (e1 : fetch mid pc = oGetR ci k0 pc') (e2 : isO (K0, f) a ci = true) (e3 : rvT a k0 = some b) (k : wq (d + 1) mid Q pc' L (.ref b :: S) f) : wq (d + 1) mid Q pc L (.ref a :: S) f := by
  refine wp_next (st := (pc, L, .ref a :: S)) ?_ k
  rw [show (pc, L, Value.ref a :: S).1 = pc from rfl, e1]
  unfold oGetR
  dsimp only
  rw [e2]
  dsimp only
  rw [show kR (K0, f) a k0 = some b from e3]
theorem wq_putI {a ci k0 : Nat} {v : Int32} (e1 : fetch mid pc = oPutI ci k0 pc') (e2 : isO (K0, f) a ci = true) (k : wq (d + 1) mid Q pc' L S (up2 f a k0 v)) : wq (d + 1) mid Q pc L (.int v :: .ref a :: S) f := by
  refine wp_next (st := (pc, L, .int v :: .ref a :: S)) ?_ k
  rw [show (pc, L, Value.int v :: Value.ref a :: S).1 = pc from rfl, e1]
  unfold oPutI
  dsimp only
  rw [e2]
theorem wq_putZ {a ci k0 : Nat} {v : Int32} (e1 : fetch mid pc = oPutZ ci k0 pc') (e2 : isO (K0, f) a ci = true) (hv : v = 0 ∨ v = 1) (k : wq (d + 1) mid Q pc' L S (up2 f a k0 v)) : wq (d + 1) mid Q pc L (.int v :: .ref a :: S) f := by
  refine wp_next (st := (pc, L, .int v :: .ref a :: S)) ?_ k
  rw [show (pc, L, Value.int v :: Value.ref a :: S).1 = pc from rfl, e1]
  unfold oPutZ
  dsimp only
  rw [e2]
  dsimp only
  rw [if_pos hv]
theorem wq_qld {t a b n j : Nat} {x : Int32} (e1 : fetch mid pc = oQLd t pc') (e2 : isA (K0, f) a t = true) (e3 : (kH (K0, f) a).2 = n) (hx : x = nI j) (hj : j < n) (hn : n < 2 ^ 31) (hb : rvT a j = some b) (k : wq (d + 1) mid Q pc' L (.ref b :: S) f) : wq (d + 1) mid Q pc L (.int x :: .ref a :: S) f := by
  refine wp_next (st := (pc, L, .int x :: .ref a :: S)) ?_ k
  rw [show (pc, L, Value.int x :: Value.ref a :: S).1 = pc from rfl, e1]
  unfold oQLd
  dsimp only
  rw [e2]
  dsimp only
  rw [e3, hx, if_neg (nI_in hj hn), nI_clamp (by omega), show kR (K0, f) a j = some b from hb]
theorem wq_div {x y : Int32} (e1 : fetch mid pc = oDiv pc') (hy : ¬ y = 0) (k : wq (d + 1) mid Q pc' L (.int (x / y) :: S) f) : wq (d + 1) mid Q pc L (.int y :: .int x :: S) f := by
  refine wp_next (st := (pc, L, .int y :: .int x :: S)) ?_ k
  rw [show (pc, L, Value.int y :: Value.int x :: S).1 = pc from rfl, e1]
  unfold oDiv
  dsimp only
  rw [if_neg hy]
theorem wq_rem {x y : Int32} (e1 : fetch mid pc = oRem pc') (hy : ¬ y = 0) (k : wq (d + 1) mid Q pc' L (.int (x - x / y * y) :: S) f) : wq (d + 1) mid Q pc L (.int y :: .int x :: S) f := by
  refine wp_next (st := (pc, L, .int y :: .int x :: S)) ?_ k
  rw [show (pc, L, Value.int y :: Value.int x :: S).1 = pc from rfl, e1]
  unfold oRem
  dsimp only
  rw [if_neg hy]
theorem wq_retZ {x : Int32} (e1 : fetch mid pc = oRetZ) (hx : x = 0 ∨ x = 1) (q : Q (some (.int x)) f) : wq (d + 1) mid Q pc L [.int x] f := by
  refine wq_ret ?_ q
  rw [e1]
  unfold oRetZ
  dsimp only
  rw [if_pos hx]
theorem wq_tabIn {x : Int32} {lo hi : Int} {ts : List Nat} {dd t : Nat} (e1 : fetch mid pc = oTab lo hi ts dd) (h1 : ¬ (x.toInt < lo ∨ hi < x.toInt)) (h2 : ts.getD (x.toInt - lo).toNat 0 = t) (k : wq (d + 1) mid Q t L S f) : wq (d + 1) mid Q pc L (.int x :: S) f := by
  refine wp_next (st := (pc, L, .int x :: S)) ?_ k
  rw [show (pc, L, Value.int x :: S).1 = pc from rfl, e1]
  unfold oTab
  dsimp only
  rw [if_neg h1, h2]
theorem wq_tabOut {x : Int32} {lo hi : Int} {ts : List Nat} {t : Nat} (e1 : fetch mid pc = oTab lo hi ts t) (h1 : x.toInt < lo ∨ hi < x.toInt) (k : wq (d + 1) mid Q t L S f) : wq (d + 1) mid Q pc L (.int x :: S) f := by
  refine wp_next (st := (pc, L, .int x :: S)) ?_ k
  rw [show (pc, L, Value.int x :: S).1 = pc from rfl, e1]
  unfold oTab
  dsimp only
  rw [if_pos h1]
theorem wq_sel {x : Int32} {a1 a2 : Int} {t1 t2 dd t : Nat} (e1 : fetch mid pc = oSel a1 t1 a2 t2 dd) (ht : (if x.toInt = a1 then t1 else if x.toInt = a2 then t2 else dd) = t) (k : wq (d + 1) mid Q t L S f) : wq (d + 1) mid Q pc L (.int x :: S) f := by
  refine wp_next (st := (pc, L, .int x :: S)) ?_ k
  rw [show (pc, L, Value.int x :: S).1 = pc from rfl, e1]
  unfold oSel
  dsimp only
  subst ht
  by_cases h1 : x.toInt = a1
  · rw [if_pos h1, if_pos h1]
  · rw [if_neg h1, if_neg h1]
    by_cases h2 : x.toInt = a2
    · rw [if_pos h2, if_pos h2]
    · rw [if_neg h2, if_neg h2]
/-- a value by another name -/
theorem wq_v {x y : Int32} (e : x = y) (k : wq (d + 1) mid Q pc L (.int y :: S) f) : wq (d + 1) mid Q pc L (.int x :: S) f := by rw [e]; exact k
theorem wq_callI {d0 m' : Nat} {as : List Value} {r : Int32} {g : HI} (sp : Sp d0 m' as f (Ret r g)) (hd : d0 ≤ d) (e : fetch mid pc X2 (pc, L, S) (K0, f) = some (.inr (.inr (m', as, (pc', L', S'))))) (hs : (S'.map fun v => v.category).sum ≤ 8) (h1 : mcT m' as = 0) (h2 : msT m' as = 0) (hm : m' < 228) (hl : (lg_sl as).length ≤ lT m')
    (k : wq (d + 1) mid Q pc' L' (.int r :: S') g) : wq (d + 1) mid Q pc L S f := wq_call sp hd e hs h1 h2 hm hl (fun v f' h => by obtain ⟨rfl, rfl⟩ := h; exact k)
theorem wq_callV {d0 m' : Nat} {as : List Value} {g : HI} (sp : Sp d0 m' as f (RetV g)) (hd : d0 ≤ d) (e : fetch mid pc X2 (pc, L, S) (K0, f) = some (.inr (.inr (m', as, (pc', L', S'))))) (hs : (S'.map fun v => v.category).sum ≤ 8) (h1 : mcT m' as = 0) (h2 : msT m' as = 0) (hm : m' < 228) (hl : (lg_sl as).length ≤ lT m')
    (k : wq (d + 1) mid Q pc' L' S' g) : wq (d + 1) mid Q pc L S f := wq_call sp hd e hs h1 h2 hm hl (fun v f' h => by obtain ⟨rfl, rfl⟩ := h; exact k)
end P21
/-! rows -/
theorem up2_eq1 (f : HI) (a k : Nat) (v : Int32) : up2 f a k v = up1 f a (upd (f a) k v) := by
  funext b j
  by_cases hb : b = a
  · subst hb
    rw [up1_s]
    unfold upd
    by_cases hj : j = k
    · subst hj; rw [if_pos rfl, up2_s]
    · rw [if_neg hj, up2_n (fun q => hj q.2)]
  · rw [up1_f hb, up2_f hb]
theorem up1_up1 (f : HI) (a : Nat) (g g' : Nat → Int32) : up1 (up1 f a g) a g' = up1 f a g' := by
  funext b
  by_cases hb : b = a
  · subst hb; rw [up1_s, up1_s]
  · rw [up1_f hb, up1_f hb, up1_f hb]
theorem up2_up1_eq (f : HI) (a : Nat) (g : Nat → Int32) (k : Nat) (v : Int32) : up2 (up1 f a g) a k v = up1 f a (upd g k v) := by
  rw [up2_eq1, up1_s, up1_up1]
theorem up1_sw {f : HI} {a b : Nat} {g g' : Nat → Int32} (h : a ≠ b) : up1 (up1 f b g) a g' = up1 (up1 f a g') b g := by
  funext c
  by_cases h1 : c = a
  · subst h1; rw [up1_s, up1_f h, up1_s]
  · by_cases h2 : c = b
    · subst h2; rw [up1_f h1, up1_s, up1_s]
    · rw [up1_f h1, up1_f h2, up1_f h2, up1_f h1]
theorem up2_up1_ne {f : HI} {a b k : Nat} {g : Nat → Int32} {v : Int32} (h : a ≠ b) : up2 (up1 f b g) a k v = up1 (up2 f a k v) b g := by
  rw [up2_eq1, up1_f h, up1_sw h, ← up2_eq1]
theorem up1_id (f : HI) (a : Nat) : up1 f a (f a) = f := by
  funext b
  by_cases hb : b = a
  · subst hb; rw [up1_s]
  · rw [up1_f hb]
theorem upd_s (g : Nat → Int32) (k : Nat) (v : Int32) : upd g k v k = v := if_pos rfl
theorem upd_n {g : Nat → Int32} {k j : Nat} {v : Int32} (h : j ≠ k) : upd g k v j = g j := if_neg h
theorem upd_id (g : Nat → Int32) (k : Nat) : upd g k (g k) = g := by
  funext j
  by_cases h : j = k
  · subst h; rw [upd_s]
  · rw [upd_n h]
theorem upd_upd (g : Nat → Int32) (k : Nat) (v w : Int32) : upd (upd g k v) k w = upd g k w := by
  funext j
  by_cases h : j = k
  · subst h; rw [upd_s, upd_s]
  · rw [upd_n h, upd_n h, upd_n h]
theorem upd_sw {g : Nat → Int32} {k j : Nat} {v w : Int32} (h : k ≠ j) : upd (upd g j v) k w = upd (upd g k w) j v := by
  funext i
  by_cases h1 : i = k
  · subst h1; rw [upd_s, upd_n h, upd_s]
  · by_cases h2 : i = j
    · subst h2; rw [upd_n h1, upd_s, upd_s]
    · rw [upd_n h1, upd_n h2, upd_n h2, upd_n h1]
section P21b
variable {d mid : Nat} {Q : Option Value → HI → Prop} {pc : Nat} {L L' : IL} {S : List Value} {f f' : HI}
theorem wq_h (e : f = f') (k : wq (d + 1) mid Q pc L S f') : wq (d + 1) mid Q pc L S f := by rw [e]; exact k
theorem wq_L (e : L = L') (k : wq (d + 1) mid Q pc L' S f) : wq (d + 1) mid Q pc L S f := by rw [e]; exact k
end P21b
theorem i_le_anti {a b : Int32} (h1 : a ≤ b) (h2 : b ≤ a) : a = b := by
  apply Int32.toInt_inj.mp
  have h1 := Int32.le_iff_toInt_le.mp h1
  have h2 := Int32.le_iff_toInt_le.mp h2
  omega
theorem Ret.of {r r' : Int32} {g g' : HI} (h1 : r = r') (h2 : g = g') : Ret r' g' (some (.int r)) g := ⟨by rw [h1], h2⟩
theorem RetV.of {g g' : HI} (h2 : g = g') : RetV g' none g := ⟨rfl, h2⟩
