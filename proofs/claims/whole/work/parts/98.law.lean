/-! the law: its loop over the script -/
abbrev XL (L : Nat) (xs : Nat → Int32) : CX := (some (L, xs), 144, 74715)
abbrev LV (v : Int32) : IL := [(0, .ref 1000000), (1, .ref 0), (2, .ref 92), (3, .int v)]
abbrev wl (L : Nat) (xs : Nat → Int32) (d : Nat) (pc : Nat) (Lo : IL) (S : List Value) (f : HI) : Prop := wpS d 228 (XL L xs) (fun v _ => v = some (.int 1)) (pc, Lo, S) (K0, f)
/-- the places of an operation lie in the script -/
def IxL (L : Nat) (v : Int32) : Prop := ∀ k : Nat, k ≤ 7 → ¬ (v + nI k < 0 ∨ L ≤ (v + nI k).toNatClampNeg)
abbrev aL (xs : Nat → Int32) (v k : Int32) : Int32 := xs (v + k).toNatClampNeg
section P98
variable {L : Nat} {xs : Nat → Int32} {d pc pc' : Nat} {Lo Lo' : IL} {S S' : List Value} {f : HI} {v : Int32}
theorem wl_run1 (e : stp 228 (XL L xs) (some ((pc, Lo, S), (K0, f))) = some ((pc', Lo', S'), (K0, f))) (k : wl L xs (d + 1) pc' Lo' S' f) : wl L xs (d + 1) pc Lo S f := by
  obtain ⟨q0, e0, k0⟩ := stp_some e
  cases e0
  exact k0 k
theorem wl_run2 (e : stp 228 (XL L xs) (stp 228 (XL L xs) (some ((pc, Lo, S), (K0, f)))) = some ((pc', Lo', S'), (K0, f))) (k : wl L xs (d + 1) pc' Lo' S' f) : wl L xs (d + 1) pc Lo S f := by
  obtain ⟨q0, e0, k0⟩ := stp_some e
  obtain ⟨q1, e1, k1⟩ := stp_some e0
  cases e1
  exact k1 (k0 k)
theorem wl_run3 (e : stp 228 (XL L xs) (stp 228 (XL L xs) (stp 228 (XL L xs) (some ((pc, Lo, S), (K0, f))))) = some ((pc', Lo', S'), (K0, f))) (k : wl L xs (d + 1) pc' Lo' S' f) : wl L xs (d + 1) pc Lo S f := by
  obtain ⟨q0, e0, k0⟩ := stp_some e
  obtain ⟨q1, e1, k1⟩ := stp_some e0
  obtain ⟨q2, e2, k2⟩ := stp_some e1
  cases e2
  exact k2 (k1 (k0 k))
theorem wl_run4 (e : stp 228 (XL L xs) (stp 228 (XL L xs) (stp 228 (XL L xs) (stp 228 (XL L xs) (some ((pc, Lo, S), (K0, f)))))) = some ((pc', Lo', S'), (K0, f))) (k : wl L xs (d + 1) pc' Lo' S' f) : wl L xs (d + 1) pc Lo S f := by
  obtain ⟨q0, e0, k0⟩ := stp_some e
  obtain ⟨q1, e1, k1⟩ := stp_some e0
  obtain ⟨q2, e2, k2⟩ := stp_some e1
  obtain ⟨q3, e3, k3⟩ := stp_some e2
  cases e3
  exact k3 (k2 (k1 (k0 k)))
theorem wl_run5 (e : stp 228 (XL L xs) (stp 228 (XL L xs) (stp 228 (XL L xs) (stp 228 (XL L xs) (stp 228 (XL L xs) (some ((pc, Lo, S), (K0, f))))))) = some ((pc', Lo', S'), (K0, f))) (k : wl L xs (d + 1) pc' Lo' S' f) : wl L xs (d + 1) pc Lo S f := by
  obtain ⟨q0, e0, k0⟩ := stp_some e
  obtain ⟨q1, e1, k1⟩ := stp_some e0
  obtain ⟨q2, e2, k2⟩ := stp_some e1
  obtain ⟨q3, e3, k3⟩ := stp_some e2
  obtain ⟨q4, e4, k4⟩ := stp_some e3
  cases e4
  exact k4 (k3 (k2 (k1 (k0 k))))
theorem wl_run6 (e : stp 228 (XL L xs) (stp 228 (XL L xs) (stp 228 (XL L xs) (stp 228 (XL L xs) (stp 228 (XL L xs) (stp 228 (XL L xs) (some ((pc, Lo, S), (K0, f)))))))) = some ((pc', Lo', S'), (K0, f))) (k : wl L xs (d + 1) pc' Lo' S' f) : wl L xs (d + 1) pc Lo S f := by
  obtain ⟨q0, e0, k0⟩ := stp_some e
  obtain ⟨q1, e1, k1⟩ := stp_some e0
  obtain ⟨q2, e2, k2⟩ := stp_some e1
  obtain ⟨q3, e3, k3⟩ := stp_some e2
  obtain ⟨q4, e4, k4⟩ := stp_some e3
  obtain ⟨q5, e5, k5⟩ := stp_some e4
  cases e5
  exact k5 (k4 (k3 (k2 (k1 (k0 k)))))
theorem wl_run7 (e : stp 228 (XL L xs) (stp 228 (XL L xs) (stp 228 (XL L xs) (stp 228 (XL L xs) (stp 228 (XL L xs) (stp 228 (XL L xs) (stp 228 (XL L xs) (some ((pc, Lo, S), (K0, f))))))))) = some ((pc', Lo', S'), (K0, f))) (k : wl L xs (d + 1) pc' Lo' S' f) : wl L xs (d + 1) pc Lo S f := by
  obtain ⟨q0, e0, k0⟩ := stp_some e
  obtain ⟨q1, e1, k1⟩ := stp_some e0
  obtain ⟨q2, e2, k2⟩ := stp_some e1
  obtain ⟨q3, e3, k3⟩ := stp_some e2
  obtain ⟨q4, e4, k4⟩ := stp_some e3
  obtain ⟨q5, e5, k5⟩ := stp_some e4
  obtain ⟨q6, e6, k6⟩ := stp_some e5
  cases e6
  exact k6 (k5 (k4 (k3 (k2 (k1 (k0 k))))))
theorem wl_run8 (e : stp 228 (XL L xs) (stp 228 (XL L xs) (stp 228 (XL L xs) (stp 228 (XL L xs) (stp 228 (XL L xs) (stp 228 (XL L xs) (stp 228 (XL L xs) (stp 228 (XL L xs) (some ((pc, Lo, S), (K0, f)))))))))) = some ((pc', Lo', S'), (K0, f))) (k : wl L xs (d + 1) pc' Lo' S' f) : wl L xs (d + 1) pc Lo S f := by
  obtain ⟨q0, e0, k0⟩ := stp_some e
  obtain ⟨q1, e1, k1⟩ := stp_some e0
  obtain ⟨q2, e2, k2⟩ := stp_some e1
  obtain ⟨q3, e3, k3⟩ := stp_some e2
  obtain ⟨q4, e4, k4⟩ := stp_some e3
  obtain ⟨q5, e5, k5⟩ := stp_some e4
  obtain ⟨q6, e6, k6⟩ := stp_some e5
  obtain ⟨q7, e7, k7⟩ := stp_some e6
  cases e7
  exact k7 (k6 (k5 (k4 (k3 (k2 (k1 (k0 k)))))))
theorem wl_ld {i : Int32} (hc : ¬ (i < 0 ∨ L ≤ i.toNatClampNeg)) (e : fetch 228 pc (XL L xs) (pc, Lo, .int i :: .ref 1000000 :: S) (K0, f) = if i < 0 ∨ L ≤ i.toNatClampNeg then none else nxt (pc', Lo, .int (xs i.toNatClampNeg) :: S) (K0, f)) (k : wl L xs (d + 1) pc' Lo (.int (xs i.toNatClampNeg) :: S) f) : wl L xs (d + 1) pc Lo (.int i :: .ref 1000000 :: S) f := wp_ok (st := (pc, Lo, .int i :: .ref 1000000 :: S)) hc e k
theorem wl_call {m : Nat} {as : List Value} {P : Option Value → HI → Prop} (sp : Sp 40 m as f P) (hd : 40 ≤ d) (e : fetch 228 pc (XL L xs) (pc, Lo, S) (K0, f) = some (.inr (.inr (m, as, (pc', Lo, S'))))) (hs : (S'.map fun v => v.category).sum ≤ 8) (h1 : mcT m as = 0) (h2 : msT m as = 0) (hm : m < 228) (hl : (lg_sl as).length ≤ lT m)
    (k : ∀ v f', P v f' → wl L xs (d + 1) pc' Lo (v.toList ++ S') f') : wl L xs (d + 1) pc Lo S f := by
  refine wp_call (st := (pc, Lo, S)) (st' := (pc', Lo, S')) e hs (by rw [h1]; exact Nat.le_refl _) (by rw [h2]; exact Nat.le_refl _) hm hl ?_
  rw [h1, h2]
  refine wpS_le hd (wpS_mono (fun v h q => ?_) sp)
  obtain ⟨K, g⟩ := h
  obtain ⟨q1, q2⟩ := q
  have q1 : K = K0 := q1
  subst q1
  exact k v g q2
theorem wl_br {c : Prop} [Decidable c] {p1 p2 : Nat} {S1 S2 : List Value} (e : fetch 228 pc (XL L xs) (pc, Lo, S) (K0, f) = if c then nxt (p1, Lo, S1) (K0, f) else nxt (p2, Lo, S2) (K0, f)) (h1 : c → wl L xs (d + 1) p1 Lo S1 f) (h2 : ¬ c → wl L xs (d + 1) p2 Lo S2 f) : wl L xs (d + 1) pc Lo S f := wp_if (st := (pc, Lo, S)) e h1 h2
theorem law_0 (hd : 40 ≤ d) (cp : CpZ f) (hA : IxL L v) (K : ∀ f1 : HI, CpZ f1 → wl L xs (d + 1) 1544 (LV v) [] f1) : wl L xs (d + 1) 192 (LV v) [] f := by
  refine wl_run5 (pc' := 197) (Lo' := LV v) (S' := [.int (v + 1), .ref 1000000, .ref 0]) rfl ?_
  refine wl_ld (pc' := 198) (hA 1 (by decide)) rfl ?_
  refine wl_run4 (pc' := 202) (Lo' := LV v) (S' := [.int (v + 2), .ref 1000000, .int (aL xs v 1), .ref 0]) rfl ?_
  refine wl_ld (pc' := 203) (hA 2 (by decide)) rfl ?_
  refine wl_run4 (pc' := 207) (Lo' := LV v) (S' := [.int (v + 3), .ref 1000000, .int (aL xs v 2), .int (aL xs v 1), .ref 0]) rfl ?_
  refine wl_ld (pc' := 208) (hA 3 (by decide)) rfl ?_
  refine wl_run4 (pc' := 212) (Lo' := LV v) (S' := [.int (v + 4), .ref 1000000, .int (aL xs v 3), .int (aL xs v 2), .int (aL xs v 1), .ref 0]) rfl ?_
  refine wl_ld (pc' := 213) (hA 4 (by decide)) rfl ?_
  refine wl_run4 (pc' := 217) (Lo' := LV v) (S' := [.int (v + 5), .ref 1000000, .int (aL xs v 4), .int (aL xs v 3), .int (aL xs v 2), .int (aL xs v 1), .ref 0]) rfl ?_
  refine wl_ld (pc' := 218) (hA 5 (by decide)) rfl ?_
  refine wl_run4 (pc' := 223) (Lo' := LV v) (S' := [.int (v + 6), .ref 1000000, .int (aL xs v 5), .int (aL xs v 4), .int (aL xs v 3), .int (aL xs v 2), .int (aL xs v 1), .ref 0]) rfl ?_
  refine wl_ld (pc' := 224) (hA 6 (by decide)) rfl ?_
  refine wl_run4 (pc' := 229) (Lo' := LV v) (S' := [.int (v + 7), .ref 1000000, .int (aL xs v 6), .int (aL xs v 5), .int (aL xs v 4), .int (aL xs v 3), .int (aL xs v 2), .int (aL xs v 1), .ref 0]) rfl ?_
  refine wl_ld (pc' := 230) (hA 7 (by decide)) rfl ?_
  refine wl_call (S' := []) (st_way cp ((aL xs v 1)) ((aL xs v 2)) ((aL xs v 3)) ((aL xs v 4)) ((aL xs v 5)) ((aL xs v 6)) ((aL xs v 7))) hd rfl (Nat.zero_le _) rfl rfl (Nat.le_of_ble_eq_true rfl) (Nat.le_of_ble_eq_true rfl) (fun u f1 q => ?_)
  obtain ⟨r, rfl, q⟩ := q
  show wl L xs (d + 1) 233 (LV v) [.int r] f1
  refine wl_run5 (pc' := 238) (Lo' := LV v) (S' := [.int (v + 1), .ref 1000000, .ref 92, .int r]) rfl ?_
  refine wl_ld (pc' := 239) (hA 1 (by decide)) rfl ?_
  refine wl_run4 (pc' := 243) (Lo' := LV v) (S' := [.int (v + 2), .ref 1000000, .int (aL xs v 1), .ref 92, .int r]) rfl ?_
  refine wl_ld (pc' := 244) (hA 2 (by decide)) rfl ?_
  refine wl_run4 (pc' := 248) (Lo' := LV v) (S' := [.int (v + 3), .ref 1000000, .int (aL xs v 2), .int (aL xs v 1), .ref 92, .int r]) rfl ?_
  refine wl_ld (pc' := 249) (hA 3 (by decide)) rfl ?_
  refine wl_run4 (pc' := 253) (Lo' := LV v) (S' := [.int (v + 4), .ref 1000000, .int (aL xs v 3), .int (aL xs v 2), .int (aL xs v 1), .ref 92, .int r]) rfl ?_
  refine wl_ld (pc' := 254) (hA 4 (by decide)) rfl ?_
  refine wl_run4 (pc' := 258) (Lo' := LV v) (S' := [.int (v + 5), .ref 1000000, .int (aL xs v 4), .int (aL xs v 3), .int (aL xs v 2), .int (aL xs v 1), .ref 92, .int r]) rfl ?_
  refine wl_ld (pc' := 259) (hA 5 (by decide)) rfl ?_
  refine wl_run4 (pc' := 264) (Lo' := LV v) (S' := [.int (v + 6), .ref 1000000, .int (aL xs v 5), .int (aL xs v 4), .int (aL xs v 3), .int (aL xs v 2), .int (aL xs v 1), .ref 92, .int r]) rfl ?_
  refine wl_ld (pc' := 265) (hA 6 (by decide)) rfl ?_
  refine wl_run4 (pc' := 270) (Lo' := LV v) (S' := [.int (v + 7), .ref 1000000, .int (aL xs v 6), .int (aL xs v 5), .int (aL xs v 4), .int (aL xs v 3), .int (aL xs v 2), .int (aL xs v 1), .ref 92, .int r]) rfl ?_
  refine wl_ld (pc' := 271) (hA 7 (by decide)) rfl ?_
  refine wl_call (S' := [.int r]) q hd rfl (Nat.le_of_ble_eq_true rfl) rfl rfl (Nat.le_of_ble_eq_true rfl) (Nat.le_of_ble_eq_true rfl) (fun u f2 q2 => ?_)
  obtain ⟨rfl, q2⟩ := q2
  show wl L xs (d + 1) 274 (LV v) [.int r, .int r] f2
  exact wl_br (S1 := []) (S2 := []) (p1 := 1544) (p2 := 277) (c := r = r) rfl (fun _ => K f2 q2) (fun z => absurd rfl z)
theorem law_1 (hd : 40 ≤ d) (cp : CpZ f) (hA : IxL L v) (K : ∀ f1 : HI, CpZ f1 → wl L xs (d + 1) 1544 (LV v) [] f1) : wl L xs (d + 1) 279 (LV v) [] f := by
  refine wl_run5 (pc' := 284) (Lo' := LV v) (S' := [.int (v + 1), .ref 1000000, .ref 0]) rfl ?_
  refine wl_ld (pc' := 285) (hA 1 (by decide)) rfl ?_
  refine wl_run4 (pc' := 289) (Lo' := LV v) (S' := [.int (v + 2), .ref 1000000, .int (aL xs v 1), .ref 0]) rfl ?_
  refine wl_ld (pc' := 290) (hA 2 (by decide)) rfl ?_
  refine wl_call (S' := []) (st_far cp ((aL xs v 1)) ((aL xs v 2))) hd rfl (Nat.zero_le _) rfl rfl (Nat.le_of_ble_eq_true rfl) (Nat.le_of_ble_eq_true rfl) (fun u f1 q => ?_)
  obtain ⟨r, rfl, q⟩ := q
  show wl L xs (d + 1) 293 (LV v) [.int r] f1
  refine wl_run5 (pc' := 298) (Lo' := LV v) (S' := [.int (v + 1), .ref 1000000, .ref 92, .int r]) rfl ?_
  refine wl_ld (pc' := 299) (hA 1 (by decide)) rfl ?_
  refine wl_run4 (pc' := 303) (Lo' := LV v) (S' := [.int (v + 2), .ref 1000000, .int (aL xs v 1), .ref 92, .int r]) rfl ?_
  refine wl_ld (pc' := 304) (hA 2 (by decide)) rfl ?_
  refine wl_call (S' := [.int r]) q hd rfl (Nat.le_of_ble_eq_true rfl) rfl rfl (Nat.le_of_ble_eq_true rfl) (Nat.le_of_ble_eq_true rfl) (fun u f2 q2 => ?_)
  obtain ⟨rfl, q2⟩ := q2
  show wl L xs (d + 1) 307 (LV v) [.int r, .int r] f2
  exact wl_br (S1 := []) (S2 := []) (p1 := 1544) (p2 := 310) (c := r = r) rfl (fun _ => K f2 q2) (fun z => absurd rfl z)
theorem law_2 (hd : 40 ≤ d) (cp : CpZ f) (hA : IxL L v) (K : ∀ f1 : HI, CpZ f1 → wl L xs (d + 1) 1544 (LV v) [] f1) : wl L xs (d + 1) 312 (LV v) [] f := by
  refine wl_run5 (pc' := 317) (Lo' := LV v) (S' := [.int (v + 1), .ref 1000000, .ref 0]) rfl ?_
  refine wl_ld (pc' := 318) (hA 1 (by decide)) rfl ?_
  refine wl_run4 (pc' := 322) (Lo' := LV v) (S' := [.int (v + 2), .ref 1000000, .int (aL xs v 1), .ref 0]) rfl ?_
  refine wl_ld (pc' := 323) (hA 2 (by decide)) rfl ?_
  refine wl_run4 (pc' := 327) (Lo' := LV v) (S' := [.int (v + 3), .ref 1000000, .int (aL xs v 2), .int (aL xs v 1), .ref 0]) rfl ?_
  refine wl_ld (pc' := 328) (hA 3 (by decide)) rfl ?_
  refine wl_call (S' := []) (st_due cp ((aL xs v 1)) ((aL xs v 2)) ((aL xs v 3))) hd rfl (Nat.zero_le _) rfl rfl (Nat.le_of_ble_eq_true rfl) (Nat.le_of_ble_eq_true rfl) (fun u f1 q => ?_)
  obtain ⟨r, rfl, q⟩ := q
  show wl L xs (d + 1) 331 (LV v) [.int r] f1
  refine wl_run5 (pc' := 336) (Lo' := LV v) (S' := [.int (v + 1), .ref 1000000, .ref 92, .int r]) rfl ?_
  refine wl_ld (pc' := 337) (hA 1 (by decide)) rfl ?_
  refine wl_run4 (pc' := 341) (Lo' := LV v) (S' := [.int (v + 2), .ref 1000000, .int (aL xs v 1), .ref 92, .int r]) rfl ?_
  refine wl_ld (pc' := 342) (hA 2 (by decide)) rfl ?_
  refine wl_run4 (pc' := 346) (Lo' := LV v) (S' := [.int (v + 3), .ref 1000000, .int (aL xs v 2), .int (aL xs v 1), .ref 92, .int r]) rfl ?_
  refine wl_ld (pc' := 347) (hA 3 (by decide)) rfl ?_
  refine wl_call (S' := [.int r]) q hd rfl (Nat.le_of_ble_eq_true rfl) rfl rfl (Nat.le_of_ble_eq_true rfl) (Nat.le_of_ble_eq_true rfl) (fun u f2 q2 => ?_)
  obtain ⟨rfl, q2⟩ := q2
  show wl L xs (d + 1) 350 (LV v) [.int r, .int r] f2
  exact wl_br (S1 := []) (S2 := []) (p1 := 1544) (p2 := 353) (c := r = r) rfl (fun _ => K f2 q2) (fun z => absurd rfl z)
theorem law_3 (hd : 40 ≤ d) (cp : CpZ f) (hA : IxL L v) (K : ∀ f1 : HI, CpZ f1 → wl L xs (d + 1) 1544 (LV v) [] f1) : wl L xs (d + 1) 355 (LV v) [] f := by
  refine wl_run5 (pc' := 360) (Lo' := LV v) (S' := [.int (v + 1), .ref 1000000, .ref 0]) rfl ?_
  refine wl_ld (pc' := 361) (hA 1 (by decide)) rfl ?_
  refine wl_run4 (pc' := 365) (Lo' := LV v) (S' := [.int (v + 2), .ref 1000000, .int (aL xs v 1), .ref 0]) rfl ?_
  refine wl_ld (pc' := 366) (hA 2 (by decide)) rfl ?_
  refine wl_run4 (pc' := 370) (Lo' := LV v) (S' := [.int (v + 3), .ref 1000000, .int (aL xs v 2), .int (aL xs v 1), .ref 0]) rfl ?_
  refine wl_ld (pc' := 371) (hA 3 (by decide)) rfl ?_
  refine wl_call (S' := []) (st_next cp ((aL xs v 1)) ((aL xs v 2)) ((aL xs v 3))) hd rfl (Nat.zero_le _) rfl rfl (Nat.le_of_ble_eq_true rfl) (Nat.le_of_ble_eq_true rfl) (fun u f1 q => ?_)
  obtain ⟨r, rfl, q⟩ := q
  show wl L xs (d + 1) 374 (LV v) [.int r] f1
  refine wl_run5 (pc' := 379) (Lo' := LV v) (S' := [.int (v + 1), .ref 1000000, .ref 92, .int r]) rfl ?_
  refine wl_ld (pc' := 380) (hA 1 (by decide)) rfl ?_
  refine wl_run4 (pc' := 384) (Lo' := LV v) (S' := [.int (v + 2), .ref 1000000, .int (aL xs v 1), .ref 92, .int r]) rfl ?_
  refine wl_ld (pc' := 385) (hA 2 (by decide)) rfl ?_
  refine wl_run4 (pc' := 389) (Lo' := LV v) (S' := [.int (v + 3), .ref 1000000, .int (aL xs v 2), .int (aL xs v 1), .ref 92, .int r]) rfl ?_
  refine wl_ld (pc' := 390) (hA 3 (by decide)) rfl ?_
  refine wl_call (S' := [.int r]) q hd rfl (Nat.le_of_ble_eq_true rfl) rfl rfl (Nat.le_of_ble_eq_true rfl) (Nat.le_of_ble_eq_true rfl) (fun u f2 q2 => ?_)
  obtain ⟨rfl, q2⟩ := q2
  show wl L xs (d + 1) 393 (LV v) [.int r, .int r] f2
  exact wl_br (S1 := []) (S2 := []) (p1 := 1544) (p2 := 396) (c := r = r) rfl (fun _ => K f2 q2) (fun z => absurd rfl z)
theorem law_4 (hd : 40 ≤ d) (cp : CpZ f) (hA : IxL L v) (K : ∀ f1 : HI, CpZ f1 → wl L xs (d + 1) 1544 (LV v) [] f1) : wl L xs (d + 1) 398 (LV v) [] f := by
  refine wl_run5 (pc' := 403) (Lo' := LV v) (S' := [.int (v + 1), .ref 1000000, .ref 0]) rfl ?_
  refine wl_ld (pc' := 404) (hA 1 (by decide)) rfl ?_
  refine wl_run7 (pc' := 412) (Lo' := LV v) (S' := [.int (v + 2), .ref 1000000, .long (((aL xs v 1)).toInt64 <<< ((32 : Int32).toInt64 &&& 63)), .ref 0]) rfl ?_
  refine wl_ld (pc' := 413) (hA 2 (by decide)) rfl ?_
  refine wl_run8 (pc' := 423) (Lo' := LV v) (S' := [.int (v + 3), .ref 1000000, .long ((((aL xs v 1)).toInt64 <<< ((32 : Int32).toInt64 &&& 63)) ||| (((aL xs v 2)).toInt64 &&& 4294967295)), .ref 0]) rfl ?_
  refine wl_ld (pc' := 424) (hA 3 (by decide)) rfl ?_
  refine wl_call (S' := []) (st_write cp (((((aL xs v 1)).toInt64 <<< ((32 : Int32).toInt64 &&& 63)) ||| (((aL xs v 2)).toInt64 &&& 4294967295))) ((aL xs v 3))) hd rfl (Nat.zero_le _) rfl rfl (Nat.le_of_ble_eq_true rfl) (Nat.le_of_ble_eq_true rfl) (fun u f1 q => ?_)
  obtain ⟨r, rfl, q⟩ := q
  show wl L xs (d + 1) 427 (LV v) [.int r] f1
  refine wl_run5 (pc' := 432) (Lo' := LV v) (S' := [.int (v + 1), .ref 1000000, .ref 92, .int r]) rfl ?_
  refine wl_ld (pc' := 433) (hA 1 (by decide)) rfl ?_
  refine wl_run7 (pc' := 441) (Lo' := LV v) (S' := [.int (v + 2), .ref 1000000, .long (((aL xs v 1)).toInt64 <<< ((32 : Int32).toInt64 &&& 63)), .ref 92, .int r]) rfl ?_
  refine wl_ld (pc' := 442) (hA 2 (by decide)) rfl ?_
  refine wl_run8 (pc' := 452) (Lo' := LV v) (S' := [.int (v + 3), .ref 1000000, .long ((((aL xs v 1)).toInt64 <<< ((32 : Int32).toInt64 &&& 63)) ||| (((aL xs v 2)).toInt64 &&& 4294967295)), .ref 92, .int r]) rfl ?_
  refine wl_ld (pc' := 453) (hA 3 (by decide)) rfl ?_
  refine wl_call (S' := [.int r]) q hd rfl (Nat.le_of_ble_eq_true rfl) rfl rfl (Nat.le_of_ble_eq_true rfl) (Nat.le_of_ble_eq_true rfl) (fun u f2 q2 => ?_)
  obtain ⟨rfl, q2⟩ := q2
  show wl L xs (d + 1) 456 (LV v) [.int r, .int r] f2
  exact wl_br (S1 := []) (S2 := []) (p1 := 1544) (p2 := 459) (c := r = r) rfl (fun _ => K f2 q2) (fun z => absurd rfl z)
theorem law_5 (hd : 40 ≤ d) (cp : CpZ f) (hA : IxL L v) (K : ∀ f1 : HI, CpZ f1 → wl L xs (d + 1) 1544 (LV v) [] f1) : wl L xs (d + 1) 461 (LV v) [] f := by
  refine wl_run1 (pc' := 462) (Lo' := LV v) (S' := [.ref 0]) rfl ?_
  refine wl_call (S' := []) (st_erase cp ) hd rfl (Nat.zero_le _) rfl rfl (Nat.le_of_ble_eq_true rfl) (Nat.le_of_ble_eq_true rfl) (fun u f1 q => ?_)
  obtain ⟨r, rfl, q⟩ := q
  show wl L xs (d + 1) 465 (LV v) [.int r] f1
  refine wl_run1 (pc' := 466) (Lo' := LV v) (S' := [.ref 92, .int r]) rfl ?_
  refine wl_call (S' := [.int r]) q hd rfl (Nat.le_of_ble_eq_true rfl) rfl rfl (Nat.le_of_ble_eq_true rfl) (Nat.le_of_ble_eq_true rfl) (fun u f2 q2 => ?_)
  obtain ⟨rfl, q2⟩ := q2
  show wl L xs (d + 1) 469 (LV v) [.int r, .int r] f2
  exact wl_br (S1 := []) (S2 := []) (p1 := 1544) (p2 := 472) (c := r = r) rfl (fun _ => K f2 q2) (fun z => absurd rfl z)
theorem law_6 (hd : 40 ≤ d) (cp : CpZ f) (hA : IxL L v) (K : ∀ f1 : HI, CpZ f1 → wl L xs (d + 1) 1544 (LV v) [] f1) : wl L xs (d + 1) 474 (LV v) [] f := by
  refine wl_run1 (pc' := 475) (Lo' := LV v) (S' := [.ref 0]) rfl ?_
  refine wl_call (S' := []) (st_fault cp ) hd rfl (Nat.zero_le _) rfl rfl (Nat.le_of_ble_eq_true rfl) (Nat.le_of_ble_eq_true rfl) (fun u f1 q => ?_)
  obtain ⟨r, rfl, q⟩ := q
  show wl L xs (d + 1) 478 (LV v) [.int r] f1
  refine wl_run1 (pc' := 479) (Lo' := LV v) (S' := [.ref 92, .int r]) rfl ?_
  refine wl_call (S' := [.int r]) q hd rfl (Nat.le_of_ble_eq_true rfl) rfl rfl (Nat.le_of_ble_eq_true rfl) (Nat.le_of_ble_eq_true rfl) (fun u f2 q2 => ?_)
  obtain ⟨rfl, q2⟩ := q2
  show wl L xs (d + 1) 482 (LV v) [.int r, .int r] f2
  exact wl_br (S1 := []) (S2 := []) (p1 := 1544) (p2 := 485) (c := r = r) rfl (fun _ => K f2 q2) (fun z => absurd rfl z)
theorem law_7 (hd : 40 ≤ d) (cp : CpZ f) (hA : IxL L v) (K : ∀ f1 : HI, CpZ f1 → wl L xs (d + 1) 1544 (LV v) [] f1) : wl L xs (d + 1) 487 (LV v) [] f := by
  refine wl_run5 (pc' := 492) (Lo' := LV v) (S' := [.int (v + 1), .ref 1000000, .ref 0]) rfl ?_
  refine wl_ld (pc' := 493) (hA 1 (by decide)) rfl ?_
  refine wl_call (S' := []) (st_force cp ((aL xs v 1))) hd rfl (Nat.zero_le _) rfl rfl (Nat.le_of_ble_eq_true rfl) (Nat.le_of_ble_eq_true rfl) (fun u f1 q => ?_)
  obtain ⟨r, rfl, q⟩ := q
  show wl L xs (d + 1) 496 (LV v) [.int r] f1
  refine wl_run5 (pc' := 501) (Lo' := LV v) (S' := [.int (v + 1), .ref 1000000, .ref 92, .int r]) rfl ?_
  refine wl_ld (pc' := 502) (hA 1 (by decide)) rfl ?_
  refine wl_call (S' := [.int r]) q hd rfl (Nat.le_of_ble_eq_true rfl) rfl rfl (Nat.le_of_ble_eq_true rfl) (Nat.le_of_ble_eq_true rfl) (fun u f2 q2 => ?_)
  obtain ⟨rfl, q2⟩ := q2
  show wl L xs (d + 1) 505 (LV v) [.int r, .int r] f2
  exact wl_br (S1 := []) (S2 := []) (p1 := 1544) (p2 := 508) (c := r = r) rfl (fun _ => K f2 q2) (fun z => absurd rfl z)
theorem law_8 (hd : 40 ≤ d) (cp : CpZ f) (hA : IxL L v) (K : ∀ f1 : HI, CpZ f1 → wl L xs (d + 1) 1544 (LV v) [] f1) : wl L xs (d + 1) 510 (LV v) [] f := by
  refine wl_run5 (pc' := 515) (Lo' := LV v) (S' := [.int (v + 1), .ref 1000000, .ref 0]) rfl ?_
  refine wl_ld (pc' := 516) (hA 1 (by decide)) rfl ?_
  refine wl_run4 (pc' := 520) (Lo' := LV v) (S' := [.int (v + 2), .ref 1000000, .int (aL xs v 1), .ref 0]) rfl ?_
  refine wl_ld (pc' := 521) (hA 2 (by decide)) rfl ?_
  refine wl_call (S' := []) (st_knows cp ((aL xs v 1)) ((aL xs v 2))) hd rfl (Nat.zero_le _) rfl rfl (Nat.le_of_ble_eq_true rfl) (Nat.le_of_ble_eq_true rfl) (fun u f1 q => ?_)
  obtain ⟨r, rfl, q⟩ := q
  show wl L xs (d + 1) 524 (LV v) [.int r] f1
  refine wl_run5 (pc' := 529) (Lo' := LV v) (S' := [.int (v + 1), .ref 1000000, .ref 92, .int r]) rfl ?_
  refine wl_ld (pc' := 530) (hA 1 (by decide)) rfl ?_
  refine wl_run4 (pc' := 534) (Lo' := LV v) (S' := [.int (v + 2), .ref 1000000, .int (aL xs v 1), .ref 92, .int r]) rfl ?_
  refine wl_ld (pc' := 535) (hA 2 (by decide)) rfl ?_
  refine wl_call (S' := [.int r]) q hd rfl (Nat.le_of_ble_eq_true rfl) rfl rfl (Nat.le_of_ble_eq_true rfl) (Nat.le_of_ble_eq_true rfl) (fun u f2 q2 => ?_)
  obtain ⟨rfl, q2⟩ := q2
  show wl L xs (d + 1) 538 (LV v) [.int r, .int r] f2
  exact wl_br (S1 := []) (S2 := []) (p1 := 1544) (p2 := 541) (c := r = r) rfl (fun _ => K f2 q2) (fun z => absurd rfl z)
theorem law_9 (hd : 40 ≤ d) (cp : CpZ f) (hA : IxL L v) (K : ∀ f1 : HI, CpZ f1 → wl L xs (d + 1) 1544 (LV v) [] f1) : wl L xs (d + 1) 543 (LV v) [] f := by
  refine wl_run5 (pc' := 548) (Lo' := LV v) (S' := [.int (v + 1), .ref 1000000, .ref 0]) rfl ?_
  refine wl_ld (pc' := 549) (hA 1 (by decide)) rfl ?_
  refine wl_run4 (pc' := 553) (Lo' := LV v) (S' := [.int (v + 2), .ref 1000000, .int (aL xs v 1), .ref 0]) rfl ?_
  refine wl_ld (pc' := 554) (hA 2 (by decide)) rfl ?_
  refine wl_run4 (pc' := 558) (Lo' := LV v) (S' := [.int (v + 3), .ref 1000000, .int (aL xs v 2), .int (aL xs v 1), .ref 0]) rfl ?_
  refine wl_ld (pc' := 559) (hA 3 (by decide)) rfl ?_
  refine wl_call (S' := []) (st_act cp ((aL xs v 1)) ((aL xs v 2)) ((aL xs v 3))) hd rfl (Nat.zero_le _) rfl rfl (Nat.le_of_ble_eq_true rfl) (Nat.le_of_ble_eq_true rfl) (fun u f1 q => ?_)
  obtain ⟨r, rfl, q⟩ := q
  show wl L xs (d + 1) 562 (LV v) [.int r] f1
  refine wl_run5 (pc' := 567) (Lo' := LV v) (S' := [.int (v + 1), .ref 1000000, .ref 92, .int r]) rfl ?_
  refine wl_ld (pc' := 568) (hA 1 (by decide)) rfl ?_
  refine wl_run4 (pc' := 572) (Lo' := LV v) (S' := [.int (v + 2), .ref 1000000, .int (aL xs v 1), .ref 92, .int r]) rfl ?_
  refine wl_ld (pc' := 573) (hA 2 (by decide)) rfl ?_
  refine wl_run4 (pc' := 577) (Lo' := LV v) (S' := [.int (v + 3), .ref 1000000, .int (aL xs v 2), .int (aL xs v 1), .ref 92, .int r]) rfl ?_
  refine wl_ld (pc' := 578) (hA 3 (by decide)) rfl ?_
  refine wl_call (S' := [.int r]) q hd rfl (Nat.le_of_ble_eq_true rfl) rfl rfl (Nat.le_of_ble_eq_true rfl) (Nat.le_of_ble_eq_true rfl) (fun u f2 q2 => ?_)
  obtain ⟨rfl, q2⟩ := q2
  show wl L xs (d + 1) 581 (LV v) [.int r, .int r] f2
  exact wl_br (S1 := []) (S2 := []) (p1 := 1544) (p2 := 584) (c := r = r) rfl (fun _ => K f2 q2) (fun z => absurd rfl z)
theorem law_10 (hd : 40 ≤ d) (cp : CpZ f) (hA : IxL L v) (K : ∀ f1 : HI, CpZ f1 → wl L xs (d + 1) 1544 (LV v) [] f1) : wl L xs (d + 1) 586 (LV v) [] f := by
  by_cases h5 : (aL xs v 5) = 0
  · refine wl_run5 (pc' := 591) (Lo' := LV v) (S' := [.int (v + 1), .ref 1000000, .ref 0]) rfl ?_
    refine wl_ld (pc' := 592) (hA 1 (by decide)) rfl ?_
    refine wl_run4 (pc' := 596) (Lo' := LV v) (S' := [.int (v + 2), .ref 1000000, .int (aL xs v 1), .ref 0]) rfl ?_
    refine wl_ld (pc' := 597) (hA 2 (by decide)) rfl ?_
    refine wl_run4 (pc' := 601) (Lo' := LV v) (S' := [.int (v + 3), .ref 1000000, .int (aL xs v 2), .int (aL xs v 1), .ref 0]) rfl ?_
    refine wl_ld (pc' := 602) (hA 3 (by decide)) rfl ?_
    refine wl_run4 (pc' := 606) (Lo' := LV v) (S' := [.int (v + 4), .ref 1000000, .int (aL xs v 3), .int (aL xs v 2), .int (aL xs v 1), .ref 0]) rfl ?_
    refine wl_ld (pc' := 607) (hA 4 (by decide)) rfl ?_
    refine wl_run4 (pc' := 611) (Lo' := LV v) (S' := [.int (v + 5), .ref 1000000, .int (aL xs v 4), .int (aL xs v 3), .int (aL xs v 2), .int (aL xs v 1), .ref 0]) rfl ?_
    refine wl_ld (pc' := 612) (hA 5 (by decide)) rfl ?_
    refine wl_br (S1 := [.int (aL xs v 4), .int (aL xs v 3), .int (aL xs v 2), .int (aL xs v 1), .ref 0]) (S2 := [.int (aL xs v 4), .int (aL xs v 3), .int (aL xs v 2), .int (aL xs v 1), .ref 0]) (p1 := 619) (p2 := 615) (c := (aL xs v 5) = 0) rfl (fun z => ?_) (fun z => ?_)
    rotate_left
    · exact absurd h5 z
    refine wl_run1 (pc' := 620) (Lo' := LV v) (S' := [.int 0, .int (aL xs v 4), .int (aL xs v 3), .int (aL xs v 2), .int (aL xs v 1), .ref 0]) rfl ?_
    refine wl_call (S' := []) (st_postage cp ((aL xs v 1)) ((aL xs v 2)) ((aL xs v 3)) ((aL xs v 4)) (0)) hd rfl (Nat.zero_le _) rfl rfl (Nat.le_of_ble_eq_true rfl) (Nat.le_of_ble_eq_true rfl) (fun u f1 q => ?_)
    obtain ⟨r, rfl, q⟩ := q
    show wl L xs (d + 1) 623 (LV v) [.int r] f1
    refine wl_run5 (pc' := 628) (Lo' := LV v) (S' := [.int (v + 1), .ref 1000000, .ref 92, .int r]) rfl ?_
    refine wl_ld (pc' := 629) (hA 1 (by decide)) rfl ?_
    refine wl_run4 (pc' := 633) (Lo' := LV v) (S' := [.int (v + 2), .ref 1000000, .int (aL xs v 1), .ref 92, .int r]) rfl ?_
    refine wl_ld (pc' := 634) (hA 2 (by decide)) rfl ?_
    refine wl_run4 (pc' := 638) (Lo' := LV v) (S' := [.int (v + 3), .ref 1000000, .int (aL xs v 2), .int (aL xs v 1), .ref 92, .int r]) rfl ?_
    refine wl_ld (pc' := 639) (hA 3 (by decide)) rfl ?_
    refine wl_run4 (pc' := 643) (Lo' := LV v) (S' := [.int (v + 4), .ref 1000000, .int (aL xs v 3), .int (aL xs v 2), .int (aL xs v 1), .ref 92, .int r]) rfl ?_
    refine wl_ld (pc' := 644) (hA 4 (by decide)) rfl ?_
    refine wl_run4 (pc' := 648) (Lo' := LV v) (S' := [.int (v + 5), .ref 1000000, .int (aL xs v 4), .int (aL xs v 3), .int (aL xs v 2), .int (aL xs v 1), .ref 92, .int r]) rfl ?_
    refine wl_ld (pc' := 649) (hA 5 (by decide)) rfl ?_
    refine wl_br (S1 := [.int (aL xs v 4), .int (aL xs v 3), .int (aL xs v 2), .int (aL xs v 1), .ref 92, .int r]) (S2 := [.int (aL xs v 4), .int (aL xs v 3), .int (aL xs v 2), .int (aL xs v 1), .ref 92, .int r]) (p1 := 656) (p2 := 652) (c := (aL xs v 5) = 0) rfl (fun z => ?_) (fun z => ?_)
    rotate_left
    · exact absurd h5 z
    refine wl_run1 (pc' := 657) (Lo' := LV v) (S' := [.int 0, .int (aL xs v 4), .int (aL xs v 3), .int (aL xs v 2), .int (aL xs v 1), .ref 92, .int r]) rfl ?_
    refine wl_call (S' := [.int r]) q hd rfl (Nat.le_of_ble_eq_true rfl) rfl rfl (Nat.le_of_ble_eq_true rfl) (Nat.le_of_ble_eq_true rfl) (fun u f2 q2 => ?_)
    obtain ⟨rfl, q2⟩ := q2
    show wl L xs (d + 1) 660 (LV v) [.int r, .int r] f2
    exact wl_br (S1 := []) (S2 := []) (p1 := 1544) (p2 := 663) (c := r = r) rfl (fun _ => K f2 q2) (fun z => absurd rfl z)
  · refine wl_run5 (pc' := 591) (Lo' := LV v) (S' := [.int (v + 1), .ref 1000000, .ref 0]) rfl ?_
    refine wl_ld (pc' := 592) (hA 1 (by decide)) rfl ?_
    refine wl_run4 (pc' := 596) (Lo' := LV v) (S' := [.int (v + 2), .ref 1000000, .int (aL xs v 1), .ref 0]) rfl ?_
    refine wl_ld (pc' := 597) (hA 2 (by decide)) rfl ?_
    refine wl_run4 (pc' := 601) (Lo' := LV v) (S' := [.int (v + 3), .ref 1000000, .int (aL xs v 2), .int (aL xs v 1), .ref 0]) rfl ?_
    refine wl_ld (pc' := 602) (hA 3 (by decide)) rfl ?_
    refine wl_run4 (pc' := 606) (Lo' := LV v) (S' := [.int (v + 4), .ref 1000000, .int (aL xs v 3), .int (aL xs v 2), .int (aL xs v 1), .ref 0]) rfl ?_
    refine wl_ld (pc' := 607) (hA 4 (by decide)) rfl ?_
    refine wl_run4 (pc' := 611) (Lo' := LV v) (S' := [.int (v + 5), .ref 1000000, .int (aL xs v 4), .int (aL xs v 3), .int (aL xs v 2), .int (aL xs v 1), .ref 0]) rfl ?_
    refine wl_ld (pc' := 612) (hA 5 (by decide)) rfl ?_
    refine wl_br (S1 := [.int (aL xs v 4), .int (aL xs v 3), .int (aL xs v 2), .int (aL xs v 1), .ref 0]) (S2 := [.int (aL xs v 4), .int (aL xs v 3), .int (aL xs v 2), .int (aL xs v 1), .ref 0]) (p1 := 619) (p2 := 615) (c := (aL xs v 5) = 0) rfl (fun z => ?_) (fun z => ?_)
    · exact absurd z h5
    refine wl_run2 (pc' := 620) (Lo' := LV v) (S' := [.int 1, .int (aL xs v 4), .int (aL xs v 3), .int (aL xs v 2), .int (aL xs v 1), .ref 0]) rfl ?_
    refine wl_call (S' := []) (st_postage cp ((aL xs v 1)) ((aL xs v 2)) ((aL xs v 3)) ((aL xs v 4)) (1)) hd rfl (Nat.zero_le _) rfl rfl (Nat.le_of_ble_eq_true rfl) (Nat.le_of_ble_eq_true rfl) (fun u f1 q => ?_)
    obtain ⟨r, rfl, q⟩ := q
    show wl L xs (d + 1) 623 (LV v) [.int r] f1
    refine wl_run5 (pc' := 628) (Lo' := LV v) (S' := [.int (v + 1), .ref 1000000, .ref 92, .int r]) rfl ?_
    refine wl_ld (pc' := 629) (hA 1 (by decide)) rfl ?_
    refine wl_run4 (pc' := 633) (Lo' := LV v) (S' := [.int (v + 2), .ref 1000000, .int (aL xs v 1), .ref 92, .int r]) rfl ?_
    refine wl_ld (pc' := 634) (hA 2 (by decide)) rfl ?_
    refine wl_run4 (pc' := 638) (Lo' := LV v) (S' := [.int (v + 3), .ref 1000000, .int (aL xs v 2), .int (aL xs v 1), .ref 92, .int r]) rfl ?_
    refine wl_ld (pc' := 639) (hA 3 (by decide)) rfl ?_
    refine wl_run4 (pc' := 643) (Lo' := LV v) (S' := [.int (v + 4), .ref 1000000, .int (aL xs v 3), .int (aL xs v 2), .int (aL xs v 1), .ref 92, .int r]) rfl ?_
    refine wl_ld (pc' := 644) (hA 4 (by decide)) rfl ?_
    refine wl_run4 (pc' := 648) (Lo' := LV v) (S' := [.int (v + 5), .ref 1000000, .int (aL xs v 4), .int (aL xs v 3), .int (aL xs v 2), .int (aL xs v 1), .ref 92, .int r]) rfl ?_
    refine wl_ld (pc' := 649) (hA 5 (by decide)) rfl ?_
    refine wl_br (S1 := [.int (aL xs v 4), .int (aL xs v 3), .int (aL xs v 2), .int (aL xs v 1), .ref 92, .int r]) (S2 := [.int (aL xs v 4), .int (aL xs v 3), .int (aL xs v 2), .int (aL xs v 1), .ref 92, .int r]) (p1 := 656) (p2 := 652) (c := (aL xs v 5) = 0) rfl (fun z => ?_) (fun z => ?_)
    · exact absurd z h5
    refine wl_run2 (pc' := 657) (Lo' := LV v) (S' := [.int 1, .int (aL xs v 4), .int (aL xs v 3), .int (aL xs v 2), .int (aL xs v 1), .ref 92, .int r]) rfl ?_
    refine wl_call (S' := [.int r]) q hd rfl (Nat.le_of_ble_eq_true rfl) rfl rfl (Nat.le_of_ble_eq_true rfl) (Nat.le_of_ble_eq_true rfl) (fun u f2 q2 => ?_)
    obtain ⟨rfl, q2⟩ := q2
    show wl L xs (d + 1) 660 (LV v) [.int r, .int r] f2
    exact wl_br (S1 := []) (S2 := []) (p1 := 1544) (p2 := 663) (c := r = r) rfl (fun _ => K f2 q2) (fun z => absurd rfl z)
theorem law_11 (hd : 40 ≤ d) (cp : CpZ f) (hA : IxL L v) (K : ∀ f1 : HI, CpZ f1 → wl L xs (d + 1) 1544 (LV v) [] f1) : wl L xs (d + 1) 665 (LV v) [] f := by
  refine wl_run5 (pc' := 670) (Lo' := LV v) (S' := [.int (v + 1), .ref 1000000, .ref 0]) rfl ?_
  refine wl_ld (pc' := 671) (hA 1 (by decide)) rfl ?_
  refine wl_run4 (pc' := 675) (Lo' := LV v) (S' := [.int (v + 2), .ref 1000000, .int (aL xs v 1), .ref 0]) rfl ?_
  refine wl_ld (pc' := 676) (hA 2 (by decide)) rfl ?_
  refine wl_call (S' := []) (st_why cp ((aL xs v 1)) ((aL xs v 2))) hd rfl (Nat.zero_le _) rfl rfl (Nat.le_of_ble_eq_true rfl) (Nat.le_of_ble_eq_true rfl) (fun u f1 q => ?_)
  obtain ⟨r, rfl, q⟩ := q
  show wl L xs (d + 1) 679 (LV v) [.int r] f1
  refine wl_run5 (pc' := 684) (Lo' := LV v) (S' := [.int (v + 1), .ref 1000000, .ref 92, .int r]) rfl ?_
  refine wl_ld (pc' := 685) (hA 1 (by decide)) rfl ?_
  refine wl_run4 (pc' := 689) (Lo' := LV v) (S' := [.int (v + 2), .ref 1000000, .int (aL xs v 1), .ref 92, .int r]) rfl ?_
  refine wl_ld (pc' := 690) (hA 2 (by decide)) rfl ?_
  refine wl_call (S' := [.int r]) q hd rfl (Nat.le_of_ble_eq_true rfl) rfl rfl (Nat.le_of_ble_eq_true rfl) (Nat.le_of_ble_eq_true rfl) (fun u f2 q2 => ?_)
  obtain ⟨rfl, q2⟩ := q2
  show wl L xs (d + 1) 693 (LV v) [.int r, .int r] f2
  exact wl_br (S1 := []) (S2 := []) (p1 := 1544) (p2 := 696) (c := r = r) rfl (fun _ => K f2 q2) (fun z => absurd rfl z)
theorem law_12 (hd : 40 ≤ d) (cp : CpZ f) (hA : IxL L v) (K : ∀ f1 : HI, CpZ f1 → wl L xs (d + 1) 1544 (LV v) [] f1) : wl L xs (d + 1) 698 (LV v) [] f := by
  refine wl_run5 (pc' := 703) (Lo' := LV v) (S' := [.int (v + 1), .ref 1000000, .ref 0]) rfl ?_
  refine wl_ld (pc' := 704) (hA 1 (by decide)) rfl ?_
  refine wl_run4 (pc' := 708) (Lo' := LV v) (S' := [.int (v + 2), .ref 1000000, .int (aL xs v 1), .ref 0]) rfl ?_
  refine wl_ld (pc' := 709) (hA 2 (by decide)) rfl ?_
  refine wl_run4 (pc' := 713) (Lo' := LV v) (S' := [.int (v + 3), .ref 1000000, .int (aL xs v 2), .int (aL xs v 1), .ref 0]) rfl ?_
  refine wl_ld (pc' := 714) (hA 3 (by decide)) rfl ?_
  refine wl_run4 (pc' := 718) (Lo' := LV v) (S' := [.int (v + 4), .ref 1000000, .int (aL xs v 3), .int (aL xs v 2), .int (aL xs v 1), .ref 0]) rfl ?_
  refine wl_ld (pc' := 719) (hA 4 (by decide)) rfl ?_
  refine wl_run4 (pc' := 723) (Lo' := LV v) (S' := [.int (v + 5), .ref 1000000, .int (aL xs v 4), .int (aL xs v 3), .int (aL xs v 2), .int (aL xs v 1), .ref 0]) rfl ?_
  refine wl_ld (pc' := 724) (hA 5 (by decide)) rfl ?_
  refine wl_run4 (pc' := 729) (Lo' := LV v) (S' := [.int (v + 6), .ref 1000000, .int (aL xs v 5), .int (aL xs v 4), .int (aL xs v 3), .int (aL xs v 2), .int (aL xs v 1), .ref 0]) rfl ?_
  refine wl_ld (pc' := 730) (hA 6 (by decide)) rfl ?_
  refine wl_run4 (pc' := 735) (Lo' := LV v) (S' := [.int (v + 7), .ref 1000000, .int (aL xs v 6), .int (aL xs v 5), .int (aL xs v 4), .int (aL xs v 3), .int (aL xs v 2), .int (aL xs v 1), .ref 0]) rfl ?_
  refine wl_ld (pc' := 736) (hA 7 (by decide)) rfl ?_
  refine wl_call (S' := []) (st_letter cp ((aL xs v 1)) ((aL xs v 2)) ((aL xs v 3)) ((aL xs v 4)) ((aL xs v 5)) ((aL xs v 6)) ((aL xs v 7))) hd rfl (Nat.zero_le _) rfl rfl (Nat.le_of_ble_eq_true rfl) (Nat.le_of_ble_eq_true rfl) (fun u f1 q => ?_)
  obtain ⟨r, rfl, q⟩ := q
  show wl L xs (d + 1) 739 (LV v) [.int r] f1
  refine wl_run5 (pc' := 744) (Lo' := LV v) (S' := [.int (v + 1), .ref 1000000, .ref 92, .int r]) rfl ?_
  refine wl_ld (pc' := 745) (hA 1 (by decide)) rfl ?_
  refine wl_run4 (pc' := 749) (Lo' := LV v) (S' := [.int (v + 2), .ref 1000000, .int (aL xs v 1), .ref 92, .int r]) rfl ?_
  refine wl_ld (pc' := 750) (hA 2 (by decide)) rfl ?_
  refine wl_run4 (pc' := 754) (Lo' := LV v) (S' := [.int (v + 3), .ref 1000000, .int (aL xs v 2), .int (aL xs v 1), .ref 92, .int r]) rfl ?_
  refine wl_ld (pc' := 755) (hA 3 (by decide)) rfl ?_
  refine wl_run4 (pc' := 759) (Lo' := LV v) (S' := [.int (v + 4), .ref 1000000, .int (aL xs v 3), .int (aL xs v 2), .int (aL xs v 1), .ref 92, .int r]) rfl ?_
  refine wl_ld (pc' := 760) (hA 4 (by decide)) rfl ?_
  refine wl_run4 (pc' := 764) (Lo' := LV v) (S' := [.int (v + 5), .ref 1000000, .int (aL xs v 4), .int (aL xs v 3), .int (aL xs v 2), .int (aL xs v 1), .ref 92, .int r]) rfl ?_
  refine wl_ld (pc' := 765) (hA 5 (by decide)) rfl ?_
  refine wl_run4 (pc' := 770) (Lo' := LV v) (S' := [.int (v + 6), .ref 1000000, .int (aL xs v 5), .int (aL xs v 4), .int (aL xs v 3), .int (aL xs v 2), .int (aL xs v 1), .ref 92, .int r]) rfl ?_
  refine wl_ld (pc' := 771) (hA 6 (by decide)) rfl ?_
  refine wl_run4 (pc' := 776) (Lo' := LV v) (S' := [.int (v + 7), .ref 1000000, .int (aL xs v 6), .int (aL xs v 5), .int (aL xs v 4), .int (aL xs v 3), .int (aL xs v 2), .int (aL xs v 1), .ref 92, .int r]) rfl ?_
  refine wl_ld (pc' := 777) (hA 7 (by decide)) rfl ?_
  refine wl_call (S' := [.int r]) q hd rfl (Nat.le_of_ble_eq_true rfl) rfl rfl (Nat.le_of_ble_eq_true rfl) (Nat.le_of_ble_eq_true rfl) (fun u f2 q2 => ?_)
  obtain ⟨rfl, q2⟩ := q2
  show wl L xs (d + 1) 780 (LV v) [.int r, .int r] f2
  exact wl_br (S1 := []) (S2 := []) (p1 := 1544) (p2 := 783) (c := r = r) rfl (fun _ => K f2 q2) (fun z => absurd rfl z)
theorem law_13 (hd : 40 ≤ d) (cp : CpZ f) (hA : IxL L v) (K : ∀ f1 : HI, CpZ f1 → wl L xs (d + 1) 1544 (LV v) [] f1) : wl L xs (d + 1) 785 (LV v) [] f := by
  refine wl_run5 (pc' := 790) (Lo' := LV v) (S' := [.int (v + 1), .ref 1000000, .ref 0]) rfl ?_
  refine wl_ld (pc' := 791) (hA 1 (by decide)) rfl ?_
  refine wl_call (S' := []) (st_hours cp ((aL xs v 1))) hd rfl (Nat.zero_le _) rfl rfl (Nat.le_of_ble_eq_true rfl) (Nat.le_of_ble_eq_true rfl) (fun u f1 q => ?_)
  obtain ⟨r, rfl, q⟩ := q
  show wl L xs (d + 1) 794 (LV v) [.int r] f1
  refine wl_run5 (pc' := 799) (Lo' := LV v) (S' := [.int (v + 1), .ref 1000000, .ref 92, .int r]) rfl ?_
  refine wl_ld (pc' := 800) (hA 1 (by decide)) rfl ?_
  refine wl_call (S' := [.int r]) q hd rfl (Nat.le_of_ble_eq_true rfl) rfl rfl (Nat.le_of_ble_eq_true rfl) (Nat.le_of_ble_eq_true rfl) (fun u f2 q2 => ?_)
  obtain ⟨rfl, q2⟩ := q2
  show wl L xs (d + 1) 803 (LV v) [.int r, .int r] f2
  exact wl_br (S1 := []) (S2 := []) (p1 := 1544) (p2 := 806) (c := r = r) rfl (fun _ => K f2 q2) (fun z => absurd rfl z)
theorem law_14 (hd : 40 ≤ d) (cp : CpZ f) (hA : IxL L v) (K : ∀ f1 : HI, CpZ f1 → wl L xs (d + 1) 1544 (LV v) [] f1) : wl L xs (d + 1) 808 (LV v) [] f := by
  refine wl_run5 (pc' := 813) (Lo' := LV v) (S' := [.int (v + 1), .ref 1000000, .ref 0]) rfl ?_
  refine wl_ld (pc' := 814) (hA 1 (by decide)) rfl ?_
  refine wl_run4 (pc' := 818) (Lo' := LV v) (S' := [.int (v + 2), .ref 1000000, .int (aL xs v 1), .ref 0]) rfl ?_
  refine wl_ld (pc' := 819) (hA 2 (by decide)) rfl ?_
  refine wl_call (S' := []) (st_at cp ((aL xs v 1)) ((aL xs v 2))) hd rfl (Nat.zero_le _) rfl rfl (Nat.le_of_ble_eq_true rfl) (Nat.le_of_ble_eq_true rfl) (fun u f1 q => ?_)
  obtain ⟨r, rfl, q⟩ := q
  show wl L xs (d + 1) 822 (LV v) [.int r] f1
  refine wl_run5 (pc' := 827) (Lo' := LV v) (S' := [.int (v + 1), .ref 1000000, .ref 92, .int r]) rfl ?_
  refine wl_ld (pc' := 828) (hA 1 (by decide)) rfl ?_
  refine wl_run4 (pc' := 832) (Lo' := LV v) (S' := [.int (v + 2), .ref 1000000, .int (aL xs v 1), .ref 92, .int r]) rfl ?_
  refine wl_ld (pc' := 833) (hA 2 (by decide)) rfl ?_
  refine wl_call (S' := [.int r]) q hd rfl (Nat.le_of_ble_eq_true rfl) rfl rfl (Nat.le_of_ble_eq_true rfl) (Nat.le_of_ble_eq_true rfl) (fun u f2 q2 => ?_)
  obtain ⟨rfl, q2⟩ := q2
  show wl L xs (d + 1) 836 (LV v) [.int r, .int r] f2
  exact wl_br (S1 := []) (S2 := []) (p1 := 1544) (p2 := 839) (c := r = r) rfl (fun _ => K f2 q2) (fun z => absurd rfl z)
theorem law_15 (hd : 40 ≤ d) (cp : CpZ f) (hA : IxL L v) (K : ∀ f1 : HI, CpZ f1 → wl L xs (d + 1) 1544 (LV v) [] f1) : wl L xs (d + 1) 841 (LV v) [] f := by
  refine wl_run5 (pc' := 846) (Lo' := LV v) (S' := [.int (v + 1), .ref 1000000, .ref 0]) rfl ?_
  refine wl_ld (pc' := 847) (hA 1 (by decide)) rfl ?_
  refine wl_run4 (pc' := 851) (Lo' := LV v) (S' := [.int (v + 2), .ref 1000000, .int (aL xs v 1), .ref 0]) rfl ?_
  refine wl_ld (pc' := 852) (hA 2 (by decide)) rfl ?_
  refine wl_call (S' := []) (st_purse cp ((aL xs v 1)) ((aL xs v 2))) hd rfl (Nat.zero_le _) rfl rfl (Nat.le_of_ble_eq_true rfl) (Nat.le_of_ble_eq_true rfl) (fun u f1 q => ?_)
  obtain ⟨r, rfl, q⟩ := q
  show wl L xs (d + 1) 855 (LV v) [.int r] f1
  refine wl_run5 (pc' := 860) (Lo' := LV v) (S' := [.int (v + 1), .ref 1000000, .ref 92, .int r]) rfl ?_
  refine wl_ld (pc' := 861) (hA 1 (by decide)) rfl ?_
  refine wl_run4 (pc' := 865) (Lo' := LV v) (S' := [.int (v + 2), .ref 1000000, .int (aL xs v 1), .ref 92, .int r]) rfl ?_
  refine wl_ld (pc' := 866) (hA 2 (by decide)) rfl ?_
  refine wl_call (S' := [.int r]) q hd rfl (Nat.le_of_ble_eq_true rfl) rfl rfl (Nat.le_of_ble_eq_true rfl) (Nat.le_of_ble_eq_true rfl) (fun u f2 q2 => ?_)
  obtain ⟨rfl, q2⟩ := q2
  show wl L xs (d + 1) 869 (LV v) [.int r, .int r] f2
  exact wl_br (S1 := []) (S2 := []) (p1 := 1544) (p2 := 872) (c := r = r) rfl (fun _ => K f2 q2) (fun z => absurd rfl z)
theorem law_16 (hd : 40 ≤ d) (cp : CpZ f) (hA : IxL L v) (K : ∀ f1 : HI, CpZ f1 → wl L xs (d + 1) 1544 (LV v) [] f1) : wl L xs (d + 1) 874 (LV v) [] f := by
  refine wl_run5 (pc' := 879) (Lo' := LV v) (S' := [.int (v + 1), .ref 1000000, .ref 0]) rfl ?_
  refine wl_ld (pc' := 880) (hA 1 (by decide)) rfl ?_
  refine wl_run4 (pc' := 884) (Lo' := LV v) (S' := [.int (v + 2), .ref 1000000, .int (aL xs v 1), .ref 0]) rfl ?_
  refine wl_ld (pc' := 885) (hA 2 (by decide)) rfl ?_
  refine wl_run4 (pc' := 889) (Lo' := LV v) (S' := [.int (v + 3), .ref 1000000, .int (aL xs v 2), .int (aL xs v 1), .ref 0]) rfl ?_
  refine wl_ld (pc' := 890) (hA 3 (by decide)) rfl ?_
  refine wl_call (S' := []) (st_code cp ((aL xs v 1)) ((aL xs v 2)) ((aL xs v 3))) hd rfl (Nat.zero_le _) rfl rfl (Nat.le_of_ble_eq_true rfl) (Nat.le_of_ble_eq_true rfl) (fun u f1 q => ?_)
  obtain ⟨r, rfl, q⟩ := q
  show wl L xs (d + 1) 893 (LV v) [.int r] f1
  refine wl_run5 (pc' := 898) (Lo' := LV v) (S' := [.int (v + 1), .ref 1000000, .ref 92, .int r]) rfl ?_
  refine wl_ld (pc' := 899) (hA 1 (by decide)) rfl ?_
  refine wl_run4 (pc' := 903) (Lo' := LV v) (S' := [.int (v + 2), .ref 1000000, .int (aL xs v 1), .ref 92, .int r]) rfl ?_
  refine wl_ld (pc' := 904) (hA 2 (by decide)) rfl ?_
  refine wl_run4 (pc' := 908) (Lo' := LV v) (S' := [.int (v + 3), .ref 1000000, .int (aL xs v 2), .int (aL xs v 1), .ref 92, .int r]) rfl ?_
  refine wl_ld (pc' := 909) (hA 3 (by decide)) rfl ?_
  refine wl_call (S' := [.int r]) q hd rfl (Nat.le_of_ble_eq_true rfl) rfl rfl (Nat.le_of_ble_eq_true rfl) (Nat.le_of_ble_eq_true rfl) (fun u f2 q2 => ?_)
  obtain ⟨rfl, q2⟩ := q2
  show wl L xs (d + 1) 912 (LV v) [.int r, .int r] f2
  exact wl_br (S1 := []) (S2 := []) (p1 := 1544) (p2 := 915) (c := r = r) rfl (fun _ => K f2 q2) (fun z => absurd rfl z)
theorem law_17 (hd : 40 ≤ d) (cp : CpZ f) (hA : IxL L v) (K : ∀ f1 : HI, CpZ f1 → wl L xs (d + 1) 1544 (LV v) [] f1) : wl L xs (d + 1) 917 (LV v) [] f := by
  refine wl_run5 (pc' := 922) (Lo' := LV v) (S' := [.int (v + 1), .ref 1000000, .ref 0]) rfl ?_
  refine wl_ld (pc' := 923) (hA 1 (by decide)) rfl ?_
  refine wl_run4 (pc' := 927) (Lo' := LV v) (S' := [.int (v + 2), .ref 1000000, .int (aL xs v 1), .ref 0]) rfl ?_
  refine wl_ld (pc' := 928) (hA 2 (by decide)) rfl ?_
  refine wl_call (S' := []) (st_set cp ((aL xs v 1)) ((aL xs v 2))) hd rfl (Nat.zero_le _) rfl rfl (Nat.le_of_ble_eq_true rfl) (Nat.le_of_ble_eq_true rfl) (fun u f1 q => ?_)
  obtain ⟨r, rfl, q⟩ := q
  show wl L xs (d + 1) 931 (LV v) [.int r] f1
  refine wl_run5 (pc' := 936) (Lo' := LV v) (S' := [.int (v + 1), .ref 1000000, .ref 92, .int r]) rfl ?_
  refine wl_ld (pc' := 937) (hA 1 (by decide)) rfl ?_
  refine wl_run4 (pc' := 941) (Lo' := LV v) (S' := [.int (v + 2), .ref 1000000, .int (aL xs v 1), .ref 92, .int r]) rfl ?_
  refine wl_ld (pc' := 942) (hA 2 (by decide)) rfl ?_
  refine wl_call (S' := [.int r]) q hd rfl (Nat.le_of_ble_eq_true rfl) rfl rfl (Nat.le_of_ble_eq_true rfl) (Nat.le_of_ble_eq_true rfl) (fun u f2 q2 => ?_)
  obtain ⟨rfl, q2⟩ := q2
  show wl L xs (d + 1) 945 (LV v) [.int r, .int r] f2
  exact wl_br (S1 := []) (S2 := []) (p1 := 1544) (p2 := 948) (c := r = r) rfl (fun _ => K f2 q2) (fun z => absurd rfl z)
theorem law_18 (hd : 40 ≤ d) (cp : CpZ f) (hA : IxL L v) (K : ∀ f1 : HI, CpZ f1 → wl L xs (d + 1) 1544 (LV v) [] f1) : wl L xs (d + 1) 950 (LV v) [] f := by
  refine wl_run5 (pc' := 955) (Lo' := LV v) (S' := [.int (v + 1), .ref 1000000, .ref 0]) rfl ?_
  refine wl_ld (pc' := 956) (hA 1 (by decide)) rfl ?_
  refine wl_run4 (pc' := 960) (Lo' := LV v) (S' := [.int (v + 2), .ref 1000000, .int (aL xs v 1), .ref 0]) rfl ?_
  refine wl_ld (pc' := 961) (hA 2 (by decide)) rfl ?_
  refine wl_run4 (pc' := 965) (Lo' := LV v) (S' := [.int (v + 3), .ref 1000000, .int (aL xs v 2), .int (aL xs v 1), .ref 0]) rfl ?_
  refine wl_ld (pc' := 966) (hA 3 (by decide)) rfl ?_
  refine wl_call (S' := []) (st_met cp ((aL xs v 1)) ((aL xs v 2)) ((aL xs v 3))) hd rfl (Nat.zero_le _) rfl rfl (Nat.le_of_ble_eq_true rfl) (Nat.le_of_ble_eq_true rfl) (fun u f1 q => ?_)
  obtain ⟨r, rfl, q⟩ := q
  show wl L xs (d + 1) 969 (LV v) [.int r] f1
  refine wl_run5 (pc' := 974) (Lo' := LV v) (S' := [.int (v + 1), .ref 1000000, .ref 92, .int r]) rfl ?_
  refine wl_ld (pc' := 975) (hA 1 (by decide)) rfl ?_
  refine wl_run4 (pc' := 979) (Lo' := LV v) (S' := [.int (v + 2), .ref 1000000, .int (aL xs v 1), .ref 92, .int r]) rfl ?_
  refine wl_ld (pc' := 980) (hA 2 (by decide)) rfl ?_
  refine wl_run4 (pc' := 984) (Lo' := LV v) (S' := [.int (v + 3), .ref 1000000, .int (aL xs v 2), .int (aL xs v 1), .ref 92, .int r]) rfl ?_
  refine wl_ld (pc' := 985) (hA 3 (by decide)) rfl ?_
  refine wl_call (S' := [.int r]) q hd rfl (Nat.le_of_ble_eq_true rfl) rfl rfl (Nat.le_of_ble_eq_true rfl) (Nat.le_of_ble_eq_true rfl) (fun u f2 q2 => ?_)
  obtain ⟨rfl, q2⟩ := q2
  show wl L xs (d + 1) 988 (LV v) [.int r, .int r] f2
  exact wl_br (S1 := []) (S2 := []) (p1 := 1544) (p2 := 991) (c := r = r) rfl (fun _ => K f2 q2) (fun z => absurd rfl z)
theorem law_19 (hd : 40 ≤ d) (cp : CpZ f) (hA : IxL L v) (K : ∀ f1 : HI, CpZ f1 → wl L xs (d + 1) 1544 (LV v) [] f1) : wl L xs (d + 1) 993 (LV v) [] f := by
  refine wl_run5 (pc' := 998) (Lo' := LV v) (S' := [.int (v + 1), .ref 1000000, .ref 0]) rfl ?_
  refine wl_ld (pc' := 999) (hA 1 (by decide)) rfl ?_
  refine wl_call (S' := []) (st_cannot cp ((aL xs v 1))) hd rfl (Nat.zero_le _) rfl rfl (Nat.le_of_ble_eq_true rfl) (Nat.le_of_ble_eq_true rfl) (fun u f1 q => ?_)
  obtain ⟨r, rfl, q⟩ := q
  show wl L xs (d + 1) 1002 (LV v) [.int r] f1
  refine wl_run5 (pc' := 1007) (Lo' := LV v) (S' := [.int (v + 1), .ref 1000000, .ref 92, .int r]) rfl ?_
  refine wl_ld (pc' := 1008) (hA 1 (by decide)) rfl ?_
  refine wl_call (S' := [.int r]) q hd rfl (Nat.le_of_ble_eq_true rfl) rfl rfl (Nat.le_of_ble_eq_true rfl) (Nat.le_of_ble_eq_true rfl) (fun u f2 q2 => ?_)
  obtain ⟨rfl, q2⟩ := q2
  show wl L xs (d + 1) 1011 (LV v) [.int r, .int r] f2
  exact wl_br (S1 := []) (S2 := []) (p1 := 1544) (p2 := 1014) (c := r = r) rfl (fun _ => K f2 q2) (fun z => absurd rfl z)
theorem law_20 (hd : 40 ≤ d) (cp : CpZ f) (hA : IxL L v) (K : ∀ f1 : HI, CpZ f1 → wl L xs (d + 1) 1544 (LV v) [] f1) : wl L xs (d + 1) 1016 (LV v) [] f := by
  refine wl_run5 (pc' := 1021) (Lo' := LV v) (S' := [.int (v + 1), .ref 1000000, .ref 0]) rfl ?_
  refine wl_ld (pc' := 1022) (hA 1 (by decide)) rfl ?_
  refine wl_run4 (pc' := 1026) (Lo' := LV v) (S' := [.int (v + 2), .ref 1000000, .int (aL xs v 1), .ref 0]) rfl ?_
  refine wl_ld (pc' := 1027) (hA 2 (by decide)) rfl ?_
  refine wl_call (S' := []) (st_more cp ((aL xs v 1)) ((aL xs v 2))) hd rfl (Nat.zero_le _) rfl rfl (Nat.le_of_ble_eq_true rfl) (Nat.le_of_ble_eq_true rfl) (fun u f1 q => ?_)
  obtain ⟨r, rfl, q⟩ := q
  show wl L xs (d + 1) 1030 (LV v) [.int r] f1
  refine wl_run5 (pc' := 1035) (Lo' := LV v) (S' := [.int (v + 1), .ref 1000000, .ref 92, .int r]) rfl ?_
  refine wl_ld (pc' := 1036) (hA 1 (by decide)) rfl ?_
  refine wl_run4 (pc' := 1040) (Lo' := LV v) (S' := [.int (v + 2), .ref 1000000, .int (aL xs v 1), .ref 92, .int r]) rfl ?_
  refine wl_ld (pc' := 1041) (hA 2 (by decide)) rfl ?_
  refine wl_call (S' := [.int r]) q hd rfl (Nat.le_of_ble_eq_true rfl) rfl rfl (Nat.le_of_ble_eq_true rfl) (Nat.le_of_ble_eq_true rfl) (fun u f2 q2 => ?_)
  obtain ⟨rfl, q2⟩ := q2
  show wl L xs (d + 1) 1044 (LV v) [.int r, .int r] f2
  exact wl_br (S1 := []) (S2 := []) (p1 := 1544) (p2 := 1047) (c := r = r) rfl (fun _ => K f2 q2) (fun z => absurd rfl z)
theorem law_21 (hd : 40 ≤ d) (cp : CpZ f) (hA : IxL L v) (K : ∀ f1 : HI, CpZ f1 → wl L xs (d + 1) 1544 (LV v) [] f1) : wl L xs (d + 1) 1049 (LV v) [] f := by
  refine wl_run5 (pc' := 1054) (Lo' := LV v) (S' := [.int (v + 1), .ref 1000000, .ref 0]) rfl ?_
  refine wl_ld (pc' := 1055) (hA 1 (by decide)) rfl ?_
  refine wl_call (S' := []) (st_alike cp ((aL xs v 1))) hd rfl (Nat.zero_le _) rfl rfl (Nat.le_of_ble_eq_true rfl) (Nat.le_of_ble_eq_true rfl) (fun u f1 q => ?_)
  obtain ⟨r, rfl, q⟩ := q
  show wl L xs (d + 1) 1058 (LV v) [.int r] f1
  refine wl_run5 (pc' := 1063) (Lo' := LV v) (S' := [.int (v + 1), .ref 1000000, .ref 92, .int r]) rfl ?_
  refine wl_ld (pc' := 1064) (hA 1 (by decide)) rfl ?_
  refine wl_call (S' := [.int r]) q hd rfl (Nat.le_of_ble_eq_true rfl) rfl rfl (Nat.le_of_ble_eq_true rfl) (Nat.le_of_ble_eq_true rfl) (fun u f2 q2 => ?_)
  obtain ⟨rfl, q2⟩ := q2
  show wl L xs (d + 1) 1067 (LV v) [.int r, .int r] f2
  exact wl_br (S1 := []) (S2 := []) (p1 := 1544) (p2 := 1070) (c := r = r) rfl (fun _ => K f2 q2) (fun z => absurd rfl z)
theorem law_22 (hd : 40 ≤ d) (cp : CpZ f) (hA : IxL L v) (K : ∀ f1 : HI, CpZ f1 → wl L xs (d + 1) 1544 (LV v) [] f1) : wl L xs (d + 1) 1072 (LV v) [] f := by
  refine wl_run5 (pc' := 1077) (Lo' := LV v) (S' := [.int (v + 1), .ref 1000000, .ref 0]) rfl ?_
  refine wl_ld (pc' := 1078) (hA 1 (by decide)) rfl ?_
  refine wl_call (S' := []) (st_forged cp ((aL xs v 1))) hd rfl (Nat.zero_le _) rfl rfl (Nat.le_of_ble_eq_true rfl) (Nat.le_of_ble_eq_true rfl) (fun u f1 q => ?_)
  obtain ⟨r, rfl, q⟩ := q
  show wl L xs (d + 1) 1081 (LV v) [.int r] f1
  refine wl_run5 (pc' := 1086) (Lo' := LV v) (S' := [.int (v + 1), .ref 1000000, .ref 92, .int r]) rfl ?_
  refine wl_ld (pc' := 1087) (hA 1 (by decide)) rfl ?_
  refine wl_call (S' := [.int r]) q hd rfl (Nat.le_of_ble_eq_true rfl) rfl rfl (Nat.le_of_ble_eq_true rfl) (Nat.le_of_ble_eq_true rfl) (fun u f2 q2 => ?_)
  obtain ⟨rfl, q2⟩ := q2
  show wl L xs (d + 1) 1090 (LV v) [.int r, .int r] f2
  exact wl_br (S1 := []) (S2 := []) (p1 := 1544) (p2 := 1093) (c := r = r) rfl (fun _ => K f2 q2) (fun z => absurd rfl z)
theorem law_23 (hd : 40 ≤ d) (cp : CpZ f) (hA : IxL L v) (K : ∀ f1 : HI, CpZ f1 → wl L xs (d + 1) 1544 (LV v) [] f1) : wl L xs (d + 1) 1095 (LV v) [] f := by
  refine wl_run5 (pc' := 1100) (Lo' := LV v) (S' := [.int (v + 1), .ref 1000000, .ref 0]) rfl ?_
  refine wl_ld (pc' := 1101) (hA 1 (by decide)) rfl ?_
  refine wl_call (S' := []) (st_doors cp ((aL xs v 1))) hd rfl (Nat.zero_le _) rfl rfl (Nat.le_of_ble_eq_true rfl) (Nat.le_of_ble_eq_true rfl) (fun u f1 q => ?_)
  obtain ⟨r, rfl, q⟩ := q
  show wl L xs (d + 1) 1104 (LV v) [.int r] f1
  refine wl_run5 (pc' := 1109) (Lo' := LV v) (S' := [.int (v + 1), .ref 1000000, .ref 92, .int r]) rfl ?_
  refine wl_ld (pc' := 1110) (hA 1 (by decide)) rfl ?_
  refine wl_call (S' := [.int r]) q hd rfl (Nat.le_of_ble_eq_true rfl) rfl rfl (Nat.le_of_ble_eq_true rfl) (Nat.le_of_ble_eq_true rfl) (fun u f2 q2 => ?_)
  obtain ⟨rfl, q2⟩ := q2
  show wl L xs (d + 1) 1113 (LV v) [.int r, .int r] f2
  exact wl_br (S1 := []) (S2 := []) (p1 := 1544) (p2 := 1116) (c := r = r) rfl (fun _ => K f2 q2) (fun z => absurd rfl z)
theorem law_24 (hd : 40 ≤ d) (cp : CpZ f) (hA : IxL L v) (K : ∀ f1 : HI, CpZ f1 → wl L xs (d + 1) 1544 (LV v) [] f1) : wl L xs (d + 1) 1118 (LV v) [] f := by
  refine wl_run5 (pc' := 1123) (Lo' := LV v) (S' := [.int (v + 1), .ref 1000000, .ref 0]) rfl ?_
  refine wl_ld (pc' := 1124) (hA 1 (by decide)) rfl ?_
  refine wl_run4 (pc' := 1128) (Lo' := LV v) (S' := [.int (v + 2), .ref 1000000, .int (aL xs v 1), .ref 0]) rfl ?_
  refine wl_ld (pc' := 1129) (hA 2 (by decide)) rfl ?_
  refine wl_run4 (pc' := 1133) (Lo' := LV v) (S' := [.int (v + 3), .ref 1000000, .int (aL xs v 2), .int (aL xs v 1), .ref 0]) rfl ?_
  refine wl_ld (pc' := 1134) (hA 3 (by decide)) rfl ?_
  refine wl_call (S' := []) (st_path cp ((aL xs v 1)) ((aL xs v 2)) ((aL xs v 3))) hd rfl (Nat.zero_le _) rfl rfl (Nat.le_of_ble_eq_true rfl) (Nat.le_of_ble_eq_true rfl) (fun u f1 q => ?_)
  obtain ⟨r, rfl, q⟩ := q
  show wl L xs (d + 1) 1137 (LV v) [.int r] f1
  refine wl_run5 (pc' := 1142) (Lo' := LV v) (S' := [.int (v + 1), .ref 1000000, .ref 92, .int r]) rfl ?_
  refine wl_ld (pc' := 1143) (hA 1 (by decide)) rfl ?_
  refine wl_run4 (pc' := 1147) (Lo' := LV v) (S' := [.int (v + 2), .ref 1000000, .int (aL xs v 1), .ref 92, .int r]) rfl ?_
  refine wl_ld (pc' := 1148) (hA 2 (by decide)) rfl ?_
  refine wl_run4 (pc' := 1152) (Lo' := LV v) (S' := [.int (v + 3), .ref 1000000, .int (aL xs v 2), .int (aL xs v 1), .ref 92, .int r]) rfl ?_
  refine wl_ld (pc' := 1153) (hA 3 (by decide)) rfl ?_
  refine wl_call (S' := [.int r]) q hd rfl (Nat.le_of_ble_eq_true rfl) rfl rfl (Nat.le_of_ble_eq_true rfl) (Nat.le_of_ble_eq_true rfl) (fun u f2 q2 => ?_)
  obtain ⟨rfl, q2⟩ := q2
  show wl L xs (d + 1) 1156 (LV v) [.int r, .int r] f2
  exact wl_br (S1 := []) (S2 := []) (p1 := 1544) (p2 := 1159) (c := r = r) rfl (fun _ => K f2 q2) (fun z => absurd rfl z)
theorem law_25 (hd : 40 ≤ d) (cp : CpZ f) (hA : IxL L v) (K : ∀ f1 : HI, CpZ f1 → wl L xs (d + 1) 1544 (LV v) [] f1) : wl L xs (d + 1) 1161 (LV v) [] f := by
  refine wl_run5 (pc' := 1166) (Lo' := LV v) (S' := [.int (v + 1), .ref 1000000, .ref 0]) rfl ?_
  refine wl_ld (pc' := 1167) (hA 1 (by decide)) rfl ?_
  refine wl_run4 (pc' := 1171) (Lo' := LV v) (S' := [.int (v + 2), .ref 1000000, .int (aL xs v 1), .ref 0]) rfl ?_
  refine wl_ld (pc' := 1172) (hA 2 (by decide)) rfl ?_
  refine wl_call (S' := []) (st_boxes cp ((aL xs v 1)) ((aL xs v 2))) hd rfl (Nat.zero_le _) rfl rfl (Nat.le_of_ble_eq_true rfl) (Nat.le_of_ble_eq_true rfl) (fun u f1 q => ?_)
  obtain ⟨r, rfl, q⟩ := q
  show wl L xs (d + 1) 1175 (LV v) [.int r] f1
  refine wl_run5 (pc' := 1180) (Lo' := LV v) (S' := [.int (v + 1), .ref 1000000, .ref 92, .int r]) rfl ?_
  refine wl_ld (pc' := 1181) (hA 1 (by decide)) rfl ?_
  refine wl_run4 (pc' := 1185) (Lo' := LV v) (S' := [.int (v + 2), .ref 1000000, .int (aL xs v 1), .ref 92, .int r]) rfl ?_
  refine wl_ld (pc' := 1186) (hA 2 (by decide)) rfl ?_
  refine wl_call (S' := [.int r]) q hd rfl (Nat.le_of_ble_eq_true rfl) rfl rfl (Nat.le_of_ble_eq_true rfl) (Nat.le_of_ble_eq_true rfl) (fun u f2 q2 => ?_)
  obtain ⟨rfl, q2⟩ := q2
  show wl L xs (d + 1) 1189 (LV v) [.int r, .int r] f2
  exact wl_br (S1 := []) (S2 := []) (p1 := 1544) (p2 := 1192) (c := r = r) rfl (fun _ => K f2 q2) (fun z => absurd rfl z)
theorem law_26 (hd : 40 ≤ d) (cp : CpZ f) (hA : IxL L v) (K : ∀ f1 : HI, CpZ f1 → wl L xs (d + 1) 1544 (LV v) [] f1) : wl L xs (d + 1) 1194 (LV v) [] f := by
  refine wl_run5 (pc' := 1199) (Lo' := LV v) (S' := [.int (v + 1), .ref 1000000, .ref 0]) rfl ?_
  refine wl_ld (pc' := 1200) (hA 1 (by decide)) rfl ?_
  refine wl_call (S' := []) (st_walk cp ((aL xs v 1))) hd rfl (Nat.zero_le _) rfl rfl (Nat.le_of_ble_eq_true rfl) (Nat.le_of_ble_eq_true rfl) (fun u f1 q => ?_)
  obtain ⟨r, rfl, q⟩ := q
  show wl L xs (d + 1) 1203 (LV v) [.int r] f1
  refine wl_run5 (pc' := 1208) (Lo' := LV v) (S' := [.int (v + 1), .ref 1000000, .ref 92, .int r]) rfl ?_
  refine wl_ld (pc' := 1209) (hA 1 (by decide)) rfl ?_
  refine wl_call (S' := [.int r]) q hd rfl (Nat.le_of_ble_eq_true rfl) rfl rfl (Nat.le_of_ble_eq_true rfl) (Nat.le_of_ble_eq_true rfl) (fun u f2 q2 => ?_)
  obtain ⟨rfl, q2⟩ := q2
  show wl L xs (d + 1) 1212 (LV v) [.int r, .int r] f2
  exact wl_br (S1 := []) (S2 := []) (p1 := 1544) (p2 := 1215) (c := r = r) rfl (fun _ => K f2 q2) (fun z => absurd rfl z)
theorem law_27 (hd : 40 ≤ d) (cp : CpZ f) (hA : IxL L v) (K : ∀ f1 : HI, CpZ f1 → wl L xs (d + 1) 1544 (LV v) [] f1) : wl L xs (d + 1) 1217 (LV v) [] f := by
  refine wl_run5 (pc' := 1222) (Lo' := LV v) (S' := [.int (v + 1), .ref 1000000, .ref 0]) rfl ?_
  refine wl_ld (pc' := 1223) (hA 1 (by decide)) rfl ?_
  refine wl_run4 (pc' := 1227) (Lo' := LV v) (S' := [.int (v + 2), .ref 1000000, .int (aL xs v 1), .ref 0]) rfl ?_
  refine wl_ld (pc' := 1228) (hA 2 (by decide)) rfl ?_
  refine wl_run4 (pc' := 1232) (Lo' := LV v) (S' := [.int (v + 3), .ref 1000000, .int (aL xs v 2), .int (aL xs v 1), .ref 0]) rfl ?_
  refine wl_ld (pc' := 1233) (hA 3 (by decide)) rfl ?_
  refine wl_run4 (pc' := 1237) (Lo' := LV v) (S' := [.int (v + 4), .ref 1000000, .int (aL xs v 3), .int (aL xs v 2), .int (aL xs v 1), .ref 0]) rfl ?_
  refine wl_ld (pc' := 1238) (hA 4 (by decide)) rfl ?_
  refine wl_run4 (pc' := 1242) (Lo' := LV v) (S' := [.int (v + 5), .ref 1000000, .int (aL xs v 4), .int (aL xs v 3), .int (aL xs v 2), .int (aL xs v 1), .ref 0]) rfl ?_
  refine wl_ld (pc' := 1243) (hA 5 (by decide)) rfl ?_
  refine wl_call (S' := []) (st_want cp ((aL xs v 1)) ((aL xs v 2)) ((aL xs v 3)) ((aL xs v 4)) ((aL xs v 5))) hd rfl (Nat.zero_le _) rfl rfl (Nat.le_of_ble_eq_true rfl) (Nat.le_of_ble_eq_true rfl) (fun u f1 q => ?_)
  obtain ⟨r, rfl, q⟩ := q
  show wl L xs (d + 1) 1246 (LV v) [.int r] f1
  refine wl_run5 (pc' := 1251) (Lo' := LV v) (S' := [.int (v + 1), .ref 1000000, .ref 92, .int r]) rfl ?_
  refine wl_ld (pc' := 1252) (hA 1 (by decide)) rfl ?_
  refine wl_run4 (pc' := 1256) (Lo' := LV v) (S' := [.int (v + 2), .ref 1000000, .int (aL xs v 1), .ref 92, .int r]) rfl ?_
  refine wl_ld (pc' := 1257) (hA 2 (by decide)) rfl ?_
  refine wl_run4 (pc' := 1261) (Lo' := LV v) (S' := [.int (v + 3), .ref 1000000, .int (aL xs v 2), .int (aL xs v 1), .ref 92, .int r]) rfl ?_
  refine wl_ld (pc' := 1262) (hA 3 (by decide)) rfl ?_
  refine wl_run4 (pc' := 1266) (Lo' := LV v) (S' := [.int (v + 4), .ref 1000000, .int (aL xs v 3), .int (aL xs v 2), .int (aL xs v 1), .ref 92, .int r]) rfl ?_
  refine wl_ld (pc' := 1267) (hA 4 (by decide)) rfl ?_
  refine wl_run4 (pc' := 1271) (Lo' := LV v) (S' := [.int (v + 5), .ref 1000000, .int (aL xs v 4), .int (aL xs v 3), .int (aL xs v 2), .int (aL xs v 1), .ref 92, .int r]) rfl ?_
  refine wl_ld (pc' := 1272) (hA 5 (by decide)) rfl ?_
  refine wl_call (S' := [.int r]) q hd rfl (Nat.le_of_ble_eq_true rfl) rfl rfl (Nat.le_of_ble_eq_true rfl) (Nat.le_of_ble_eq_true rfl) (fun u f2 q2 => ?_)
  obtain ⟨rfl, q2⟩ := q2
  show wl L xs (d + 1) 1275 (LV v) [.int r, .int r] f2
  exact wl_br (S1 := []) (S2 := []) (p1 := 1544) (p2 := 1278) (c := r = r) rfl (fun _ => K f2 q2) (fun z => absurd rfl z)
theorem law_28 (hd : 40 ≤ d) (cp : CpZ f) (hA : IxL L v) (K : ∀ f1 : HI, CpZ f1 → wl L xs (d + 1) 1544 (LV v) [] f1) : wl L xs (d + 1) 1280 (LV v) [] f := by
  refine wl_run5 (pc' := 1285) (Lo' := LV v) (S' := [.int (v + 1), .ref 1000000, .ref 0]) rfl ?_
  refine wl_ld (pc' := 1286) (hA 1 (by decide)) rfl ?_
  refine wl_run4 (pc' := 1290) (Lo' := LV v) (S' := [.int (v + 2), .ref 1000000, .int (aL xs v 1), .ref 0]) rfl ?_
  refine wl_ld (pc' := 1291) (hA 2 (by decide)) rfl ?_
  refine wl_call (S' := []) (st_year cp ((aL xs v 1)) ((aL xs v 2))) hd rfl (Nat.zero_le _) rfl rfl (Nat.le_of_ble_eq_true rfl) (Nat.le_of_ble_eq_true rfl) (fun u f1 q => ?_)
  obtain ⟨r, rfl, q⟩ := q
  show wl L xs (d + 1) 1294 (LV v) [.int r] f1
  refine wl_run5 (pc' := 1299) (Lo' := LV v) (S' := [.int (v + 1), .ref 1000000, .ref 92, .int r]) rfl ?_
  refine wl_ld (pc' := 1300) (hA 1 (by decide)) rfl ?_
  refine wl_run4 (pc' := 1304) (Lo' := LV v) (S' := [.int (v + 2), .ref 1000000, .int (aL xs v 1), .ref 92, .int r]) rfl ?_
  refine wl_ld (pc' := 1305) (hA 2 (by decide)) rfl ?_
  refine wl_call (S' := [.int r]) q hd rfl (Nat.le_of_ble_eq_true rfl) rfl rfl (Nat.le_of_ble_eq_true rfl) (Nat.le_of_ble_eq_true rfl) (fun u f2 q2 => ?_)
  obtain ⟨rfl, q2⟩ := q2
  show wl L xs (d + 1) 1308 (LV v) [.int r, .int r] f2
  exact wl_br (S1 := []) (S2 := []) (p1 := 1544) (p2 := 1311) (c := r = r) rfl (fun _ => K f2 q2) (fun z => absurd rfl z)
theorem law_29 (hd : 40 ≤ d) (cp : CpZ f) (hA : IxL L v) (K : ∀ f1 : HI, CpZ f1 → wl L xs (d + 1) 1544 (LV v) [] f1) : wl L xs (d + 1) 1313 (LV v) [] f := by
  refine wl_run1 (pc' := 1314) (Lo' := LV v) (S' := [.ref 0]) rfl ?_
  refine wl_call (S' := []) (st_even cp ) hd rfl (Nat.zero_le _) rfl rfl (Nat.le_of_ble_eq_true rfl) (Nat.le_of_ble_eq_true rfl) (fun u f1 q => ?_)
  obtain ⟨r, rfl, q⟩ := q
  show wl L xs (d + 1) 1317 (LV v) [.int r] f1
  refine wl_run1 (pc' := 1318) (Lo' := LV v) (S' := [.ref 92, .int r]) rfl ?_
  refine wl_call (S' := [.int r]) q hd rfl (Nat.le_of_ble_eq_true rfl) rfl rfl (Nat.le_of_ble_eq_true rfl) (Nat.le_of_ble_eq_true rfl) (fun u f2 q2 => ?_)
  obtain ⟨rfl, q2⟩ := q2
  show wl L xs (d + 1) 1321 (LV v) [.int r, .int r] f2
  exact wl_br (S1 := []) (S2 := []) (p1 := 1544) (p2 := 1324) (c := r = r) rfl (fun _ => K f2 q2) (fun z => absurd rfl z)
theorem law_30 (hd : 40 ≤ d) (cp : CpZ f) (hA : IxL L v) (K : ∀ f1 : HI, CpZ f1 → wl L xs (d + 1) 1544 (LV v) [] f1) : wl L xs (d + 1) 1326 (LV v) [] f := by
  refine wl_run5 (pc' := 1331) (Lo' := LV v) (S' := [.int (v + 1), .ref 1000000, .ref 0]) rfl ?_
  refine wl_ld (pc' := 1332) (hA 1 (by decide)) rfl ?_
  refine wl_run4 (pc' := 1336) (Lo' := LV v) (S' := [.int (v + 2), .ref 1000000, .int (aL xs v 1), .ref 0]) rfl ?_
  refine wl_ld (pc' := 1337) (hA 2 (by decide)) rfl ?_
  refine wl_call (S' := []) (st_under cp ((aL xs v 1)) ((aL xs v 2))) hd rfl (Nat.zero_le _) rfl rfl (Nat.le_of_ble_eq_true rfl) (Nat.le_of_ble_eq_true rfl) (fun u f1 q => ?_)
  obtain ⟨r, rfl, q⟩ := q
  show wl L xs (d + 1) 1340 (LV v) [.int r] f1
  refine wl_run5 (pc' := 1345) (Lo' := LV v) (S' := [.int (v + 1), .ref 1000000, .ref 92, .int r]) rfl ?_
  refine wl_ld (pc' := 1346) (hA 1 (by decide)) rfl ?_
  refine wl_run4 (pc' := 1350) (Lo' := LV v) (S' := [.int (v + 2), .ref 1000000, .int (aL xs v 1), .ref 92, .int r]) rfl ?_
  refine wl_ld (pc' := 1351) (hA 2 (by decide)) rfl ?_
  refine wl_call (S' := [.int r]) q hd rfl (Nat.le_of_ble_eq_true rfl) rfl rfl (Nat.le_of_ble_eq_true rfl) (Nat.le_of_ble_eq_true rfl) (fun u f2 q2 => ?_)
  obtain ⟨rfl, q2⟩ := q2
  show wl L xs (d + 1) 1354 (LV v) [.int r, .int r] f2
  exact wl_br (S1 := []) (S2 := []) (p1 := 1544) (p2 := 1357) (c := r = r) rfl (fun _ => K f2 q2) (fun z => absurd rfl z)
theorem law_31 (hd : 40 ≤ d) (cp : CpZ f) (hA : IxL L v) (K : ∀ f1 : HI, CpZ f1 → wl L xs (d + 1) 1544 (LV v) [] f1) : wl L xs (d + 1) 1359 (LV v) [] f := by
  refine wl_run5 (pc' := 1364) (Lo' := LV v) (S' := [.int (v + 1), .ref 1000000, .ref 0]) rfl ?_
  refine wl_ld (pc' := 1365) (hA 1 (by decide)) rfl ?_
  refine wl_call (S' := []) (st_price cp ((aL xs v 1))) hd rfl (Nat.zero_le _) rfl rfl (Nat.le_of_ble_eq_true rfl) (Nat.le_of_ble_eq_true rfl) (fun u f1 q => ?_)
  obtain ⟨r, rfl, q⟩ := q
  show wl L xs (d + 1) 1368 (LV v) [.int r] f1
  refine wl_run5 (pc' := 1373) (Lo' := LV v) (S' := [.int (v + 1), .ref 1000000, .ref 92, .int r]) rfl ?_
  refine wl_ld (pc' := 1374) (hA 1 (by decide)) rfl ?_
  refine wl_call (S' := [.int r]) q hd rfl (Nat.le_of_ble_eq_true rfl) rfl rfl (Nat.le_of_ble_eq_true rfl) (Nat.le_of_ble_eq_true rfl) (fun u f2 q2 => ?_)
  obtain ⟨rfl, q2⟩ := q2
  show wl L xs (d + 1) 1377 (LV v) [.int r, .int r] f2
  exact wl_br (S1 := []) (S2 := []) (p1 := 1544) (p2 := 1380) (c := r = r) rfl (fun _ => K f2 q2) (fun z => absurd rfl z)
theorem law_32 (hd : 40 ≤ d) (cp : CpZ f) (hA : IxL L v) (K : ∀ f1 : HI, CpZ f1 → wl L xs (d + 1) 1544 (LV v) [] f1) : wl L xs (d + 1) 1382 (LV v) [] f := by
  refine wl_run5 (pc' := 1387) (Lo' := LV v) (S' := [.int (v + 1), .ref 1000000, .ref 0]) rfl ?_
  refine wl_ld (pc' := 1388) (hA 1 (by decide)) rfl ?_
  refine wl_run4 (pc' := 1392) (Lo' := LV v) (S' := [.int (v + 2), .ref 1000000, .int (aL xs v 1), .ref 0]) rfl ?_
  refine wl_ld (pc' := 1393) (hA 2 (by decide)) rfl ?_
  refine wl_call (S' := []) (st_plan cp ((aL xs v 1)) ((aL xs v 2))) hd rfl (Nat.zero_le _) rfl rfl (Nat.le_of_ble_eq_true rfl) (Nat.le_of_ble_eq_true rfl) (fun u f1 q => ?_)
  obtain ⟨r, rfl, q⟩ := q
  show wl L xs (d + 1) 1396 (LV v) [.int r] f1
  refine wl_run5 (pc' := 1401) (Lo' := LV v) (S' := [.int (v + 1), .ref 1000000, .ref 92, .int r]) rfl ?_
  refine wl_ld (pc' := 1402) (hA 1 (by decide)) rfl ?_
  refine wl_run4 (pc' := 1406) (Lo' := LV v) (S' := [.int (v + 2), .ref 1000000, .int (aL xs v 1), .ref 92, .int r]) rfl ?_
  refine wl_ld (pc' := 1407) (hA 2 (by decide)) rfl ?_
  refine wl_call (S' := [.int r]) q hd rfl (Nat.le_of_ble_eq_true rfl) rfl rfl (Nat.le_of_ble_eq_true rfl) (Nat.le_of_ble_eq_true rfl) (fun u f2 q2 => ?_)
  obtain ⟨rfl, q2⟩ := q2
  show wl L xs (d + 1) 1410 (LV v) [.int r, .int r] f2
  exact wl_br (S1 := []) (S2 := []) (p1 := 1544) (p2 := 1413) (c := r = r) rfl (fun _ => K f2 q2) (fun z => absurd rfl z)
theorem law_33 (hd : 40 ≤ d) (cp : CpZ f) (hA : IxL L v) (K : ∀ f1 : HI, CpZ f1 → wl L xs (d + 1) 1544 (LV v) [] f1) : wl L xs (d + 1) 1415 (LV v) [] f := by
  refine wl_run5 (pc' := 1420) (Lo' := LV v) (S' := [.int (v + 1), .ref 1000000, .ref 0]) rfl ?_
  refine wl_ld (pc' := 1421) (hA 1 (by decide)) rfl ?_
  refine wl_run4 (pc' := 1425) (Lo' := LV v) (S' := [.int (v + 2), .ref 1000000, .int (aL xs v 1), .ref 0]) rfl ?_
  refine wl_ld (pc' := 1426) (hA 2 (by decide)) rfl ?_
  refine wl_call (S' := []) (st_planned cp ((aL xs v 1)) ((aL xs v 2))) hd rfl (Nat.zero_le _) rfl rfl (Nat.le_of_ble_eq_true rfl) (Nat.le_of_ble_eq_true rfl) (fun u f1 q => ?_)
  obtain ⟨r, rfl, q⟩ := q
  show wl L xs (d + 1) 1429 (LV v) [.int r] f1
  refine wl_run5 (pc' := 1434) (Lo' := LV v) (S' := [.int (v + 1), .ref 1000000, .ref 92, .int r]) rfl ?_
  refine wl_ld (pc' := 1435) (hA 1 (by decide)) rfl ?_
  refine wl_run4 (pc' := 1439) (Lo' := LV v) (S' := [.int (v + 2), .ref 1000000, .int (aL xs v 1), .ref 92, .int r]) rfl ?_
  refine wl_ld (pc' := 1440) (hA 2 (by decide)) rfl ?_
  refine wl_call (S' := [.int r]) q hd rfl (Nat.le_of_ble_eq_true rfl) rfl rfl (Nat.le_of_ble_eq_true rfl) (Nat.le_of_ble_eq_true rfl) (fun u f2 q2 => ?_)
  obtain ⟨rfl, q2⟩ := q2
  show wl L xs (d + 1) 1443 (LV v) [.int r, .int r] f2
  exact wl_br (S1 := []) (S2 := []) (p1 := 1544) (p2 := 1446) (c := r = r) rfl (fun _ => K f2 q2) (fun z => absurd rfl z)
theorem law_34 (hd : 40 ≤ d) (cp : CpZ f) (hA : IxL L v) (K : ∀ f1 : HI, CpZ f1 → wl L xs (d + 1) 1544 (LV v) [] f1) : wl L xs (d + 1) 1448 (LV v) [] f := by
  refine wl_run5 (pc' := 1453) (Lo' := LV v) (S' := [.int (v + 1), .ref 1000000, .ref 0]) rfl ?_
  refine wl_ld (pc' := 1454) (hA 1 (by decide)) rfl ?_
  refine wl_run7 (pc' := 1462) (Lo' := LV v) (S' := [.int (v + 2), .ref 1000000, .long (((aL xs v 1)).toInt64 <<< ((32 : Int32).toInt64 &&& 63)), .ref 0]) rfl ?_
  refine wl_ld (pc' := 1463) (hA 2 (by decide)) rfl ?_
  refine wl_run8 (pc' := 1473) (Lo' := LV v) (S' := [.int (v + 3), .ref 1000000, .long ((((aL xs v 1)).toInt64 <<< ((32 : Int32).toInt64 &&& 63)) ||| (((aL xs v 2)).toInt64 &&& 4294967295)), .ref 0]) rfl ?_
  refine wl_ld (pc' := 1474) (hA 3 (by decide)) rfl ?_
  refine wl_run4 (pc' := 1478) (Lo' := LV v) (S' := [.int (v + 4), .ref 1000000, .int (aL xs v 3), .long ((((aL xs v 1)).toInt64 <<< ((32 : Int32).toInt64 &&& 63)) ||| (((aL xs v 2)).toInt64 &&& 4294967295)), .ref 0]) rfl ?_
  refine wl_ld (pc' := 1479) (hA 4 (by decide)) rfl ?_
  refine wl_call (S' := []) (st_judge cp (((((aL xs v 1)).toInt64 <<< ((32 : Int32).toInt64 &&& 63)) ||| (((aL xs v 2)).toInt64 &&& 4294967295))) ((aL xs v 3)) ((aL xs v 4))) hd rfl (Nat.zero_le _) rfl rfl (Nat.le_of_ble_eq_true rfl) (Nat.le_of_ble_eq_true rfl) (fun u f1 q => ?_)
  obtain ⟨r, rfl, q⟩ := q
  show wl L xs (d + 1) 1482 (LV v) [.int r] f1
  refine wl_run5 (pc' := 1487) (Lo' := LV v) (S' := [.int (v + 1), .ref 1000000, .ref 92, .int r]) rfl ?_
  refine wl_ld (pc' := 1488) (hA 1 (by decide)) rfl ?_
  refine wl_run7 (pc' := 1496) (Lo' := LV v) (S' := [.int (v + 2), .ref 1000000, .long (((aL xs v 1)).toInt64 <<< ((32 : Int32).toInt64 &&& 63)), .ref 92, .int r]) rfl ?_
  refine wl_ld (pc' := 1497) (hA 2 (by decide)) rfl ?_
  refine wl_run8 (pc' := 1507) (Lo' := LV v) (S' := [.int (v + 3), .ref 1000000, .long ((((aL xs v 1)).toInt64 <<< ((32 : Int32).toInt64 &&& 63)) ||| (((aL xs v 2)).toInt64 &&& 4294967295)), .ref 92, .int r]) rfl ?_
  refine wl_ld (pc' := 1508) (hA 3 (by decide)) rfl ?_
  refine wl_run4 (pc' := 1512) (Lo' := LV v) (S' := [.int (v + 4), .ref 1000000, .int (aL xs v 3), .long ((((aL xs v 1)).toInt64 <<< ((32 : Int32).toInt64 &&& 63)) ||| (((aL xs v 2)).toInt64 &&& 4294967295)), .ref 92, .int r]) rfl ?_
  refine wl_ld (pc' := 1513) (hA 4 (by decide)) rfl ?_
  refine wl_call (S' := [.int r]) q hd rfl (Nat.le_of_ble_eq_true rfl) rfl rfl (Nat.le_of_ble_eq_true rfl) (Nat.le_of_ble_eq_true rfl) (fun u f2 q2 => ?_)
  obtain ⟨rfl, q2⟩ := q2
  show wl L xs (d + 1) 1516 (LV v) [.int r, .int r] f2
  exact wl_br (S1 := []) (S2 := []) (p1 := 1544) (p2 := 1519) (c := r = r) rfl (fun _ => K f2 q2) (fun z => absurd rfl z)
theorem law_35 (hd : 40 ≤ d) (cp : CpZ f) (hA : IxL L v) (K : ∀ f1 : HI, CpZ f1 → wl L xs (d + 1) 1544 (LV v) [] f1) : wl L xs (d + 1) 1521 (LV v) [] f := by
  refine wl_run5 (pc' := 1526) (Lo' := LV v) (S' := [.int (v + 1), .ref 1000000, .ref 0]) rfl ?_
  refine wl_ld (pc' := 1527) (hA 1 (by decide)) rfl ?_
  refine wl_call (S' := []) (st_count cp ((aL xs v 1))) hd rfl (Nat.zero_le _) rfl rfl (Nat.le_of_ble_eq_true rfl) (Nat.le_of_ble_eq_true rfl) (fun u f1 q => ?_)
  obtain ⟨r, rfl, q⟩ := q
  show wl L xs (d + 1) 1530 (LV v) [.int r] f1
  refine wl_run5 (pc' := 1535) (Lo' := LV v) (S' := [.int (v + 1), .ref 1000000, .ref 92, .int r]) rfl ?_
  refine wl_ld (pc' := 1536) (hA 1 (by decide)) rfl ?_
  refine wl_call (S' := [.int r]) q hd rfl (Nat.le_of_ble_eq_true rfl) rfl rfl (Nat.le_of_ble_eq_true rfl) (Nat.le_of_ble_eq_true rfl) (fun u f2 q2 => ?_)
  obtain ⟨rfl, q2⟩ := q2
  show wl L xs (d + 1) 1539 (LV v) [.int r, .int r] f2
  exact wl_br (S1 := []) (S2 := []) (p1 := 1544) (p2 := 1542) (c := r = r) rfl (fun _ => K f2 q2) (fun z => absurd rfl z)
end P98
