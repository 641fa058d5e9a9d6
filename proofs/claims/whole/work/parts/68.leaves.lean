/-! the hour: letters leave (class) -/
def lvO (W : Nat → Nat → Nat) (h : Nat) (g : Nat → Int32) : Option Nat → Nat → Int32
  | none => g
  | some e => if lvN (W 3 (e / 2)) (W 4 (e / 2)) h = h then (upd (upd (upd (upd g 17 (nI e)) 12 (nI (h + (W 2 (e / 2))))) 11 (nI (eQ W e))) 8 1) else g
theorem lvO_n {W : Nat → Nat → Nat} {h : Nat} {g : Nat → Int32} {b : Option Nat} (hno : ∀ e, b = some e → ¬ lvN (W 3 (e / 2)) (W 4 (e / 2)) h = h) : lvO W h g b = g := by
  cases b with
  | none => rfl
  | some e => exact if_neg (hno e rfl)
theorem sp_leaveA {f : HI} {W : Nat → Nat → Nat} {w l t o h : Nat} (hl : l < 24) (hL : LaC f W w) (ht : t < 10) (ho : o < 10) (hh : h ≤ 30000) (h43 : f 43 7 = nI h) (h9 : f (47 + l) 9 = nI t) (h10 : f (47 + l) 10 = nI o) : Sp 6 36 [.ref 43, .ref (47 + l)] f (fun v f' => ∃ g2, v = none ∧ f' = up1 (up1 f (47 + l) (lvO W h (f (47 + l)) (bsE W w t o h))) 10 g2) := by
  cases hb : bsE W w t o h with
  | none =>
    have z := sp_leave0 hl hL ht ho hh h43 h9 h10 (fun e q => by rw [hb] at q; cases q)
    rw [show lvO W h (f (47 + l)) none = f (47 + l) from rfl, up1_id]
    exact z
  | some e =>
    by_cases c : lvN (W 3 (e / 2)) (W 4 (e / 2)) h = h
    · rw [show lvO W h (f (47 + l)) (some e) = _ from if_pos c]
      exact sp_leave1 hl hL ht ho hh h43 h9 h10 hb c
    · rw [show lvO W h (f (47 + l)) (some e) = _ from if_neg c, up1_id]
      exact sp_leave0 hl hL ht ho hh h43 h9 h10 (fun e2 q => by rw [hb] at q; cases q; exact c)
