/-! a method's instructions, sixteen to a row -/
abbrev SndP (mid pc : Nat) (op : IOp) : Prop := Snd yT wT mcT msT (bT mid) (oT mid) (lT mid) (iT mid) (eT mid) pc op
def SndC (mid : Nat) : Nat → List IOp → Prop
  | _, [] => True
  | p, o :: b => SndP mid p o ∧ SndC mid (p + 1) b
def SndB (mid : Nat) : Nat → List (List IOp) → Prop
  | _, [] => True
  | p, b :: B => SndC mid p b ∧ SndB mid (p + 16) B
theorem sndC_at {mid : Nat} : ∀ {b : List IOp} {p : Nat}, SndC mid p b → ∀ i, SndP mid (p + i) (b.getD i oBad) := by
  intro b
  induction b with
  | nil => intro p _ i; exact snd_bad
  | cons o b ih =>
    intro p h i
    cases i with
    | zero => exact h.1
    | succ i =>
      have h2 := ih h.2 i
      rw [show p + 1 + i = p + (i + 1) by omega] at h2
      exact h2
theorem sndB_at {mid : Nat} : ∀ {B : List (List IOp)} {p : Nat}, SndB mid p B → ∀ i j, SndP mid (p + 16 * i + j) ((B.getD i []).getD j oBad) := by
  intro B
  induction B with
  | nil => intro p _ i j; exact snd_bad
  | cons b B ih =>
    intro p h i j
    cases i with
    | zero => exact sndC_at h.1 j
    | succ i =>
      have h2 := ih h.2 i j
      rw [show p + 16 + 16 * i + j = p + 16 * (i + 1) + j by omega] at h2
      exact h2
theorem snd_of {mid : Nat} {B : List (List IOp)} (h : SndB mid 0 B) (hB : cdT mid = B) : ∀ pc, SndP mid pc (fetch mid pc) := by
  intro pc
  have h2 := sndB_at h (pc / 16) (pc % 16)
  rw [show 0 + 16 * (pc / 16) + pc % 16 = pc by omega] at h2
  unfold fetch
  rw [hB]
  exact h2
