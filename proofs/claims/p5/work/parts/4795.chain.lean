/-! ===== tk: differences by chains (to stand in 30.t01 behind tk_C) ===== -/
def tk_ch (cs : List tk_Q) : Nat → Nat → Nat → Int → Bool
  | 0, _, _, _ => false
  | n + 1, i, j, B => cs.any (fun q => Nat.beq q.1 i && ((Nat.beq q.2.1 j && decide (q.2.2 ≤ B)) || tk_ch cs n q.2.1 j (B - q.2.2)))
theorem tk_ch_ok {cs : List tk_Q} {vals : List Int} (hC : tk_C cs vals) : ∀ (n i j : Nat) (B x y : Int), vals[i]? = some x → vals[j]? = some y → tk_ch cs n i j B = true → x ≤ y + B := by
  intro n
  induction n with
  | zero => intro i j B x y _ _ h; cases h
  | succ n ih =>
    intro i j B x y hx hy h
    unfold tk_ch at h
    obtain ⟨q, hq, h⟩ := List.any_eq_true.mp h
    rw [Bool.and_eq_true, Bool.or_eq_true, Bool.and_eq_true, decide_eq_true_eq] at h
    obtain ⟨h1, h2⟩ := h
    have e1 := Nat.eq_of_beq_eq_true h1
    obtain ⟨x', y', g1, g2, g3⟩ := hC q hq
    rw [e1, hx] at g1
    cases g1
    rcases h2 with ⟨h2, h3⟩ | h2
    · rw [Nat.eq_of_beq_eq_true h2, hy] at g2
      cases g2
      omega
    · have := ih q.2.1 j (B - q.2.2) y' y g2 hy h2
      omega
