/-! ===== hx: fewer locals ===== -/
section HXW
variable {l l' : fx_L} {stk : List Value} {mem : fx_M}
theorem hx_p_aa (pc : Nat) : ∀ k z, hx_aa pc k stk mem = some z → z.2.1 = k ∧ ∀ k', hx_aa pc k' stk mem = some (z.1, k', z.2.2.1, z.2.2.2) := by
  intro k z h
  unfold hx_aa at h ⊢
  split at h
  · split at h
    · obtain ⟨hc, rfl⟩ := fx_if_inv h
      exact ⟨rfl, fun k' => by dsimp only; rw [hc]; rfl⟩
    · exact fx_nos h
  · exact fx_nos h
theorem hx_p_al (pc : Nat) : ∀ k z, hx_al pc k stk mem = some z → z.2.1 = k ∧ ∀ k', hx_al pc k' stk mem = some (z.1, k', z.2.2.1, z.2.2.2) := by
  intro k z h
  unfold hx_al at h ⊢
  split at h
  · split at h
    · cases h
      exact ⟨rfl, fun k' => rfl⟩
    · exact fx_nos h
  · exact fx_nos h
theorem hx_p_cp (pc : Nat) : ∀ k z, hx_cp pc k stk mem = some z → z.2.1 = k ∧ ∀ k', hx_cp pc k' stk mem = some (z.1, k', z.2.2.1, z.2.2.2) := by
  intro k z h
  unfold hx_cp at h ⊢
  split at h
  · split at h
    · obtain ⟨hc, rfl⟩ := fx_if_inv h
      exact ⟨rfl, fun k' => by dsimp only; rw [hc]; rfl⟩
    · obtain ⟨hc, rfl⟩ := fx_if_inv h
      exact ⟨rfl, fun k' => by dsimp only; rw [hc]; rfl⟩
    · exact fx_nos h
  · exact fx_nos h
theorem hx_w_step (h : fx_le l l') (call : fx_Ca) (fty : rk_F) (mci : List Nat) (M : rk_M2) (pc : Nat) (ins : Instr) : fx_sw4 (hx_step call fty mci M pc ins l stk mem) (hx_step call fty mci M pc ins l' stk mem) := by
  have hm := fx_w_mem (stk := stk) (mem := mem) h fty M pc ins
  cases ins
  case invokevirtual idx =>
    show fx_sw4 (match rk_lk M.2.2.1 idx with
      | some q => cond (Nat.beq q.1 5 || Nat.beq q.1 6) (hx_cv mci call (pc + 3) q.2.1 q.2.2 l stk mem) none
      | none => none) (match rk_lk M.2.2.1 idx with
      | some q => cond (Nat.beq q.1 5 || Nat.beq q.1 6) (hx_cv mci call (pc + 3) q.2.1 q.2.2 l' stk mem) none
      | none => none)
    cases rk_lk M.2.2.1 idx with
    | none => exact fun _ hz => nomatch hz
    | some q =>
      dsimp only
      cases (Nat.beq q.1 5 || Nat.beq q.1 6) with
      | false => exact fun _ hz => nomatch hz
      | true =>
        show fx_sw4 (hx_cv mci call (pc + 3) q.2.1 q.2.2 l stk mem) (hx_cv mci call (pc + 3) q.2.1 q.2.2 l' stk mem)
        unfold hx_cv
        split
        · next as j r hp =>
          split
          · next o hj =>
            cases (Nat.ble (fx_sum r) 8 && decide (mci[q.2.1]? = some o.1)) with
            | false => exact fun _ hz => nomatch hz
            | true => exact fx_w_aft h _ _ _
          · exact fun _ hz => nomatch hz
        · exact fun _ hz => nomatch hz
  case invokestatic idx =>
    show fx_sw4 (match rk_lk M.2.2.1 idx with
      | some q => cond (Nat.beq q.1 7 || Nat.beq q.1 8) (fx_cs call (pc + 3) q.2.1 q.2.2 l stk mem) (cond (Nat.beq q.1 12) (hx_cp (pc + 3) l stk mem) (fx_mem fty M pc (.invokestatic idx) l stk mem))
      | none => none) (match rk_lk M.2.2.1 idx with
      | some q => cond (Nat.beq q.1 7 || Nat.beq q.1 8) (fx_cs call (pc + 3) q.2.1 q.2.2 l' stk mem) (cond (Nat.beq q.1 12) (hx_cp (pc + 3) l' stk mem) (fx_mem fty M pc (.invokestatic idx) l' stk mem))
      | none => none)
    cases rk_lk M.2.2.1 idx with
    | none => exact fun _ hz => nomatch hz
    | some q =>
      dsimp only
      cases (Nat.beq q.1 7 || Nat.beq q.1 8) with
      | false =>
        dsimp only [cond]
        cases Nat.beq q.1 12 with
        | false => exact fx_w_mem h fty M pc (.invokestatic idx)
        | true => exact fx_w_of (f := hx_cp (pc + 3)) h (hx_p_cp _)
      | true =>
        show fx_sw4 (fx_cs call (pc + 3) q.2.1 q.2.2 l stk mem) (fx_cs call (pc + 3) q.2.1 q.2.2 l' stk mem)
        unfold fx_cs
        split
        · next as r hp =>
          cases Nat.ble (fx_sum r) 8 with
          | false => exact fun _ hz => nomatch hz
          | true => exact fx_w_aft h _ _ _
        · exact fun _ hz => nomatch hz
  case aaload => exact fx_w_of (f := hx_aa (pc + 1)) h (hx_p_aa _)
  case arraylength => exact fx_w_of (f := hx_al (pc + 1)) h (hx_p_al _)
  all_goals exact hm
end HXW
theorem hx_w_run (call : fx_Ca) (fty : rk_F) (mci : List Nat) (M : rk_M2) : ∀ (n pc : Nat) (l l' : fx_L) (stk : List Value) (mem : fx_M) (R : Option Value × fx_M), fx_le l l' → hx_run call fty mci M n pc l stk mem = some R → hx_run call fty mci M n pc l' stk mem = some R := by
  intro n
  induction n with
  | zero => intro pc l l' stk mem R _ h; exact fx_nos h
  | succ n ih =>
    intro pc l l' stk mem R hle h
    unfold hx_run at h ⊢
    split at h
    · exact fx_nos h
    · next q hat =>
      cases hlen : rk_len q.2.1 q.2.2 with
      | false => rw [hlen] at h; exact fx_nos h
      | true =>
        rw [hlen] at h
        dsimp only [cond] at h ⊢
        split at h
        · exact h
        · exact fx_nos h
        · split at h
          · next z hz =>
            obtain ⟨k', e1, e2⟩ := hx_w_step hle call fty mci M pc q.2.1 z hz
            rw [e1]
            exact ih _ _ _ _ _ _ e2 h
          · exact fx_nos h
