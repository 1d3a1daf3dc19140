/-! ===== the class's lake(): exact ===== -/
/-- a reading that goes well ends behind P -/
def sp_Q (P : Nat) (r : sp_R) : Prop := ∀ z, r = .inr z → P < z.2.2
section SPG
variable {T : Nat → Nat} {n P p : Nat}
theorem sp_Q_l {z : Int32 × Nat} : sp_Q P (.inl z) := fun _ h => nomatch h
theorem sp_Q_if {c : Prop} [Decidable c] {x y : sp_R} (h1 : sp_Q P x) (h2 : sp_Q P y) : sp_Q P (if c then x else y) := by
  split
  · exact h1
  · exact h2
theorem sp_Q_word {w : Nat} {c : Nat → sp_R} (h : sp_Q P (c (sp_n T n p))) : sp_Q P (sp_word T n w p c) := sp_Q_if h sp_Q_l
theorem sp_Q_num {lo hi : Nat} {c : Nat → sp_R} (h : sp_Q P (c (sp_n T n p))) : sp_Q P (sp_num T n lo hi p c) := sp_Q_if (sp_Q_if h sp_Q_l) sp_Q_l
theorem sp_Q_new {A : sp_A} {c : Nat → sp_R} (h : sp_Q P (c (sp_n T n p))) : sp_Q P (sp_new T n A p c) := sp_Q_if (sp_Q_if sp_Q_l h) sp_Q_l
theorem sp_Q_cell {A : sp_A} {c : Nat → sp_R} (h : ∀ i, sp_Q P (c i)) : sp_Q P (sp_cell T n A p c) := sp_Q_if (sp_Q_if (h _) sp_Q_l) sp_Q_l
theorem sp_Q_fin {A : sp_A} {st : Nat} (h : P < p) : sp_Q P (sp_fin T n A st p) := sp_Q_if (fun z hz => by
  cases hz
  have := sp_n_p (T := T) (n := n) (p := p)
  show P < sp_n T n p
  omega) sp_Q_l
theorem sp_Q_part {A : sp_A} {st : Nat} (hp : p ≤ n) : sp_Q p (sp_part T n A st p) := by
  unfold sp_part
  by_cases hk : sp_k T n p = 1
  · rw [if_pos hk]
    have h1 : p < sp_n T n p := Nat.lt_of_le_of_lt sp_s_ge (sp_n_lt hp (Or.inl hk))
    have h2 : ∀ q, p < q → p < sp_n T n q := fun q hq => Nat.lt_of_lt_of_le hq sp_n_p
    have hC : ∀ b, sp_Q p (sp_pCell T n A st p b) := fun b => sp_Q_if sp_Q_l (sp_Q_new (sp_Q_if (sp_Q_fin (h2 _ h1)) (sp_Q_word (sp_Q_num (sp_Q_fin (h2 _ (h2 _ (h2 _ h1))))))))
    have hP : ∀ b, sp_Q p (sp_pPair T n A st p b) := fun b => sp_Q_cell (fun i => sp_Q_if sp_Q_l (sp_Q_cell (fun j => sp_Q_if sp_Q_l (sp_Q_fin (h2 _ (h2 _ h1))))))
    have hS : ∀ k lo, sp_Q p (sp_pSet T n A st p k lo) := fun k lo => sp_Q_if sp_Q_l (sp_Q_num (sp_Q_fin (h2 _ h1)))
    have hW : sp_Q p (sp_pWalk T n A st p) := sp_Q_if sp_Q_l (sp_Q_new (sp_Q_word (sp_Q_num (sp_Q_word (sp_Q_cell (fun i => sp_Q_if (sp_Q_fin (h2 _ (h2 _ (h2 _ (h2 _ (h2 _ h1)))))) sp_Q_l))))))
    unfold sp_pk
    split
    · exact hC _
    · exact hC _
    · exact hP _
    · exact hP _
    · exact hW
    · exact hS _ _
    · exact hS _ _
    · exact hS _ _
    · exact sp_Q_l
  · rw [if_neg hk]
    exact sp_Q_l
end SPG
section CLA
variable {g : Nat → Nat → Int32} {l : Nat → Nat → Int64} {a : Nat → Nat → Int32} {b : Nat → Nat → Int64} {R : fx_M} {T : Nat → Nat} {n p : Nat} {A : sp_A} {s : Nat}
theorem ctx_fd {g1 a1 : Nat → Nat → Int32} {b1 l1 : Nat → Nat → Int64} (h : ctx a b T n) (hf : cfd g a b l g1 a1 b1 l1) : ctx a1 b1 T n := ⟨h.1, by rw [(hf.2.1 10 (by decide)).1]; exact h.2.1, by rw [(hf.2.1 11 (by decide)).2]; exact h.2.2⟩
theorem ha_ploop {g0 a0 : Nat → Nat → Int32} {b0 l0 : Nat → Nat → Int64} : ∀ (r k : Nat), k + r = 900 → ∀ (A : sp_A) (s p : Nat) (g a : Nat → Nat → Int32) (l b : Nat → Nat → Int64), ctx a b T n → cK g l a b T n A s p → k ≤ p → cfd g0 a0 b0 l0 g a b l → he_R 6 gk_m64 11 [(2, .int (nI k)), (0, .ref 12), (1, .ref 41)] [] (cm g l a b R) (fun R1 => ∃ (g' : Nat → Nat → Int32) (l' : Nat → Nat → Int64) (a' : Nat → Nat → Int32) (b' : Nat → Nat → Int64), cfd g0 a0 b0 l0 g' a' b' l' ∧ cRes g' l' a' b' T n (sp_all T n (r + 1) A s p) ∧ R1 = (none, cm g' l' a' b' R)) := by
  intro r
  induction r with
  | zero =>
    intro k hk A s p g a l b hg hK hkp hf
    obtain rfl : k = 900 := by omega
    have hp := hK.1.1
    have h0 : sp_k T n p = 0 := by
      have h9 := hg.1
      have hs := sp_s_ge (T := T) (n := n) (p := p)
      exact (sp_t0 (by omega)).1
    refine he_s 3 (pc' := cond (fx_cb .ge (nI 900) 900) 49 18) (lc' := [(2, .int (nI 900)), (0, .ref 12), (1, .ref 41)]) (stk' := []) (mem' := cm g l a b R) (by intro _ _ _; eq_refl) ?_
    rw [show (fx_cb .ge (nI 900) 900) = true from by decide]
    dsimp only [cond]
    refine he_ret ⟨_, _, _, _, hf, ?_, rfl⟩ (by rfl) (by rfl) (by rfl)
    show cRes g l a b T n (if sp_k T n p = 0 then .inr (A, s, p) else _)
    rw [if_pos h0]
    exact hK
  | succ r ih =>
    intro k hk A s p g a l b hg hK hkp hf
    have hk4 := sp_k4 (T := T) (n := n) (p := p)
    refine he_s 3 (pc' := cond (fx_cb .ge (nI k) 900) 49 18) (lc' := [(2, .int (nI k)), (0, .ref 12), (1, .ref 41)]) (stk' := []) (mem' := cm g l a b R) (by intro _ _ _; eq_refl) ?_
    rw [show (fx_cb .ge (nI k) 900) = false from cb_geF (a := k) (b := 900) (by omega) (by omega) (by omega)]
    dsimp only [cond]
    refine he_s 3 (pc' := 25) (lc' := [(2, .int (nI k)), (0, .ref 12), (1, .ref 41)]) (stk' := [.int (g 9 10)]) (mem' := cm g l a b R) (by intro _ _ _; eq_refl) ?_
    rw [hK.1.2.2.1]
    refine he_s 4 (pc' := 35) (lc' := [(2, .int (nI k)), (0, .ref 12), (1, .ref 41)]) (stk' := [.int (g 9 6)]) (mem' := cm g l a b R) (by intro _ _ _; eq_refl) ?_
    rw [hK.1.2.1.2.2.2.1]
    refine he_s 1 (pc' := cond (fx_cb .eq (nI (sp_k T n p)) 0) 49 38) (lc' := [(2, .int (nI k)), (0, .ref 12), (1, .ref 41)]) (stk' := []) (mem' := cm g l a b R) (by intro _ _ _; eq_refl) ?_
    by_cases h0 : sp_k T n p = 0
    · rw [show (fx_cb .eq (nI (sp_k T n p)) 0) = true from cb_eqT (a := sp_k T n p) (b := 0) (by omega) (by omega) h0]
      dsimp only [cond]
      refine he_ret ⟨_, _, _, _, hf, ?_, rfl⟩ (by rfl) (by rfl) (by rfl)
      show cRes g l a b T n (if sp_k T n p = 0 then .inr (A, s, p) else _)
      rw [if_pos h0]
      exact hK
    · rw [show (fx_cb .eq (nI (sp_k T n p)) 0) = false from cb_eqF (a := sp_k T n p) (b := 0) (by omega) (by omega) h0]
      dsimp only [cond]
      have hsp : sp_all T n (r + 1 + 1) A s p = (match sp_part T n A s p with
        | .inl z => .inl z
        | .inr z => sp_all T n (r + 1) z.1 z.2.1 z.2.2) := if_neg h0
      have hQ := sp_Q_part (T := T) (A := A) (st := s) hK.1.1
      obtain ⟨v1, mem1, ⟨g1, l1, a1, b1, k1, k2, hR1⟩, k3⟩ := ha_part (R := R) hg hK.2.1 hK.2.2 hK.1
      cases hR1
      rw [hsp]
      refine he_s 2 (pc' := 40) (lc' := [(2, .int (nI k)), (0, .ref 12), (1, .ref 41)]) (stk' := [.ref 41, .ref 12]) (mem' := cm g l a b R) (by intro _ _ _; eq_refl) ?_
      refine he_ivV k3 (by omega) (by rfl) (by rfl) (by rfl) (by rfl) (by rfl) (by rfl) ?_
      refine he_s 2 (pc' := 11) (lc' := [(2, .int (nI k + 1)), (0, .ref 12), (1, .ref 41)]) (stk' := []) (mem' := cm g1 l1 a1 b1 R) (by intro _ _ _; eq_refl) ?_
      rw [show nI k + 1 = nI (k + 1) from nI_add k 1]
      have hf1 := cfd_tr hf k1
      cases hz : sp_part T n A s p with
      | inr z =>
        rw [hz] at k2
        dsimp only
        have := hQ z hz
        exact ih (k + 1) (by omega) z.1 z.2.1 z.2.2 g1 a1 l1 b1 (ctx_fd hg k1) k2 (by omega) hf1
      | inl z =>
        rw [hz] at k2
        have k2 : cq g1 l1 T n z.1 z.2 := k2
        dsimp only
        refine he_s 3 (pc' := cond (fx_cb .ge (nI (k + 1)) 900) 49 18) (lc' := [(2, .int (nI (k + 1))), (0, .ref 12), (1, .ref 41)]) (stk' := []) (mem' := cm g1 l1 a1 b1 R) (by intro _ _ _; eq_refl) ?_
        by_cases h9 : 900 ≤ k + 1
        · rw [show (fx_cb .ge (nI (k + 1)) 900) = true from cb_geT (a := k + 1) (b := 900) (by omega) (by omega) h9]
          dsimp only [cond]
          exact he_ret ⟨_, _, _, _, hf1, k2, rfl⟩ (by rfl) (by rfl) (by rfl)
        · rw [show (fx_cb .ge (nI (k + 1)) 900) = false from cb_geF (a := k + 1) (b := 900) (by omega) (by omega) h9]
          dsimp only [cond]
          refine he_s 3 (pc' := 25) (lc' := [(2, .int (nI (k + 1))), (0, .ref 12), (1, .ref 41)]) (stk' := [.int (g1 9 10)]) (mem' := cm g1 l1 a1 b1 R) (by intro _ _ _; eq_refl) ?_
          rw [k2.2.2.1]
          refine he_s 1 (pc' := cond (fx_cb .ne z.1 0) 49 28) (lc' := [(2, .int (nI (k + 1))), (0, .ref 12), (1, .ref 41)]) (stk' := []) (mem' := cm g1 l1 a1 b1 R) (by intro _ _ _; eq_refl) ?_
          rw [cb_nz_ne k2.1]
          dsimp only [cond]
          exact he_ret ⟨_, _, _, _, hf1, k2, rfl⟩ (by rfl) (by rfl) (by rfl)
theorem ha_parse (hg : ctx a b T n) (h : co g l T n 0) : ∃ (g' : Nat → Nat → Int32) (l' : Nat → Nat → Int64) (a' : Nat → Nat → Int32) (b' : Nat → Nat → Int64), hr_T 7 64 [.ref 12, .ref 41] (cm g l a b R) none (cm g' l' a' b' R) ∧ cfd g a b l g' a' b' l' ∧ cRes g' l' a' b' T n (sp_lake T n) := by
  suffices h : ∃ (v : Option Value) (mem' : fx_M), (fun R1 => ∃ (g' : Nat → Nat → Int32) (l' : Nat → Nat → Int64) (a' : Nat → Nat → Int32) (b' : Nat → Nat → Int64), cfd g a b l g' a' b' l' ∧ cRes g' l' a' b' T n (sp_all T n (900 + 1) sp_A0 0 0) ∧ R1 = (none, cm g' l' a' b' R)) (v, mem') ∧ hr_T 7 64 [.ref 12, .ref 41] (cm g l a b R) v mem' by
    obtain ⟨v, mem', ⟨g', l', a', b', h1, h2, hR1⟩, h3⟩ := h
    cases hR1
    exact ⟨g', l', a', b', h3, h1, h2⟩
  refine he_meth (f := 64) (as := [.ref 12, .ref 41]) (F := fun R1 => ∃ (g' : Nat → Nat → Int32) (l' : Nat → Nat → Int64) (a' : Nat → Nat → Int32) (b' : Nat → Nat → Int64), cfd g a b l g' a' b' l' ∧ cRes g' l' a' b' T n (sp_all T n (900 + 1) sp_A0 0 0) ∧ R1 = (none, cm g' l' a' b' R)) (M := gk_m64) (by rfl) (by rfl) ?_
  obtain ⟨g1, a1, b1, k1, k2, k3⟩ := ha_lcl (g := g) (l := l) (a := a) (b := b) (R := R)
  refine he_s 1 (pc' := 1) (lc' := [(0, .ref 12), (1, .ref 41)]) (stk' := [.ref 41]) (mem' := cm g l a b R) (by intro _ _ _; eq_refl) ?_
  refine he_ivV k1 (by omega) (by rfl) (by rfl) (by rfl) (by rfl) (by rfl) (by rfl) ?_
  refine he_s 5 (pc' := 11) (lc' := [(2, .int 0), (0, .ref 12), (1, .ref 41)]) (stk' := []) (mem' := cm (fm_u g1 12 1 0) l a1 b1 R) (by intro _ _ _; eq_refl) ?_
  have hf : cfd g a b l (fm_u g1 12 1 0) a1 b1 l := cfd_tr (cfd_d k3) (cfd_u (Or.inl rfl))
  exact ha_ploop 900 0 (by decide) sp_A0 0 0 _ _ _ _ (ctx_fd hg hf) ⟨co_u (co_d h k3) (by decide), cd_12 k2 (Or.inl (by decide)) (Or.inl (by decide)), by decide, fm_ue⟩ (Nat.le_refl _) hf
theorem ha_open {N : Nat} (hg : ctx a b T N) : ∃ (g' : Nat → Nat → Int32) (l' : Nat → Nat → Int64), hr_T 4 102 [.ref 9, .int (nI N)] (cm g l a b R) none (cm g' l' a b R) ∧ co g' l' T N 0 ∧ g' 9 2 = 0 ∧ (∀ j, j ≠ 9 → g' j = g j ∧ l' j = l j) := by
  obtain ⟨g', l', k1, k2, k3⟩ := ha_scan0 (g := fm_u (fm_u (fm_u (fm_u (fm_u g 9 3 (nI N)) 9 2 0) 9 5 0) 9 10 0) 9 11 (-1)) (l := l) (R := R) (p := 0) hg.1 hg.2.1 hg.2.2 (Nat.zero_le _) rfl rfl
  refine ⟨g', l', hr_meth (by rfl) (by rfl) ?_, ⟨Nat.zero_le _, k2, k3.2.1, k3.2.2⟩, k3.1.2.1 2 (by decide), fun j hj => ⟨?_, k3.1.2.2 j hj⟩⟩
  · refine hr_s 16 (pc' := 26) (lc' := [(0, .ref 9), (1, .int (nI N))]) (stk' := [.ref 9]) (mem' := cm (fm_u (fm_u (fm_u (fm_u (fm_u g 9 3 (nI N)) 9 2 0) 9 5 0) 9 10 0) 9 11 (-1)) l a b R) (by intro _ _ _; eq_refl) ?_
    refine hr_ivV k1 (by omega) (by rfl) (by rfl) (by rfl) (by rfl) (by rfl) (by rfl) ?_
    exact hr_ret (by rfl) (by rfl) (by rfl)
  · rw [k3.1.1 j hj, fm_un hj, fm_un hj, fm_un hj, fm_un hj, fm_un hj]
/-- the bytes on the tape -/
def sp_T (f : Nat → Int32) (n : Nat) : Nat → Nat := fun k => if k < n then (f k &&& 255).toBitVec.toNat else 0
theorem sp_T_eq {f f' : Nat → Int32} {n : Nat} (h : ∀ k, k < n → f k = f' k) : sp_T f n = sp_T f' n := funext (fun k => by
  unfold sp_T
  by_cases e : k < n
  · rw [if_pos e, if_pos e, h k e]
  · rw [if_neg e, if_neg e])
theorem sp_x_b0 : ∀ m : Nat, m < 256 → (Int32.ofInt ((m : Int) - 128) &&& 255).toBitVec.toNat ≤ 255 ∧ (if (Int32.ofInt ((m : Int) - 128) &&& 255).toBitVec.toNat < 128 then Int32.ofInt ((m : Int) - 128) = nI (Int32.ofInt ((m : Int) - 128) &&& 255).toBitVec.toNat else Int32.ofInt ((m : Int) - 128) < 0) := by decide +kernel
theorem sp_x_b {x : Int32} (h1 : -128 ≤ x.toInt) (h2 : x.toInt ≤ 127) : sp_x x (x &&& 255).toBitVec.toNat := by
  have e : x = Int32.ofInt (((x.toInt + 128).toNat : Int) - 128) := by
    rw [show (((x.toInt + 128).toNat : Int) - 128) = x.toInt by omega, Int32.ofInt_toInt]
  obtain ⟨k1, k2⟩ := sp_x_b0 (x.toInt + 128).toNat (by omega)
  rw [← e] at k1 k2
  split at k2
  · next h => exact Or.inl ⟨h, k2⟩
  · next h => exact Or.inr ⟨by omega, k1, k2⟩
theorem ctx_of {N : Nat} (hN : N ≤ 900) (hb : ∀ k, k < 900 → -128 ≤ (a 10 k).toInt ∧ (a 10 k).toInt ≤ 127) (hr : cr (b 11)) : ctx a b (sp_T (a 10) N) N := ⟨hN, ⟨hN, fun k hk => by
  show sp_x (a 10 k) (if k < N then _ else _)
  rw [if_pos hk]
  exact sp_x_b (hb k (by omega)).1 (hb k (by omega)).2⟩, hr⟩
/-- what lake() of the class does -/
def cLk (g : Nat → Nat → Int32) (l : Nat → Nat → Int64) (a : Nat → Nat → Int32) (b : Nat → Nat → Int64) (x v : Int32) (g' : Nat → Nat → Int32) (l' : Nat → Nat → Int64) (a' : Nat → Nat → Int32) (b' : Nat → Nat → Int64) : Prop :=
  (¬ (0 ≤ x.toInt ∧ x.toInt ≤ (g 9 2).toInt) ∧ v = -1 ∧ g' = fm_u g 0 0 1 ∧ l' = l ∧ a' = a ∧ b' = b) ∨ ∃ N, x = nI N ∧ (N : Int) ≤ (g 9 2).toInt ∧ g' 9 2 = 0 ∧ (match sp_lake (sp_T (a 10) N) N with
  | .inl z => v = -1 ∧ z.1 ≠ 0 ∧ g' 0 0 = 9 ∧ g' 9 10 = z.1 ∧ g' 9 11 = nI z.2 ∧ (∀ j, j ≠ 0 → j ≠ 9 → j ≠ 12 → ¬ (41 ≤ j ∧ j ≤ 66) → g' j = g j ∧ a' j = a j ∧ b' j = b j)
  | .inr z => v = nI z.1.1.1.length ∧ g' 0 0 = 0 ∧ g' 9 10 = 0 ∧ g' 9 11 = -1 ∧ cd_L 15 z.1 g' a' b' ∧ g' 34 7 = 0 ∧ (∀ j, j ≠ 0 → j ≠ 9 → j ≠ 12 → ¬ (15 ≤ j ∧ j ≤ 66) → g' j = g j ∧ a' j = a j ∧ b' j = b j))
theorem ha_answer {x : Int32} : hr_T 1 186 [.ref 0, .int x] (cm g l a b R) (some (.int x)) (cm (fm_u g 0 0 0) l a b R) := by
  refine hr_meth (by rfl) (by rfl) ?_
  refine hr_s 4 (pc' := 6) (lc' := [(0, .ref 0), (1, .int x)]) (stk' := [.int x]) (mem' := cm (fm_u g 0 0 0) l a b R) (by intro _ _ _; eq_refl) ?_
  exact hr_ret (by rfl) (by rfl) (by rfl)
theorem ha_tclr : hr_T 1 116 [.ref 34] (cm g l a b R) none (cm (fm_u (fm_u g 34 6 0) 34 7 0) l a b R) := by
  refine hr_meth (by rfl) (by rfl) ?_
  refine hr_s 6 (pc' := 10) (lc' := [(0, .ref 34)]) (stk' := []) (mem' := cm (fm_u (fm_u g 34 6 0) 34 7 0) l a b R) (by intro _ _ _; eq_refl) ?_
  exact hr_ret (by rfl) (by rfl) (by rfl)
theorem ha_lake {x : Int32} (hf : 0 ≤ (g 9 2).toInt ∧ (g 9 2).toInt ≤ 900) (hb : ∀ k, k < 900 → -128 ≤ (a 10 k).toInt ∧ (a 10 k).toInt ≤ 127) (hr : cr (b 11)) : ∃ (v : Int32) (g' : Nat → Nat → Int32) (l' : Nat → Nat → Int64) (a' : Nat → Nat → Int32) (b' : Nat → Nat → Int64), hr_T 8 135 [.ref 0, .int x] (cm g l a b R) (some (.int v)) (cm g' l' a' b' R) ∧ cLk g l a b x v g' l' a' b' := by
  suffices h : ∃ (v : Option Value) (mem' : fx_M), (fun R1 => ∃ (v : Int32) (g' : Nat → Nat → Int32) (l' : Nat → Nat → Int64) (a' : Nat → Nat → Int32) (b' : Nat → Nat → Int64), cLk g l a b x v g' l' a' b' ∧ R1 = (some (.int v), cm g' l' a' b' R)) (v, mem') ∧ hr_T 8 135 [.ref 0, .int x] (cm g l a b R) v mem' by
    obtain ⟨v, mem', ⟨v', g', l', a', b', h1, hR1⟩, h3⟩ := h
    cases hR1
    exact ⟨v', g', l', a', b', h3, h1⟩
  refine he_meth (f := 135) (as := [.ref 0, .int x]) (F := fun R1 => ∃ (v : Int32) (g' : Nat → Nat → Int32) (l' : Nat → Nat → Int64) (a' : Nat → Nat → Int32) (b' : Nat → Nat → Int64), cLk g l a b x v g' l' a' b' ∧ R1 = (some (.int v), cm g' l' a' b' R)) (M := gk_m135) (by rfl) (by rfl) ?_
  have bad : ∀ (hno : ¬ (0 ≤ x.toInt ∧ x.toInt ≤ (g 9 2).toInt)), he_R 7 gk_m135 15 [(0, .ref 0), (1, .int x)] [] (cm g l a b R) (fun R1 => ∃ (v : Int32) (g' : Nat → Nat → Int32) (l' : Nat → Nat → Int64) (a' : Nat → Nat → Int32) (b' : Nat → Nat → Int64), cLk g l a b x v g' l' a' b' ∧ R1 = (some (.int v), cm g' l' a' b' R)) := fun hno => by
    refine he_s 2 (pc' := 17) (lc' := [(0, .ref 0), (1, .int x)]) (stk' := [.int 1, .ref 0]) (mem' := cm g l a b R) (by intro _ _ _; eq_refl) ?_
    refine he_ivV ha_refuse (by omega) (by rfl) (by rfl) (by rfl) (by rfl) (by rfl) (by rfl) ?_
    exact he_ret ⟨_, _, _, _, _, Or.inl ⟨hno, rfl, rfl, rfl, rfl, rfl⟩, rfl⟩ (by rfl) (by rfl) (by rfl)
  refine he_s 2 (pc' := cond (fx_cb .lt x 0) 15 4) (lc' := [(0, .ref 0), (1, .int x)]) (stk' := []) (mem' := cm g l a b R) (by intro _ _ _; eq_refl) ?_
  cases h1 : fx_cb .lt x 0
  · have q1 : (0 : Int) ≤ x.toInt := tc_ltF h1
    dsimp only [cond]
    refine he_s 4 (pc' := 12) (lc' := [(0, .ref 0), (1, .int x)]) (stk' := [.int (g 9 2), .int x]) (mem' := cm g l a b R) (by intro _ _ _; eq_refl) ?_
    refine he_s 1 (pc' := cond (fx_cb .le x (g 9 2)) 21 15) (lc' := [(0, .ref 0), (1, .int x)]) (stk' := []) (mem' := cm g l a b R) (by intro _ _ _; eq_refl) ?_
    cases h2 : fx_cb .le x (g 9 2)
    · have q2 := tc_leF h2
      exact bad (fun z => by omega)
    · have q2 := tc_le h2
      obtain ⟨N, hN, rfl⟩ := nI_bd (x := x) (n := 900) q1 (by omega)
      rw [nI_i32 (by omega)] at q2
      have hg : ctx a b (sp_T (a 10) N) N := ctx_of hN hb hr
      obtain ⟨g1, l1, k1, k2, k3, k4⟩ := ha_open (g := g) (l := l) (R := R) hg
      obtain ⟨g2, l2, a2, b2, m1, m2, m3⟩ := ha_parse (R := R) hg k2
      have e92 : g2 9 2 = 0 := (m2.2.2 2 (by decide)).trans k3
      have fr : ∀ j, j ≠ 9 → j ≠ 12 → ¬ (41 ≤ j ∧ j ≤ 66) → g2 j = g j ∧ a2 j = a j ∧ b2 j = b j := fun j q1 q2 q3 => ⟨(m2.1 j q1 q2 q3).1.trans (k4 j q1).1, (m2.2.1 j q3).1, (m2.2.1 j q3).2⟩
      dsimp only [cond]
      refine he_s 3 (pc' := 26) (lc' := [(0, .ref 0), (1, .int (nI N))]) (stk' := [.int (nI N), .ref 9]) (mem' := cm g l a b R) (by intro _ _ _; eq_refl) ?_
      refine he_ivV k1 (by omega) (by rfl) (by rfl) (by rfl) (by rfl) (by rfl) (by rfl) ?_
      refine he_s 4 (pc' := 37) (lc' := [(0, .ref 0), (1, .int (nI N))]) (stk' := [.ref 41, .ref 12]) (mem' := cm g1 l1 a b R) (by intro _ _ _; eq_refl) ?_
      refine he_ivV m1 (by omega) (by rfl) (by rfl) (by rfl) (by rfl) (by rfl) (by rfl) ?_
      refine he_s 3 (pc' := 47) (lc' := [(0, .ref 0), (1, .int (nI N))]) (stk' := [.int (g2 9 10)]) (mem' := cm g2 l2 a2 b2 R) (by intro _ _ _; eq_refl) ?_
      cases hz : sp_lake (sp_T (a 10) N) N with
      | inl z =>
        rw [hz] at m3
        have m3 : cq g2 l2 (sp_T (a 10) N) N z.1 z.2 := m3
        rw [m3.2.2.1]
        refine he_s 1 (pc' := cond (fx_cb .eq z.1 0) 57 50) (lc' := [(0, .ref 0), (1, .int (nI N))]) (stk' := []) (mem' := cm g2 l2 a2 b2 R) (by intro _ _ _; eq_refl) ?_
        rw [cb_nz_eq m3.1]
        dsimp only [cond]
        refine he_s 2 (pc' := 53) (lc' := [(0, .ref 0), (1, .int (nI N))]) (stk' := [.int 9, .ref 0]) (mem' := cm g2 l2 a2 b2 R) (by intro _ _ _; eq_refl) ?_
        refine he_ivV ha_refuse (by omega) (by rfl) (by rfl) (by rfl) (by rfl) (by rfl) (by rfl) ?_
        refine he_ret ⟨_, _, _, _, _, Or.inr ⟨N, rfl, q2, (by exact e92), ?_⟩, rfl⟩ (by rfl) (by rfl) (by rfl)
        rw [hz]
        exact ⟨rfl, m3.1, rfl, m3.2.2.1, m3.2.2.2, fun j z1 z2 z3 z4 => ⟨(fm_un z1).trans (fr j z2 z3 z4).1, (fr j z2 z3 z4).2⟩⟩
      | inr z =>
        rw [hz] at m3
        have m3 : cK g2 l2 a2 b2 (sp_T (a 10) N) N z.1 z.2.1 z.2.2 := m3
        rw [m3.1.2.2.1]
        obtain ⟨g3, a3, b3, n1, n2, n3⟩ := ha_lcp (g := g2) (l := l2) (a := a2) (b := b2) (R := R)
        have hL := n2 z.1 m3.2.1
        refine he_s 5 (pc' := 65) (lc' := [(0, .ref 0), (1, .int (nI N))]) (stk' := [.ref 41, .ref 15]) (mem' := cm g2 l2 a2 b2 R) (by intro _ _ _; eq_refl) ?_
        refine he_ivV n1 (by omega) (by rfl) (by rfl) (by rfl) (by rfl) (by rfl) (by rfl) ?_
        refine he_s 3 (pc' := 75) (lc' := [(0, .ref 0), (1, .int (nI N))]) (stk' := [.ref 34]) (mem' := cm g3 l2 a3 b3 R) (by intro _ _ _; eq_refl) ?_
        refine he_ivV ha_tclr (by omega) (by rfl) (by rfl) (by rfl) (by rfl) (by rfl) (by rfl) ?_
        refine he_s 4 (pc' := 86) (lc' := [(0, .ref 0), (1, .int (nI N))]) (stk' := [.int (g3 15 8), .ref 0]) (mem' := cm (fm_u (fm_u g3 34 6 0) 34 7 0) l2 a3 b3 R) (by intro _ _ _; eq_refl) ?_
        rw [hL.1.1]
        refine he_ivV ha_answer (by omega) (by rfl) (by rfl) (by rfl) (by rfl) (by rfl) (by rfl) ?_
        refine he_ret ⟨_, _, _, _, _, Or.inr ⟨N, rfl, q2, ?_, ?_⟩, rfl⟩ (by rfl) (by rfl) (by rfl)
        · exact (congrFun (n3 9 (by decide)).1 2).trans e92
        · rw [hz]
          refine ⟨rfl, rfl, (congrFun (n3 9 (by decide)).1 10).trans m3.1.2.2.1, (congrFun (n3 9 (by decide)).1 11).trans m3.1.2.2.2, hL, rfl, fun j z1 z2 z3 z4 => ⟨?_, ?_, ?_⟩⟩
          · exact (fm_un z1).trans ((fm_un (by omega)).trans ((fm_un (by omega)).trans ((n3 j (by omega)).1.trans (fr j z2 z3 (by omega)).1)))
          · exact (n3 j (by omega)).2.1.trans (fr j z2 z3 (by omega)).2.1
          · exact (n3 j (by omega)).2.2.trans (fr j z2 z3 (by omega)).2.2
  · have q1 : x.toInt < 0 := tc_lt h1
    exact bad (fun z => by omega)
end CLA
