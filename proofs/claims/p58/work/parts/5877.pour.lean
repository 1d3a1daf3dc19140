/-! ===== pour of the model, exact: what is looked at stays ===== -/
def gn_MP : List (Nat × Nat) := (5, 0) :: gn_M0
theorem gn_MP_ms : fm_ms gn_MP := ⟨fun r hr => List.mem_cons_of_mem _ (gn_M0_ms.1 r hr), List.mem_cons_of_mem _ gn_M0_ms.2.1, List.mem_cons_of_mem _ gn_M0_ms.2.2⟩
section PRK
variable {l : Launch} {D : va_G} {xt : tk_XT} {ads : List Nat}
theorem kp_pour (hst : HS xt) : lw_sem l D xt gn_TY (gn_X lw_twM) ads lw_twM 6 217 [0, 0, 0, 0, 0] [gn_i, gn_i, gn_i, gn_i, gn_i] (lw_unQ 0 mw_W) := by
  refine lw_sem_imp (mx_sem (S := fun _ g a b g' a' b' _ => (∀ k ∈ mw_G, g' k = g k) ∧ a' = a ∧ b' 2 = b 2) (k := 2) (n := 5) hst gn_MP_ms (fun g tp bt a b xs hx hI => ?_)) ?_
  · obtain ⟨x, xs0, rfl, hx0⟩ := fm_xsS hx
    obtain ⟨p, xs1, rfl, hx1⟩ := fm_xsS hx0
    obtain ⟨y, xs2, rfl, hx2⟩ := fm_xsS hx1
    obtain ⟨q, xs3, rfl, hx3⟩ := fm_xsS hx2
    obtain ⟨n, xs4, rfl, hx4⟩ := fm_xsS hx3
    obtain rfl := List.length_eq_zero_iff.mp hx4
    obtain ⟨v0, mem0, hP, hf⟩ := ma_pour (g := g) (tp := tp) (bt := bt) (a := a) (b := b) (x := x) (p := p) (y := y) (q := q) (n := n) (fun t ht => hI.2.2 (4, 4, (-1), 60) (by decide) t ht)
    obtain ⟨z, st, b', hst2, hh, hR⟩ := hP
    cases hR
    have hb5 : ∀ t, t ≠ 5 → b' t = b t := fun t e => by
      rcases hh with ⟨_, _, _, _, _, -, -, -, -, -, -, -, -, -, -, -, hb⟩ | ⟨-, -, hb⟩
      · rw [hb]; exact fm_uf_n e
      · rw [hb]
    have hG : fm_ffr gn_MP g a b (upd g 2 st) a b' := ⟨fun k => by
      by_cases e : k = 2
      · subst e; exact Or.inl (List.mem_cons_of_mem _ (List.mem_append_right _ (by decide)))
      · exact Or.inr (pk_un e), fun t ht => Or.inr rfl, fun t => by
      by_cases e : t = 5
      · subst e; exact Or.inl List.mem_cons_self
      · exact Or.inr (hb5 t e)⟩
    exact ⟨z, upd g 2 st, tp, bt, a, b', hf, fm_I_u2 hI hst2, hG, fun k hk => pk_un (by
      have : ∀ k ∈ mw_G, k ≠ 2 := by decide
      exact this k hk), rfl, hb5 2 (by decide)⟩
  · rintro av ws ws' v - ⟨hv, g, a, b, g', a', b', h1, h2, -, q1, rfl, q5⟩
    exact ⟨hv, mw_unW h1 (mw_eqV h2 q1 rfl (fun _ _ => rfl) (fun _ _ => congrFun q5 _))⟩
end PRK
