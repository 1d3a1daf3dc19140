/-! ===== marks: what mark and undo give, on both sides ===== -/
def mk_Q (z : Nat × Nat) : List Value → va_W → va_W → Value → Prop := fun _ ws ws' v => ∃ k : Nat, k ≤ 3 ∧ lw_at ws z = some (.int (nI k)) ∧ (k = 3 ∧ v = .int (-1) ∧ lw_at ws' z = some (.int (nI k)) ∨ k < 3 ∧ v = .int (nI (k + 1)) ∧ lw_at ws' z = some (.int (nI (k + 1))))
def ud_Q (z : Nat × Nat) : List Value → va_W → va_W → Value → Prop := fun _ ws ws' v => ∃ k : Nat, k ≤ 3 ∧ lw_at ws z = some (.int (nI k)) ∧ (k = 0 ∧ v = .int (-1) ∧ lw_at ws' z = some (.int (nI k)) ∨ 0 < k ∧ v = .int (nI (k - 1)) ∧ lw_at ws' z = some (.int (nI (k - 1))))
theorem mk_int {z : Nat × Nat} {av : List Value} {c0 c1 : va_W} {v : Value} (h : mk_Q z av c0 c1 v) : lr_ty 0 v := by
  obtain ⟨k, -, -, ⟨-, rfl, -⟩ | ⟨-, rfl, -⟩⟩ := h
  · exact ⟨_, rfl⟩
  · exact ⟨_, rfl⟩
theorem ud_int {z : Nat × Nat} {av : List Value} {c0 c1 : va_W} {v : Value} (h : ud_Q z av c0 c1 v) : lr_ty 0 v := by
  obtain ⟨k, -, -, ⟨-, rfl, -⟩ | ⟨-, rfl, -⟩⟩ := h
  · exact ⟨_, rfl⟩
  · exact ⟨_, rfl⟩
theorem nI_inj3 {k j : Nat} (hk : k ≤ 3) (hj : j ≤ 3) (h : some (Value.int (nI k)) = some (.int (nI j))) : k = j := by
  have h1 : nI k = nI j := Value.int.inj (Option.some.inj h)
  have h2 : (nI k).toInt = (nI j).toInt := by rw [h1]
  rw [nI_i32 (by omega), nI_i32 (by omega)] at h2
  omega
theorem mk_rel {z y : Nat × Nat} {av av2 : List Value} {c0 c1 m0 m1 : va_W} {u w : Value} (h : lw_at c0 z = lw_at m0 y) (h1 : mk_Q z av c0 c1 u) (h2 : mk_Q y av2 m0 m1 w) : u = w ∧ lw_at c1 z = lw_at m1 y := by
  obtain ⟨k, a1, a2, a3⟩ := h1
  obtain ⟨j, b1, b2, b3⟩ := h2
  have e : k = j := nI_inj3 a1 b1 (by rw [← a2, ← b2, h])
  subst e
  rcases a3 with ⟨p1, p2, p3⟩ | ⟨p1, p2, p3⟩ <;> rcases b3 with ⟨q1, q2, q3⟩ | ⟨q1, q2, q3⟩
  · exact ⟨by rw [p2, q2], by rw [p3, q3]⟩
  · omega
  · omega
  · exact ⟨by rw [p2, q2], by rw [p3, q3]⟩
theorem ud_rel {z y : Nat × Nat} {av av2 : List Value} {c0 c1 m0 m1 : va_W} {u w : Value} (h : lw_at c0 z = lw_at m0 y) (h1 : ud_Q z av c0 c1 u) (h2 : ud_Q y av2 m0 m1 w) : u = w ∧ lw_at c1 z = lw_at m1 y := by
  obtain ⟨k, a1, a2, a3⟩ := h1
  obtain ⟨j, b1, b2, b3⟩ := h2
  have e : k = j := nI_inj3 a1 b1 (by rw [← a2, ← b2, h])
  subst e
  rcases a3 with ⟨p1, p2, p3⟩ | ⟨p1, p2, p3⟩ <;> rcases b3 with ⟨q1, q2, q3⟩ | ⟨q1, q2, q3⟩
  · exact ⟨by rw [p2, q2], by rw [p3, q3]⟩
  · omega
  · omega
  · exact ⟨by rw [p2, q2], by rw [p3, q3]⟩
section MKC
variable {l : Launch} {D : va_G} {xt : tk_XT} {ads tw : List Nat}
def mk_K (f : Nat) (k k' r : Int) (mods : List (Nat × Nat)) : tk_K := (f, [(2, 0, 0, 0)], ([], []), [0], [(0, (0, 0, 0, 13), (0, 0, 0, k))], ([(some (0, 0, 0, r), ([], []), [0], [(0, (0, 0, 0, 13), (0, 0, 0, k'))])], mods))
def mk_m : List (Nat × Nat) := gc_K317.2.2.2.2.2.2
def ud_m : List (Nat × Nat) := gc_K322.2.2.2.2.2.2
theorem mk_C0 (hU : gc_U tw) (hxt : tk_xtok xt) : tk_KS l D gk_cl gk_tbl gk_xw xt gk_MN gk_P gc_TY lc_ro (gc_X tw) ads tw 4 (mk_K 184 0 1 1 mk_m) := tk_contract (hk := tk_hk0) tk_hk0_ok (gc_xs hU) hxt gk_rok [186, 187] 9000 1 0 (Ks := [gc_K315, gc_K316]) (d := 2) (List.forall_mem_cons.mpr ⟨tk_KS_up (by decide) (gc_315 hU hxt), (List.forall_mem_cons.mpr ⟨tk_KS_up (by decide) (gc_316 hU hxt), (fun _ h => absurd h List.not_mem_nil)⟩)⟩) (Hs := []) (by decide +kernel) rfl
theorem ud_C0 (hU : gc_U tw) (hxt : tk_xtok xt) : tk_KS l D gk_cl gk_tbl gk_xw xt gk_MN gk_P gc_TY lc_ro (gc_X tw) ads tw 4 (mk_K 185 0 0 (-1) ud_m) := tk_contract (hk := tk_hk0) tk_hk0_ok (gc_xs hU) hxt gk_rok [186, 187] 9000 1 0 (Ks := [gc_K320, gc_K321]) (d := 2) (List.forall_mem_cons.mpr ⟨tk_KS_up (by decide) (gc_320 hU hxt), (List.forall_mem_cons.mpr ⟨tk_KS_up (by decide) (gc_321 hU hxt), (fun _ h => absurd h List.not_mem_nil)⟩)⟩) (Hs := []) (by decide +kernel) rfl
theorem mk_C1 (hU : gc_U tw) (hxt : tk_xtok xt) : tk_KS l D gk_cl gk_tbl gk_xw xt gk_MN gk_P gc_TY lc_ro (gc_X tw) ads tw 4 (mk_K 184 1 2 2 mk_m) := tk_contract (hk := tk_hk0) tk_hk0_ok (gc_xs hU) hxt gk_rok [186, 187] 9000 1 0 (Ks := [gc_K315, gc_K316]) (d := 2) (List.forall_mem_cons.mpr ⟨tk_KS_up (by decide) (gc_315 hU hxt), (List.forall_mem_cons.mpr ⟨tk_KS_up (by decide) (gc_316 hU hxt), (fun _ h => absurd h List.not_mem_nil)⟩)⟩) (Hs := []) (by decide +kernel) rfl
theorem ud_C1 (hU : gc_U tw) (hxt : tk_xtok xt) : tk_KS l D gk_cl gk_tbl gk_xw xt gk_MN gk_P gc_TY lc_ro (gc_X tw) ads tw 4 (mk_K 185 1 0 0 ud_m) := tk_contract (hk := tk_hk0) tk_hk0_ok (gc_xs hU) hxt gk_rok [186, 187] 9000 1 0 (Ks := [gc_K320, gc_K321]) (d := 2) (List.forall_mem_cons.mpr ⟨tk_KS_up (by decide) (gc_320 hU hxt), (List.forall_mem_cons.mpr ⟨tk_KS_up (by decide) (gc_321 hU hxt), (fun _ h => absurd h List.not_mem_nil)⟩)⟩) (Hs := []) (by decide +kernel) rfl
theorem mk_C2 (hU : gc_U tw) (hxt : tk_xtok xt) : tk_KS l D gk_cl gk_tbl gk_xw xt gk_MN gk_P gc_TY lc_ro (gc_X tw) ads tw 4 (mk_K 184 2 3 3 mk_m) := tk_contract (hk := tk_hk0) tk_hk0_ok (gc_xs hU) hxt gk_rok [186, 187] 9000 1 0 (Ks := [gc_K315, gc_K316]) (d := 2) (List.forall_mem_cons.mpr ⟨tk_KS_up (by decide) (gc_315 hU hxt), (List.forall_mem_cons.mpr ⟨tk_KS_up (by decide) (gc_316 hU hxt), (fun _ h => absurd h List.not_mem_nil)⟩)⟩) (Hs := []) (by decide +kernel) rfl
theorem ud_C2 (hU : gc_U tw) (hxt : tk_xtok xt) : tk_KS l D gk_cl gk_tbl gk_xw xt gk_MN gk_P gc_TY lc_ro (gc_X tw) ads tw 4 (mk_K 185 2 1 1 ud_m) := tk_contract (hk := tk_hk0) tk_hk0_ok (gc_xs hU) hxt gk_rok [186, 187] 9000 1 0 (Ks := [gc_K320, gc_K321]) (d := 2) (List.forall_mem_cons.mpr ⟨tk_KS_up (by decide) (gc_320 hU hxt), (List.forall_mem_cons.mpr ⟨tk_KS_up (by decide) (gc_321 hU hxt), (fun _ h => absurd h List.not_mem_nil)⟩)⟩) (Hs := []) (by decide +kernel) rfl
theorem mk_C3 (hU : gc_U tw) (hxt : tk_xtok xt) : tk_KS l D gk_cl gk_tbl gk_xw xt gk_MN gk_P gc_TY lc_ro (gc_X tw) ads tw 4 (mk_K 184 3 3 (-1) mk_m) := tk_contract (hk := tk_hk0) tk_hk0_ok (gc_xs hU) hxt gk_rok [186, 187] 9000 1 0 (Ks := [gc_K315, gc_K316]) (d := 2) (List.forall_mem_cons.mpr ⟨tk_KS_up (by decide) (gc_315 hU hxt), (List.forall_mem_cons.mpr ⟨tk_KS_up (by decide) (gc_316 hU hxt), (fun _ h => absurd h List.not_mem_nil)⟩)⟩) (Hs := []) (by decide +kernel) rfl
theorem ud_C3 (hU : gc_U tw) (hxt : tk_xtok xt) : tk_KS l D gk_cl gk_tbl gk_xw xt gk_MN gk_P gc_TY lc_ro (gc_X tw) ads tw 4 (mk_K 185 3 2 2 ud_m) := tk_contract (hk := tk_hk0) tk_hk0_ok (gc_xs hU) hxt gk_rok [186, 187] 9000 1 0 (Ks := [gc_K320, gc_K321]) (d := 2) (List.forall_mem_cons.mpr ⟨tk_KS_up (by decide) (gc_320 hU hxt), (List.forall_mem_cons.mpr ⟨tk_KS_up (by decide) (gc_321 hU hxt), (fun _ h => absurd h List.not_mem_nil)⟩)⟩) (Hs := []) (by decide +kernel) rfl
theorem mk_one {f : Nat} {mods : List (Nat × Nat)} {d : Nat} {X : va_W → Prop} {Q : List Value → va_W → va_W → Value → Prop} (hK : ∀ k : Nat, k ≤ 3 → ∃ (k' : Nat) (r : Int), k' ≤ 3 ∧ tk_KS l D gk_cl gk_tbl gk_xw xt gk_MN gk_P gc_TY lc_ro X ads lw_twC d (mk_K f k k' r mods) ∧ ∀ (av : List Value) (ws ws' : va_W) (x : Int32), lw_at ws (0, 13) = some (.int (nI k)) → lw_at ws' (0, 13) = some (.int (nI k')) → x.toInt = r → Q av ws ws' (.int x)) : lw_sem l D xt gc_TY X ads lw_twC d f [] [] Q := by
  refine lw_sem_K (fun U ax ws av a1 a2 a3 a4 a5 a6 => ?_)
  obtain ⟨e, x, hw, hat, h1, h2⟩ := lw_fld (i := 13) (lo := 0) (hi := 3) a3 a4 a1 rfl rfl lw_twC0
  obtain ⟨k, hk, rfl⟩ := nI_bd (n := 3) h1 h2
  obtain ⟨k', r, hk', hC, hQ⟩ := hK k hk
  have ha : av = [] := rk_A2.nil (show rk_A2 lq_av ([] : List (Nat × tk_I)) av from a2)
  subst ha
  refine ⟨[], ([], []), [], [], [(0, (0, 0, 0, 13), (0, 0, 0, (k : Int)))], _, mods, [], hC, ⟨trivial, fun q hq => absurd hq List.not_mem_nil⟩, trivial, trivial, ?_, ?_⟩
  · intro z hz
    rw [List.mem_singleton.mp hz]
    exact lw_fk (r := 0) (j := 0) (i := 13) rfl hw hat (tk_g_of (by omega))
  · intro y hy t vals' rads' ws' oc k1 k2 k3 k4 k5 k6 k7 k8
    rw [List.mem_singleton.mp hy] at k4 k8
    obtain ⟨v, g1, g2⟩ := lw_fk_at (i := 13) a5 (k5.trans a3.symm) (lw_rads (r := 0) (y := ax) k2 rfl) hw (k4 _ (List.mem_singleton.mpr rfl))
    obtain ⟨u, hg, eu⟩ := k8
    obtain ⟨x, rfl, hx⟩ := tk_g_int hg
    exact ⟨.int x, eu, hQ [] ws ws' x hat (by rw [g1, tk_g_nI (by omega) g2]) hx⟩
theorem mk_semC (hxt : tk_xtok xt) : lw_sem l D xt gc_TY (gc_X lw_twC) ads lw_twC 4 184 [] [] (mk_Q (0, 13)) := mk_one (mods := mk_m) (fun k hk => by
  rcases (by omega : k = 0 ∨ k = 1 ∨ k = 2 ∨ k = 3) with rfl | rfl | rfl | rfl
  · exact ⟨1, 1, by decide, mk_C0 lw_gcU hxt, fun av ws ws' x h1 h2 h3 => ⟨0, by decide, h1, Or.inr ⟨by decide, congrArg Value.int (Int32.toInt_inj.mp h3), h2⟩⟩⟩
  · exact ⟨2, 2, by decide, mk_C1 lw_gcU hxt, fun av ws ws' x h1 h2 h3 => ⟨1, by decide, h1, Or.inr ⟨by decide, congrArg Value.int (Int32.toInt_inj.mp h3), h2⟩⟩⟩
  · exact ⟨3, 3, by decide, mk_C2 lw_gcU hxt, fun av ws ws' x h1 h2 h3 => ⟨2, by decide, h1, Or.inr ⟨by decide, congrArg Value.int (Int32.toInt_inj.mp h3), h2⟩⟩⟩
  · exact ⟨3, -1, by decide, mk_C3 lw_gcU hxt, fun av ws ws' x h1 h2 h3 => ⟨3, by decide, h1, Or.inl ⟨by decide, congrArg Value.int (Int32.toInt_inj.mp h3), h2⟩⟩⟩)
theorem ud_semC (hxt : tk_xtok xt) : lw_sem l D xt gc_TY (gc_X lw_twC) ads lw_twC 4 185 [] [] (ud_Q (0, 13)) := mk_one (mods := ud_m) (fun k hk => by
  rcases (by omega : k = 0 ∨ k = 1 ∨ k = 2 ∨ k = 3) with rfl | rfl | rfl | rfl
  · exact ⟨0, -1, by decide, ud_C0 lw_gcU hxt, fun av ws ws' x h1 h2 h3 => ⟨0, by decide, h1, Or.inl ⟨by decide, congrArg Value.int (Int32.toInt_inj.mp h3), h2⟩⟩⟩
  · exact ⟨0, 0, by decide, ud_C1 lw_gcU hxt, fun av ws ws' x h1 h2 h3 => ⟨1, by decide, h1, Or.inr ⟨by decide, congrArg Value.int (Int32.toInt_inj.mp h3), h2⟩⟩⟩
  · exact ⟨1, 1, by decide, ud_C2 lw_gcU hxt, fun av ws ws' x h1 h2 h3 => ⟨2, by decide, h1, Or.inr ⟨by decide, congrArg Value.int (Int32.toInt_inj.mp h3), h2⟩⟩⟩
  · exact ⟨2, 2, by decide, ud_C3 lw_gcU hxt, fun av ws ws' x h1 h2 h3 => ⟨3, by decide, h1, Or.inr ⟨by decide, congrArg Value.int (Int32.toInt_inj.mp h3), h2⟩⟩⟩)
theorem mk_semM (hst : ∀ (Ad : Nat → Prop) (U : State) (H : Heap), xt Ad U H → ∃ pl v tx, sk_X pl v Ad U H ∧ vk_R "GooseIceModel" 189 tx pl U) : lw_sem l D xt gn_TY (gn_X lw_twM) ads lw_twM 6 370 [] [] (mk_Q (0, 42)) := by
  refine lw_sem_imp (fm_sem (k := 2) (f := 370) (n := 0) hst gn_fmTy gn_M2_ms (Q := fun _ g _ _ _ _ g' _ _ _ _ v => ∃ k : Nat, k ≤ 3 ∧ g 42 = nI k ∧ (k = 3 ∧ v = -1 ∧ g' 42 = nI k ∨ k < 3 ∧ v = nI (k + 1) ∧ g' 42 = nI (k + 1))) (fun g tp bt a b xs hx hI => ?_)) ?_
  · obtain rfl := List.length_eq_zero_iff.mp hx
    obtain ⟨m, hm, em⟩ := fm_I_42 hI
    obtain ⟨v, mem', hP, hf⟩ := fr_mark (g := g) (tp := tp) (bt := bt) (a := a) (b := b) hI.2.1 em hm
    obtain ⟨v, g', tp', bt', a', b', e, h1, h2⟩ := fm_I_MU (m := m) (n := m + 1) hI (by decide) (fun h => by omega) hP
    cases e
    refine ⟨v, g', tp', bt', a', b', hf, h1, h2, m, hm, em, ?_⟩
    obtain ⟨v2, g2, a2, b2, hz, e⟩ := hP
    have e1 : v = v2 := Value.int.inj (Option.some.inj (congrArg Prod.fst e))
    have e2 : g' 42 = g2 42 := Value.int.inj (Option.some.inj (fm_o_inj 42 (congrArg Prod.snd e)))
    rw [e1, e2]
    rcases hz with ⟨z1, z2, z3, -⟩ | ⟨z1, z2, z3, -⟩
    · exact Or.inl ⟨z1, z2, by rw [z3, ← em]; rfl⟩
    · exact Or.inr ⟨z1, z2, by rw [z3]; rfl⟩
  · rintro av ws ws' v - ⟨xs, g, tp, bt, a, b, g', tp', bt', a', b', x, -, rfl, k1, k2, -, -, k, hk, k3, k4⟩
    have p1 : lw_at ws (0, 42) = some (.int (g 42)) := k1.1 42 _ rfl (Nat.zero_le 1)
    have p2 : lw_at ws' (0, 42) = some (.int (g' 42)) := k2.1 42 _ rfl (Nat.zero_le 1)
    refine ⟨k, hk, by rw [p1, k3], ?_⟩
    rcases k4 with ⟨z1, z2, z3⟩ | ⟨z1, z2, z3⟩
    · exact Or.inl ⟨z1, by rw [z2], by rw [p2, z3]⟩
    · exact Or.inr ⟨z1, by rw [z2], by rw [p2, z3]⟩
theorem ud_semM (hst : ∀ (Ad : Nat → Prop) (U : State) (H : Heap), xt Ad U H → ∃ pl v tx, sk_X pl v Ad U H ∧ vk_R "GooseIceModel" 189 tx pl U) : lw_sem l D xt gn_TY (gn_X lw_twM) ads lw_twM 6 371 [] [] (ud_Q (0, 42)) := by
  refine lw_sem_imp (fm_sem (k := 2) (f := 371) (n := 0) hst gn_fmTy gn_M2_ms (Q := fun _ g _ _ _ _ g' _ _ _ _ v => ∃ k : Nat, k ≤ 3 ∧ g 42 = nI k ∧ (k = 0 ∧ v = -1 ∧ g' 42 = nI k ∨ 0 < k ∧ v = nI (k - 1) ∧ g' 42 = nI (k - 1))) (fun g tp bt a b xs hx hI => ?_)) ?_
  · obtain rfl := List.length_eq_zero_iff.mp hx
    obtain ⟨m, hm, em⟩ := fm_I_42 hI
    obtain ⟨v, mem', hP, hf⟩ := fr_undo (g := g) (tp := tp) (bt := bt) (a := a) (b := b) hI.2.1 em hm
    obtain ⟨v, g', tp', bt', a', b', e, h1, h2⟩ := fm_I_MU (m := m) (n := m - 1) hI (by decide) (fun h => by omega) hP
    cases e
    refine ⟨v, g', tp', bt', a', b', hf, h1, h2, m, hm, em, ?_⟩
    obtain ⟨v2, g2, a2, b2, hz, e⟩ := hP
    have e1 : v = v2 := Value.int.inj (Option.some.inj (congrArg Prod.fst e))
    have e2 : g' 42 = g2 42 := Value.int.inj (Option.some.inj (fm_o_inj 42 (congrArg Prod.snd e)))
    rw [e1, e2]
    rcases hz with ⟨z1, z2, z3, -⟩ | ⟨z1, z2, z3, -⟩
    · exact Or.inl ⟨z1, z2, by rw [z3, ← em]; rfl⟩
    · exact Or.inr ⟨z1, z2, by rw [z3]; rfl⟩
  · rintro av ws ws' v - ⟨xs, g, tp, bt, a, b, g', tp', bt', a', b', x, -, rfl, k1, k2, -, -, k, hk, k3, k4⟩
    have p1 : lw_at ws (0, 42) = some (.int (g 42)) := k1.1 42 _ rfl (Nat.zero_le 1)
    have p2 : lw_at ws' (0, 42) = some (.int (g' 42)) := k2.1 42 _ rfl (Nat.zero_le 1)
    refine ⟨k, hk, by rw [p1, k3], ?_⟩
    rcases k4 with ⟨z1, z2, z3⟩ | ⟨z1, z2, z3⟩
    · exact Or.inl ⟨z1, by rw [z2], by rw [p2, z3]⟩
    · exact Or.inr ⟨z1, by rw [z2], by rw [p2, z3]⟩
end MKC
