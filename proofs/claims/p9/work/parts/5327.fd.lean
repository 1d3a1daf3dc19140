/-! ===== the tape: how many bytes it has ===== -/
def fd_Q (z : Nat × Nat) : List Value → va_W → va_W → Value → Prop := fun _ ws ws' v => ∃ s : Nat, s ≤ 900 ∧ lw_at ws z = some (.int (nI s)) ∧ (s ≤ 880 ∧ v = .int (nI (s + 20)) ∧ lw_at ws' z = some (.int (nI (s + 20))) ∨ 880 < s ∧ v = .int (-1) ∧ lw_at ws' z = some (.int (nI s)))
def lk_Q (M : Int) (z : Nat × Nat) : List Value → va_W → va_W → Value → Prop := fun av ws ws' v => lr_ty 0 v ∧ ∃ (s : Nat) (n : Int32), av = [.int n] ∧ s ≤ 900 ∧ lw_at ws z = some (.int (nI s)) ∧ (¬ (0 ≤ n.toInt ∧ n.toInt ≤ (s : Int) ∧ n.toInt ≤ M) ∧ lw_at ws' z = some (.int (nI s)) ∨ (0 ≤ n.toInt ∧ n.toInt ≤ (s : Int) ∧ n.toInt ≤ M) ∧ lw_at ws' z = some (.int (nI 0)))
theorem fd_int {z : Nat × Nat} {av : List Value} {c0 c1 : va_W} {v : Value} (h : fd_Q z av c0 c1 v) : lr_ty 0 v := by
  obtain ⟨k, -, -, ⟨-, rfl, -⟩ | ⟨-, rfl, -⟩⟩ := h
  · exact ⟨_, rfl⟩
  · exact ⟨_, rfl⟩
theorem nI_injS {k j : Nat} (hk : k < 2147483648) (hj : j < 2147483648) (h : some (Value.int (nI k)) = some (.int (nI j))) : k = j := by
  have h1 : nI k = nI j := Value.int.inj (Option.some.inj h)
  have h2 : (nI k).toInt = (nI j).toInt := by rw [h1]
  rw [nI_i32 hk, nI_i32 hj] at h2
  omega
theorem fd_rel {z y : Nat × Nat} {av av2 : List Value} {c0 c1 m0 m1 : va_W} {u w : Value} (h : lw_at c0 z = lw_at m0 y) (h1 : fd_Q z av c0 c1 u) (h2 : fd_Q y av2 m0 m1 w) : u = w ∧ lw_at c1 z = lw_at m1 y := by
  obtain ⟨k, a1, a2, a3⟩ := h1
  obtain ⟨j, b1, b2, b3⟩ := h2
  have e : k = j := nI_injS (by omega) (by omega) (by rw [← a2, ← b2, h])
  subst e
  rcases a3 with ⟨p1, p2, p3⟩ | ⟨p1, p2, p3⟩ <;> rcases b3 with ⟨q1, q2, q3⟩ | ⟨q1, q2, q3⟩
  · exact ⟨by rw [p2, q2], by rw [p3, q3]⟩
  · omega
  · omega
  · exact ⟨by rw [p2, q2], by rw [p3, q3]⟩
theorem lk_rel {M : Int} {z y : Nat × Nat} {av : List Value} {c0 c1 m0 m1 : va_W} {u w : Value} (h : lw_at c0 z = lw_at m0 y) (h1 : lk_Q M z av c0 c1 u) (h2 : lk_Q M y av m0 m1 w) : lw_at c1 z = lw_at m1 y := by
  obtain ⟨-, k, n, a0, a1, a2, a3⟩ := h1
  obtain ⟨-, j, n', b0, b1, b2, b3⟩ := h2
  have e : k = j := nI_injS (by omega) (by omega) (by rw [← a2, ← b2, h])
  subst e
  rw [a0] at b0
  have e : n = n' := by injection b0 with a b; exact Value.int.inj a
  subst e
  rcases a3 with ⟨p1, p2⟩ | ⟨p1, p2⟩ <;> rcases b3 with ⟨q1, q2⟩ | ⟨q1, q2⟩
  · rw [p2, q2]
  · exact absurd q1 p1
  · exact absurd p1 q1
  · rw [p2, q2]
theorem lw_twC6 : ∀ j, lw_twC[j]? = some 6 → j = 9 := by
  intro j h
  have hb : j < 270 := lw_ltC h
  have : ∀ j, j < 270 → lw_twC[j]? = some 6 → j = 9 := by decide +kernel
  exact this j hb h
theorem lw_twC9 : lw_twC[9]? = some 6 := by decide +kernel
/-- a field that is a reference -/
theorem lw_fldr {TY : tk_TT} {ads tw : List Nat} {U : State} {ws : va_W} {t y i j0 : Nat} {lo : Int} {o : Nat × List tk_F} (h4 : ws.map Prod.fst = ads) (h5 : rk_A2 (fun b (q : Nat × va_E) => tk_cl TY lc_ro ads tw U b q.2) tw ws) (hty : tk_ty ads tw t y) (ho : TY.1[t]? = some (.inl o)) (hf : o.2[i]? = some (2, lo, 0)) (hj : ∀ j, tw[j]? = some t → j = j0) : ∃ (e : va_E) (x : Nat), ws[j0]? = some (y, e) ∧ lw_at ws (j0, i) = some (.ref x) ∧ tk_ty ads tw lo.toNat x := by
  obtain ⟨j, e, hw, ht, hc⟩ := tk_cell h4 h5 hty
  have := hj j ht
  subst this
  unfold tk_cl at hc
  rw [ho] at hc
  obtain ⟨vs, rfl, hvl, hvs⟩ := hc
  have hlt : i < vs.length := by rw [hvl]; exact (List.getElem?_eq_some_iff.mp hf).1
  obtain ⟨x, hx, h1⟩ : ∃ x : Nat, vs[i] = .ref x ∧ tk_ty ads tw (lo.toNat + i * (0 : Int).toNat) x := hvs i _ _ hf (List.getElem?_eq_getElem hlt)
  refine ⟨_, x, hw, ?_, by rw [show lo.toNat + i * (0 : Int).toNat = lo.toNat by show lo.toNat + i * 0 = _; omega] at h1; exact h1⟩
  unfold lw_at
  dsimp only
  rw [hw]
  show vs[i]? = _
  rw [List.getElem?_eq_getElem hlt, hx]
section FDC
variable {l : Launch} {D : va_G} {xt : tk_XT} {ads tw : List Nat}
def fd_KC : tk_K := (134, [(2, 0, 0, 0), (0, 1, 1, 0), (0, 2, 1, 0), (0, 3, 1, 0), (0, 4, 1, 0), (0, 5, 1, 0)], ([((-2147483648), 2147483647), ((-2147483648), 2147483647), ((-2147483648), 2147483647), ((-2147483648), 2147483647), ((-2147483648), 2147483647), (0, 900)], []), [0, 6], [(0, (0, 0, 0, 7), (2, 1, 0, 0)), (1, (0, 0, 0, 2), (0, 6, 1, 0))], ([(some (0, 6, 1, 20), ([((-2147483648), 2147483647), ((-2147483648), 2147483647), ((-2147483648), 2147483647), ((-2147483648), 2147483647), ((-2147483648), 2147483647), (0, 880)], []), [0, 6], [(1, (0, 0, 0, 2), (0, 6, 1, 20))]), (some (0, 0, 0, (-1)), ([((-2147483648), 2147483647), ((-2147483648), 2147483647), ((-2147483648), 2147483647), ((-2147483648), 2147483647), ((-2147483648), 2147483647), (881, 900)], []), [0, 6], [(1, (0, 0, 0, 2), (0, 6, 1, 0))])], [(6, 2), (7, 0)]))
theorem fd_C (hU : gc_U tw) (hxt : tk_xtok xt) : tk_KS l D gk_cl gk_tbl gk_xw xt gk_MN gk_P gc_TY lc_ro (gc_X tw) ads tw 3 fd_KC := tk_contract (hk := tk_hk0) tk_hk0_ok (gc_xs hU) hxt gk_rok [100, 101] 9000 2 0 (Ks := []) (d := 0) (fun _ h => absurd h List.not_mem_nil) (Hs := []) (by decide +kernel) rfl
def fd_KM : tk_K := (219, [(2, 0, 0, 0), (0, 1, 1, 0), (0, 2, 1, 0), (0, 3, 1, 0), (0, 4, 1, 0), (0, 5, 1, 0)], ([((-2147483648), 2147483647), ((-2147483648), 2147483647), ((-2147483648), 2147483647), ((-2147483648), 2147483647), ((-2147483648), 2147483647), (0, 900)], []), [0], [(0, (0, 0, 0, 10), (0, 6, 1, 0))], ([(some (0, 6, 1, 20), ([((-2147483648), 2147483647), ((-2147483648), 2147483647), ((-2147483648), 2147483647), ((-2147483648), 2147483647), ((-2147483648), 2147483647), (0, 880)], []), [0], [(0, (0, 0, 0, 10), (0, 6, 1, 20))]), (some (0, 0, 0, (-1)), ([((-2147483648), 2147483647), ((-2147483648), 2147483647), ((-2147483648), 2147483647), ((-2147483648), 2147483647), ((-2147483648), 2147483647), (881, 900)], []), [0], [(0, (0, 0, 0, 10), (0, 6, 1, 0))])], [(0, 10), (6, 0)]))
theorem fd_M0 (hU : gm_U tw) (hxt : tk_xtok xt) : tk_KS l D gk_cl gk_tbl gk_xw xt gk_MN gk_P gm_TY lc_ro (gm_X tw) ads tw 3 fd_KM := tk_contract (hk := tk_hk0) tk_hk0_ok (gm_xs hU) hxt gk_rok [220] 9000 2 0 (Ks := []) (d := 0) (fun _ h => absurd h List.not_mem_nil) (Hs := []) (by decide +kernel) rfl
def lk_KC : tk_K := (135, [(2, 0, 0, 0), (0, 1, 1, 0)], ([((-2147483648), 2147483647), (0, 900)], []), [0, 6], [(0, (0, 0, 0, 7), (2, 1, 0, 0)), (1, (0, 0, 0, 2), (0, 2, 1, 0))], ([(some (0, 0, 0, (-1)), ([((-2147483648), (-1)), (0, 900)], []), [0, 6], [(1, (0, 0, 0, 2), (0, 2, 1, 0))]), (some (0, 0, 0, (-1)), ([(0, 2147483647), (0, 900)], [(1, 0, (-1))]), [0, 6], [(1, (0, 0, 0, 2), (0, 2, 1, 0))]), (some (0, 3, 1, 0), ([(0, 900), (0, 900), ((-2147483648), 2147483647)], [(0, 1, 0)]), [0, 6], [(1, (0, 0, 0, 2), (0, 0, 0, 0))])], gc_K49.2.2.2.2.2.2))
theorem lk_C (hU : gc_U tw) (hxt : tk_xtok xt) : tk_KS l D gk_cl gk_tbl gk_xw xt gk_MN gk_P gc_TY lc_ro (gc_X tw) ads tw 12 lk_KC := tk_contract (hk := tk_hk0) tk_hk0_ok (gc_xs hU) hxt gk_rok [102, 186, 187] 9000 1 0 (Ks := [gc_K12, gc_K44, gc_K47, gc_K48]) (d := 10) (List.forall_mem_cons.mpr ⟨tk_KS_up (by decide) (gc_12 hU hxt), (List.forall_mem_cons.mpr ⟨tk_KS_up (by decide) (gc_44 hU hxt), (List.forall_mem_cons.mpr ⟨tk_KS_up (by decide) (gc_47 hU hxt), (List.forall_mem_cons.mpr ⟨tk_KS_up (by decide) (gc_48 hU hxt), (fun _ h => absurd h List.not_mem_nil)⟩)⟩)⟩)⟩) (Hs := []) (by decide +kernel) rfl
def ta_KC : tk_K := (136, [(2, 0, 0, 0), (0, 1, 1, 0)], ([((-2147483648), 2147483647), (0, 900)], []), [0, 6], [(0, (0, 0, 0, 7), (2, 1, 0, 0)), (1, (0, 0, 0, 2), (0, 2, 1, 0))], ([(some (0, 0, 0, (-1)), ([((-2147483648), (-1)), (0, 900)], []), [0, 6], [(1, (0, 0, 0, 2), (0, 2, 1, 0))]), (some (0, 0, 0, (-1)), ([(0, 2147483647), (0, 900)], [(1, 0, (-1))]), [0, 6], [(1, (0, 0, 0, 2), (0, 2, 1, 0))]), (some (0, 0, 0, (-1)), ([(301, 2147483647), (0, 900)], []), [0, 6], [(1, (0, 0, 0, 2), (0, 2, 1, 0))]), (some (0, 3, 1, 0), ([(0, 300), (0, 900), ((-2147483648), 2147483647)], [(0, 1, 0)]), [0, 6], [(1, (0, 0, 0, 2), (0, 0, 0, 0))])], gc_K61.2.2.2.2.2.2))
theorem ta_C (hU : gc_U tw) (hxt : tk_xtok xt) : tk_KS l D gk_cl gk_tbl gk_xw xt gk_MN gk_P gc_TY lc_ro (gc_X tw) ads tw 13 ta_KC := tk_contract (hk := tk_hk0) tk_hk0_ok (gc_xs hU) hxt gk_rok [102, 186, 187] 9000 1 0 (Ks := [gc_K12, gc_K59, gc_K60]) (d := 11) (List.forall_mem_cons.mpr ⟨tk_KS_up (by decide) (gc_12 hU hxt), (List.forall_mem_cons.mpr ⟨tk_KS_up (by decide) (gc_59 hU hxt), (List.forall_mem_cons.mpr ⟨tk_KS_up (by decide) (gc_60 hU hxt), (fun _ h => absurd h List.not_mem_nil)⟩)⟩)⟩) (Hs := []) (by decide +kernel) rfl
/-- the reader's place of the tape's length, in the class's world -/
theorem fd_wC {U : State} {ax : Nat} {ws : va_W} (a1 : tk_ty ads lw_twC 0 ax) (a3 : ws.map Prod.fst = ads) (a4 : rk_A2 (fun b (q : Nat × va_E) => tk_cl gc_TY lc_ro ads lw_twC U b q.2) lw_twC ws) : ∃ (e e2 : va_E) (yr s : Nat), ws[0]? = some (ax, e) ∧ lw_at ws (0, 7) = some (.ref yr) ∧ tk_ty ads lw_twC 6 yr ∧ ws[9]? = some (yr, e2) ∧ s ≤ 900 ∧ lw_at ws (9, 2) = some (.int (nI s)) := by
  obtain ⟨e, yr, hw, hat, hty⟩ := lw_fldr (i := 7) (lo := 6) a3 a4 a1 rfl rfl lw_twC0
  obtain ⟨e2, x, hw2, hat2, h1, h2⟩ := lw_fld (i := 2) (lo := 0) (hi := 900) a3 a4 (show tk_ty ads lw_twC 6 yr from hty) rfl rfl lw_twC6
  obtain ⟨s, hs, rfl⟩ := nI_bd (n := 900) h1 h2
  exact ⟨e, e2, yr, s, hw, hat, hty, hw2, hs, hat2⟩
theorem fd_semC (hxt : tk_xtok xt) : lw_sem l D xt gc_TY (gc_X lw_twC) ads lw_twC 3 134 [0, 0, 0, 0, 0] [gn_i, gn_i, gn_i, gn_i, gn_i] (fd_Q (9, 2)) := by
  refine lw_sem_K (fun U ax ws av a1 a2 a3 a4 a5 a6 => ?_)
  obtain ⟨e, e2, yr, s, hw, hat, hty, hw2, hs, hat2⟩ := fd_wC a1 a3 a4
  obtain ⟨vals, hE, hG⟩ := lq_as_ok (rads := [ax, yr]) ([0, 0, 0, 0, 0].zip [gn_i, gn_i, gn_i, gn_i, gn_i]) av [] a2
  have hl : vals.length = 5 := by have := hE.len; exact this.symm
  have h6 : (vals ++ [(s : Int)])[5]? = some (s : Int) := by rw [List.getElem?_append_right (by omega), hl]; rfl
  have hn6 : ∀ c : Int, tk_num (vals ++ [(s : Int)]) (0, 6, 1, c) = some ((s : Int) + c) := fun c => by
    show (match (vals ++ [(s : Int)])[5]? with
      | some z => some (((1 : Nat) : Int) * z + c)
      | none => none) = _
    rw [h6]
    show some (1 * (s : Int) + c) = _
    rw [Int.one_mul]
  have hg6 : tk_g (vals ++ [(s : Int)]) [ax, yr] (0, 6, 1, 0) (.int (nI s)) := ⟨nI s, rfl, by rw [hn6 0, nI_i32 (by omega), Int.add_zero]⟩
  refine ⟨_, _, [6], [yr], _, _, _, vals ++ [(s : Int)], fd_C lw_gcU hxt, ⟨hE.push ⟨by show (0 : Int) ≤ _; omega, by show _ ≤ (900 : Int); omega⟩, fun q hq => absurd hq List.not_mem_nil⟩, ⟨hty, trivial⟩, hG.mono (fun _ _ h => tk_g_grow [(s : Int)] [] h), ?_, ?_⟩
  · intro z hz
    rcases List.mem_cons.mp hz with hz | hz
    · rw [hz]
      exact lw_fk (r := 0) (j := 0) (i := 7) rfl hw hat ⟨yr, rfl, rfl⟩
    · rw [List.mem_singleton.mp hz]
      exact lw_fk (r := 1) (j := 9) (i := 2) rfl hw2 hat2 hg6
  · intro y hy t vals' rads' ws' oc k1 k2 k3 k4 k5 k6 k7 k8
    have hv6 : vals'[5]? = some (s : Int) := lw_vals k1 h6
    have hn' : ∀ c : Int, tk_num vals' (0, 6, 1, c) = some ((s : Int) + c) := fun c => by
      obtain ⟨kk, rfl⟩ := k1
      exact tk_num_grow kk (hn6 c)
    have hr1 : rads'[1]? = some yr := lw_rads (r := 1) k2 rfl
    have hE' : ∀ (I : tk_I), y.2.1.1[5]? = some I → I.1 ≤ (s : Int) ∧ (s : Int) ≤ I.2 := fun I hI => by
      obtain ⟨z, hz, h⟩ := k3.1.get hI
      rw [hv6] at hz
      cases hz
      exact h
    rcases List.mem_cons.mp hy with hy | hy
    · subst hy
      have hb := hE' (0, 880) rfl
      obtain ⟨v, g1, g2⟩ := lw_fk_at (j := 9) (i := 2) a5 (k5.trans a3.symm) hr1 hw2 (k4 _ (List.mem_singleton.mpr rfl))
      obtain ⟨x, rfl, hx⟩ := tk_g0 g2 rfl
      rw [hn' 20] at hx
      have e1 : x = nI (s + 20) := Int32.toInt_inj.mp (by rw [nI_i32 (by omega)]; have := Option.some.inj hx; omega)
      obtain ⟨u, hg, eu⟩ := k8
      obtain ⟨x2, rfl, hx2⟩ := tk_g0 hg rfl
      rw [hn' 20] at hx2
      have e3 : x2 = nI (s + 20) := Int32.toInt_inj.mp (by rw [nI_i32 (by omega)]; have := Option.some.inj hx2; omega)
      exact ⟨_, eu, s, hs, hat2, Or.inl ⟨by have := hb.2; omega, by rw [e3], by rw [g1, e1]⟩⟩
    · rw [List.mem_singleton.mp hy] at hE' k4 k8
      have hb := hE' (881, 900) rfl
      obtain ⟨v, g1, g2⟩ := lw_fk_at (j := 9) (i := 2) a5 (k5.trans a3.symm) hr1 hw2 (k4 _ (List.mem_singleton.mpr rfl))
      obtain ⟨x, rfl, hx⟩ := tk_g0 g2 rfl
      rw [hn' 0] at hx
      have e1 : x = nI s := Int32.toInt_inj.mp (by rw [nI_i32 (by omega)]; have := Option.some.inj hx; omega)
      obtain ⟨u, hg, eu⟩ := k8
      obtain ⟨x2, rfl, hx2⟩ := tk_g_int hg
      exact ⟨_, eu, s, hs, hat2, Or.inr ⟨by have := hb.1; omega, congrArg Value.int (Int32.toInt_inj.mp hx2), by rw [g1, e1]⟩⟩
theorem fd_semM (hxt : tk_xtok xt) : lw_sem l D xt gn_TY (gn_X lw_twM) ads lw_twM 3 219 [0, 0, 0, 0, 0] [gn_i, gn_i, gn_i, gn_i, gn_i] (fd_Q (0, 10)) := by
  refine lw_sem_K (fun U ax ws av a1 a2 a3 a4 a5 a6 => ?_)
  obtain ⟨e, x0, hw, hat2, h1, h2⟩ := lw_fld (i := 10) (lo := 0) (hi := 900) a3 a4 a1 rfl rfl (fun j h => lw_twM_at h)
  obtain ⟨s, hs, rfl⟩ := nI_bd (n := 900) h1 h2
  obtain ⟨vals, hE, hG⟩ := lq_as_ok (rads := [ax]) ([0, 0, 0, 0, 0].zip [gn_i, gn_i, gn_i, gn_i, gn_i]) av [] a2
  have hl : vals.length = 5 := by have := hE.len; exact this.symm
  have h6 : (vals ++ [(s : Int)])[5]? = some (s : Int) := by rw [List.getElem?_append_right (by omega), hl]; rfl
  have hn6 : ∀ c : Int, tk_num (vals ++ [(s : Int)]) (0, 6, 1, c) = some ((s : Int) + c) := fun c => by
    show (match (vals ++ [(s : Int)])[5]? with
      | some z => some (((1 : Nat) : Int) * z + c)
      | none => none) = _
    rw [h6]
    show some (1 * (s : Int) + c) = _
    rw [Int.one_mul]
  have hg6 : tk_g (vals ++ [(s : Int)]) [ax] (0, 6, 1, 0) (.int (nI s)) := ⟨nI s, rfl, by rw [hn6 0, nI_i32 (by omega), Int.add_zero]⟩
  refine ⟨_, _, [], [], _, _, _, vals ++ [(s : Int)], tk_KS_X (gn_X1 gm_fmTy) (fun _ => True.intro) (by decide) (fd_M0 True.intro hxt), ⟨hE.push ⟨by show (0 : Int) ≤ _; omega, by show _ ≤ (900 : Int); omega⟩, fun q hq => absurd hq List.not_mem_nil⟩, trivial, hG.mono (fun _ _ h => tk_g_grow [(s : Int)] [] h), ?_, ?_⟩
  · intro z hz
    rw [List.mem_singleton.mp hz]
    exact lw_fk (r := 0) (j := 0) (i := 10) rfl hw hat2 hg6
  · intro y hy t vals' rads' ws' oc k1 k2 k3 k4 k5 k6 k7 k8
    have hv6 : vals'[5]? = some (s : Int) := lw_vals k1 h6
    have hn' : ∀ c : Int, tk_num vals' (0, 6, 1, c) = some ((s : Int) + c) := fun c => by
      obtain ⟨kk, rfl⟩ := k1
      exact tk_num_grow kk (hn6 c)
    have hr1 : rads'[0]? = some ax := lw_rads (r := 0) k2 rfl
    have hE' : ∀ (I : tk_I), y.2.1.1[5]? = some I → I.1 ≤ (s : Int) ∧ (s : Int) ≤ I.2 := fun I hI => by
      obtain ⟨z, hz, h⟩ := k3.1.get hI
      rw [hv6] at hz
      cases hz
      exact h
    rcases List.mem_cons.mp hy with hy | hy
    · subst hy
      have hb := hE' (0, 880) rfl
      obtain ⟨v, g1, g2⟩ := lw_fk_at (j := 0) (i := 10) a5 (k5.trans a3.symm) hr1 hw (k4 _ (List.mem_singleton.mpr rfl))
      obtain ⟨x, rfl, hx⟩ := tk_g0 g2 rfl
      rw [hn' 20] at hx
      have e1 : x = nI (s + 20) := Int32.toInt_inj.mp (by rw [nI_i32 (by omega)]; have := Option.some.inj hx; omega)
      obtain ⟨u, hg, eu⟩ := k8
      obtain ⟨x2, rfl, hx2⟩ := tk_g0 hg rfl
      rw [hn' 20] at hx2
      have e3 : x2 = nI (s + 20) := Int32.toInt_inj.mp (by rw [nI_i32 (by omega)]; have := Option.some.inj hx2; omega)
      exact ⟨_, eu, s, hs, hat2, Or.inl ⟨by have := hb.2; omega, by rw [e3], by rw [g1, e1]⟩⟩
    · rw [List.mem_singleton.mp hy] at hE' k4 k8
      have hb := hE' (881, 900) rfl
      obtain ⟨v, g1, g2⟩ := lw_fk_at (j := 0) (i := 10) a5 (k5.trans a3.symm) hr1 hw (k4 _ (List.mem_singleton.mpr rfl))
      obtain ⟨x, rfl, hx⟩ := tk_g0 g2 rfl
      rw [hn' 0] at hx
      have e1 : x = nI s := Int32.toInt_inj.mp (by rw [nI_i32 (by omega)]; have := Option.some.inj hx; omega)
      obtain ⟨u, hg, eu⟩ := k8
      obtain ⟨x2, rfl, hx2⟩ := tk_g_int hg
      exact ⟨_, eu, s, hs, hat2, Or.inr ⟨by have := hb.1; omega, congrArg Value.int (Int32.toInt_inj.mp hx2), by rw [g1, e1]⟩⟩
theorem lk_semC (hxt : tk_xtok xt) : lw_sem l D xt gc_TY (gc_X lw_twC) ads lw_twC 12 135 [0] [gn_i] (lk_Q 900 (9, 2)) := by
  refine lw_sem_K (fun U ax ws av a1 a2 a3 a4 a5 a6 => ?_)
  obtain ⟨e, e2, yr, s, hw, hat, hty, hw2, hs, hat2⟩ := fd_wC a1 a3 a4
  obtain ⟨v1, r1, rfl, h1, a2'⟩ := rk_A2.cons (show rk_A2 lq_av [(0, gn_i)] av from a2)
  obtain rfl := a2'.nil
  obtain ⟨n, rfl, hn1, hn2⟩ : ∃ n : Int32, v1 = .int n ∧ (-2147483648 : Int) ≤ n.toInt ∧ n.toInt ≤ 2147483647 := by
    rcases h1 with ⟨-, x, e, b1, b2⟩ | ⟨h1, -⟩
    · exact ⟨x, e, b1, b2⟩
    · cases h1
  refine ⟨_, _, [6], [yr], _, _, _, [n.toInt, (s : Int)], lk_C lw_gcU hxt, ⟨⟨⟨hn1, hn2⟩, ⟨by show (0 : Int) ≤ _; omega, by show _ ≤ (900 : Int); omega⟩, trivial⟩, fun q hq => absurd hq List.not_mem_nil⟩, ⟨hty, trivial⟩, ⟨⟨n, rfl, by show some (1 * n.toInt + 0) = _; congr 1; omega⟩, trivial⟩, ?_, ?_⟩
  · intro z hz
    rcases List.mem_cons.mp hz with hz | hz
    · rw [hz]
      exact lw_fk (r := 0) (j := 0) (i := 7) rfl hw hat ⟨yr, rfl, rfl⟩
    · rw [List.mem_singleton.mp hz]
      exact lw_fk (r := 1) (j := 9) (i := 2) rfl hw2 hat2 ⟨nI s, rfl, by show some (1 * (s : Int) + 0) = _; rw [nI_i32 (by omega)]; congr 1; omega⟩
  · intro y hy t vals' rads' ws' oc k1 k2 k3 k4 k5 k6 k7 k8
    have hv0 : vals'[0]? = some n.toInt := lw_vals k1 rfl
    have hv1 : vals'[1]? = some (s : Int) := lw_vals k1 rfl
    have hr1 : rads'[1]? = some yr := lw_rads (r := 1) k2 rfl
    have hE0 : ∀ (I : tk_I), y.2.1.1[0]? = some I → I.1 ≤ n.toInt ∧ n.toInt ≤ I.2 := fun I hI => by
      obtain ⟨z, hz, h⟩ := k3.1.get hI
      rw [hv0] at hz
      cases hz
      exact h
    have hC : ∀ q ∈ y.2.1.2, ∃ x y2 : Int, vals'[q.1]? = some x ∧ vals'[q.2.1]? = some y2 ∧ x ≤ y2 + q.2.2 := k3.2
    have keep : ∀ {v : Value}, tk_g vals' rads' (0, 2, 1, 0) v → v = .int (nI s) := fun {v} g2 => by
      obtain ⟨x, rfl, hx⟩ := tk_g0 g2 rfl
      have hx : (match vals'[1]? with
        | some z => some (((1 : Nat) : Int) * z + 0)
        | none => none) = some x.toInt := hx
      rw [hv1] at hx
      have hx : some (1 * (s : Int) + 0) = some x.toInt := hx
      exact congrArg Value.int (Int32.toInt_inj.mp (by rw [nI_i32 (by omega)]; have := Option.some.inj hx; omega))
    rcases List.mem_cons.mp hy with hy | hy
    · subst hy
      have hb := hE0 ((-2147483648), (-1)) rfl
      obtain ⟨v, g1, g2⟩ := lw_fk_at (j := 9) (i := 2) a5 (k5.trans a3.symm) hr1 hw2 (k4 _ (List.mem_singleton.mpr rfl))
      obtain ⟨u, hg, eu⟩ := k8
      obtain ⟨x2, rfl, hx2⟩ := tk_g_int hg
      exact ⟨_, eu, ⟨_, rfl⟩, s, n, rfl, hs, hat2, Or.inl ⟨fun h => by have := hb.2; have := h.1; omega, by rw [g1, keep g2]⟩⟩
    rcases List.mem_cons.mp hy with hy | hy
    · subst hy
      obtain ⟨p, q, hp, hq, hpq⟩ := hC (1, 0, (-1)) (List.mem_singleton.mpr rfl)
      rw [hv1] at hp
      rw [hv0] at hq
      cases hp
      cases hq
      obtain ⟨v, g1, g2⟩ := lw_fk_at (j := 9) (i := 2) a5 (k5.trans a3.symm) hr1 hw2 (k4 _ (List.mem_singleton.mpr rfl))
      obtain ⟨u, hg, eu⟩ := k8
      obtain ⟨x2, rfl, hx2⟩ := tk_g_int hg
      exact ⟨_, eu, ⟨_, rfl⟩, s, n, rfl, hs, hat2, Or.inl ⟨fun h => by have q1 : (s : Int) ≤ n.toInt + (-1) := hpq; have := h.2.1; omega, by rw [g1, keep g2]⟩⟩
    · rw [List.mem_singleton.mp hy] at hE0 hC k4 k8
      have hb := hE0 (0, 900) rfl
      obtain ⟨p, q, hp, hq, hpq⟩ := hC (0, 1, 0) (List.mem_singleton.mpr rfl)
      rw [hv0] at hp
      rw [hv1] at hq
      cases hp
      cases hq
      obtain ⟨v, g1, g2⟩ := lw_fk_at (j := 9) (i := 2) a5 (k5.trans a3.symm) hr1 hw2 (k4 _ (List.mem_singleton.mpr rfl))
      obtain ⟨u, hg, eu⟩ := k8
      obtain ⟨x2, rfl, -⟩ := tk_g0 hg rfl
      exact ⟨_, eu, ⟨_, rfl⟩, s, n, rfl, hs, hat2, Or.inr ⟨⟨hb.1, by have q1 : n.toInt ≤ (s : Int) + 0 := hpq; omega, hb.2⟩, by rw [g1, tk_g_nI (k := 0) (by decide) g2]⟩⟩
theorem ta_semC (hxt : tk_xtok xt) : lw_sem l D xt gc_TY (gc_X lw_twC) ads lw_twC 13 136 [0] [gn_i] (lk_Q 300 (9, 2)) := by
  refine lw_sem_K (fun U ax ws av a1 a2 a3 a4 a5 a6 => ?_)
  obtain ⟨e, e2, yr, s, hw, hat, hty, hw2, hs, hat2⟩ := fd_wC a1 a3 a4
  obtain ⟨v1, r1, rfl, h1, a2'⟩ := rk_A2.cons (show rk_A2 lq_av [(0, gn_i)] av from a2)
  obtain rfl := a2'.nil
  obtain ⟨n, rfl, hn1, hn2⟩ : ∃ n : Int32, v1 = .int n ∧ (-2147483648 : Int) ≤ n.toInt ∧ n.toInt ≤ 2147483647 := by
    rcases h1 with ⟨-, x, e, b1, b2⟩ | ⟨h1, -⟩
    · exact ⟨x, e, b1, b2⟩
    · cases h1
  refine ⟨_, _, [6], [yr], _, _, _, [n.toInt, (s : Int)], ta_C lw_gcU hxt, ⟨⟨⟨hn1, hn2⟩, ⟨by show (0 : Int) ≤ _; omega, by show _ ≤ (900 : Int); omega⟩, trivial⟩, fun q hq => absurd hq List.not_mem_nil⟩, ⟨hty, trivial⟩, ⟨⟨n, rfl, by show some (1 * n.toInt + 0) = _; congr 1; omega⟩, trivial⟩, ?_, ?_⟩
  · intro z hz
    rcases List.mem_cons.mp hz with hz | hz
    · rw [hz]
      exact lw_fk (r := 0) (j := 0) (i := 7) rfl hw hat ⟨yr, rfl, rfl⟩
    · rw [List.mem_singleton.mp hz]
      exact lw_fk (r := 1) (j := 9) (i := 2) rfl hw2 hat2 ⟨nI s, rfl, by show some (1 * (s : Int) + 0) = _; rw [nI_i32 (by omega)]; congr 1; omega⟩
  · intro y hy t vals' rads' ws' oc k1 k2 k3 k4 k5 k6 k7 k8
    have hv0 : vals'[0]? = some n.toInt := lw_vals k1 rfl
    have hv1 : vals'[1]? = some (s : Int) := lw_vals k1 rfl
    have hr1 : rads'[1]? = some yr := lw_rads (r := 1) k2 rfl
    have hE0 : ∀ (I : tk_I), y.2.1.1[0]? = some I → I.1 ≤ n.toInt ∧ n.toInt ≤ I.2 := fun I hI => by
      obtain ⟨z, hz, h⟩ := k3.1.get hI
      rw [hv0] at hz
      cases hz
      exact h
    have hC : ∀ q ∈ y.2.1.2, ∃ x y2 : Int, vals'[q.1]? = some x ∧ vals'[q.2.1]? = some y2 ∧ x ≤ y2 + q.2.2 := k3.2
    have keep : ∀ {v : Value}, tk_g vals' rads' (0, 2, 1, 0) v → v = .int (nI s) := fun {v} g2 => by
      obtain ⟨x, rfl, hx⟩ := tk_g0 g2 rfl
      have hx : (match vals'[1]? with
        | some z => some (((1 : Nat) : Int) * z + 0)
        | none => none) = some x.toInt := hx
      rw [hv1] at hx
      have hx : some (1 * (s : Int) + 0) = some x.toInt := hx
      exact congrArg Value.int (Int32.toInt_inj.mp (by rw [nI_i32 (by omega)]; have := Option.some.inj hx; omega))
    rcases List.mem_cons.mp hy with hy | hy
    · subst hy
      have hb := hE0 ((-2147483648), (-1)) rfl
      obtain ⟨v, g1, g2⟩ := lw_fk_at (j := 9) (i := 2) a5 (k5.trans a3.symm) hr1 hw2 (k4 _ (List.mem_singleton.mpr rfl))
      obtain ⟨u, hg, eu⟩ := k8
      obtain ⟨x2, rfl, hx2⟩ := tk_g_int hg
      exact ⟨_, eu, ⟨_, rfl⟩, s, n, rfl, hs, hat2, Or.inl ⟨fun h => by have := hb.2; have := h.1; omega, by rw [g1, keep g2]⟩⟩
    rcases List.mem_cons.mp hy with hy | hy
    · subst hy
      obtain ⟨p, q, hp, hq, hpq⟩ := hC (1, 0, (-1)) (List.mem_singleton.mpr rfl)
      rw [hv1] at hp
      rw [hv0] at hq
      cases hp
      cases hq
      obtain ⟨v, g1, g2⟩ := lw_fk_at (j := 9) (i := 2) a5 (k5.trans a3.symm) hr1 hw2 (k4 _ (List.mem_singleton.mpr rfl))
      obtain ⟨u, hg, eu⟩ := k8
      obtain ⟨x2, rfl, hx2⟩ := tk_g_int hg
      exact ⟨_, eu, ⟨_, rfl⟩, s, n, rfl, hs, hat2, Or.inl ⟨fun h => by have q1 : (s : Int) ≤ n.toInt + (-1) := hpq; have := h.2.1; omega, by rw [g1, keep g2]⟩⟩
    rcases List.mem_cons.mp hy with hy | hy
    · subst hy
      have hb := hE0 (301, 2147483647) rfl
      obtain ⟨v, g1, g2⟩ := lw_fk_at (j := 9) (i := 2) a5 (k5.trans a3.symm) hr1 hw2 (k4 _ (List.mem_singleton.mpr rfl))
      obtain ⟨u, hg, eu⟩ := k8
      obtain ⟨x2, rfl, hx2⟩ := tk_g_int hg
      exact ⟨_, eu, ⟨_, rfl⟩, s, n, rfl, hs, hat2, Or.inl ⟨fun h => by have := hb.1; have := h.2.2; omega, by rw [g1, keep g2]⟩⟩
    · rw [List.mem_singleton.mp hy] at hE0 hC k4 k8
      have hb := hE0 (0, 300) rfl
      obtain ⟨p, q, hp, hq, hpq⟩ := hC (0, 1, 0) (List.mem_singleton.mpr rfl)
      rw [hv0] at hp
      rw [hv1] at hq
      cases hp
      cases hq
      obtain ⟨v, g1, g2⟩ := lw_fk_at (j := 9) (i := 2) a5 (k5.trans a3.symm) hr1 hw2 (k4 _ (List.mem_singleton.mpr rfl))
      obtain ⟨u, hg, eu⟩ := k8
      obtain ⟨x2, rfl, -⟩ := tk_g0 hg rfl
      exact ⟨_, eu, ⟨_, rfl⟩, s, n, rfl, hs, hat2, Or.inr ⟨⟨hb.1, by have q1 : n.toInt ≤ (s : Int) + 0 := hpq; omega, hb.2⟩, by rw [g1, tk_g_nI (k := 0) (by decide) g2]⟩⟩
theorem lk_semM (hst : ∀ (Ad : Nat → Prop) (U : State) (H : Heap), xt Ad U H → ∃ pl v tx, sk_X pl v Ad U H ∧ vk_R "GooseIceModel" 189 tx pl U) : lw_sem l D xt gn_TY (gn_X lw_twM) ads lw_twM 14 246 [0] [gn_i] (lk_Q 900 (0, 10)) := by
  refine lw_sem_imp (fm_sem (k := 10) (f := 246) (n := 1) hst gn_fmTy gn_M1_ms (Q := fun xs g _ _ _ _ g' _ _ _ _ v => ∃ n : Int32, xs = [n] ∧ ∃ s : Nat, s ≤ 900 ∧ g 10 = nI s ∧ (¬ (0 ≤ n.toInt ∧ n.toInt ≤ (s : Int) ∧ n.toInt ≤ 900) ∧ g' 10 = nI s ∨ (0 ≤ n.toInt ∧ n.toInt ≤ (s : Int) ∧ n.toInt ≤ 900) ∧ g' 10 = nI 0)) (fun g tp bt a b xs hx hI => ?_)) ?_
  · obtain ⟨x0, xs0, rfl, hx0⟩ := fm_xsS hx
    obtain rfl := List.length_eq_zero_iff.mp hx0
    obtain ⟨s, hs, es⟩ := fm_I_10 hI
    obtain ⟨v, mem', hP, hf⟩ := fr_lake (g := g) (tp := tp) (bt := bt) (a := a) (b := b) (n := x0) ⟨s, hs, es⟩
    obtain ⟨v, g', tp', bt', a', b', e, h1, h2⟩ := fm_I_FL hI hP
    cases e
    refine ⟨v, g', tp', bt', a', b', hf, h1, h2, x0, rfl, s, hs, es, ?_⟩
    obtain ⟨v2, g2, a2, b2, e, hz⟩ := hP
    have e2 : g' 10 = g2 10 := Value.int.inj (Option.some.inj (fm_o_inj 10 (congrArg Prod.snd e)))
    rw [e2]
    have cv : (0 ≤ x0 ∧ x0 ≤ g 10 ∧ x0 ≤ 900) ↔ (0 ≤ x0.toInt ∧ x0.toInt ≤ (s : Int) ∧ x0.toInt ≤ 900) := by
      rw [Int32.le_iff_toInt_le, Int32.le_iff_toInt_le, Int32.le_iff_toInt_le, es, nI_i32 (by omega), show (900 : Int32).toInt = 900 from rfl, show (0 : Int32).toInt = 0 from rfl]
    rcases hz with ⟨z1, -, z3, -⟩ | ⟨z1, z2⟩
    · exact Or.inl ⟨fun h => z1 (cv.mpr h), by rw [z3, ← es]; rfl⟩
    · exact Or.inr ⟨cv.mp z1, z2.2.1⟩
  · rintro av ws ws' v - ⟨xs, g, tp, bt, a, b, g', tp', bt', a', b', x, rfl, rfl, k1, k2, -, -, n, rfl, s, hs, k3, k4⟩
    have p1 : lw_at ws (0, 10) = some (.int (g 10)) := k1.1 10 _ rfl (Nat.zero_le 1)
    have p2 : lw_at ws' (0, 10) = some (.int (g' 10)) := k2.1 10 _ rfl (Nat.zero_le 1)
    refine ⟨⟨_, rfl⟩, s, n, rfl, hs, by rw [p1, k3], ?_⟩
    rcases k4 with ⟨z1, z2⟩ | ⟨z1, z2⟩
    · exact Or.inl ⟨z1, by rw [p2, z2]⟩
    · exact Or.inr ⟨z1, by rw [p2, z2]⟩
theorem ta_semM (hst : ∀ (Ad : Nat → Prop) (U : State) (H : Heap), xt Ad U H → ∃ pl v tx, sk_X pl v Ad U H ∧ vk_R "GooseIceModel" 189 tx pl U) : lw_sem l D xt gn_TY (gn_X lw_twM) ads lw_twM 17 252 [0] [gn_i] (lk_Q 300 (0, 10)) := by
  refine lw_sem_imp (fm_sem (k := 13) (f := 252) (n := 1) hst gn_fmTy gn_M1_ms (Q := fun xs g _ _ _ _ g' _ _ _ _ v => ∃ n : Int32, xs = [n] ∧ ∃ s : Nat, s ≤ 900 ∧ g 10 = nI s ∧ (¬ (0 ≤ n.toInt ∧ n.toInt ≤ (s : Int) ∧ n.toInt ≤ 300) ∧ g' 10 = nI s ∨ (0 ≤ n.toInt ∧ n.toInt ≤ (s : Int) ∧ n.toInt ≤ 300) ∧ g' 10 = nI 0)) (fun g tp bt a b xs hx hI => ?_)) ?_
  · obtain ⟨x0, xs0, rfl, hx0⟩ := fm_xsS hx
    obtain rfl := List.length_eq_zero_iff.mp hx0
    obtain ⟨s, hs, es⟩ := fm_I_10 hI
    obtain ⟨v, mem', hP, hf⟩ := fr_tales (g := g) (tp := tp) (bt := bt) (a := a) (b := b) (n := x0) (fm_I_TH hI)
    obtain ⟨v, g', tp', bt', a', b', e, h1, h2⟩ := fm_I_FTA hI hP
    cases e
    refine ⟨v, g', tp', bt', a', b', hf, h1, h2, x0, rfl, s, hs, es, ?_⟩
    obtain ⟨v2, g2, a2, e, hz⟩ := hP
    have e2 : g' 10 = g2 10 := Value.int.inj (Option.some.inj (fm_o_inj 10 (congrArg Prod.snd e)))
    rw [e2]
    have cv : (0 ≤ x0 ∧ x0 ≤ g 10 ∧ x0 ≤ 300) ↔ (0 ≤ x0.toInt ∧ x0.toInt ≤ (s : Int) ∧ x0.toInt ≤ 300) := by
      rw [Int32.le_iff_toInt_le, Int32.le_iff_toInt_le, Int32.le_iff_toInt_le, es, nI_i32 (by omega), show (300 : Int32).toInt = 300 from rfl, show (0 : Int32).toInt = 0 from rfl]
    rcases hz with ⟨z1, -, z3, -⟩ | ⟨z1, z2⟩
    · exact Or.inl ⟨fun h => z1 (cv.mpr h), by rw [z3, ← es]; rfl⟩
    · exact Or.inr ⟨cv.mp z1, z2.2.1⟩
  · rintro av ws ws' v - ⟨xs, g, tp, bt, a, b, g', tp', bt', a', b', x, rfl, rfl, k1, k2, -, -, n, rfl, s, hs, k3, k4⟩
    have p1 : lw_at ws (0, 10) = some (.int (g 10)) := k1.1 10 _ rfl (Nat.zero_le 1)
    have p2 : lw_at ws' (0, 10) = some (.int (g' 10)) := k2.1 10 _ rfl (Nat.zero_le 1)
    refine ⟨⟨_, rfl⟩, s, n, rfl, hs, by rw [p1, k3], ?_⟩
    rcases k4 with ⟨z1, z2⟩ | ⟨z1, z2⟩
    · exact Or.inl ⟨z1, by rw [p2, z2]⟩
    · exact Or.inr ⟨z1, by rw [p2, z2]⟩
end FDC
