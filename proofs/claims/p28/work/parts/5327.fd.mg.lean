section MH33_0
/-! ===== the tape: how many bytes it has ===== -/
def fd_Q (z : Nat × Nat) : List Value → va_W → va_W → Value → Prop := fun _ ws ws' v => ∃ s : Nat, s ≤ 900 ∧ lw_at ws z = some (.int (nI s)) ∧ (s ≤ 880 ∧ v = .int (nI (s + 20)) ∧ lw_at ws' z = some (.int (nI (s + 20))) ∨ 880 < s ∧ v = .int (-1) ∧ lw_at ws' z = some (.int (nI s)))
def lk_Q (M : Int) (z : Nat × Nat) : List Value → va_W → va_W → Value → Prop := fun av ws ws' v => lr_ty 0 v ∧ ∃ (s : Nat) (n : Int32), av = [.int n] ∧ s ≤ 900 ∧ lw_at ws z = some (.int (nI s)) ∧ (¬ (0 ≤ n.toInt ∧ n.toInt ≤ (s : Int) ∧ n.toInt ≤ M) ∧ lw_at ws' z = some (.int (nI s)) ∨ (0 ≤ n.toInt ∧ n.toInt ≤ (s : Int) ∧ n.toInt ≤ M) ∧ lw_at ws' z = some (.int (nI 0)))
theorem fd_int {z : Nat × Nat} {av : List Value} {c0 c1 : va_W} {v : Value} (h : fd_Q z av c0 c1 v) : lr_ty 0 v := by
  obtain ⟨k, -, -, ⟨-, rfl, -⟩ | ⟨-, rfl, -⟩⟩ := h
  · exact ⟨_, rfl⟩
  · exact ⟨_, rfl⟩
theorem nI_injS {k j : Nat} (hk : k < 2147483648) (hj : j < 2147483648) (h : some (Value.int (nI k)) = some (.int (nI j))) : k = j := by
  have h1 : nI k = nI j := Value.int.inj (Option.some.inj h)
  have h2 : (nI k).toInt = (nI j).toInt := by rw [h1]
  rw [nI_i32 hk, nI_i32 hj] at h2
  omega
theorem fd_rel {z y : Nat × Nat} {av av2 : List Value} {c0 c1 m0 m1 : va_W} {u w : Value} (h : lw_at c0 z = lw_at m0 y) (h1 : fd_Q z av c0 c1 u) (h2 : fd_Q y av2 m0 m1 w) : u = w ∧ lw_at c1 z = lw_at m1 y := by
  obtain ⟨k, a1, a2, a3⟩ := h1
  obtain ⟨j, b1, b2, b3⟩ := h2
  have e : k = j := nI_injS (by omega) (by omega) (by rw [← a2, ← b2, h])
  subst e
  rcases a3 with ⟨p1, p2, p3⟩ | ⟨p1, p2, p3⟩ <;> rcases b3 with ⟨q1, q2, q3⟩ | ⟨q1, q2, q3⟩
  · exact ⟨by rw [p2, q2], by rw [p3, q3]⟩
  · omega
  · omega
  · exact ⟨by rw [p2, q2], by rw [p3, q3]⟩
theorem lk_rel {M : Int} {z y : Nat × Nat} {av : List Value} {c0 c1 m0 m1 : va_W} {u w : Value} (h : lw_at c0 z = lw_at m0 y) (h1 : lk_Q M z av c0 c1 u) (h2 : lk_Q M y av m0 m1 w) : lw_at c1 z = lw_at m1 y := by
  obtain ⟨-, k, n, a0, a1, a2, a3⟩ := h1
  obtain ⟨-, j, n', b0, b1, b2, b3⟩ := h2
  have e : k = j := nI_injS (by omega) (by omega) (by rw [← a2, ← b2, h])
  subst e
  rw [a0] at b0
  have e : n = n' := by injection b0 with a b; exact Value.int.inj a
  subst e
  rcases a3 with ⟨p1, p2⟩ | ⟨p1, p2⟩ <;> rcases b3 with ⟨q1, q2⟩ | ⟨q1, q2⟩
  · rw [p2, q2]
  · exact absurd q1 p1
  · exact absurd p1 q1
  · rw [p2, q2]
theorem lw_twC6 : ∀ j, lw_twC[j]? = some 6 → j = 9 := by
  intro j h
  have hb : j < 270 := lw_ltC h
  have : ∀ j, j < 270 → lw_twC[j]? = some 6 → j = 9 := by decide +kernel
  exact this j hb h
theorem lw_twC9 : lw_twC[9]? = some 6 := by decide +kernel
/-- a field that is a reference -/
theorem lw_fldr {TY : tk_TT} {ads tw : List Nat} {U : State} {ws : va_W} {t y i j0 : Nat} {lo : Int} {o : Nat × List tk_F} (h4 : ws.map Prod.fst = ads) (h5 : rk_A2 (fun b (q : Nat × va_E) => tk_cl TY lc_ro ads tw U b q.2) tw ws) (hty : tk_ty ads tw t y) (ho : TY.1[t]? = some (.inl o)) (hf : o.2[i]? = some (2, lo, 0)) (hj : ∀ j, tw[j]? = some t → j = j0) : ∃ (e : va_E) (x : Nat), ws[j0]? = some (y, e) ∧ lw_at ws (j0, i) = some (.ref x) ∧ tk_ty ads tw lo.toNat x := by
  obtain ⟨j, e, hw, ht, hc⟩ := tk_cell h4 h5 hty
  have := hj j ht
  subst this
  unfold tk_cl at hc
  rw [ho] at hc
  obtain ⟨vs, rfl, hvl, hvs⟩ := hc
  have hlt : i < vs.length := by rw [hvl]; exact (List.getElem?_eq_some_iff.mp hf).1
  obtain ⟨x, hx, h1⟩ : ∃ x : Nat, vs[i] = .ref x ∧ tk_ty ads tw (lo.toNat + i * (0 : Int).toNat) x := hvs i _ _ hf (List.getElem?_eq_getElem hlt)
  refine ⟨_, x, hw, ?_, by rw [show lo.toNat + i * (0 : Int).toNat = lo.toNat by show lo.toNat + i * 0 = _; omega] at h1; exact h1⟩
  unfold lw_at
  dsimp only
  rw [hw]
  show vs[i]? = _
  rw [List.getElem?_eq_getElem hlt, hx]
section FDC
variable {l : Launch} {D : va_G} {xt : tk_XT} {ads tw : List Nat}
def fd_KC : tk_K := (134, [(2, 0, 0, 0), (0, 1, 1, 0), (0, 2, 1, 0), (0, 3, 1, 0), (0, 4, 1, 0), (0, 5, 1, 0)], ([((-2147483648), 2147483647), ((-2147483648), 2147483647), ((-2147483648), 2147483647), ((-2147483648), 2147483647), ((-2147483648), 2147483647), (0, 900)], []), [0, 6], [(0, (0, 0, 0, 7), (2, 1, 0, 0)), (1, (0, 0, 0, 2), (0, 6, 1, 0))], ([(some (0, 6, 1, 20), ([((-2147483648), 2147483647), ((-2147483648), 2147483647), ((-2147483648), 2147483647), ((-2147483648), 2147483647), ((-2147483648), 2147483647), (0, 880)], []), [0, 6], [(1, (0, 0, 0, 2), (0, 6, 1, 20))]), (some (0, 0, 0, (-1)), ([((-2147483648), 2147483647), ((-2147483648), 2147483647), ((-2147483648), 2147483647), ((-2147483648), 2147483647), ((-2147483648), 2147483647), (881, 900)], []), [0, 6], [(1, (0, 0, 0, 2), (0, 6, 1, 0))])], [(6, 2), (7, 0)]))
theorem fd_C (hU : gc_U tw) (hxt : tk_xtok xt) : tk_KS l D gk_cl gk_tbl gk_xw xt gk_MN gk_P gc_TY lc_ro (gc_X tw) ads tw 3 fd_KC := tk_contract (hk := tk_hk0) tk_hk0_ok (gc_xs hU) hxt gk_rok [100, 101] 9000 2 0 (Ks := []) (d := 0) (fun _ h => absurd h List.not_mem_nil) (Hs := []) (by decide +kernel) rfl
def fd_KM : tk_K := (219, [(2, 0, 0, 0), (0, 1, 1, 0), (0, 2, 1, 0), (0, 3, 1, 0), (0, 4, 1, 0), (0, 5, 1, 0)], ([((-2147483648), 2147483647), ((-2147483648), 2147483647), ((-2147483648), 2147483647), ((-2147483648), 2147483647), ((-2147483648), 2147483647), (0, 900)], []), [0], [(0, (0, 0, 0, 10), (0, 6, 1, 0))], ([(some (0, 6, 1, 20), ([((-2147483648), 2147483647), ((-2147483648), 2147483647), ((-2147483648), 2147483647), ((-2147483648), 2147483647), ((-2147483648), 2147483647), (0, 880)], []), [0], [(0, (0, 0, 0, 10), (0, 6, 1, 20))]), (some (0, 0, 0, (-1)), ([((-2147483648), 2147483647), ((-2147483648), 2147483647), ((-2147483648), 2147483647), ((-2147483648), 2147483647), ((-2147483648), 2147483647), (881, 900)], []), [0], [(0, (0, 0, 0, 10), (0, 6, 1, 0))])], [(0, 10), (6, 0)]))
theorem fd_M0 (hU : gm_U tw) (hxt : tk_xtok xt) : tk_KS l D gk_cl gk_tbl gk_xw xt gk_MN gk_P gm_TY lc_ro (gm_X tw) ads tw 3 fd_KM := tk_contract (hk := tk_hk0) tk_hk0_ok (gm_xs hU) hxt gk_rok [220] 9000 2 0 (Ks := []) (d := 0) (fun _ h => absurd h List.not_mem_nil) (Hs := []) (by decide +kernel) rfl
def lk_KC : tk_K := (135, [(2, 0, 0, 0), (0, 1, 1, 0)], ([((-2147483648), 2147483647), (0, 900)], []), [0, 6], [(0, (0, 0, 0, 7), (2, 1, 0, 0)), (1, (0, 0, 0, 2), (0, 2, 1, 0))], ([(some (0, 0, 0, (-1)), ([((-2147483648), (-1)), (0, 900)], []), [0, 6], [(1, (0, 0, 0, 2), (0, 2, 1, 0))]), (some (0, 0, 0, (-1)), ([(0, 2147483647), (0, 900)], [(1, 0, (-1))]), [0, 6], [(1, (0, 0, 0, 2), (0, 2, 1, 0))]), (some (0, 3, 1, 0), ([(0, 900), (0, 900), ((-2147483648), 2147483647)], [(0, 1, 0)]), [0, 6], [(1, (0, 0, 0, 2), (0, 0, 0, 0))])], gc_K49.2.2.2.2.2.2))
theorem lk_C (hU : gc_U tw) (hxt : tk_xtok xt) : tk_KS l D gk_cl gk_tbl gk_xw xt gk_MN gk_P gc_TY lc_ro (gc_X tw) ads tw 12 lk_KC := tk_contract (hk := tk_hk0) tk_hk0_ok (gc_xs hU) hxt gk_rok [102, 186, 187] 9000 1 0 (Ks := [gc_K12, gc_K44, gc_K47, gc_K48]) (d := 10) (List.forall_mem_cons.mpr ⟨tk_KS_up (by decide) (gc_12 hU hxt), (List.forall_mem_cons.mpr ⟨tk_KS_up (by decide) (gc_44 hU hxt), (List.forall_mem_cons.mpr ⟨tk_KS_up (by decide) (gc_47 hU hxt), (List.forall_mem_cons.mpr ⟨tk_KS_up (by decide) (gc_48 hU hxt), (fun _ h => absurd h List.not_mem_nil)⟩)⟩)⟩)⟩) (Hs := []) (by decide +kernel) rfl
def ta_KC : tk_K := (136, [(2, 0, 0, 0), (0, 1, 1, 0)], ([((-2147483648), 2147483647), (0, 900)], []), [0, 6], [(0, (0, 0, 0, 7), (2, 1, 0, 0)), (1, (0, 0, 0, 2), (0, 2, 1, 0))], ([(some (0, 0, 0, (-1)), ([((-2147483648), (-1)), (0, 900)], []), [0, 6], [(1, (0, 0, 0, 2), (0, 2, 1, 0))]), (some (0, 0, 0, (-1)), ([(0, 2147483647), (0, 900)], [(1, 0, (-1))]), [0, 6], [(1, (0, 0, 0, 2), (0, 2, 1, 0))]), (some (0, 0, 0, (-1)), ([(301, 2147483647), (0, 900)], []), [0, 6], [(1, (0, 0, 0, 2), (0, 2, 1, 0))]), (some (0, 3, 1, 0), ([(0, 300), (0, 900), ((-2147483648), 2147483647)], [(0, 1, 0)]), [0, 6], [(1, (0, 0, 0, 2), (0, 0, 0, 0))])], gc_K61.2.2.2.2.2.2))
theorem ta_C (hU : gc_U tw) (hxt : tk_xtok xt) : tk_KS l D gk_cl gk_tbl gk_xw xt gk_MN gk_P gc_TY lc_ro (gc_X tw) ads tw 13 ta_KC := tk_contract (hk := tk_hk0) tk_hk0_ok (gc_xs hU) hxt gk_rok [102, 186, 187] 9000 1 0 (Ks := [gc_K12, gc_K59, gc_K60]) (d := 11) (List.forall_mem_cons.mpr ⟨tk_KS_up (by decide) (gc_12 hU hxt), (List.forall_mem_cons.mpr ⟨tk_KS_up (by decide) (gc_59 hU hxt), (List.forall_mem_cons.mpr ⟨tk_KS_up (by decide) (gc_60 hU hxt), (fun _ h => absurd h List.not_mem_nil)⟩)⟩)⟩) (Hs := []) (by decide +kernel) rfl
/-- the reader's place of the tape's length, in the class's world -/
theorem fd_wC {U : State} {ax : Nat} {ws : va_W} (a1 : tk_ty ads lw_twC 0 ax) (a3 : ws.map Prod.fst = ads) (a4 : rk_A2 (fun b (q : Nat × va_E) => tk_cl gc_TY lc_ro ads lw_twC U b q.2) lw_twC ws) : ∃ (e e2 : va_E) (yr s : Nat), ws[0]? = some (ax, e) ∧ lw_at ws (0, 7) = some (.ref yr) ∧ tk_ty ads lw_twC 6 yr ∧ ws[9]? = some (yr, e2) ∧ s ≤ 900 ∧ lw_at ws (9, 2) = some (.int (nI s)) := by
  obtain ⟨e, yr, hw, hat, hty⟩ := lw_fldr (i := 7) (lo := 6) a3 a4 a1 rfl rfl lw_twC0
  obtain ⟨e2, x, hw2, hat2, h1, h2⟩ := lw_fld (i := 2) (lo := 0) (hi := 900) a3 a4 (show tk_ty ads lw_twC 6 yr from hty) rfl rfl lw_twC6
  obtain ⟨s, hs, rfl⟩ := nI_bd (n := 900) h1 h2
  exact ⟨e, e2, yr, s, hw, hat, hty, hw2, hs, hat2⟩
theorem fd_semC (hxt : tk_xtok xt) : lw_sem l D xt gc_TY (gc_X lw_twC) ads lw_twC 3 134 [0, 0, 0, 0, 0] [gn_i, gn_i, gn_i, gn_i, gn_i] (fd_Q (9, 2)) := by
  refine lw_sem_K (fun U ax ws av a1 a2 a3 a4 a5 a6 => ?_)
  obtain ⟨e, e2, yr, s, hw, hat, hty, hw2, hs, hat2⟩ := fd_wC a1 a3 a4
  obtain ⟨vals, hE, hG⟩ := lq_as_ok (rads := [ax, yr]) ([0, 0, 0, 0, 0].zip [gn_i, gn_i, gn_i, gn_i, gn_i]) av [] a2
  have hl : vals.length = 5 := by have := hE.len; exact this.symm
  have h6 : (vals ++ [(s : Int)])[5]? = some (s : Int) := by rw [List.getElem?_append_right (by omega), hl]; rfl
  have hn6 : ∀ c : Int, tk_num (vals ++ [(s : Int)]) (0, 6, 1, c) = some ((s : Int) + c) := fun c => by
    show (match (vals ++ [(s : Int)])[5]? with
      | some z => some (((1 : Nat) : Int) * z + c)
      | none => none) = _
    rw [h6]
    show some (1 * (s : Int) + c) = _
    rw [Int.one_mul]
  have hg6 : tk_g (vals ++ [(s : Int)]) [ax, yr] (0, 6, 1, 0) (.int (nI s)) := ⟨nI s, rfl, by rw [hn6 0, nI_i32 (by omega), Int.add_zero]⟩
  refine ⟨_, _, [6], [yr], _, _, _, vals ++ [(s : Int)], fd_C lw_gcU hxt, ⟨hE.push ⟨by show (0 : Int) ≤ _; omega, by show _ ≤ (900 : Int); omega⟩, fun q hq => absurd hq List.not_mem_nil⟩, ⟨hty, trivial⟩, hG.mono (fun _ _ h => tk_g_grow [(s : Int)] [] h), ?_, ?_⟩
  · intro z hz
    rcases List.mem_cons.mp hz with hz | hz
    · rw [hz]
      exact lw_fk (r := 0) (j := 0) (i := 7) rfl hw hat ⟨yr, rfl, rfl⟩
    · rw [List.mem_singleton.mp hz]
      exact lw_fk (r := 1) (j := 9) (i := 2) rfl hw2 hat2 hg6
  · intro y hy t vals' rads' ws' oc k1 k2 k3 k4 k5 k6 k7 k8
    have hv6 : vals'[5]? = some (s : Int) := lw_vals k1 h6
    have hn' : ∀ c : Int, tk_num vals' (0, 6, 1, c) = some ((s : Int) + c) := fun c => by
      obtain ⟨kk, rfl⟩ := k1
      exact tk_num_grow kk (hn6 c)
    have hr1 : rads'[1]? = some yr := lw_rads (r := 1) k2 rfl
    have hE' : ∀ (I : tk_I), y.2.1.1[5]? = some I → I.1 ≤ (s : Int) ∧ (s : Int) ≤ I.2 := fun I hI => by
      obtain ⟨z, hz, h⟩ := k3.1.get hI
      rw [hv6] at hz
      cases hz
      exact h
    rcases List.mem_cons.mp hy with hy | hy
    · subst hy
      have hb := hE' (0, 880) rfl
      obtain ⟨v, g1, g2⟩ := lw_fk_at (j := 9) (i := 2) a5 (k5.trans a3.symm) hr1 hw2 (k4 _ (List.mem_singleton.mpr rfl))
      obtain ⟨x, rfl, hx⟩ := tk_g0 g2 rfl
      rw [hn' 20] at hx
      have e1 : x = nI (s + 20) := Int32.toInt_inj.mp (by rw [nI_i32 (by omega)]; have := Option.some.inj hx; omega)
      obtain ⟨u, hg, eu⟩ := k8
      obtain ⟨x2, rfl, hx2⟩ := tk_g0 hg rfl
      rw [hn' 20] at hx2
      have e3 : x2 = nI (s + 20) := Int32.toInt_inj.mp (by rw [nI_i32 (by omega)]; have := Option.some.inj hx2; omega)
      exact ⟨_, eu, s, hs, hat2, Or.inl ⟨by have := hb.2; omega, by rw [e3], by rw [g1, e1]⟩⟩
    · rw [List.mem_singleton.mp hy] at hE' k4 k8
      have hb := hE' (881, 900) rfl
      obtain ⟨v, g1, g2⟩ := lw_fk_at (j := 9) (i := 2) a5 (k5.trans a3.symm) hr1 hw2 (k4 _ (List.mem_singleton.mpr rfl))
      obtain ⟨x, rfl, hx⟩ := tk_g0 g2 rfl
      rw [hn' 0] at hx
      have e1 : x = nI s := Int32.toInt_inj.mp (by rw [nI_i32 (by omega)]; have := Option.some.inj hx; omega)
      obtain ⟨u, hg, eu⟩ := k8
      obtain ⟨x2, rfl, hx2⟩ := tk_g_int hg
      exact ⟨_, eu, s, hs, hat2, Or.inr ⟨by have := hb.1; omega, congrArg Value.int (Int32.toInt_inj.mp hx2), by rw [g1, e1]⟩⟩
theorem fd_semM (hxt : tk_xtok xt) : lw_sem l D xt gn_TY (gn_X lw_twM) ads lw_twM 3 219 [0, 0, 0, 0, 0] [gn_i, gn_i, gn_i, gn_i, gn_i] (fd_Q (0, 10)) := by
  refine lw_sem_K (fun U ax ws av a1 a2 a3 a4 a5 a6 => ?_)
  obtain ⟨e, x0, hw, hat2, h1, h2⟩ := lw_fld (i := 10) (lo := 0) (hi := 900) a3 a4 a1 rfl rfl (fun j h => lw_twM_at h)
  obtain ⟨s, hs, rfl⟩ := nI_bd (n := 900) h1 h2
  obtain ⟨vals, hE, hG⟩ := lq_as_ok (rads := [ax]) ([0, 0, 0, 0, 0].zip [gn_i, gn_i, gn_i, gn_i, gn_i]) av [] a2
  have hl : vals.length = 5 := by have := hE.len; exact this.symm
  have h6 : (vals ++ [(s : Int)])[5]? = some (s : Int) := by rw [List.getElem?_append_right (by omega), hl]; rfl
  have hn6 : ∀ c : Int, tk_num (vals ++ [(s : Int)]) (0, 6, 1, c) = some ((s : Int) + c) := fun c => by
    show (match (vals ++ [(s : Int)])[5]? with
      | some z => some (((1 : Nat) : Int) * z + c)
      | none => none) = _
    rw [h6]
    show some (1 * (s : Int) + c) = _
    rw [Int.one_mul]
  have hg6 : tk_g (vals ++ [(s : Int)]) [ax] (0, 6, 1, 0) (.int (nI s)) := ⟨nI s, rfl, by rw [hn6 0, nI_i32 (by omega), Int.add_zero]⟩
  refine ⟨_, _, [], [], _, _, _, vals ++ [(s : Int)], tk_KS_X (gn_X1 gm_fmTy) (fun _ => True.intro) (by decide) (fd_M0 True.intro hxt), ⟨hE.push ⟨by show (0 : Int) ≤ _; omega, by show _ ≤ (900 : Int); omega⟩, fun q hq => absurd hq List.not_mem_nil⟩, trivial, hG.mono (fun _ _ h => tk_g_grow [(s : Int)] [] h), ?_, ?_⟩
  · intro z hz
    rw [List.mem_singleton.mp hz]
    exact lw_fk (r := 0) (j := 0) (i := 10) rfl hw hat2 hg6
  · intro y hy t vals' rads' ws' oc k1 k2 k3 k4 k5 k6 k7 k8
    have hv6 : vals'[5]? = some (s : Int) := lw_vals k1 h6
    have hn' : ∀ c : Int, tk_num vals' (0, 6, 1, c) = some ((s : Int) + c) := fun c => by
      obtain ⟨kk, rfl⟩ := k1
      exact tk_num_grow kk (hn6 c)
    have hr1 : rads'[0]? = some ax := lw_rads (r := 0) k2 rfl
    have hE' : ∀ (I : tk_I), y.2.1.1[5]? = some I → I.1 ≤ (s : Int) ∧ (s : Int) ≤ I.2 := fun I hI => by
      obtain ⟨z, hz, h⟩ := k3.1.get hI
      rw [hv6] at hz
      cases hz
      exact h
    rcases List.mem_cons.mp hy with hy | hy
    · subst hy
      have hb := hE' (0, 880) rfl
      obtain ⟨v, g1, g2⟩ := lw_fk_at (j := 0) (i := 10) a5 (k5.trans a3.symm) hr1 hw (k4 _ (List.mem_singleton.mpr rfl))
      obtain ⟨x, rfl, hx⟩ := tk_g0 g2 rfl
      rw [hn' 20] at hx
      have e1 : x = nI (s + 20) := Int32.toInt_inj.mp (by rw [nI_i32 (by omega)]; have := Option.some.inj hx; omega)
      obtain ⟨u, hg, eu⟩ := k8
      obtain ⟨x2, rfl, hx2⟩ := tk_g0 hg rfl
      rw [hn' 20] at hx2
      have e3 : x2 = nI (s + 20) := Int32.toInt_inj.mp (by rw [nI_i32 (by omega)]; have := Option.some.inj hx2; omega)
      exact ⟨_, eu, s, hs, hat2, Or.inl ⟨by have := hb.2; omega, by rw [e3], by rw [g1, e1]⟩⟩
    · rw [List.mem_singleton.mp hy] at hE' k4 k8
      have hb := hE' (881, 900) rfl
      obtain ⟨v, g1, g2⟩ := lw_fk_at (j := 0) (i := 10) a5 (k5.trans a3.symm) hr1 hw (k4 _ (List.mem_singleton.mpr rfl))
      obtain ⟨x, rfl, hx⟩ := tk_g0 g2 rfl
      rw [hn' 0] at hx
      have e1 : x = nI s := Int32.toInt_inj.mp (by rw [nI_i32 (by omega)]; have := Option.some.inj hx; omega)
      obtain ⟨u, hg, eu⟩ := k8
      obtain ⟨x2, rfl, hx2⟩ := tk_g_int hg
      exact ⟨_, eu, s, hs, hat2, Or.inr ⟨by have := hb.1; omega, congrArg Value.int (Int32.toInt_inj.mp hx2), by rw [g1, e1]⟩⟩
theorem lk_semC (hxt : tk_xtok xt) : lw_sem l D xt gc_TY (gc_X lw_twC) ads lw_twC 12 135 [0] [gn_i] (lk_Q 900 (9, 2)) := by
  refine lw_sem_K (fun U ax ws av a1 a2 a3 a4 a5 a6 => ?_)
  obtain ⟨e, e2, yr, s, hw, hat, hty, hw2, hs, hat2⟩ := fd_wC a1 a3 a4
  obtain ⟨v1, r1, rfl, h1, a2'⟩ := rk_A2.cons (show rk_A2 lq_av [(0, gn_i)] av from a2)
  obtain rfl := a2'.nil
  obtain ⟨n, rfl, hn1, hn2⟩ : ∃ n : Int32, v1 = .int n ∧ (-2147483648 : Int) ≤ n.toInt ∧ n.toInt ≤ 2147483647 := by
    rcases h1 with ⟨-, x, e, b1, b2⟩ | ⟨h1, -⟩
    · exact ⟨x, e, b1, b2⟩
    · cases h1
  refine ⟨_, _, [6], [yr], _, _, _, [n.toInt, (s : Int)], lk_C lw_gcU hxt, ⟨⟨⟨hn1, hn2⟩, ⟨by show (0 : Int) ≤ _; omega, by show _ ≤ (900 : Int); omega⟩, trivial⟩, fun q hq => absurd hq List.not_mem_nil⟩, ⟨hty, trivial⟩, ⟨⟨n, rfl, by show some (1 * n.toInt + 0) = _; congr 1; omega⟩, trivial⟩, ?_, ?_⟩
  · intro z hz
    rcases List.mem_cons.mp hz with hz | hz
    · rw [hz]
      exact lw_fk (r := 0) (j := 0) (i := 7) rfl hw hat ⟨yr, rfl, rfl⟩
    · rw [List.mem_singleton.mp hz]
      exact lw_fk (r := 1) (j := 9) (i := 2) rfl hw2 hat2 ⟨nI s, rfl, by show some (1 * (s : Int) + 0) = _; rw [nI_i32 (by omega)]; congr 1; omega⟩
  · intro y hy t vals' rads' ws' oc k1 k2 k3 k4 k5 k6 k7 k8
    have hv0 : vals'[0]? = some n.toInt := lw_vals k1 rfl
    have hv1 : vals'[1]? = some (s : Int) := lw_vals k1 rfl
    have hr1 : rads'[1]? = some yr := lw_rads (r := 1) k2 rfl
    have hE0 : ∀ (I : tk_I), y.2.1.1[0]? = some I → I.1 ≤ n.toInt ∧ n.toInt ≤ I.2 := fun I hI => by
      obtain ⟨z, hz, h⟩ := k3.1.get hI
      rw [hv0] at hz
      cases hz
      exact h
    have hC : ∀ q ∈ y.2.1.2, ∃ x y2 : Int, vals'[q.1]? = some x ∧ vals'[q.2.1]? = some y2 ∧ x ≤ y2 + q.2.2 := k3.2
    have keep : ∀ {v : Value}, tk_g vals' rads' (0, 2, 1, 0) v → v = .int (nI s) := fun {v} g2 => by
      obtain ⟨x, rfl, hx⟩ := tk_g0 g2 rfl
      have hx : (match vals'[1]? with
        | some z => some (((1 : Nat) : Int) * z + 0)
        | none => none) = some x.toInt := hx
      rw [hv1] at hx
      have hx : some (1 * (s : Int) + 0) = some x.toInt := hx
      exact congrArg Value.int (Int32.toInt_inj.mp (by rw [nI_i32 (by omega)]; have := Option.some.inj hx; omega))
    rcases List.mem_cons.mp hy with hy | hy
    · subst hy
      have hb := hE0 ((-2147483648), (-1)) rfl
      obtain ⟨v, g1, g2⟩ := lw_fk_at (j := 9) (i := 2) a5 (k5.trans a3.symm) hr1 hw2 (k4 _ (List.mem_singleton.mpr rfl))
      obtain ⟨u, hg, eu⟩ := k8
      obtain ⟨x2, rfl, hx2⟩ := tk_g_int hg
      exact ⟨_, eu, ⟨_, rfl⟩, s, n, rfl, hs, hat2, Or.inl ⟨fun h => by have := hb.2; have := h.1; omega, by rw [g1, keep g2]⟩⟩
    rcases List.mem_cons.mp hy with hy | hy
    · subst hy
      obtain ⟨p, q, hp, hq, hpq⟩ := hC (1, 0, (-1)) (List.mem_singleton.mpr rfl)
      rw [hv1] at hp
      rw [hv0] at hq
      cases hp
      cases hq
      obtain ⟨v, g1, g2⟩ := lw_fk_at (j := 9) (i := 2) a5 (k5.trans a3.symm) hr1 hw2 (k4 _ (List.mem_singleton.mpr rfl))
      obtain ⟨u, hg, eu⟩ := k8
      obtain ⟨x2, rfl, hx2⟩ := tk_g_int hg
      exact ⟨_, eu, ⟨_, rfl⟩, s, n, rfl, hs, hat2, Or.inl ⟨fun h => by have q1 : (s : Int) ≤ n.toInt + (-1) := hpq; have := h.2.1; omega, by rw [g1, keep g2]⟩⟩
    · rw [List.mem_singleton.mp hy] at hE0 hC k4 k8
      have hb := hE0 (0, 900) rfl
      obtain ⟨p, q, hp, hq, hpq⟩ := hC (0, 1, 0) (List.mem_singleton.mpr rfl)
      rw [hv0] at hp
      rw [hv1] at hq
      cases hp
      cases hq
      obtain ⟨v, g1, g2⟩ := lw_fk_at (j := 9) (i := 2) a5 (k5.trans a3.symm) hr1 hw2 (k4 _ (List.mem_singleton.mpr rfl))
      obtain ⟨u, hg, eu⟩ := k8
      obtain ⟨x2, rfl, -⟩ := tk_g0 hg rfl
      exact ⟨_, eu, ⟨_, rfl⟩, s, n, rfl, hs, hat2, Or.inr ⟨⟨hb.1, by have q1 : n.toInt ≤ (s : Int) + 0 := hpq; omega, hb.2⟩, by rw [g1, tk_g_nI (k := 0) (by decide) g2]⟩⟩
theorem ta_semC (hxt : tk_xtok xt) : lw_sem l D xt gc_TY (gc_X lw_twC) ads lw_twC 13 136 [0] [gn_i] (lk_Q 300 (9, 2)) := by
  refine lw_sem_K (fun U ax ws av a1 a2 a3 a4 a5 a6 => ?_)
  obtain ⟨e, e2, yr, s, hw, hat, hty, hw2, hs, hat2⟩ := fd_wC a1 a3 a4
  obtain ⟨v1, r1, rfl, h1, a2'⟩ := rk_A2.cons (show rk_A2 lq_av [(0, gn_i)] av from a2)
  obtain rfl := a2'.nil
  obtain ⟨n, rfl, hn1, hn2⟩ : ∃ n : Int32, v1 = .int n ∧ (-2147483648 : Int) ≤ n.toInt ∧ n.toInt ≤ 2147483647 := by
    rcases h1 with ⟨-, x, e, b1, b2⟩ | ⟨h1, -⟩
    · exact ⟨x, e, b1, b2⟩
    · cases h1
  refine ⟨_, _, [6], [yr], _, _, _, [n.toInt, (s : Int)], ta_C lw_gcU hxt, ⟨⟨⟨hn1, hn2⟩, ⟨by show (0 : Int) ≤ _; omega, by show _ ≤ (900 : Int); omega⟩, trivial⟩, fun q hq => absurd hq List.not_mem_nil⟩, ⟨hty, trivial⟩, ⟨⟨n, rfl, by show some (1 * n.toInt + 0) = _; congr 1; omega⟩, trivial⟩, ?_, ?_⟩
  · intro z hz
    rcases List.mem_cons.mp hz with hz | hz
    · rw [hz]
      exact lw_fk (r := 0) (j := 0) (i := 7) rfl hw hat ⟨yr, rfl, rfl⟩
    · rw [List.mem_singleton.mp hz]
      exact lw_fk (r := 1) (j := 9) (i := 2) rfl hw2 hat2 ⟨nI s, rfl, by show some (1 * (s : Int) + 0) = _; rw [nI_i32 (by omega)]; congr 1; omega⟩
  · intro y hy t vals' rads' ws' oc k1 k2 k3 k4 k5 k6 k7 k8
    have hv0 : vals'[0]? = some n.toInt := lw_vals k1 rfl
    have hv1 : vals'[1]? = some (s : Int) := lw_vals k1 rfl
    have hr1 : rads'[1]? = some yr := lw_rads (r := 1) k2 rfl
    have hE0 : ∀ (I : tk_I), y.2.1.1[0]? = some I → I.1 ≤ n.toInt ∧ n.toInt ≤ I.2 := fun I hI => by
      obtain ⟨z, hz, h⟩ := k3.1.get hI
      rw [hv0] at hz
      cases hz
      exact h
    have hC : ∀ q ∈ y.2.1.2, ∃ x y2 : Int, vals'[q.1]? = some x ∧ vals'[q.2.1]? = some y2 ∧ x ≤ y2 + q.2.2 := k3.2
    have keep : ∀ {v : Value}, tk_g vals' rads' (0, 2, 1, 0) v → v = .int (nI s) := fun {v} g2 => by
      obtain ⟨x, rfl, hx⟩ := tk_g0 g2 rfl
      have hx : (match vals'[1]? with
        | some z => some (((1 : Nat) : Int) * z + 0)
        | none => none) = some x.toInt := hx
      rw [hv1] at hx
      have hx : some (1 * (s : Int) + 0) = some x.toInt := hx
      exact congrArg Value.int (Int32.toInt_inj.mp (by rw [nI_i32 (by omega)]; have := Option.some.inj hx; omega))
    rcases List.mem_cons.mp hy with hy | hy
    · subst hy
      have hb := hE0 ((-2147483648), (-1)) rfl
      obtain ⟨v, g1, g2⟩ := lw_fk_at (j := 9) (i := 2) a5 (k5.trans a3.symm) hr1 hw2 (k4 _ (List.mem_singleton.mpr rfl))
      obtain ⟨u, hg, eu⟩ := k8
      obtain ⟨x2, rfl, hx2⟩ := tk_g_int hg
      exact ⟨_, eu, ⟨_, rfl⟩, s, n, rfl, hs, hat2, Or.inl ⟨fun h => by have := hb.2; have := h.1; omega, by rw [g1, keep g2]⟩⟩
    rcases List.mem_cons.mp hy with hy | hy
    · subst hy
      obtain ⟨p, q, hp, hq, hpq⟩ := hC (1, 0, (-1)) (List.mem_singleton.mpr rfl)
      rw [hv1] at hp
      rw [hv0] at hq
      cases hp
      cases hq
      obtain ⟨v, g1, g2⟩ := lw_fk_at (j := 9) (i := 2) a5 (k5.trans a3.symm) hr1 hw2 (k4 _ (List.mem_singleton.mpr rfl))
      obtain ⟨u, hg, eu⟩ := k8
      obtain ⟨x2, rfl, hx2⟩ := tk_g_int hg
      exact ⟨_, eu, ⟨_, rfl⟩, s, n, rfl, hs, hat2, Or.inl ⟨fun h => by have q1 : (s : Int) ≤ n.toInt + (-1) := hpq; have := h.2.1; omega, by rw [g1, keep g2]⟩⟩
    rcases List.mem_cons.mp hy with hy | hy
    · subst hy
      have hb := hE0 (301, 2147483647) rfl
      obtain ⟨v, g1, g2⟩ := lw_fk_at (j := 9) (i := 2) a5 (k5.trans a3.symm) hr1 hw2 (k4 _ (List.mem_singleton.mpr rfl))
      obtain ⟨u, hg, eu⟩ := k8
      obtain ⟨x2, rfl, hx2⟩ := tk_g_int hg
      exact ⟨_, eu, ⟨_, rfl⟩, s, n, rfl, hs, hat2, Or.inl ⟨fun h => by have := hb.1; have := h.2.2; omega, by rw [g1, keep g2]⟩⟩
    · rw [List.mem_singleton.mp hy] at hE0 hC k4 k8
      have hb := hE0 (0, 300) rfl
      obtain ⟨p, q, hp, hq, hpq⟩ := hC (0, 1, 0) (List.mem_singleton.mpr rfl)
      rw [hv0] at hp
      rw [hv1] at hq
      cases hp
      cases hq
      obtain ⟨v, g1, g2⟩ := lw_fk_at (j := 9) (i := 2) a5 (k5.trans a3.symm) hr1 hw2 (k4 _ (List.mem_singleton.mpr rfl))
      obtain ⟨u, hg, eu⟩ := k8
      obtain ⟨x2, rfl, -⟩ := tk_g0 hg rfl
      exact ⟨_, eu, ⟨_, rfl⟩, s, n, rfl, hs, hat2, Or.inr ⟨⟨hb.1, by have q1 : n.toInt ≤ (s : Int) + 0 := hpq; omega, hb.2⟩, by rw [g1, tk_g_nI (k := 0) (by decide) g2]⟩⟩
theorem lk_semM (hst : ∀ (Ad : Nat → Prop) (U : State) (H : Heap), xt Ad U H → ∃ pl v tx, sk_X pl v Ad U H ∧ vk_R "GooseIceModel" 189 tx pl U) : lw_sem l D xt gn_TY (gn_X lw_twM) ads lw_twM 14 246 [0] [gn_i] (lk_Q 900 (0, 10)) := by
  refine lw_sem_imp (fm_sem (k := 10) (f := 246) (n := 1) hst gn_fmTy gn_M1_ms (Q := fun xs g _ _ _ _ g' _ _ _ _ v => ∃ n : Int32, xs = [n] ∧ ∃ s : Nat, s ≤ 900 ∧ g 10 = nI s ∧ (¬ (0 ≤ n.toInt ∧ n.toInt ≤ (s : Int) ∧ n.toInt ≤ 900) ∧ g' 10 = nI s ∨ (0 ≤ n.toInt ∧ n.toInt ≤ (s : Int) ∧ n.toInt ≤ 900) ∧ g' 10 = nI 0)) (fun g tp bt a b xs hx hI => ?_)) ?_
  · obtain ⟨x0, xs0, rfl, hx0⟩ := fm_xsS hx
    obtain rfl := List.length_eq_zero_iff.mp hx0
    obtain ⟨s, hs, es⟩ := fm_I_10 hI
    obtain ⟨v, mem', hP, hf⟩ := fr_lake (g := g) (tp := tp) (bt := bt) (a := a) (b := b) (n := x0) ⟨s, hs, es⟩
    obtain ⟨v, g', tp', bt', a', b', e, h1, h2⟩ := fm_I_FL hI hP
    cases e
    refine ⟨v, g', tp', bt', a', b', hf, h1, h2, x0, rfl, s, hs, es, ?_⟩
    obtain ⟨v2, g2, a2, b2, e, hz⟩ := hP
    have e2 : g' 10 = g2 10 := Value.int.inj (Option.some.inj (fm_o_inj 10 (congrArg Prod.snd e)))
    rw [e2]
    have cv : (0 ≤ x0 ∧ x0 ≤ g 10 ∧ x0 ≤ 900) ↔ (0 ≤ x0.toInt ∧ x0.toInt ≤ (s : Int) ∧ x0.toInt ≤ 900) := by
      rw [Int32.le_iff_toInt_le, Int32.le_iff_toInt_le, Int32.le_iff_toInt_le, es, nI_i32 (by omega), show (900 : Int32).toInt = 900 from rfl, show (0 : Int32).toInt = 0 from rfl]
    rcases hz with ⟨z1, -, z3, -⟩ | ⟨z1, z2⟩
    · exact Or.inl ⟨fun h => z1 (cv.mpr h), by rw [z3, ← es]; rfl⟩
    · exact Or.inr ⟨cv.mp z1, z2.2.1⟩
  · rintro av ws ws' v - ⟨xs, g, tp, bt, a, b, g', tp', bt', a', b', x, rfl, rfl, k1, k2, -, -, n, rfl, s, hs, k3, k4⟩
    have p1 : lw_at ws (0, 10) = some (.int (g 10)) := k1.1 10 _ rfl (Nat.zero_le 1)
    have p2 : lw_at ws' (0, 10) = some (.int (g' 10)) := k2.1 10 _ rfl (Nat.zero_le 1)
    refine ⟨⟨_, rfl⟩, s, n, rfl, hs, by rw [p1, k3], ?_⟩
    rcases k4 with ⟨z1, z2⟩ | ⟨z1, z2⟩
    · exact Or.inl ⟨z1, by rw [p2, z2]⟩
    · exact Or.inr ⟨z1, by rw [p2, z2]⟩
theorem ta_semM (hst : ∀ (Ad : Nat → Prop) (U : State) (H : Heap), xt Ad U H → ∃ pl v tx, sk_X pl v Ad U H ∧ vk_R "GooseIceModel" 189 tx pl U) : lw_sem l D xt gn_TY (gn_X lw_twM) ads lw_twM 17 252 [0] [gn_i] (lk_Q 300 (0, 10)) := by
  refine lw_sem_imp (fm_sem (k := 13) (f := 252) (n := 1) hst gn_fmTy gn_M1_ms (Q := fun xs g _ _ _ _ g' _ _ _ _ v => ∃ n : Int32, xs = [n] ∧ ∃ s : Nat, s ≤ 900 ∧ g 10 = nI s ∧ (¬ (0 ≤ n.toInt ∧ n.toInt ≤ (s : Int) ∧ n.toInt ≤ 300) ∧ g' 10 = nI s ∨ (0 ≤ n.toInt ∧ n.toInt ≤ (s : Int) ∧ n.toInt ≤ 300) ∧ g' 10 = nI 0)) (fun g tp bt a b xs hx hI => ?_)) ?_
  · obtain ⟨x0, xs0, rfl, hx0⟩ := fm_xsS hx
    obtain rfl := List.length_eq_zero_iff.mp hx0
    obtain ⟨s, hs, es⟩ := fm_I_10 hI
    obtain ⟨v, mem', hP, hf⟩ := fr_tales (g := g) (tp := tp) (bt := bt) (a := a) (b := b) (n := x0) (fm_I_TH hI)
    obtain ⟨v, g', tp', bt', a', b', e, h1, h2⟩ := fm_I_FTA hI hP
    cases e
    refine ⟨v, g', tp', bt', a', b', hf, h1, h2, x0, rfl, s, hs, es, ?_⟩
    obtain ⟨v2, g2, a2, e, hz⟩ := hP
    have e2 : g' 10 = g2 10 := Value.int.inj (Option.some.inj (fm_o_inj 10 (congrArg Prod.snd e)))
    rw [e2]
    have cv : (0 ≤ x0 ∧ x0 ≤ g 10 ∧ x0 ≤ 300) ↔ (0 ≤ x0.toInt ∧ x0.toInt ≤ (s : Int) ∧ x0.toInt ≤ 300) := by
      rw [Int32.le_iff_toInt_le, Int32.le_iff_toInt_le, Int32.le_iff_toInt_le, es, nI_i32 (by omega), show (300 : Int32).toInt = 300 from rfl, show (0 : Int32).toInt = 0 from rfl]
    rcases hz with ⟨z1, -, z3, -⟩ | ⟨z1, z2⟩
    · exact Or.inl ⟨fun h => z1 (cv.mpr h), by rw [z3, ← es]; rfl⟩
    · exact Or.inr ⟨cv.mp z1, z2.2.1⟩
  · rintro av ws ws' v - ⟨xs, g, tp, bt, a, b, g', tp', bt', a', b', x, rfl, rfl, k1, k2, -, -, n, rfl, s, hs, k3, k4⟩
    have p1 : lw_at ws (0, 10) = some (.int (g 10)) := k1.1 10 _ rfl (Nat.zero_le 1)
    have p2 : lw_at ws' (0, 10) = some (.int (g' 10)) := k2.1 10 _ rfl (Nat.zero_le 1)
    refine ⟨⟨_, rfl⟩, s, n, rfl, hs, by rw [p1, k3], ?_⟩
    rcases k4 with ⟨z1, z2⟩ | ⟨z1, z2⟩
    · exact Or.inl ⟨z1, by rw [p2, z2]⟩
    · exact Or.inr ⟨z1, by rw [p2, z2]⟩
end FDC
end MH33_0
section MH33_1
/-! ===== hx: fx over a part of a world: the memory first, addresses of other cells behind it ===== -/
def hx_ok (U : State) (ps : fx_P) (mem : fx_M) : Prop := mem.length ≤ ps.length ∧ ∀ (j : Nat) (q : Nat × ClassId) (ty : FieldType) (z : vp_A), ps[j]? = some q → mem[j]? = some (.inr (ty, z)) → ArrOfT U q.2 ty ∧ va_RA U q.2 ty
theorem hx_w_get {U : State} {ps : fx_P} {mem : fx_M} (h : hx_ok U ps mem) {j : Nat} {e : fx_E} (hj : mem[j]? = some e) : ∃ q, ps[j]? = some q ∧ fx_ad ps j = q.1 ∧ (fx_w ps mem)[j]? = some (q.1, fx_c ps q.2 e) := by
  have hlt : j < ps.length := Nat.lt_of_lt_of_le (List.getElem?_eq_some_iff.mp hj).1 h.1
  have hq : ps[j]? = some ps[j] := List.getElem?_eq_getElem hlt
  refine ⟨ps[j], hq, ?_, ?_⟩
  · unfold fx_ad
    rw [hq]
  · unfold fx_w
    rw [List.getElem?_zipWith, hq, hj]
theorem hx_ok_obj {U : State} {ps : fx_P} {mem : fx_M} (h : hx_ok U ps mem) (j : Nat) (o : Nat × List Value) : hx_ok U ps (mem.set j (.inl o)) := by
  refine ⟨by rw [List.length_set]; exact h.1, fun i q ty z hq hm => ?_⟩
  rw [List.getElem?_set] at hm
  split at hm
  · split at hm <;> cases hm
  · exact h.2 i q ty z hq hm
theorem hx_ok_arr {U : State} {ps : fx_P} {mem : fx_M} (h : hx_ok U ps mem) {j : Nat} {ty : FieldType} {z z' : vp_A} (hj : mem[j]? = some (.inr (ty, z))) : hx_ok U ps (mem.set j (.inr (ty, z'))) := by
  refine ⟨by rw [List.length_set]; exact h.1, fun i q ty2 z2 hq hm => ?_⟩
  rw [List.getElem?_set] at hm
  split at hm
  · next e =>
    subst e
    split at hm
    · cases hm
      exact h.2 _ _ _ _ hq hj
    · cases hm
  · exact h.2 i q ty2 z2 hq hm
section HXM
variable {p : Program} {l : Launch} {e : Env} {R : Room} {s : State} {m : MethodId} {args : Array Value} {below : List Frame} {meth : Method} {c : Code} {Q : State → Prop} {cc : ByteArray} {D : va_G} {cl : List vw_C} {Ad : Nat → Prop} {tbl xw : List Jvm.Cond} {fty : rk_F} {cln : List String} {own : String}
theorem hx_arr {lk : List (Nat × Nat × Nat × Nat)} {cs : List (Nat × Value)} (hF : rk_Fr s m args meth D cl Ad tbl xw fty cln own lk cs) {ps : fx_P} {mem : fx_M} (hO : hx_ok s ps mem) {j : Nat} {ty : FieldType} {z : vp_A} (hj : mem[j]? = some (.inr (ty, z))) : ∃ q, ps[j]? = some q ∧ fx_ad ps j = q.1 ∧ (fx_w ps mem)[j]? = some (q.1, .inl (q.2, fx_z ps z)) ∧ va_K D cl [(q.2, ty)] s := by
  obtain ⟨q, h1, h2, h3⟩ := hx_w_get hO hj
  obtain ⟨g1, g2⟩ := hO.2 j q ty z h1 hj
  exact ⟨q, h1, h2, h3, rk_K1 hF.2.2.2.1 g1 g2⟩
set_option maxHeartbeats 8000000 in
theorem hx_mem_ok {M : rk_M2} (hx : p.tables.exec = Jvm.exec) (hb : c.code = cc) (hml : c.maxLocals = M.2.1) (hF : rk_Fr s m args meth D cl Ad tbl xw fty cln own M.2.2.1 M.2.2.2.1) (hfr : 1 ≤ R.frames) (hlo : 40 ≤ R.locals) {pc : Nat} {ins : Instr} {len : Nat} (hdg : decode cc pc = .ok (ins, len)) (hlen : rk_len ins len = true) {ps : fx_P} {lc : fx_L} {stk : List Value} {mem : fx_M} {zz : Nat × fx_L × List Value × fx_M} (h : fx_mem fty M pc ins lc stk mem = some zz) (hO : hx_ok s ps mem) {H : Heap} {locs : List Loc} {ls : Array Slot} (hP : va_P D cl (fx_w ps mem) H) (hD : va_D Ad (fx_w ps mem)) (hS : va_S Ad s.heap H locs) (hl : lv_has ls M.2.1 (fx_lm ps lc)) (kk : ∀ (H' : Heap) (locs' : List Loc) (ls' : Array Slot), hx_ok s ps zz.2.2.2 → va_P D cl (fx_w ps zz.2.2.2) H' → va_D Ad (fx_w ps zz.2.2.2) → va_S Ad s.heap H' locs' → lv_has ls' M.2.1 (fx_lm ps zz.2.1) → rk_KW p l e R s m args below meth c Q zz.1 ls' (zz.2.2.1.map (fx_v ps)) H' locs' 0 0) : rk_KW p l e R s m args below meth c Q pc ls (stk.map (fx_v ps)) H locs 0 0 := by
  have hF0 := hF
  obtain ⟨hts, hxw, hown, hK, hA, hcl, hlk, hini, hac, hcs⟩ := hF0
  cases ins
  case getfield idx =>
    simp [rk_len] at hlen; subst hlen
    change (match rk_lk M.2.2.1 idx with
      | some q => fx_gf (pc + 3) q.1 q.2.1 q.2.2
      | none => fx_none) lc stk mem = some zz at h
    cases hlk1 : rk_lk M.2.2.1 idx with
    | none => rw [hlk1] at h; exact fx_nos h
    | some q =>
      rw [hlk1] at h
      obtain ⟨kd, ci, k⟩ := q
      change fx_gf (pc + 3) kd ci k lc stk mem = some zz at h
      unfold fx_gf at h
      split at h
      · next j r =>
        split at h
        · next o hj =>
          cases hc : (Nat.ble kd 2 && Nat.beq o.1 ci) with
          | false => rw [hc] at h; exact fx_nos h
          | true =>
            rw [hc] at h
            dsimp only [cond] at h
            rw [Bool.and_eq_true] at hc
            have hkd := Nat.le_of_ble_eq_true hc.1
            have hci := Nat.eq_of_beq_eq_true hc.2
            obtain ⟨ci2, vs⟩ := o
            dsimp only at hci
            subst hci
            split at h
            · next v hv =>
              obtain rfl := Option.some.inj h
              obtain ⟨q, h1, h2, h3⟩ := hx_w_get hO hj
              have hw : (fx_w ps mem)[j]? = some (fx_ad ps j, .inr (ci2, vs.map (fx_v ps))) := by rw [h2]; exact h3
              have hv2 : (vs.map (fx_v ps))[k]? = some (fx_v ps v) := by rw [List.getElem?_map, hv]; rfl
              have fin := kk H locs ls hO hP hD hS hl
              have hr := hlk _ (rk_lk_mem hlk1)
              show rk_KW p l e R s m args below meth c Q pc ls (.ref (fx_ad ps j) :: r.map (fx_v ps)) H locs 0 0
              rcases (show kd = 0 ∨ kd = 1 ∨ kd = 2 by omega) with rfl | rfl | rfl
              · obtain ⟨q, hq, hkN, hm⟩ := hr
                exact va_get (C := q.1) (T := q.2.1) (N := q.2.2) hx hb hts (hcl _ _ hq).1 hown hK hP j hw hq k hkN (hts _ hm) (fun _ h9 => h9) hv2 hdg fin
              · obtain ⟨q, host, hq, hkN, hm⟩ := hr
                exact va_getN (C := q.1) (T := q.2.1) (N := q.2.2) hx hb hts (hcl _ _ hq).1 hown hK hP j hw hq k hkN (va_Nw.use rfl (hxw _ hm)) (fun _ h9 => h9) hv2 hdg fin
              · obtain ⟨q, hq, hkN, hm, -⟩ := hr
                exact va_get (C := q.1) (T := q.2.1) (N := q.2.2) hx hb hts (hcl _ _ hq).1 hown hK hP j hw hq k hkN (hts _ hm) (fun _ h9 => h9) hv2 hdg fin
            · exact fx_nos h
        · exact fx_nos h
      · exact fx_nos h
  case putfield idx =>
    simp [rk_len] at hlen; subst hlen
    change (match rk_lk M.2.2.1 idx with
      | some q => fx_pf fty (pc + 3) q.1 q.2.1 q.2.2
      | none => fx_none) lc stk mem = some zz at h
    cases hlk1 : rk_lk M.2.2.1 idx with
    | none => rw [hlk1] at h; exact fx_nos h
    | some q =>
      rw [hlk1] at h
      obtain ⟨kd, ci, k⟩ := q
      change fx_pf fty (pc + 3) kd ci k lc stk mem = some zz at h
      unfold fx_pf at h
      split at h
      · next v j r =>
        split at h
        · next o ft hj hft =>
          obtain ⟨hc, rfl⟩ := fx_if_inv h
          rw [Bool.and_eq_true, Bool.and_eq_true, Bool.and_eq_true, Bool.and_eq_true] at hc
          obtain ⟨c1, c2, c3, c4, c5⟩ := hc
          have hkd := Nat.le_of_ble_eq_true c1
          have hci := Nat.eq_of_beq_eq_true c2
          have hkl : k < o.2.length := Nat.le_of_ble_eq_true c3
          have hft2 : ft.2 = false := by
            cases hz : ft.2 with
            | false => rfl
            | true => rw [hz] at c5; cases c5
          obtain ⟨ci2, vs⟩ := o
          dsimp only at hci hkl hj
          subst hci
          obtain ⟨hv1, hn, hfi⟩ := fx_vt_ok (ps := ps) c4
          obtain ⟨q, h1, h2, h3⟩ := hx_w_get hO hj
          have hw : (fx_w ps mem)[j]? = some (fx_ad ps j, .inr (ci2, vs.map (fx_v ps))) := by rw [h2]; exact h3
          have eset : fx_w ps (mem.set j (.inl (ci2, vs.set k v))) = (fx_w ps mem).set j (fx_ad ps j, .inr (ci2, (vs.map (fx_v ps)).set k v)) := by
            rw [fx_w_set ps mem j _ q h1, h2]
            show (fx_w ps mem).set j (q.1, .inr (ci2, (vs.set k v).map (fx_v ps))) = _
            rw [List.map_set, hv1]
          have fin : ∀ (H1 : Heap) (locs1 : List Loc), va_P D cl ((fx_w ps mem).set j (fx_ad ps j, .inr (ci2, (vs.map (fx_v ps)).set k v))) H1 → va_D Ad ((fx_w ps mem).set j (fx_ad ps j, .inr (ci2, (vs.map (fx_v ps)).set k v))) → va_S Ad s.heap H1 locs1 → rk_KW p l e R s m args below meth c Q (pc + 3) ls (r.map (fx_v ps)) H1 locs1 0 0 := fun H1 locs1 g1 g2 g3 => kk H1 locs1 ls (hx_ok_obj hO _ _) (by rw [eset]; exact g1) (by rw [eset]; exact g2) g3 hl
          show rk_KW p l e R s m args below meth c Q pc ls (fx_v ps v :: .ref (fx_ad ps j) :: r.map (fx_v ps)) H locs 0 0
          rw [hv1]
          have hr := hlk _ (rk_lk_mem hlk1)
          obtain ⟨tf, htf, htk⟩ := Option.bind_eq_some_iff.mp hft
          have hkl2 : k < (vs.map (fx_v ps)).length := by rw [List.length_map]; exact hkl
          rcases (show kd = 0 ∨ kd = 1 by omega) with rfl | rfl
          · obtain ⟨q, hq, hkN, hm1⟩ := hr
            obtain ⟨d1, d2, -, tf', htf', hlenT, hT2⟩ := hcl _ _ hq
            cases htf.symm.trans htf'
            obtain ⟨t1, t2⟩ := hT2 k ft htk
            exact va_put (C := q.1) (T := q.2.1) (N := q.2.2) hx hb hts d1 _ (rk_ty hlenT hT2) d2 hown hK hP hD hS j hw hq k hkN (hts _ hm1) (fun _ h9 => h9) (t2.trans hft2) t1 hn hfi hkl2 hdg fin
          · obtain ⟨q, host, hq, hkN, hm1⟩ := hr
            obtain ⟨d1, d2, -, tf', htf', hlenT, hT2⟩ := hcl _ _ hq
            cases htf.symm.trans htf'
            obtain ⟨t1, t2⟩ := hT2 k ft htk
            exact va_putN (C := q.1) (T := q.2.1) (N := q.2.2) hx hb hts d1 _ (rk_ty hlenT hT2) d2 hown hK hP hD hS j hw hq k hkN (va_Nw.use rfl (hxw _ hm1)) (fun _ h9 => h9) (t2.trans hft2) t1 hn hfi hkl2 hdg fin
        · exact fx_nos h
      · exact fx_nos h
  case iaload =>
    simp [rk_len] at hlen; subst hlen
    change fx_ia (pc + 1) lc stk mem = some zz at h
    unfold fx_ia at h
    split at h
    · next i j r =>
      split at h
      · next n f hj =>
        obtain ⟨hc, rfl⟩ := fx_if_inv h
        obtain ⟨q, h1, h2, h3, h4⟩ := hx_arr hF hO hj
        show rk_KW p l e R s m args below meth c Q pc ls (.int i :: .ref (fx_ad ps j) :: r.map (fx_v ps)) H locs 0 0
        rw [h2]
        exact va_iald hx hb h4 hP j 0 h3 rfl (fx_in_ok hc) hdg (kk H locs ls hO hP hD hS hl)
      · exact fx_nos h
    · exact fx_nos h
  case baload =>
    simp [rk_len] at hlen; subst hlen
    change fx_ba (pc + 1) lc stk mem = some zz at h
    unfold fx_ba at h
    split at h
    · next i j r =>
      split at h
      · next n f hj =>
        obtain ⟨hc, rfl⟩ := fx_if_inv h
        obtain ⟨q, h1, h2, h3, h4⟩ := hx_arr hF hO hj
        show rk_KW p l e R s m args below meth c Q pc ls (.int i :: .ref (fx_ad ps j) :: r.map (fx_v ps)) H locs 0 0
        rw [h2]
        exact va_bald hx hb h4 hP j 0 h3 rfl (fx_in_ok hc) hdg (kk H locs ls hO hP hD hS hl)
      · exact fx_nos h
    · exact fx_nos h
  case laload =>
    simp [rk_len] at hlen; subst hlen
    change fx_la (pc + 1) lc stk mem = some zz at h
    unfold fx_la at h
    split at h
    · next i j r =>
      split at h
      · next n f hj =>
        obtain ⟨hc, rfl⟩ := fx_if_inv h
        obtain ⟨q, h1, h2, h3, h4⟩ := hx_arr hF hO hj
        show rk_KW p l e R s m args below meth c Q pc ls (.int i :: .ref (fx_ad ps j) :: r.map (fx_v ps)) H locs 0 0
        rw [h2]
        exact va_lald hx hb h4 hP j 0 h3 rfl (fx_in_ok hc) hdg (kk H locs ls hO hP hD hS hl)
      · exact fx_nos h
    · exact fx_nos h
  case iastore =>
    simp [rk_len] at hlen; subst hlen
    change fx_is (pc + 1) lc stk mem = some zz at h
    unfold fx_is at h
    split at h
    · next v i j r =>
      split at h
      · next n f hj =>
        obtain ⟨hc, rfl⟩ := fx_if_inv h
        obtain ⟨q, h1, h2, h3, h4⟩ := hx_arr hF hO hj
        have eset : fx_w ps (mem.set j (.inr (.int, n, .inl (upd f i.toNatClampNeg v)))) = (fx_w ps mem).set j (q.1, .inl (q.2, n, .inl (upd f i.toNatClampNeg v))) := fx_w_set ps mem j _ q h1
        show rk_KW p l e R s m args below meth c Q pc ls (.int v :: .int i :: .ref (fx_ad ps j) :: r.map (fx_v ps)) H locs 0 0
        rw [h2]
        refine va_iast hx hb h4 hP hD hS j 0 h3 rfl (fx_in_ok hc) hdg (fun H1 locs1 hP1 hD1 hS1 => ?_)
        exact kk H1 locs1 ls (hx_ok_arr hO hj) (by rw [eset]; exact hP1) (by rw [eset]; exact hD1) hS1 hl
      · exact fx_nos h
    · exact fx_nos h
  case bastore =>
    simp [rk_len] at hlen; subst hlen
    change fx_bs (pc + 1) lc stk mem = some zz at h
    unfold fx_bs at h
    split at h
    · next v i j r =>
      split at h
      · next n f hj =>
        obtain ⟨hc, rfl⟩ := fx_if_inv h
        obtain ⟨q, h1, h2, h3, h4⟩ := hx_arr hF hO hj
        have eset : fx_w ps (mem.set j (.inr (.byte, n, .inl (upd f i.toNatClampNeg v.toInt8.toInt32)))) = (fx_w ps mem).set j (q.1, .inl (q.2, n, .inl (upd f i.toNatClampNeg v.toInt8.toInt32))) := fx_w_set ps mem j _ q h1
        show rk_KW p l e R s m args below meth c Q pc ls (.int v :: .int i :: .ref (fx_ad ps j) :: r.map (fx_v ps)) H locs 0 0
        rw [h2]
        refine va_bast hx hb h4 hP hD hS j 0 h3 rfl (fx_in_ok hc) hdg (fun H1 locs1 hP1 hD1 hS1 => ?_)
        exact kk H1 locs1 ls (hx_ok_arr hO hj) (by rw [eset]; exact hP1) (by rw [eset]; exact hD1) hS1 hl
      · exact fx_nos h
    · exact fx_nos h
  case lastore =>
    simp [rk_len] at hlen; subst hlen
    change fx_ls (pc + 1) lc stk mem = some zz at h
    unfold fx_ls at h
    split at h
    · next v i j r =>
      split at h
      · next n f hj =>
        obtain ⟨hc, rfl⟩ := fx_if_inv h
        obtain ⟨q, h1, h2, h3, h4⟩ := hx_arr hF hO hj
        have eset : fx_w ps (mem.set j (.inr (.long, n, .inr (.inl (vp_updL f i.toNatClampNeg v))))) = (fx_w ps mem).set j (q.1, .inl (q.2, n, .inr (.inl (vp_updL f i.toNatClampNeg v)))) := fx_w_set ps mem j _ q h1
        show rk_KW p l e R s m args below meth c Q pc ls (.long v :: .int i :: .ref (fx_ad ps j) :: r.map (fx_v ps)) H locs 0 0
        rw [h2]
        refine va_last hx hb h4 hP hD hS j 0 h3 rfl (fx_in_ok hc) hdg (fun H1 locs1 hP1 hD1 hS1 => ?_)
        exact kk H1 locs1 ls (hx_ok_arr hO hj) (by rw [eset]; exact hP1) (by rw [eset]; exact hD1) hS1 hl
      · exact fx_nos h
    · exact fx_nos h
  case ldc idx =>
    simp [rk_len] at hlen; subst hlen
    change fx_ct (pc + 2) (tk_csti (rk_cst M.2.2.2.1 idx)) lc stk mem = some zz at h
    cases hc1 : rk_cst M.2.2.2.1 idx with
    | none => rw [hc1] at h; exact fx_nos h
    | some v =>
      rw [hc1] at h
      cases v with
      | int x =>
        obtain rfl := Option.some.inj h
        exact lv_ldc hx hb hown (hts _ ((hcs _ (rk_cst_mem hc1)).1 x rfl)) hdg (kk H locs ls hO hP hD hS hl)
      | _ => exact fx_nos h
  case ldc_w idx =>
    simp [rk_len] at hlen; subst hlen
    change fx_ct (pc + 3) (tk_csti (rk_cst M.2.2.2.1 idx)) lc stk mem = some zz at h
    cases hc1 : rk_cst M.2.2.2.1 idx with
    | none => rw [hc1] at h; exact fx_nos h
    | some v =>
      rw [hc1] at h
      cases v with
      | int x =>
        obtain rfl := Option.some.inj h
        exact lv_ldcw hx hb hown (hts _ ((hcs _ (rk_cst_mem hc1)).1 x rfl)) hdg (kk H locs ls hO hP hD hS hl)
      | _ => exact fx_nos h
  case ldc2_w idx =>
    simp [rk_len] at hlen; subst hlen
    change fx_ct (pc + 3) (tk_cstl (rk_cst M.2.2.2.1 idx)) lc stk mem = some zz at h
    cases hc1 : rk_cst M.2.2.2.1 idx with
    | none => rw [hc1] at h; exact fx_nos h
    | some v =>
      rw [hc1] at h
      cases v with
      | long x =>
        obtain rfl := Option.some.inj h
        exact lv_ldc2 hx hb hown (hts _ ((hcs _ (rk_cst_mem hc1)).2 x rfl)) hdg (kk H locs ls hO hP hD hS hl)
      | _ => exact fx_nos h
  case tableswitch dd lo hi offs =>
    change fx_tb pc dd lo hi offs.toList lc stk mem = some zz at h
    unfold fx_tb at h
    split at h
    · next x r =>
      obtain ⟨hc, rfl⟩ := fx_if_inv h
      rw [Bool.and_eq_true, decide_eq_true_eq, decide_eq_true_eq] at hc
      obtain ⟨hlen2, g1⟩ := hc
      have fin := kk H locs ls hO hP hD hS hl
      dsimp only [fx_to] at fin
      show rk_KW p l e R s m args below meth c Q pc ls (.int x :: r.map (fx_v ps)) H locs 0 0
      rcases tk_tp_ok dd x.toInt offs.toList lo with ⟨h1, h2⟩ | ⟨i, h1, h2⟩
      · rw [h2] at fin g1
        exact lv_tableOut (tgt := ((pc : Int) + dd).toNat) hx hb hdg (by omega) (by omega) fin
      · have hi2 : i < offs.toList.length := (List.getElem?_eq_some_iff.mp h2).1
        refine lv_tableIn (off := Op.lookupswitch.offset (tk_tp lo offs.toList) dd x.toInt) (tgt := ((pc : Int) + Op.lookupswitch.offset (tk_tp lo offs.toList) dd x.toInt).toNat) hx hb hdg (by omega) (by omega) ?_ (by omega) fin
        rw [show (x.toInt - lo).toNat = i from by omega]
        rw [Array.getElem?_toList] at h2
        exact h2
    · exact fx_nos h
  case lookupswitch dd sps =>
    change fx_lk pc dd sps.toList lc stk mem = some zz at h
    unfold fx_lk at h
    split at h
    · next x r =>
      obtain ⟨hc, rfl⟩ := fx_if_inv h
      rw [Bool.and_eq_true, decide_eq_true_eq] at hc
      obtain ⟨hsrt, g1⟩ := hc
      have fin := kk H locs ls hO hP hD hS hl
      dsimp only [fx_to] at fin
      show rk_KW p l e R s m args below meth c Q pc ls (.int x :: r.map (fx_v ps)) H locs 0 0
      refine lv_lookup (tgt := ((pc : Int) + Op.lookupswitch.offset sps.toList dd x.toInt).toNat) hx hb hdg ?_ rfl (by omega) fin
      exact hsrt
    · exact fx_nos h
  case invokestatic idx =>
    simp [rk_len] at hlen; subst hlen
    change (match rk_lk M.2.2.1 idx with
      | some q => fx_st q.1 q.2.1 (pc + 3)
      | none => fx_none) lc stk mem = some zz at h
    cases hlk1 : rk_lk M.2.2.1 idx with
    | none => rw [hlk1] at h; exact fx_nos h
    | some q =>
      rw [hlk1] at h
      obtain ⟨kd, f, k⟩ := q
      have hr := hlk _ (rk_lk_mem hlk1)
      have hsum : ∀ r : List Value, Nat.ble (fx_sum r) 8 = true → ((r.map (fx_v ps)).map fun v => v.category).sum ≤ 8 := fun r hr9 => by
        have := Nat.le_of_ble_eq_true hr9
        rw [List.map_map]
        have e9 : ((fun v : Value => v.category) ∘ fx_v ps) = (fun v : Value => v.category) := funext (fun v => fx_v_cat ps v)
        rw [e9]
        exact this
      change fx_st kd f (pc + 3) lc stk mem = some zz at h
      unfold fx_st at h
      cases e14 : Nat.beq kd 14 with
      | true =>
        rw [e14] at h
        obtain rfl := Nat.eq_of_beq_eq_true e14
        change fx_mx _ (pc + 3) lc stk mem = some zz at h
        unfold fx_mx at h
        split at h
        · next y x r =>
          obtain ⟨hc, rfl⟩ := fx_if_inv h
          obtain ⟨w1, w2, w3, w4⟩ := hr
          have hs8 := hsum r hc
          exact va_mmax hx hb (by rw [hml]; exact hl.1.symm) hown (hts _ w1) (hts _ w2) (hts _ w3) (hts _ w4) hfr (by omega) (Nat.zero_le _) (Nat.zero_le _) hdg (kk H locs ls hO hP hD hS hl)
        · exact fx_nos h
      | false =>
        rw [e14] at h
        dsimp only [cond] at h
        cases e15 : Nat.beq kd 15 with
        | true =>
          rw [e15] at h
          obtain rfl := Nat.eq_of_beq_eq_true e15
          change fx_mx _ (pc + 3) lc stk mem = some zz at h
          unfold fx_mx at h
          split at h
          · next y x r =>
            obtain ⟨hc, rfl⟩ := fx_if_inv h
            obtain ⟨w1, w2, w3, w4⟩ := hr
            have hs8 := hsum r hc
            exact va_mmin hx hb (by rw [hml]; exact hl.1.symm) hown (hts _ w1) (hts _ w2) (hts _ w3) (hts _ w4) hfr (by omega) (Nat.zero_le _) (Nat.zero_le _) hdg (kk H locs ls hO hP hD hS hl)
          · exact fx_nos h
        | false =>
          rw [e15] at h
          dsimp only [cond] at h
          cases e17 : Nat.beq kd 17 with
          | true =>
            rw [e17] at h
            obtain rfl := Nat.eq_of_beq_eq_true e17
            change fx_ab (pc + 3) lc stk mem = some zz at h
            unfold fx_ab at h
            split at h
            · next x r =>
              obtain ⟨hc, rfl⟩ := fx_if_inv h
              obtain ⟨w1, w2, w3, w4⟩ := hr
              have hs8 := hsum r hc
              exact va_mabs hx hb (by rw [hml]; exact hl.1.symm) hown (hts _ w1) (hts _ w2) (hts _ w3) (hts _ w4) hfr (by omega) (Nat.zero_le _) (Nat.zero_le _) hdg (kk H locs ls hO hP hD hS hl)
            · exact fx_nos h
          | false => rw [e17] at h; exact fx_nos h
  case bipush v9 =>
    change fx_pl M.2.1 pc (.bipush v9) lc stk mem = some zz at h
    unfold fx_pl at h
    split at h
    · next z9 hz9 =>
      obtain rfl := Option.some.inj h
      exact fx_pure_ok ps hx hb hdg hlen hz9 hl (fun ls' hl' => kk H locs ls' hO hP hD hS hl')
    · exact fx_nos h
  case iconst v9 =>
    change fx_pl M.2.1 pc (.iconst v9) lc stk mem = some zz at h
    unfold fx_pl at h
    split at h
    · next z9 hz9 =>
      obtain rfl := Option.some.inj h
      exact fx_pure_ok ps hx hb hdg hlen hz9 hl (fun ls' hl' => kk H locs ls' hO hP hD hS hl')
    · exact fx_nos h
  case lconst v9 =>
    change fx_pl M.2.1 pc (.lconst v9) lc stk mem = some zz at h
    unfold fx_pl at h
    split at h
    · next z9 hz9 =>
      obtain rfl := Option.some.inj h
      exact fx_pure_ok ps hx hb hdg hlen hz9 hl (fun ls' hl' => kk H locs ls' hO hP hD hS hl')
    · exact fx_nos h
  case sipush v9 =>
    change fx_pl M.2.1 pc (.sipush v9) lc stk mem = some zz at h
    unfold fx_pl at h
    split at h
    · next z9 hz9 =>
      obtain rfl := Option.some.inj h
      exact fx_pure_ok ps hx hb hdg hlen hz9 hl (fun ls' hl' => kk H locs ls' hO hP hD hS hl')
    · exact fx_nos h
  all_goals
    (first
      | exact fx_nos (show (none : fx_R4) = some zz from h)
      | (change fx_pl M.2.1 pc _ lc stk mem = some zz at h
         unfold fx_pl at h
         split at h
         · next z9 hz9 =>
           obtain rfl := Option.some.inj h
           exact fx_pure_ok ps hx hb hdg hlen hz9 hl (fun ls' hl' => kk H locs ls' hO hP hD hS hl')
         · exact fx_nos h))
end HXM

/-- loads of references, lengths, copies of rows -/
def hx_ro (ty : FieldType) : Bool := match ty with
  | .object _ => true
  | .array _ => true
  | _ => false
def hx_aa (pc : Nat) (lc : fx_L) (stk : List Value) (mem : fx_M) : fx_R4 := match stk with
  | .int i :: .ref j :: r => (match mem[j]? with
    | some (.inr (ty, n, .inr (.inr (.inr (.inr f))))) => cond (fx_in i n && hx_ro ty) (some (pc, lc, va_rf (f i.toNatClampNeg) :: r, mem)) none
    | _ => none)
  | _ => none
def hx_al (pc : Nat) (lc : fx_L) (stk : List Value) (mem : fx_M) : fx_R4 := match stk with
  | .ref j :: r => (match mem[j]? with
    | some (.inr (_, z)) => some (pc, lc, .int (Int32.ofNat z.1) :: r, mem)
    | _ => none)
  | _ => none
def hx_cc (n dp sp : Int32) (n0 n1 : Nat) : Bool := (decide (0 ≤ n.toInt) && (decide (0 ≤ dp.toInt) && decide (0 ≤ sp.toInt))) && (decide (sp.toInt + n.toInt ≤ (n0 : Int)) && decide (dp.toInt + n.toInt ≤ (n1 : Int)))
def hx_cp (pc : Nat) (lc : fx_L) (stk : List Value) (mem : fx_M) : fx_R4 := match stk with
  | .int n :: .int dp :: .ref j1 :: .int sp :: .ref j0 :: r => (match mem[j0]?, mem[j1]? with
    | some (.inr (.int, n0, .inl f)), some (.inr (.int, n1, .inl g)) => cond (Nat.ble (fx_sum r) 8 && hx_cc n dp sp n0 n1) (some (pc, lc, r, mem.set j1 (.inr (.int, n1, .inl (va_cpy f g sp.toNatClampNeg dp.toNatClampNeg n.toNatClampNeg))))) none
    | some (.inr (.long, n0, .inr (.inl f))), some (.inr (.long, n1, .inr (.inl g))) => cond (Nat.ble (fx_sum r) 8 && hx_cc n dp sp n0 n1) (some (pc, lc, r, mem.set j1 (.inr (.long, n1, .inr (.inl (va_cpy f g sp.toNatClampNeg dp.toNatClampNeg n.toNatClampNeg)))))) none
    | _, _ => none)
  | _ => none
theorem hx_cc_ok {n dp sp : Int32} {n0 n1 : Nat} (h : hx_cc n dp sp n0 n1 = true) : ¬ sp < 0 ∧ ¬ dp < 0 ∧ ¬ n < 0 ∧ sp.toNatClampNeg + n.toNatClampNeg ≤ n0 ∧ dp.toNatClampNeg + n.toNatClampNeg ≤ n1 := by
  unfold hx_cc at h
  rw [Bool.and_eq_true, Bool.and_eq_true, Bool.and_eq_true, Bool.and_eq_true, decide_eq_true_eq, decide_eq_true_eq, decide_eq_true_eq, decide_eq_true_eq, decide_eq_true_eq] at h
  obtain ⟨⟨h1, h2, h3⟩, h4, h5⟩ := h
  have z0 : (0 : Int32).toInt = 0 := rfl
  have e1 : sp.toNatClampNeg = sp.toInt.toNat := rfl
  have e2 : dp.toNatClampNeg = dp.toInt.toNat := rfl
  have e3 : n.toNatClampNeg = n.toInt.toNat := rfl
  refine ⟨fun q => ?_, fun q => ?_, fun q => ?_, by omega, by omega⟩
  all_goals
    have q2 := Int32.lt_iff_toInt_lt.mp q
    omega
theorem hx_rf (ps : fx_P) (o : Option Nat) : va_rf (o.map (fx_ad ps)) = fx_v ps (va_rf o) := by cases o <;> rfl
end MH33_1
section MH33_2
/-! ===== hx: calls, runs, and what they say of the machine ===== -/
def hx_cv (mci : List Nat) (call : fx_Ca) (pc f n : Nat) (lc : fx_L) (stk : List Value) (mem : fx_M) : fx_R4 := match fx_pops n [] stk with
  | some (as, .ref j :: r) => (match mem[j]? with
    | some (.inl o) => cond (Nat.ble (fx_sum r) 8 && decide (mci[f]? = some o.1)) (fx_aft pc lc r (call f (.ref j :: as) mem)) none
    | _ => none)
  | _ => none
def hx_step (call : fx_Ca) (fty : rk_F) (mci : List Nat) (M : rk_M2) (pc : Nat) (ins : Instr) (lc : fx_L) (stk : List Value) (mem : fx_M) : fx_R4 := match ins with
  | .invokevirtual idx => (match rk_lk M.2.2.1 idx with
    | some q => cond (Nat.beq q.1 5 || Nat.beq q.1 6) (hx_cv mci call (pc + 3) q.2.1 q.2.2 lc stk mem) none
    | none => none)
  | .invokestatic idx => (match rk_lk M.2.2.1 idx with
    | some q => cond (Nat.beq q.1 7 || Nat.beq q.1 8) (fx_cs call (pc + 3) q.2.1 q.2.2 lc stk mem) (cond (Nat.beq q.1 12) (hx_cp (pc + 3) lc stk mem) (fx_mem fty M pc (.invokestatic idx) lc stk mem))
    | none => none)
  | .aaload => hx_aa (pc + 1) lc stk mem
  | .arraylength => hx_al (pc + 1) lc stk mem
  | ins => fx_mem fty M pc ins lc stk mem
def hx_run (call : fx_Ca) (fty : rk_F) (mci : List Nat) (M : rk_M2) : Nat → Nat → fx_L → List Value → fx_M → Option (Option Value × fx_M)
  | 0, _, _, _, _ => none
  | n + 1, pc, lc, stk, mem => match tk_at M.1 pc with
    | none => none
    | some q => cond (rk_len q.2.1 q.2.2) (match fx_end M.2.2.2.2.1 q.2.1 stk with
      | some (some v) => some (v, mem)
      | some none => none
      | none => (match hx_step call fty mci M pc q.2.1 lc stk mem with
        | some z => hx_run call fty mci M n z.1 z.2.1 z.2.2.1 z.2.2.2
        | none => none)) none
def hx_call (fty : rk_F) (mci : List Nat) (P : List rk_M2) (N : Nat) : Nat → fx_Ca
  | 0 => fun _ _ _ => none
  | d + 1 => fun f as mem => match P[f]? with
    | none => none
    | some M => cond (Nat.ble M.2.1 21 && Nat.ble (fx_sum as) M.2.1) (hx_run (hx_call fty mci P N d) fty mci M N 0 (lv_args 0 as) [] mem) none
section HFXR
variable {l : Launch} {D : va_G} {xt : tk_XT}
def hx_Pre (D : va_G) (xt : tk_XT) (ps : fx_P) (mem : fx_M) (sz : Nat) (as : List Value) : Array Value → State → Prop := fun v U => v = (as.map (fx_v ps)).toArray ∧ U.heap.size = sz ∧ va_P D gk_cl (fx_w ps mem) U.heap ∧ va_K D gk_cl [] U ∧ va_D (fun _ => True) (fx_w ps mem) ∧ hx_ok U ps mem ∧ (∀ w ∈ gk_xw, va_Nw w U) ∧ xt (va_A (fx_w ps mem) sz) U U.heap
def hx_Post (D : va_G) (ps : fx_P) (mem : fx_M) (r : Option Value) (Ad : Nat → Prop) : Array Value → State → Outcome → State → Prop := fun _ st oc t => (oc = .returned (r.map (fx_v ps)) ∧ hx_ok t ps mem ∧ va_P D gk_cl (fx_w ps mem) t.heap ∧ va_D Ad (fx_w ps mem)) ∧ va_F Ad st t
theorem hx_ok_moved {u U : State} (hvm : u.vm.Alike U.vm) {ps : fx_P} {mem : fx_M} (h : hx_ok u ps mem) : hx_ok U ps mem := ⟨h.1, fun j q ty z h1 h2 => by
  obtain ⟨g1, g2⟩ := h.2 j q ty z h1 h2
  exact ⟨arrOfT_moved hvm g1, g2.moved hvm⟩⟩
theorem hx_blind {xt : tk_XT} {D : va_G} (hxt : tk_xtok xt) {ps : fx_P} {mem : fx_M} {sz : Nat} {as : List Value} (hxo : rk_xok gk_xw) : FrameBlind (hx_Pre D xt ps mem sz as) := by
  intro a U g mk q
  obtain ⟨h1, h2, h3, h4, h5, h6, h7, h8⟩ := q
  exact ⟨h1, h2, h3, va_K.moved (u := U) (U := U.calling g mk a) (Vm.Alike.refl U.vm) h4, h5, hx_ok_moved (u := U) (U := U.calling g mk a) (Vm.Alike.refl U.vm) h6, rk_xw_same hxo (s := U) (U := U.calling g mk a) rfl h7, hxt.1 _ U (U.calling g mk a) _ rfl h8⟩
def hx_SC (l : Launch) (D : va_G) (xt : tk_XT) (d : Nat) (call : fx_Ca) : Prop := ∀ (f : Nat) (as : List Value) (mem mem' : fx_M) (r : Option Value), call f as mem = some (r, mem') → ∀ q : rk_N, gk_MN[f]? = some q → ∃ M, gk_P[f]? = some M ∧ M.2.1 ≤ 21 ∧ ∀ (ps : fx_P) (sz : Nat), Met l q.2.1 (Jvm.Cond.code q.2.1 q.2.2 M.2.1 M.2.2.2.2.1 :: gk_tbl) { frames := d + 4, cells := 0, slots := 0, locals := 40 * (d + 4) } (hx_Pre D xt ps mem sz as) (hx_Post D ps mem' r (va_A (fx_w ps mem) sz)) 0 0 (va_A (fx_w ps mem) sz)
end HFXR
section HFXB
variable {p : Program} {l : Launch} {e : Env} {R : Room} {s : State} {m : MethodId} {args : Array Value} {below : List Frame} {meth : Method} {c : Code} {Q : State → Prop} {cc : ByteArray} {D : va_G} {Ad : Nat → Prop} {xt : tk_XT} {own : String}
theorem hx_back {ps : fx_P} {mem mem' : fx_M} {r : Option Value} {H : Heap} {locs : List Loc} {ls : Array Slot} {st0 rest : List Value} {pc : Nat} {as : Array Value} (hA : ∀ q, s.heap.size ≤ q → Ad q) (hD : va_D Ad (fx_w ps mem)) (hS : va_S Ad s.heap H locs)
    (hr : va_Run p l e R s m args below meth c H locs 0 0 0 0 (F0 m pc ls st0) rest (hx_Post D ps mem' r (va_A (fx_w ps mem) H.size) as) (va_A (fx_w ps mem) H.size))
    (kk : ∀ (H' : Heap) (locs' : List Loc), hx_ok s ps mem' → va_P D gk_cl (fx_w ps mem') H' → va_D Ad (fx_w ps mem') → va_S Ad s.heap H' locs' → rk_KW p l e R s m args below meth c Q (pc + 3) ls ((r.map (fx_v ps)).toList ++ rest) H' locs' 0 0) : rk_KW p l e R s m args below meth c Q pc ls st0 H locs 0 0 := by
  have hsub : ∀ q, va_A (fx_w ps mem) H.size q → Ad q := by
    rintro q (⟨k, e1, hk⟩ | hq)
    · exact hD.2 k _ hk
    · exact hA q (Nat.le_trans hS.1 hq)
  intro T hT X
  obtain ⟨v, st₀, t, T', L, h0, X', hLf, e1, e2, ⟨⟨b1, b2, b3, b4⟩, hF⟩, go⟩ := hr T hT X
  have hal : t.vm.Alike s.vm := by rw [← e2]; exact X'.warmed.alike.symm
  have hS1 : va_S Ad s.heap t.heap (locs ++ L) := by
    refine ⟨Nat.le_trans hS.1 (by rw [← h0]; exact hF.1), fun q hq hn => ?_, fun z hz => ?_⟩
    · rw [hF.2 q (by rw [h0]; exact Nat.lt_of_lt_of_le hq hS.1) (fun z => hn (hsub q z)), h0]
      exact hS.2.1 q hq hn
    · rcases List.mem_append.mp hz with z1 | z1
      · exact hS.2.2 z z1
      · exact hsub _ (hLf z z1)
  have hv : v = r.map (fx_v ps) := Outcome.returned.inj b1
  subst hv
  obtain ⟨t2, c1, c2⟩ := kk t.heap (locs ++ L) (hx_ok_moved hal b2) b3 (b4.weaken (fun _ _ _ z => hsub _ z)) hS1 T' e1 X'
  exact ⟨t2, go t2 c1, c2⟩
theorem hx_pre (hxt : tk_xtok xt) {ps : fx_P} {mem : fx_M} {H : Heap} {locs : List Loc} {as : List Value} (hXt : xt Ad s s.heap) (hA : ∀ q, s.heap.size ≤ q → Ad q) (hS : va_S Ad s.heap H locs) (hxo : rk_xok gk_xw) (hxw : ∀ w ∈ gk_xw, va_Nw w s) (hK : va_K D gk_cl [] s) (hO : hx_ok s ps mem) (hP : va_P D gk_cl (fx_w ps mem) H) (hD : va_D Ad (fx_w ps mem)) (U : State) (hU : U.heap = H) (hW : s.WarmedH U.vm) : hx_Pre D xt ps mem H.size as (as.map (fx_v ps)).toArray U :=
  ⟨rfl, by rw [hU], by rw [hU]; exact hP, va_K.moved hW.alike hK, hD.weaken (fun _ _ _ _ => trivial), hx_ok_moved hW.alike hO, rk_xw_warm hxo hW hxw, by
    rw [hU]
    refine hxt.2.1 _ _ _ _ hW (hxt.2.2 _ _ _ _ _ hXt (fun a ha hn => hS.2.1 a ha hn) ?_)
    rintro q (⟨k, e1, hk⟩ | hq)
    · exact hD.2 k _ hk
    · exact hA q (Nat.le_trans hS.1 hq)⟩
set_option maxHeartbeats 8000000 in
theorem hx_step_ok (hxt : tk_xtok xt) {M : rk_M2} (hkk : ∀ r ∈ M.2.2.1, rk_kok gk_tbl own r) {ps : fx_P} (hXt : xt Ad s s.heap) (hok : rk_ok gk_tbl gk_xw gk_cl gk_fty gk_cln gk_MN gk_mci gk_P) (hx : p.tables.exec = Jvm.exec) (hb : c.code = cc) (hml : c.maxLocals = M.2.1) (hF : rk_Fr s m args meth D gk_cl Ad gk_tbl gk_xw gk_fty gk_cln own M.2.2.1 M.2.2.2.1) (hck : ∀ r ∈ M.2.2.1, rk_cok gk_tbl gk_xw gk_MN gk_P own r) {d : Nat} {call : fx_Ca} (hcall : hx_SC l D xt d call) (hfr : d + 5 ≤ R.frames) (hlo : 40 * (d + 5) ≤ R.locals) {pc : Nat} {ins : Instr} {len : Nat} (hdg : decode cc pc = .ok (ins, len)) (hlen : rk_len ins len = true) {lc : fx_L} {stk : List Value} {mem : fx_M} {zz : Nat × fx_L × List Value × fx_M} (h : hx_step call gk_fty gk_mci M pc ins lc stk mem = some zz) (hO : hx_ok s ps mem) {H : Heap} {locs : List Loc} {ls : Array Slot} (hP : va_P D gk_cl (fx_w ps mem) H) (hD : va_D Ad (fx_w ps mem)) (hS : va_S Ad s.heap H locs) (hl : lv_has ls M.2.1 (fx_lm ps lc)) (kk : ∀ (H' : Heap) (locs' : List Loc) (ls' : Array Slot), hx_ok s ps zz.2.2.2 → va_P D gk_cl (fx_w ps zz.2.2.2) H' → va_D Ad (fx_w ps zz.2.2.2) → va_S Ad s.heap H' locs' → lv_has ls' M.2.1 (fx_lm ps zz.2.1) → rk_KW p l e R s m args below meth c Q zz.1 ls' (zz.2.2.1.map (fx_v ps)) H' locs' 0 0) : rk_KW p l e R s m args below meth c Q pc ls (stk.map (fx_v ps)) H locs 0 0 := by
  have hbase : fx_mem gk_fty M pc ins lc stk mem = some zz → rk_KW p l e R s m args below meth c Q pc ls (stk.map (fx_v ps)) H locs 0 0 := fun h2 => hx_mem_ok hx hb hml hF (by omega) (by omega) hdg hlen h2 hO hP hD hS hl kk
  obtain ⟨hgw, hxo, -, -, hlenM, hmok, hmci⟩ := hok
  have hF0 := hF
  obtain ⟨hts, hxw, hown, hK, hA, hcl, hlk, hini, hac, hcs⟩ := hF0
  have hfix : CallFix p m c cc M.2.1 s args gk_tbl own := ⟨hx, hb, hml, hown, hts⟩
  cases ins
  case invokevirtual idx =>
    simp [rk_len] at hlen; subst hlen
    change (match rk_lk M.2.2.1 idx with
      | some q => cond (Nat.beq q.1 5 || Nat.beq q.1 6) (hx_cv gk_mci call (pc + 3) q.2.1 q.2.2 lc stk mem) none
      | none => none) = some zz at h
    split at h
    · next q9 hlk1 =>
      obtain ⟨kd, f, n⟩ := q9
      cases hkd : (Nat.beq kd 5 || Nat.beq kd 6) with
      | false => rw [hkd] at h; exact fx_nos h
      | true =>
        rw [hkd] at h
        change hx_cv gk_mci call (pc + 3) f n lc stk mem = some zz at h
        have hkd2 : kd = 5 ∨ kd = 6 := by
          rw [Bool.or_eq_true] at hkd
          exact hkd.imp Nat.eq_of_beq_eq_true Nat.eq_of_beq_eq_true
        unfold hx_cv at h
        split at h
        · next as j r hpop =>
          split at h
          · next o hj =>
            cases hcn : (Nat.ble (fx_sum r) 8 && decide (gk_mci[f]? = some o.1)) with
            | false => rw [hcn] at h; exact fx_nos h
            | true =>
              rw [hcn] at h
              change fx_aft (pc + 3) lc r (call f (.ref j :: as) mem) = some zz at h
              rw [Bool.and_eq_true] at hcn
              have hsum := Nat.le_of_ble_eq_true hcn.1
              have hci := of_decide_eq_true hcn.2
              unfold fx_aft at h
              split at h
              · next x hcl1 =>
                obtain ⟨r9, mem9⟩ := x
                obtain rfl := Option.some.inj h
                obtain ⟨v2, rfl, rfl, hn⟩ := fx_pops_ok n hpop
                rw [List.append_nil] at hcl1
                obtain ⟨q, h1, h2, h3⟩ := hx_w_get hO hj
                obtain ⟨ci, vs⟩ := o
                have hw : (fx_w ps mem)[j]? = some (fx_ad ps j, .inr (ci, vs.map (fx_v ps))) := by rw [h2]; exact h3
                have hck1 := hck _ (rk_lk_mem hlk1)
                rw [← fx_sum_lm ps] at hsum
                have hstk : ((v2.reverse ++ .ref j :: r).map (fx_v ps)) = (v2.map (fx_v ps)).reverse ++ (.ref (fx_ad ps j) :: r.map (fx_v ps)) := by
                  rw [List.map_append, List.map_reverse]
                  rfl
                rw [hstk]
                have kk2 : ∀ (H' : Heap) (locs' : List Loc), hx_ok s ps mem9 → va_P D gk_cl (fx_w ps mem9) H' → va_D Ad (fx_w ps mem9) → va_S Ad s.heap H' locs' → rk_KW p l e R s m args below meth c Q (pc + 3) ls ((r9.map (fx_v ps)).toList ++ r.map (fx_v ps)) H' locs' 0 0 := fun H' locs' g1 g2 g3 g4 => by
                  have := kk H' locs' ls g1 g2 g3 g4 hl
                  cases r9 with
                  | none => exact this
                  | some v9 => exact this
                rcases hkd2 with rfl | rfl
                · obtain ⟨q, hq, w1, w2, w3, w4⟩ := hck1
                  obtain ⟨M', hM, hM21, hmet⟩ := hcall f _ _ _ _ hcl1 q hq
                  obtain ⟨m1, m2, m3, m4, m5, -⟩ := hmok f q M' hq hM
                  obtain ⟨kq, hkq, -⟩ := hP j _ hw
                  have hkn := hmci f ci q kq hci hq hkq
                  have hrecv := va_recv hK hP hkq hw
                  rw [hkn] at hrecv
                  refine hx_back (as := ((Value.ref j :: v2).map (fx_v ps)).toArray) hA hD hS ?_ kk2
                  exact va_runV (C := q.1) (As := v2.map (fx_v ps)) hfix (hmet ps H.size) ⟨callB_of n hts (rk_good hgw m4) rfl rfl rfl (hts _ m5) (hts _ w1) ⟨m3.1, m3.2, w4⟩ ⟨hfr, by show 8 + (M'.2.1 + 11) + 40 * (d + 4) ≤ R.locals; omega⟩, hts _ w2, hts _ w3⟩ ⟨hx_blind hxt hxo, hrecv, fun U hU hW => hx_pre hxt hXt hA hS hxo hxw hK hO hP hD U hU hW⟩ rfl (by rw [List.length_map]; exact hn) hl.1 rfl (lv_room hsum) hdg ⟨Nat.zero_le _, Nat.zero_le _⟩
                · obtain ⟨q, host, hq, w1, w2, w3, w4⟩ := hck1
                  obtain ⟨M', hM, hM21, hmet⟩ := hcall f _ _ _ _ hcl1 q hq
                  obtain ⟨m1, m2, m3, m4, m5, -⟩ := hmok f q M' hq hM
                  obtain ⟨kq, hkq, -⟩ := hP j _ hw
                  have hkn := hmci f ci q kq hci hq hkq
                  have hrecv := va_recv hK hP hkq hw
                  rw [hkn] at hrecv
                  refine hx_back (as := ((Value.ref j :: v2).map (fx_v ps)).toArray) hA hD hS ?_ kk2
                  exact va_runVN (C := q.1) (As := v2.map (fx_v ps)) hfix (hmet ps H.size) ⟨va_cnB n hts (rk_good hgw m4) rfl rfl rfl (hxw _ w1) (hts _ m5) ⟨m3.1, m3.2, w4⟩ ⟨hfr, by show 8 + (M'.2.1 + 11) + 40 * (d + 4) ≤ R.locals; omega⟩, hts _ w2, hts _ w3⟩ ⟨hx_blind hxt hxo, hrecv, fun U hU hW => hx_pre hxt hXt hA hS hxo hxw hK hO hP hD U hU hW⟩ rfl (by rw [List.length_map]; exact hn) hl.1 rfl (lv_room hsum) hdg ⟨Nat.zero_le _, Nat.zero_le _⟩
              · exact fx_nos h
          · exact fx_nos h
        · exact fx_nos h
    · exact fx_nos h
  case invokestatic idx =>
    change (match rk_lk M.2.2.1 idx with
      | some q => cond (Nat.beq q.1 7 || Nat.beq q.1 8) (fx_cs call (pc + 3) q.2.1 q.2.2 lc stk mem) (cond (Nat.beq q.1 12) (hx_cp (pc + 3) lc stk mem) (fx_mem gk_fty M pc (.invokestatic idx) lc stk mem))
      | none => none) = some zz at h
    split at h
    · next q9 hlk1 =>
      obtain ⟨kd, f, n⟩ := q9
      cases hkd : (Nat.beq kd 7 || Nat.beq kd 8) with
      | false =>
        rw [hkd] at h
        cases h12 : Nat.beq kd 12 with
        | false =>
          dsimp only [cond] at h
          rw [h12] at h
          exact hbase h
        | true =>
          dsimp only [cond] at h
          rw [h12] at h
          change hx_cp (pc + 3) lc stk mem = some zz at h
          simp [rk_len] at hlen; subst hlen
          obtain rfl := Nat.eq_of_beq_eq_true h12
          obtain ⟨w1, w2, w3, w4⟩ := hkk _ (rk_lk_mem hlk1) rfl
          have hnf : nativeFrameWords "java/lang/System" "arraycopy" 5 ≤ 20 := by decide +kernel
          unfold hx_cp at h
          split at h
          · next n9 dp j1 sp j0 r =>
            split at h
            · next n0 f9 n1 g9 hj0 hj1 =>
              obtain ⟨hc, rfl⟩ := fx_if_inv h
              rw [Bool.and_eq_true] at hc
              have hsum := Nat.le_of_ble_eq_true hc.1
              rw [← fx_sum_lm ps] at hsum
              obtain ⟨c1, c2, c3, c4, c5⟩ := hx_cc_ok hc.2
              obtain ⟨q0, a1, a2, a3, a4⟩ := hx_arr hF hO hj0
              obtain ⟨q1, b1, b2, b3, b4⟩ := hx_arr hF hO hj1
              have eset : fx_w ps (mem.set j1 (.inr (.int, n1, .inl (va_cpy f9 g9 sp.toNatClampNeg dp.toNatClampNeg n9.toNatClampNeg)))) = (fx_w ps mem).set j1 (q1.1, .inl (q1.2, n1, .inl (va_cpy f9 g9 sp.toNatClampNeg dp.toNatClampNeg n9.toNatClampNeg))) := fx_w_set ps mem j1 _ q1 b1
              show rk_KW p l e R s m args below meth c Q pc ls (.int n9 :: .int dp :: .ref (fx_ad ps j1) :: .int sp :: .ref (fx_ad ps j0) :: r.map (fx_v ps)) H locs 0 0
              rw [a2, b2]
              refine va_copyi (ty := .int) hx hb (by rw [hml]; exact hl.1.symm) hown (hts _ w1) (hts _ w2) (hts _ w3) (hts _ w4) (a4.app b4) hP hD hS j0 j1 0 1 a3 b3 rfl rfl rfl c1 c2 c3 c4 c5 (fun _ _ => rfl) (by omega) (by omega) hdg (fun H1 locs1 hP1 hD1 hS1 => ?_)
              exact kk H1 locs1 ls (hx_ok_arr hO hj1) (by rw [eset]; exact hP1) (by rw [eset]; exact hD1) hS1 hl
            · next n0 f9 n1 g9 hj0 hj1 =>
              obtain ⟨hc, rfl⟩ := fx_if_inv h
              rw [Bool.and_eq_true] at hc
              have hsum := Nat.le_of_ble_eq_true hc.1
              rw [← fx_sum_lm ps] at hsum
              obtain ⟨c1, c2, c3, c4, c5⟩ := hx_cc_ok hc.2
              obtain ⟨q0, a1, a2, a3, a4⟩ := hx_arr hF hO hj0
              obtain ⟨q1, b1, b2, b3, b4⟩ := hx_arr hF hO hj1
              have eset : fx_w ps (mem.set j1 (.inr (.long, n1, .inr (.inl (va_cpy f9 g9 sp.toNatClampNeg dp.toNatClampNeg n9.toNatClampNeg))))) = (fx_w ps mem).set j1 (q1.1, .inl (q1.2, n1, .inr (.inl (va_cpy f9 g9 sp.toNatClampNeg dp.toNatClampNeg n9.toNatClampNeg)))) := fx_w_set ps mem j1 _ q1 b1
              show rk_KW p l e R s m args below meth c Q pc ls (.int n9 :: .int dp :: .ref (fx_ad ps j1) :: .int sp :: .ref (fx_ad ps j0) :: r.map (fx_v ps)) H locs 0 0
              rw [a2, b2]
              refine va_copyl (ty := .long) hx hb (by rw [hml]; exact hl.1.symm) hown (hts _ w1) (hts _ w2) (hts _ w3) (hts _ w4) (a4.app b4) hP hD hS j0 j1 0 1 a3 b3 rfl rfl rfl c1 c2 c3 c4 c5 (fun _ _ => rfl) (by omega) (by omega) hdg (fun H1 locs1 hP1 hD1 hS1 => ?_)
              exact kk H1 locs1 ls (hx_ok_arr hO hj1) (by rw [eset]; exact hP1) (by rw [eset]; exact hD1) hS1 hl
            · exact fx_nos h
          · exact fx_nos h
      | true =>
        simp [rk_len] at hlen; subst hlen
        rw [hkd] at h
        change fx_cs call (pc + 3) f n lc stk mem = some zz at h
        have hkd2 : kd = 7 ∨ kd = 8 := by
          rw [Bool.or_eq_true] at hkd
          exact hkd.imp Nat.eq_of_beq_eq_true Nat.eq_of_beq_eq_true
        unfold fx_cs at h
        split at h
        · next as r hpop =>
          cases hcn : Nat.ble (fx_sum r) 8 with
          | false => rw [hcn] at h; exact fx_nos h
          | true =>
            rw [hcn] at h
            change fx_aft (pc + 3) lc r (call f as mem) = some zz at h
            have hsum := Nat.le_of_ble_eq_true hcn
            unfold fx_aft at h
            split at h
            · next x hcl1 =>
              obtain ⟨r9, mem9⟩ := x
              obtain rfl := Option.some.inj h
              obtain ⟨v2, rfl, rfl, hn⟩ := fx_pops_ok n hpop
              rw [List.append_nil] at hcl1
              have hck1 := hck _ (rk_lk_mem hlk1)
              rw [← fx_sum_lm ps] at hsum
              have hstk : ((v2.reverse ++ r).map (fx_v ps)) = (v2.map (fx_v ps)).reverse ++ r.map (fx_v ps) := by
                rw [List.map_append, List.map_reverse]
              rw [hstk]
              have kk2 : ∀ (H' : Heap) (locs' : List Loc), hx_ok s ps mem9 → va_P D gk_cl (fx_w ps mem9) H' → va_D Ad (fx_w ps mem9) → va_S Ad s.heap H' locs' → rk_KW p l e R s m args below meth c Q (pc + 3) ls ((r9.map (fx_v ps)).toList ++ r.map (fx_v ps)) H' locs' 0 0 := fun H' locs' g1 g2 g3 g4 => by
                have := kk H' locs' ls g1 g2 g3 g4 hl
                cases r9 with
                | none => exact this
                | some v9 => exact this
              rcases hkd2 with rfl | rfl
              · obtain ⟨q, hq, w1, w2, w4⟩ := hck1
                obtain ⟨M', hM, hM21, hmet⟩ := hcall f _ _ _ _ hcl1 q hq
                obtain ⟨m1, m2, m3, m4, m5, -⟩ := hmok f q M' hq hM
                refine hx_back (as := (v2.map (fx_v ps)).toArray) hA hD hS ?_ kk2
                exact va_runS (As := v2.map (fx_v ps)) hfix (hmet ps H.size) ⟨callB_of n hts (rk_good hgw m4) rfl rfl rfl (hts _ m5) (hts _ w1) ⟨m3.1, m3.2, w4⟩ ⟨hfr, by show 8 + (M'.2.1 + 11) + 40 * (d + 4) ≤ R.locals; omega⟩, hts _ w2⟩ ⟨hx_blind hxt hxo, fun U hU hW => hx_pre hxt hXt hA hS hxo hxw hK hO hP hD U hU hW⟩ rfl (by rw [List.length_map]; exact hn) hl.1 rfl (lv_room hsum) hdg ⟨Nat.zero_le _, Nat.zero_le _⟩
              · obtain ⟨q, host, hq, w1, w2, w4⟩ := hck1
                obtain ⟨M', hM, hM21, hmet⟩ := hcall f _ _ _ _ hcl1 q hq
                obtain ⟨m1, m2, m3, m4, m5, -⟩ := hmok f q M' hq hM
                refine hx_back (as := (v2.map (fx_v ps)).toArray) hA hD hS ?_ kk2
                exact va_runSN (As := v2.map (fx_v ps)) hfix (hmet ps H.size) ⟨va_cnB n hts (rk_good hgw m4) rfl rfl rfl (hxw _ w1) (hts _ m5) ⟨m3.1, m3.2, w4⟩ ⟨hfr, by show 8 + (M'.2.1 + 11) + 40 * (d + 4) ≤ R.locals; omega⟩, hts _ w2, trivial⟩ ⟨hx_blind hxt hxo, fun U hU hW => hx_pre hxt hXt hA hS hxo hxw hK hO hP hD U hU hW⟩ rfl (by rw [List.length_map]; exact hn) hl.1 rfl (lv_room hsum) hdg ⟨Nat.zero_le _, Nat.zero_le _⟩
            · exact fx_nos h
        · exact fx_nos h
    · exact fx_nos h
  case aaload =>
    simp [rk_len] at hlen; subst hlen
    change hx_aa (pc + 1) lc stk mem = some zz at h
    unfold hx_aa at h
    split at h
    · next i j r =>
      split at h
      · next ty n f hj =>
        obtain ⟨hc, rfl⟩ := fx_if_inv h
        rw [Bool.and_eq_true] at hc
        obtain ⟨q, h1, h2, h3, h4⟩ := hx_arr hF hO hj
        show rk_KW p l e R s m args below meth c Q pc ls (.int i :: .ref (fx_ad ps j) :: r.map (fx_v ps)) H locs 0 0
        rw [h2]
        have fin := kk H locs ls hO hP hD hS hl
        have fin : rk_KW p l e R s m args below meth c Q (pc + 1) ls (va_rf ((f i.toNatClampNeg).map (fx_ad ps)) :: r.map (fx_v ps)) H locs 0 0 := by rw [hx_rf]; exact fin
        cases ty
        case object C => exact va_aldq hx hb h4 hP j 0 h3 rfl (fx_in_ok hc.1) hdg fin
        case array t => exact va_alda hx hb h4 hP j 0 h3 rfl (fx_in_ok hc.1) hdg fin
        all_goals cases hc.2
      · exact fx_nos h
    · exact fx_nos h
  case arraylength =>
    simp [rk_len] at hlen; subst hlen
    change hx_al (pc + 1) lc stk mem = some zz at h
    unfold hx_al at h
    split at h
    · next j r =>
      split at h
      · next ty z hj =>
        obtain rfl := Option.some.inj h
        obtain ⟨q, h1, h2, h3, h4⟩ := hx_arr hF hO hj
        show rk_KW p l e R s m args below meth c Q pc ls (.ref (fx_ad ps j) :: r.map (fx_v ps)) H locs 0 0
        rw [h2]
        exact va_alen hx hb h4 hP j 0 h3 rfl (v := Int32.ofNat z.1) (by
          show Int32.ofNat (fx_z ps z).1 = _
          unfold fx_z
          split <;> rfl) hdg (kk H locs ls hO hP hD hS hl)
      · exact fx_nos h
    · exact fx_nos h
  all_goals exact hbase h
/-- a run that ends: so does the machine -/
theorem hx_run_ok (hxt : tk_xtok xt) {M : rk_M2} (hkk : ∀ r ∈ M.2.2.1, rk_kok gk_tbl own r) {ps : fx_P} (hXt : xt Ad s s.heap) (hok : rk_ok gk_tbl gk_xw gk_cl gk_fty gk_cln gk_MN gk_mci gk_P) (hx : p.tables.exec = Jvm.exec) (hb : c.code = cc) (hlocks : meth.locks = false) (hr : meth.sig.returnType = M.2.2.2.2.1) (hml : c.maxLocals = M.2.1) (hins : ∀ r ∈ M.1, decode cc r.1 = .ok r.2) (hF : rk_Fr s m args meth D gk_cl Ad gk_tbl gk_xw gk_fty gk_cln own M.2.2.1 M.2.2.2.1) (hck : ∀ r ∈ M.2.2.1, rk_cok gk_tbl gk_xw gk_MN gk_P own r) {d : Nat} {call : fx_Ca} (hcall : hx_SC l D xt d call) (hfr : d + 5 ≤ R.frames) (hlo : 40 * (d + 5) ≤ R.locals) {rr : Option Value} {memE : fx_M} : ∀ (n pc : Nat) (lc : fx_L) (stk : List Value) (mem : fx_M), hx_run call gk_fty gk_mci M n pc lc stk mem = some (rr, memE) → hx_ok s ps mem → ∀ (H : Heap) (locs : List Loc) (ls : Array Slot), va_P D gk_cl (fx_w ps mem) H → va_D Ad (fx_w ps mem) → va_S Ad s.heap H locs → lv_has ls M.2.1 (fx_lm ps lc) → rk_KW p l e R s m args below meth c (MQ below (hx_Post D ps memE rr Ad) args s R.cells R.slots Ad) pc ls (stk.map (fx_v ps)) H locs 0 0 := by
  intro n
  induction n with
  | zero => intro pc lc stk mem h; exact fx_nos h
  | succ n ih =>
    intro pc lc stk mem h hO H locs ls hP hD hS hl
    unfold hx_run at h
    split at h
    · exact fx_nos h
    · next q hat =>
      obtain ⟨hmem, hpc⟩ := tk_at_ok hat
      obtain ⟨pc9, ins, len⟩ := q
      dsimp only at hpc
      subst hpc
      cases hlen : rk_len ins len with
      | false => dsimp only at h; rw [hlen] at h; exact fx_nos h
      | true =>
        dsimp only at h
        rw [hlen] at h
        dsimp only [cond] at h
        have hdg : decode cc pc9 = .ok (ins, len) := hins (pc9, ins, len) hmem
        have hpost : ∀ (v : Option Value), v = rr → mem = memE → ∀ t : State, t.heap = H → s.WarmedH t.vm → hx_Post D ps memE rr Ad args s (.returned (v.map (fx_v ps))) t := fun v e1 e2 t ht hW => by
          subst e1 e2
          exact ⟨⟨rfl, hx_ok_moved hW.alike hO, by rw [ht]; exact hP, hD⟩, hS.F ht⟩
        split at h
        · next v hend =>
          cases h
          refine W.widen (k := R.cells) (n := R.slots) (Nat.zero_le _) (Nat.zero_le _) ?_
          unfold fx_end at hend
          split at hend
          · split at hend
            · next h1 h2 =>
              cases hend
              simp [rk_len] at hlen; subst hlen
              exact W.vret hx hb (by rw [hr]; exact h2) (hpost none rfl rfl) hS.2.2 hdg
            · cases hend
          · split at hend
            · next x ty h2 =>
              cases hvt : fx_vt ty (.int x) with
              | false => rw [hvt] at hend; cases hend
              | true =>
                rw [hvt] at hend
                cases hend
                simp [rk_len] at hlen; subst hlen
                obtain ⟨-, hnr, hfi⟩ := fx_vt_ok (ps := ps) hvt
                have hrt : meth.sig.returnType = some ty := by rw [hr]; exact h2
                cases ty
                case int => exact W.iret hx hb hrt (hpost (some (.int x)) rfl rfl) hS.2.2 hdg
                case boolean => exact W.zret (ty := .boolean) hx hb hrt hnr (hpost (some (.int x)) rfl rfl) hS.2.2 hdg
                all_goals cases hvt
            · cases hend
          · split at hend
            · next x h2 =>
              cases hend
              simp [rk_len] at hlen; subst hlen
              exact W.lret hx hb (by rw [hr]; exact h2) (hpost (some (.long x)) rfl rfl) hS.2.2 hdg
            · cases hend
          · cases hend
        · exact fx_nos h
        · split at h
          · next z hz =>
            exact hx_step_ok hxt hkk hXt hok hx hb hml hF hck hcall hfr hlo hdg hlen hz hO hP hD hS hl (fun H' locs' ls' g1 g2 g3 g4 g5 => ih _ _ _ _ h g1 H' locs' ls' g2 g3 g4 g5)
          · exact fx_nos h
end HFXB
section HFXC
variable {l : Launch} {D : va_G} {xt : tk_XT}
set_option maxHeartbeats 4000000 in
theorem hx_call_ok (hxt : tk_xtok xt) (hok : rk_ok gk_tbl gk_xw gk_cl gk_fty gk_cln gk_MN gk_mci gk_P) (N : Nat) : ∀ d : Nat, hx_SC l D xt d (hx_call gk_fty gk_mci gk_P N d) := by
  intro d
  induction d with
  | zero => intro f as mem mem' r h; exact fx_nos h
  | succ d ih =>
    intro f as mem mem' r h q hq
    unfold hx_call at h
    split at h
    · exact fx_nos h
    · next M hM =>
      cases hc : (Nat.ble M.2.1 21 && Nat.ble (fx_sum as) M.2.1) with
      | false => rw [hc] at h; exact fx_nos h
      | true =>
        rw [hc] at h
        dsimp only [cond] at h
        rw [Bool.and_eq_true] at hc
        have hc1 := Nat.le_of_ble_eq_true hc.1
        have hc2 := Nat.le_of_ble_eq_true hc.2
        refine ⟨M, hM, hc1, fun ps sz => ?_⟩
        obtain ⟨hgw, hxo, hcl, hac, hlenM, hmok, hmci⟩ := id hok
        obtain ⟨m1, m2, m3, m4, m5, m6, m7, m8, m9⟩ := hmok f q M hq hM
        refine Met.ofW (cc := q.2.2) (maxL := M.2.1) (ret := M.2.2.2.2.1) m1 rfl ?_
        intro p e s m args below meth c s₁ B hml hv
        obtain ⟨rfl, hsz, hP, hK, hD0, hO, hxw, hXt⟩ := hv
        have hts0 := atoms_spec (ws := Jvm.Cond.code q.2.1 q.2.2 M.2.1 M.2.2.2.2.1 :: gk_tbl) B.pre
        have hts : ∀ w ∈ gk_tbl, w.before (as.map (fx_v ps)).toArray s = true := fun w hw => hts0 w (List.mem_cons_of_mem _ hw)
        have hown : s.vm.findClass q.1 = some m.cls := by rw [← m2]; exact findClass_of_methodNamed B.named
        have hnm : meth.name = q.2.1.name := (name_of_methodNamed B.named B.method).1
        subst hsz
        have hF : rk_Fr s m (as.map (fx_v ps)).toArray meth D gk_cl (va_A (fx_w ps mem) s.heap.size) gk_tbl gk_xw gk_fty gk_cln q.1 M.2.2.1 M.2.2.2.1 := ⟨hts, hxw, hown, hK, fun z hz => Or.inr hz, hcl, fun r hr => (m7 r hr).1, fun hz => by rw [hnm]; exact m8 hz, hac, m9⟩
        have key := hx_run_ok hxt (fun r hr => (m7 r hr).2.2) hXt (l := l) (p := p) (e := e) (R := (headSpec (Jvm.Cond.code q.2.1 q.2.2 M.2.1 M.2.2.2.2.1 :: gk_tbl) { frames := d + 1 + 4, cells := 0, slots := 0, locals := 40 * (d + 1 + 4) }).room) (below := below) (ps := ps) (rr := r) (memE := mem') hok B.exec B.bytes B.notSynchronized B.returns hml m6 hF (fun r hr => (m7 r hr).2.1) ih (Nat.le_refl _) (Nat.le_refl _) N 0 (lv_args 0 as) [] mem h hO
        have hlen : (lg_sl (as.map (fx_v ps))).length ≤ M.2.1 := by
          rw [rk_lgsl, fx_sum_lm]
          exact hc2
        have hl := lv_entry (as.map (fx_v ps)) (n := M.2.1) hlen
        rw [lg_entry_eq]
        exact key s.heap [] _ hP hD0.self va_S.rf (by rw [fx_args_lm]; exact hl)
end HFXC
end MH33_2
section MH33_3
/-! ===== hx: single steps of a run, where something must be shown ===== -/
section HXS
variable {call : fx_Ca} {fty : rk_F} {mci : List Nat} {M : rk_M2}
theorem hx_one {n pc : Nat} {ins : Instr} {len : Nat} {lc : fx_L} {stk : List Value} {mem : fx_M} {z : Nat × fx_L × List Value × fx_M} (hat : tk_at M.1 pc = some (pc, ins, len)) (hl : rk_len ins len = true) (he : fx_end M.2.2.2.2.1 ins stk = none) (hs : hx_step call fty mci M pc ins lc stk mem = some z) : hx_run call fty mci M (n + 1) pc lc stk mem = hx_run call fty mci M n z.1 z.2.1 z.2.2.1 z.2.2.2 := by
  conv => lhs; unfold hx_run
  rw [hat]
  dsimp only
  rw [hl, he, hs]
  rfl
theorem hx_ldI {n pc : Nat} {i : Int32} {j len : Nat} {f : Nat → Int32} {lc : fx_L} {r : List Value} {mem : fx_M} (hat : tk_at M.1 pc = some (pc, .iaload, 1)) (hj : mem[j]? = some (.inr (.int, len, .inl f))) (hin : fx_in i len = true) : hx_run call fty mci M (n + 1) pc lc (.int i :: .ref j :: r) mem = hx_run call fty mci M n (pc + 1) lc (.int (f i.toNatClampNeg) :: r) mem :=
  hx_one (z := (pc + 1, lc, .int (f i.toNatClampNeg) :: r, mem)) hat rfl rfl (by
    show fx_ia (pc + 1) lc (.int i :: .ref j :: r) mem = _
    unfold fx_ia
    dsimp only
    rw [hj]
    dsimp only
    rw [hin]
    rfl)
theorem hx_ldB {n pc : Nat} {i : Int32} {j len : Nat} {f : Nat → Int32} {lc : fx_L} {r : List Value} {mem : fx_M} (hat : tk_at M.1 pc = some (pc, .baload, 1)) (hj : mem[j]? = some (.inr (.byte, len, .inl f))) (hin : fx_in i len = true) : hx_run call fty mci M (n + 1) pc lc (.int i :: .ref j :: r) mem = hx_run call fty mci M n (pc + 1) lc (.int (f i.toNatClampNeg) :: r) mem :=
  hx_one (z := (pc + 1, lc, .int (f i.toNatClampNeg) :: r, mem)) hat rfl rfl (by
    show fx_ba (pc + 1) lc (.int i :: .ref j :: r) mem = _
    unfold fx_ba
    dsimp only
    rw [hj]
    dsimp only
    rw [hin]
    rfl)
theorem hx_ldL {n pc : Nat} {i : Int32} {j len : Nat} {f : Nat → Int64} {lc : fx_L} {r : List Value} {mem : fx_M} (hat : tk_at M.1 pc = some (pc, .laload, 1)) (hj : mem[j]? = some (.inr (.long, len, .inr (.inl f)))) (hin : fx_in i len = true) : hx_run call fty mci M (n + 1) pc lc (.int i :: .ref j :: r) mem = hx_run call fty mci M n (pc + 1) lc (.long (f i.toNatClampNeg) :: r) mem :=
  hx_one (z := (pc + 1, lc, .long (f i.toNatClampNeg) :: r, mem)) hat rfl rfl (by
    show fx_la (pc + 1) lc (.int i :: .ref j :: r) mem = _
    unfold fx_la
    dsimp only
    rw [hj]
    dsimp only
    rw [hin]
    rfl)
theorem hx_stI {n pc : Nat} {i v : Int32} {j len : Nat} {f : Nat → Int32} {lc : fx_L} {r : List Value} {mem mem' : fx_M} (hat : tk_at M.1 pc = some (pc, .iastore, 1)) (hj : mem[j]? = some (.inr (.int, len, .inl f))) (hin : fx_in i len = true) (hm : mem.set j (.inr (.int, len, .inl (upd f i.toNatClampNeg v))) = mem') : hx_run call fty mci M (n + 1) pc lc (.int v :: .int i :: .ref j :: r) mem = hx_run call fty mci M n (pc + 1) lc r mem' :=
  hx_one (z := (pc + 1, lc, r, mem')) hat rfl rfl (by
    show fx_is (pc + 1) lc (.int v :: .int i :: .ref j :: r) mem = _
    unfold fx_is
    dsimp only
    rw [hj]
    dsimp only
    rw [hin, hm]
    rfl)
theorem hx_stB {n pc : Nat} {i v : Int32} {j len : Nat} {f : Nat → Int32} {lc : fx_L} {r : List Value} {mem mem' : fx_M} (hat : tk_at M.1 pc = some (pc, .bastore, 1)) (hj : mem[j]? = some (.inr (.byte, len, .inl f))) (hin : fx_in i len = true) (hm : mem.set j (.inr (.byte, len, .inl (upd f i.toNatClampNeg v.toInt8.toInt32))) = mem') : hx_run call fty mci M (n + 1) pc lc (.int v :: .int i :: .ref j :: r) mem = hx_run call fty mci M n (pc + 1) lc r mem' :=
  hx_one (z := (pc + 1, lc, r, mem')) hat rfl rfl (by
    show fx_bs (pc + 1) lc (.int v :: .int i :: .ref j :: r) mem = _
    unfold fx_bs
    dsimp only
    rw [hj]
    dsimp only
    rw [hin, hm]
    rfl)
theorem hx_stL {n pc : Nat} {i : Int32} {v : Int64} {j len : Nat} {f : Nat → Int64} {lc : fx_L} {r : List Value} {mem mem' : fx_M} (hat : tk_at M.1 pc = some (pc, .lastore, 1)) (hj : mem[j]? = some (.inr (.long, len, .inr (.inl f)))) (hin : fx_in i len = true) (hm : mem.set j (.inr (.long, len, .inr (.inl (vp_updL f i.toNatClampNeg v)))) = mem') : hx_run call fty mci M (n + 1) pc lc (.long v :: .int i :: .ref j :: r) mem = hx_run call fty mci M n (pc + 1) lc r mem' :=
  hx_one (z := (pc + 1, lc, r, mem')) hat rfl rfl (by
    show fx_ls (pc + 1) lc (.long v :: .int i :: .ref j :: r) mem = _
    unfold fx_ls
    dsimp only
    rw [hj]
    dsimp only
    rw [hin, hm]
    rfl)
theorem hx_ivV {n pc idx kd f k j : Nat} {o : Nat × List Value} {lc : fx_L} {stk as r : List Value} {v : Option Value} {mem mem' : fx_M} (hat : tk_at M.1 pc = some (pc, .invokevirtual idx, 3)) (hlk : rk_lk M.2.2.1 idx = some (kd, f, k)) (hkd : (Nat.beq kd 5 || Nat.beq kd 6) = true) (hpop : fx_pops k [] stk = some (as, .ref j :: r)) (hj : mem[j]? = some (.inl o)) (hsum : (Nat.ble (fx_sum r) 8 && decide (mci[f]? = some o.1)) = true) (hc : call f (.ref j :: as) mem = some (v, mem')) : hx_run call fty mci M (n + 1) pc lc stk mem = hx_run call fty mci M n (pc + 3) lc (v.toList ++ r) mem' :=
  hx_one (z := (pc + 3, lc, v.toList ++ r, mem')) hat rfl rfl (by
    show (match rk_lk M.2.2.1 idx with
      | some q => cond (Nat.beq q.1 5 || Nat.beq q.1 6) (hx_cv mci call (pc + 3) q.2.1 q.2.2 lc stk mem) none
      | none => none) = _
    rw [hlk]
    dsimp only
    rw [hkd]
    show hx_cv mci call (pc + 3) f k lc stk mem = _
    unfold hx_cv
    rw [hpop]
    dsimp only
    rw [hj]
    dsimp only
    rw [hsum, hc]
    rfl)
theorem hx_ivS {n pc idx kd f k : Nat} {lc : fx_L} {stk as r : List Value} {v : Option Value} {mem mem' : fx_M} (hat : tk_at M.1 pc = some (pc, .invokestatic idx, 3)) (hlk : rk_lk M.2.2.1 idx = some (kd, f, k)) (hkd : (Nat.beq kd 7 || Nat.beq kd 8) = true) (hpop : fx_pops k [] stk = some (as, r)) (hsum : Nat.ble (fx_sum r) 8 = true) (hc : call f as mem = some (v, mem')) : hx_run call fty mci M (n + 1) pc lc stk mem = hx_run call fty mci M n (pc + 3) lc (v.toList ++ r) mem' :=
  hx_one (z := (pc + 3, lc, v.toList ++ r, mem')) hat rfl rfl (by
    show (match rk_lk M.2.2.1 idx with
      | some q => cond (Nat.beq q.1 7 || Nat.beq q.1 8) (fx_cs call (pc + 3) q.2.1 q.2.2 lc stk mem) (cond (Nat.beq q.1 12) (hx_cp (pc + 3) lc stk mem) (fx_mem fty M pc (.invokestatic idx) lc stk mem))
      | none => none) = _
    rw [hlk]
    dsimp only
    rw [hkd]
    show fx_cs call (pc + 3) f k lc stk mem = _
    unfold fx_cs
    rw [hpop]
    dsimp only
    rw [hsum, hc]
    rfl)
theorem hx_ldA {n pc : Nat} {i : Int32} {j len : Nat} {ty : FieldType} {f : Nat → Option Nat} {lc : fx_L} {r : List Value} {mem : fx_M} (hat : tk_at M.1 pc = some (pc, .aaload, 1)) (hj : mem[j]? = some (.inr (ty, len, .inr (.inr (.inr (.inr f)))))) (hin : fx_in i len = true) (hro : hx_ro ty = true) : hx_run call fty mci M (n + 1) pc lc (.int i :: .ref j :: r) mem = hx_run call fty mci M n (pc + 1) lc (va_rf (f i.toNatClampNeg) :: r) mem :=
  hx_one (z := (pc + 1, lc, va_rf (f i.toNatClampNeg) :: r, mem)) hat rfl rfl (by
    show hx_aa (pc + 1) lc (.int i :: .ref j :: r) mem = _
    unfold hx_aa
    dsimp only
    rw [hj]
    dsimp only
    rw [hin, hro]
    rfl)
theorem hx_cpL {n pc idx a b : Nat} {x dp sp : Int32} {j0 j1 n0 n1 : Nat} {f g : Nat → Int64} {lc : fx_L} {r : List Value} {mem mem' : fx_M} (hat : tk_at M.1 pc = some (pc, .invokestatic idx, 3)) (hlk : rk_lk M.2.2.1 idx = some (12, a, b)) (h0 : mem[j0]? = some (.inr (.long, n0, .inr (.inl f)))) (h1 : mem[j1]? = some (.inr (.long, n1, .inr (.inl g)))) (hsum : Nat.ble (fx_sum r) 8 = true) (hc : hx_cc x dp sp n0 n1 = true) (hm : mem.set j1 (.inr (.long, n1, .inr (.inl (va_cpy f g sp.toNatClampNeg dp.toNatClampNeg x.toNatClampNeg)))) = mem') : hx_run call fty mci M (n + 1) pc lc (.int x :: .int dp :: .ref j1 :: .int sp :: .ref j0 :: r) mem = hx_run call fty mci M n (pc + 3) lc r mem' :=
  hx_one (z := (pc + 3, lc, r, mem')) hat rfl rfl (by
    show (match rk_lk M.2.2.1 idx with
      | some q => cond (Nat.beq q.1 7 || Nat.beq q.1 8) (fx_cs call (pc + 3) q.2.1 q.2.2 lc _ mem) (cond (Nat.beq q.1 12) (hx_cp (pc + 3) lc _ mem) (fx_mem fty M pc (.invokestatic idx) lc _ mem))
      | none => none) = _
    rw [hlk]
    dsimp only
    rw [show (Nat.beq 12 7 || Nat.beq 12 8) = false from rfl, show Nat.beq 12 12 = true from rfl]
    show hx_cp (pc + 3) lc (.int x :: .int dp :: .ref j1 :: .int sp :: .ref j0 :: r) mem = _
    unfold hx_cp
    dsimp only
    rw [h0, h1]
    dsimp only
    rw [hsum, hc, hm]
    rfl)
theorem hx_cpI {n pc idx a b : Nat} {x dp sp : Int32} {j0 j1 n0 n1 : Nat} {f g : Nat → Int32} {lc : fx_L} {r : List Value} {mem mem' : fx_M} (hat : tk_at M.1 pc = some (pc, .invokestatic idx, 3)) (hlk : rk_lk M.2.2.1 idx = some (12, a, b)) (h0 : mem[j0]? = some (.inr (.int, n0, .inl f))) (h1 : mem[j1]? = some (.inr (.int, n1, .inl g))) (hsum : Nat.ble (fx_sum r) 8 = true) (hc : hx_cc x dp sp n0 n1 = true) (hm : mem.set j1 (.inr (.int, n1, .inl (va_cpy f g sp.toNatClampNeg dp.toNatClampNeg x.toNatClampNeg))) = mem') : hx_run call fty mci M (n + 1) pc lc (.int x :: .int dp :: .ref j1 :: .int sp :: .ref j0 :: r) mem = hx_run call fty mci M n (pc + 3) lc r mem' :=
  hx_one (z := (pc + 3, lc, r, mem')) hat rfl rfl (by
    show (match rk_lk M.2.2.1 idx with
      | some q => cond (Nat.beq q.1 7 || Nat.beq q.1 8) (fx_cs call (pc + 3) q.2.1 q.2.2 lc _ mem) (cond (Nat.beq q.1 12) (hx_cp (pc + 3) lc _ mem) (fx_mem fty M pc (.invokestatic idx) lc _ mem))
      | none => none) = _
    rw [hlk]
    dsimp only
    rw [show (Nat.beq 12 7 || Nat.beq 12 8) = false from rfl, show Nat.beq 12 12 = true from rfl]
    show hx_cp (pc + 3) lc (.int x :: .int dp :: .ref j1 :: .int sp :: .ref j0 :: r) mem = _
    unfold hx_cp
    dsimp only
    rw [h0, h1]
    dsimp only
    rw [hsum, hc, hm]
    rfl)
end HXS
end MH33_3
section MH33_4
/-! ===== hx: fewer locals ===== -/
section HXW
variable {l l' : fx_L} {stk : List Value} {mem : fx_M}
theorem hx_p_aa (pc : Nat) : ∀ k z, hx_aa pc k stk mem = some z → z.2.1 = k ∧ ∀ k', hx_aa pc k' stk mem = some (z.1, k', z.2.2.1, z.2.2.2) := by
  intro k z h
  unfold hx_aa at h ⊢
  split at h
  · split at h
    · obtain ⟨hc, rfl⟩ := fx_if_inv h
      exact ⟨rfl, fun k' => by dsimp only; rw [hc]; rfl⟩
    · exact fx_nos h
  · exact fx_nos h
theorem hx_p_al (pc : Nat) : ∀ k z, hx_al pc k stk mem = some z → z.2.1 = k ∧ ∀ k', hx_al pc k' stk mem = some (z.1, k', z.2.2.1, z.2.2.2) := by
  intro k z h
  unfold hx_al at h ⊢
  split at h
  · split at h
    · cases h
      exact ⟨rfl, fun k' => rfl⟩
    · exact fx_nos h
  · exact fx_nos h
theorem hx_p_cp (pc : Nat) : ∀ k z, hx_cp pc k stk mem = some z → z.2.1 = k ∧ ∀ k', hx_cp pc k' stk mem = some (z.1, k', z.2.2.1, z.2.2.2) := by
  intro k z h
  unfold hx_cp at h ⊢
  split at h
  · split at h
    · obtain ⟨hc, rfl⟩ := fx_if_inv h
      exact ⟨rfl, fun k' => by dsimp only; rw [hc]; rfl⟩
    · obtain ⟨hc, rfl⟩ := fx_if_inv h
      exact ⟨rfl, fun k' => by dsimp only; rw [hc]; rfl⟩
    · exact fx_nos h
  · exact fx_nos h
theorem hx_w_step (h : fx_le l l') (call : fx_Ca) (fty : rk_F) (mci : List Nat) (M : rk_M2) (pc : Nat) (ins : Instr) : fx_sw4 (hx_step call fty mci M pc ins l stk mem) (hx_step call fty mci M pc ins l' stk mem) := by
  have hm := fx_w_mem (stk := stk) (mem := mem) h fty M pc ins
  cases ins
  case invokevirtual idx =>
    show fx_sw4 (match rk_lk M.2.2.1 idx with
      | some q => cond (Nat.beq q.1 5 || Nat.beq q.1 6) (hx_cv mci call (pc + 3) q.2.1 q.2.2 l stk mem) none
      | none => none) (match rk_lk M.2.2.1 idx with
      | some q => cond (Nat.beq q.1 5 || Nat.beq q.1 6) (hx_cv mci call (pc + 3) q.2.1 q.2.2 l' stk mem) none
      | none => none)
    cases rk_lk M.2.2.1 idx with
    | none => exact fun _ hz => nomatch hz
    | some q =>
      dsimp only
      cases (Nat.beq q.1 5 || Nat.beq q.1 6) with
      | false => exact fun _ hz => nomatch hz
      | true =>
        show fx_sw4 (hx_cv mci call (pc + 3) q.2.1 q.2.2 l stk mem) (hx_cv mci call (pc + 3) q.2.1 q.2.2 l' stk mem)
        unfold hx_cv
        split
        · next as j r hp =>
          split
          · next o hj =>
            cases (Nat.ble (fx_sum r) 8 && decide (mci[q.2.1]? = some o.1)) with
            | false => exact fun _ hz => nomatch hz
            | true => exact fx_w_aft h _ _ _
          · exact fun _ hz => nomatch hz
        · exact fun _ hz => nomatch hz
  case invokestatic idx =>
    show fx_sw4 (match rk_lk M.2.2.1 idx with
      | some q => cond (Nat.beq q.1 7 || Nat.beq q.1 8) (fx_cs call (pc + 3) q.2.1 q.2.2 l stk mem) (cond (Nat.beq q.1 12) (hx_cp (pc + 3) l stk mem) (fx_mem fty M pc (.invokestatic idx) l stk mem))
      | none => none) (match rk_lk M.2.2.1 idx with
      | some q => cond (Nat.beq q.1 7 || Nat.beq q.1 8) (fx_cs call (pc + 3) q.2.1 q.2.2 l' stk mem) (cond (Nat.beq q.1 12) (hx_cp (pc + 3) l' stk mem) (fx_mem fty M pc (.invokestatic idx) l' stk mem))
      | none => none)
    cases rk_lk M.2.2.1 idx with
    | none => exact fun _ hz => nomatch hz
    | some q =>
      dsimp only
      cases (Nat.beq q.1 7 || Nat.beq q.1 8) with
      | false =>
        dsimp only [cond]
        cases Nat.beq q.1 12 with
        | false => exact fx_w_mem h fty M pc (.invokestatic idx)
        | true => exact fx_w_of (f := hx_cp (pc + 3)) h (hx_p_cp _)
      | true =>
        show fx_sw4 (fx_cs call (pc + 3) q.2.1 q.2.2 l stk mem) (fx_cs call (pc + 3) q.2.1 q.2.2 l' stk mem)
        unfold fx_cs
        split
        · next as r hp =>
          cases Nat.ble (fx_sum r) 8 with
          | false => exact fun _ hz => nomatch hz
          | true => exact fx_w_aft h _ _ _
        · exact fun _ hz => nomatch hz
  case aaload => exact fx_w_of (f := hx_aa (pc + 1)) h (hx_p_aa _)
  case arraylength => exact fx_w_of (f := hx_al (pc + 1)) h (hx_p_al _)
  all_goals exact hm
end HXW
theorem hx_w_run (call : fx_Ca) (fty : rk_F) (mci : List Nat) (M : rk_M2) : ∀ (n pc : Nat) (l l' : fx_L) (stk : List Value) (mem : fx_M) (R : Option Value × fx_M), fx_le l l' → hx_run call fty mci M n pc l stk mem = some R → hx_run call fty mci M n pc l' stk mem = some R := by
  intro n
  induction n with
  | zero => intro pc l l' stk mem R _ h; exact fx_nos h
  | succ n ih =>
    intro pc l l' stk mem R hle h
    unfold hx_run at h ⊢
    split at h
    · exact fx_nos h
    · next q hat =>
      cases hlen : rk_len q.2.1 q.2.2 with
      | false => rw [hlen] at h; exact fx_nos h
      | true =>
        rw [hlen] at h
        dsimp only [cond] at h ⊢
        split at h
        · exact h
        · exact fx_nos h
        · split at h
          · next z hz =>
            obtain ⟨k', e1, e2⟩ := hx_w_step hle call fty mci M pc q.2.1 z hz
            rw [e1]
            exact ih _ _ _ _ _ _ e2 h
          · exact fx_nos h
end MH33_4
section MH33_5
abbrev hm_call (N d : Nat) : fx_Ca := hx_call gk_fty gk_mci gk_P N d
/-! ===== fr: runs and calls of the program, with fuel and depth as wanted ===== -/
def hr_R (k : Nat) (M : rk_M2) (pc : Nat) (lc : fx_L) (stk : List Value) (mem : fx_M) (R : Option Value × fx_M) : Prop := ∃ N0 n0 : Nat, ∀ N d n : Nat, hx_run (hm_call (N + N0 + 100) (d + k)) gk_fty gk_mci M (n + n0) pc lc stk mem = some R
def hr_T (k f : Nat) (as : List Value) (mem : fx_M) (r : Option Value) (mem' : fx_M) : Prop := ∃ N0 : Nat, ∀ N d : Nat, hm_call (N + N0 + 100) (d + k) f as mem = some (r, mem')
section HFR
variable {k pc : Nat} {M : rk_M2} {lc : fx_L} {stk r as : List Value} {mem : fx_M} {R : Option Value × fx_M}
/-- steps that are plain -/
theorem hr_s (j : Nat) {pc' : Nat} {lc' : fx_L} {stk' : List Value} {mem' : fx_M} (h : ∀ N d n : Nat, hx_run (hm_call (N + 100) (d + k)) gk_fty gk_mci M (n + j) pc lc stk mem = hx_run (hm_call (N + 100) (d + k)) gk_fty gk_mci M n pc' lc' stk' mem') (kk : hr_R k M pc' lc' stk' mem' R) : hr_R k M pc lc stk mem R := by
  obtain ⟨N0, n0, hk⟩ := kk
  refine ⟨N0, n0 + j, fun N d n => ?_⟩
  rw [← Nat.add_assoc, h (N + N0) d (n + n0)]
  exact hk N d n
theorem hr_ret {v : Option Value} {ins : Instr} {len : Nat} (hat : tk_at M.1 pc = some (pc, ins, len)) (hl : rk_len ins len = true) (he : fx_end M.2.2.2.2.1 ins stk = some (some v)) : hr_R k M pc lc stk mem (v, mem) := by
  refine ⟨0, 1, fun N d n => ?_⟩
  show hx_run _ _ _ _ (n + 1) _ _ _ _ = _
  unfold hx_run
  rw [hat]
  dsimp only
  rw [hl, he]
  rfl
theorem hr_1 {pc' : Nat} {lc' : fx_L} {stk' : List Value} {mem' : fx_M} (h : ∀ (call : fx_Ca) (n : Nat), hx_run call gk_fty gk_mci M (n + 1) pc lc stk mem = hx_run call gk_fty gk_mci M n pc' lc' stk' mem') (kk : hr_R k M pc' lc' stk' mem' R) : hr_R k M pc lc stk mem R := by
  obtain ⟨N0, n0, hk⟩ := kk
  refine ⟨N0, n0 + 1, fun N d n => ?_⟩
  rw [← Nat.add_assoc, h]
  exact hk N d n
theorem hr_ldI {i : Int32} {j len : Nat} {f : Nat → Int32} (hat : tk_at M.1 pc = some (pc, .iaload, 1)) (hj : mem[j]? = some (.inr (.int, len, .inl f))) (hin : fx_in i len = true) (kk : hr_R k M (pc + 1) lc (.int (f i.toNatClampNeg) :: r) mem R) : hr_R k M pc lc (.int i :: .ref j :: r) mem R := hr_1 (fun _ _ => hx_ldI hat hj hin) kk
theorem hr_ldB {i : Int32} {j len : Nat} {f : Nat → Int32} (hat : tk_at M.1 pc = some (pc, .baload, 1)) (hj : mem[j]? = some (.inr (.byte, len, .inl f))) (hin : fx_in i len = true) (kk : hr_R k M (pc + 1) lc (.int (f i.toNatClampNeg) :: r) mem R) : hr_R k M pc lc (.int i :: .ref j :: r) mem R := hr_1 (fun _ _ => hx_ldB hat hj hin) kk
theorem hr_ldL {i : Int32} {j len : Nat} {f : Nat → Int64} (hat : tk_at M.1 pc = some (pc, .laload, 1)) (hj : mem[j]? = some (.inr (.long, len, .inr (.inl f)))) (hin : fx_in i len = true) (kk : hr_R k M (pc + 1) lc (.long (f i.toNatClampNeg) :: r) mem R) : hr_R k M pc lc (.int i :: .ref j :: r) mem R := hr_1 (fun _ _ => hx_ldL hat hj hin) kk
theorem hr_stI {i v : Int32} {j len : Nat} {f : Nat → Int32} {mem' : fx_M} (hat : tk_at M.1 pc = some (pc, .iastore, 1)) (hj : mem[j]? = some (.inr (.int, len, .inl f))) (hin : fx_in i len = true) (hm : mem.set j (.inr (.int, len, .inl (upd f i.toNatClampNeg v))) = mem') (kk : hr_R k M (pc + 1) lc r mem' R) : hr_R k M pc lc (.int v :: .int i :: .ref j :: r) mem R := hr_1 (fun _ _ => hx_stI hat hj hin hm) kk
theorem hr_stL {i : Int32} {v : Int64} {j len : Nat} {f : Nat → Int64} {mem' : fx_M} (hat : tk_at M.1 pc = some (pc, .lastore, 1)) (hj : mem[j]? = some (.inr (.long, len, .inr (.inl f)))) (hin : fx_in i len = true) (hm : mem.set j (.inr (.long, len, .inr (.inl (vp_updL f i.toNatClampNeg v)))) = mem') (kk : hr_R k M (pc + 1) lc r mem' R) : hr_R k M pc lc (.long v :: .int i :: .ref j :: r) mem R := hr_1 (fun _ _ => hx_stL hat hj hin hm) kk
theorem hr_ivV {idx kd f na j k' : Nat} {o : Nat × List Value} {v : Option Value} {mem' : fx_M} (hc : hr_T k' f (.ref j :: as) mem v mem') (hk : k' ≤ k) (hat : tk_at M.1 pc = some (pc, .invokevirtual idx, 3)) (hlk : rk_lk M.2.2.1 idx = some (kd, f, na)) (hkd : (Nat.beq kd 5 || Nat.beq kd 6) = true) (hpop : fx_pops na [] stk = some (as, .ref j :: r)) (hj : mem[j]? = some (.inl o)) (hsum : (Nat.ble (fx_sum r) 8 && decide (gk_mci[f]? = some o.1)) = true) (kk : hr_R k M (pc + 3) lc (v.toList ++ r) mem' R) : hr_R k M pc lc stk mem R := by
  obtain ⟨N1, hc⟩ := hc
  obtain ⟨N0, n0, hk2⟩ := kk
  refine ⟨N0 + N1, n0 + 1, fun N d n => ?_⟩
  have e1 : N + (N0 + N1) + 100 = (N + N0) + N1 + 100 := by omega
  have e2 : N + (N0 + N1) + 100 = (N + N1) + N0 + 100 := by omega
  have hc2 := hc (N + N0) (d + (k - k'))
  rw [← e1, show d + (k - k') + k' = d + k by omega] at hc2
  rw [show n + (n0 + 1) = (n + n0) + 1 by omega, hx_ivV hat hlk hkd hpop hj hsum hc2, e2]
  exact hk2 (N + N1) d n
theorem hr_ivS {idx kd f na k' : Nat} {v : Option Value} {mem' : fx_M} (hc : hr_T k' f as mem v mem') (hk : k' ≤ k) (hat : tk_at M.1 pc = some (pc, .invokestatic idx, 3)) (hlk : rk_lk M.2.2.1 idx = some (kd, f, na)) (hkd : (Nat.beq kd 7 || Nat.beq kd 8) = true) (hpop : fx_pops na [] stk = some (as, r)) (hsum : Nat.ble (fx_sum r) 8 = true) (kk : hr_R k M (pc + 3) lc (v.toList ++ r) mem' R) : hr_R k M pc lc stk mem R := by
  obtain ⟨N1, hc⟩ := hc
  obtain ⟨N0, n0, hk2⟩ := kk
  refine ⟨N0 + N1, n0 + 1, fun N d n => ?_⟩
  have e1 : N + (N0 + N1) + 100 = (N + N0) + N1 + 100 := by omega
  have e2 : N + (N0 + N1) + 100 = (N + N1) + N0 + 100 := by omega
  have hc2 := hc (N + N0) (d + (k - k'))
  rw [← e1, show d + (k - k') + k' = d + k by omega] at hc2
  rw [show n + (n0 + 1) = (n + n0) + 1 by omega, hx_ivS hat hlk hkd hpop hsum hc2, e2]
  exact hk2 (N + N1) d n
theorem hr_meth {f : Nat} {v : Option Value} {mem' : fx_M} (hM : gk_P[f]? = some M) (hc : (Nat.ble M.2.1 21 && Nat.ble (fx_sum as) M.2.1) = true) (kk : hr_R k M 0 (lv_args 0 as) [] mem (v, mem')) : hr_T (k + 1) f as mem v mem' := by
  obtain ⟨N0, n0, hk⟩ := kk
  refine ⟨N0 + n0, fun N d => ?_⟩
  show hx_call gk_fty gk_mci gk_P (N + (N0 + n0) + 100) ((d + k) + 1) f as mem = _
  unfold hx_call
  rw [hM]
  dsimp only
  rw [hc]
  have h := hk (N + n0) d (N + N0 + 100)
  rw [show N + n0 + N0 + 100 = N + (N0 + n0) + 100 by omega, show N + N0 + 100 + n0 = N + (N0 + n0) + 100 by omega] at h
  exact h
theorem hr_ldA {i : Int32} {j len : Nat} {ty : FieldType} {f : Nat → Option Nat} (hat : tk_at M.1 pc = some (pc, .aaload, 1)) (hj : mem[j]? = some (.inr (ty, len, .inr (.inr (.inr (.inr f)))))) (hin : fx_in i len = true) (hro : hx_ro ty = true) (kk : hr_R k M (pc + 1) lc (va_rf (f i.toNatClampNeg) :: r) mem R) : hr_R k M pc lc (.int i :: .ref j :: r) mem R := hr_1 (fun call n => hx_ldA hat hj hin hro) kk
theorem hr_stB {i v : Int32} {j len : Nat} {f : Nat → Int32} {mem' : fx_M} (hat : tk_at M.1 pc = some (pc, .bastore, 1)) (hj : mem[j]? = some (.inr (.byte, len, .inl f))) (hin : fx_in i len = true) (hm : mem.set j (.inr (.byte, len, .inl (upd f i.toNatClampNeg v.toInt8.toInt32))) = mem') (kk : hr_R k M (pc + 1) lc r mem' R) : hr_R k M pc lc (.int v :: .int i :: .ref j :: r) mem R := hr_1 (fun call n => hx_stB hat hj hin hm) kk
theorem hr_len {j : Nat} {ty : FieldType} {z : vp_A} (hat : tk_at M.1 pc = some (pc, .arraylength, 1)) (hj : mem[j]? = some (.inr (ty, z))) (kk : hr_R k M (pc + 1) lc (.int (Int32.ofNat z.1) :: r) mem R) : hr_R k M pc lc (.ref j :: r) mem R := hr_1 (fun call n => hx_one (z := (pc + 1, lc, .int (Int32.ofNat z.1) :: r, mem)) hat rfl rfl (by
    show hx_al (pc + 1) lc (.ref j :: r) mem = _
    unfold hx_al
    dsimp only
    rw [hj])) kk
theorem hr_cpL {idx a b : Nat} {x dp sp : Int32} {j0 j1 n0 n1 : Nat} {f g : Nat → Int64} {mem' : fx_M} (hat : tk_at M.1 pc = some (pc, .invokestatic idx, 3)) (hlk : rk_lk M.2.2.1 idx = some (12, a, b)) (h0 : mem[j0]? = some (.inr (.long, n0, .inr (.inl f)))) (h1 : mem[j1]? = some (.inr (.long, n1, .inr (.inl g)))) (hsum : Nat.ble (fx_sum r) 8 = true) (hc : hx_cc x dp sp n0 n1 = true) (hm : mem.set j1 (.inr (.long, n1, .inr (.inl (va_cpy f g sp.toNatClampNeg dp.toNatClampNeg x.toNatClampNeg)))) = mem') (kk : hr_R k M (pc + 3) lc r mem' R) : hr_R k M pc lc (.int x :: .int dp :: .ref j1 :: .int sp :: .ref j0 :: r) mem R := hr_1 (fun call n => hx_cpL hat hlk h0 h1 hsum hc hm) kk
theorem hr_cpI {idx a b : Nat} {x dp sp : Int32} {j0 j1 n0 n1 : Nat} {f g : Nat → Int32} {mem' : fx_M} (hat : tk_at M.1 pc = some (pc, .invokestatic idx, 3)) (hlk : rk_lk M.2.2.1 idx = some (12, a, b)) (h0 : mem[j0]? = some (.inr (.int, n0, .inl f))) (h1 : mem[j1]? = some (.inr (.int, n1, .inl g))) (hsum : Nat.ble (fx_sum r) 8 = true) (hc : hx_cc x dp sp n0 n1 = true) (hm : mem.set j1 (.inr (.int, n1, .inl (va_cpy f g sp.toNatClampNeg dp.toNatClampNeg x.toNatClampNeg))) = mem') (kk : hr_R k M (pc + 3) lc r mem' R) : hr_R k M pc lc (.int x :: .int dp :: .ref j1 :: .int sp :: .ref j0 :: r) mem R := hr_1 (fun call n => hx_cpI hat hlk h0 h1 hsum hc hm) kk
theorem hr_retz {x : Int32} (hx : x = 0 ∨ x = 1) (hat : tk_at M.1 pc = some (pc, .ireturn, 1)) (hr : M.2.2.2.2.1 = some .boolean) : hr_R k M pc lc [.int x] mem (some (.int x), mem) := hr_ret hat rfl (by rw [hr]; rcases hx with rfl | rfl <;> rfl)
end HFR
end MH33_5
section MH33_6
/-! ===== fe: a run that ends in one of several ways ===== -/
def he_R (k : Nat) (M : rk_M2) (pc : Nat) (lc : fx_L) (stk : List Value) (mem : fx_M) (F : Option Value × fx_M → Prop) : Prop := ∃ R, F R ∧ hr_R k M pc lc stk mem R
section HFE
variable {k pc : Nat} {M : rk_M2} {lc : fx_L} {stk r as : List Value} {mem : fx_M} {F : Option Value × fx_M → Prop}
theorem he_of {k' pc' : Nat} {M' : rk_M2} {lc' : fx_L} {stk' : List Value} {mem' : fx_M} (h : ∀ R, hr_R k' M' pc' lc' stk' mem' R → hr_R k M pc lc stk mem R) (kk : he_R k' M' pc' lc' stk' mem' F) : he_R k M pc lc stk mem F := by
  obtain ⟨R, h1, h2⟩ := kk
  exact ⟨R, h1, h R h2⟩
theorem he_s (j : Nat) {pc' : Nat} {lc' : fx_L} {stk' : List Value} {mem' : fx_M} (h : ∀ N d n : Nat, hx_run (hm_call (N + 100) (d + k)) gk_fty gk_mci M (n + j) pc lc stk mem = hx_run (hm_call (N + 100) (d + k)) gk_fty gk_mci M n pc' lc' stk' mem') (kk : he_R k M pc' lc' stk' mem' F) : he_R k M pc lc stk mem F := he_of (fun _ z => hr_s j h z) kk
theorem he_ret {v : Option Value} {ins : Instr} {len : Nat} (hF : F (v, mem)) (hat : tk_at M.1 pc = some (pc, ins, len)) (hl : rk_len ins len = true) (he : fx_end M.2.2.2.2.1 ins stk = some (some v)) : he_R k M pc lc stk mem F := ⟨_, hF, hr_ret hat hl he⟩
theorem he_retz {x : Int32} (hF : F (some (.int x), mem)) (hx : x = 0 ∨ x = 1) (hat : tk_at M.1 pc = some (pc, .ireturn, 1)) (hr : M.2.2.2.2.1 = some .boolean) : he_R k M pc lc [.int x] mem F := ⟨_, hF, hr_retz hx hat hr⟩
theorem he_ldI {i : Int32} {j len : Nat} {f : Nat → Int32} (hat : tk_at M.1 pc = some (pc, .iaload, 1)) (hj : mem[j]? = some (.inr (.int, len, .inl f))) (hin : fx_in i len = true) (kk : he_R k M (pc + 1) lc (.int (f i.toNatClampNeg) :: r) mem F) : he_R k M pc lc (.int i :: .ref j :: r) mem F := he_of (fun _ z => hr_ldI hat hj hin z) kk
theorem he_ldB {i : Int32} {j len : Nat} {f : Nat → Int32} (hat : tk_at M.1 pc = some (pc, .baload, 1)) (hj : mem[j]? = some (.inr (.byte, len, .inl f))) (hin : fx_in i len = true) (kk : he_R k M (pc + 1) lc (.int (f i.toNatClampNeg) :: r) mem F) : he_R k M pc lc (.int i :: .ref j :: r) mem F := he_of (fun _ z => hr_ldB hat hj hin z) kk
theorem he_ldL {i : Int32} {j len : Nat} {f : Nat → Int64} (hat : tk_at M.1 pc = some (pc, .laload, 1)) (hj : mem[j]? = some (.inr (.long, len, .inr (.inl f)))) (hin : fx_in i len = true) (kk : he_R k M (pc + 1) lc (.long (f i.toNatClampNeg) :: r) mem F) : he_R k M pc lc (.int i :: .ref j :: r) mem F := he_of (fun _ z => hr_ldL hat hj hin z) kk
theorem he_stI {i v : Int32} {j len : Nat} {f : Nat → Int32} {mem' : fx_M} (hat : tk_at M.1 pc = some (pc, .iastore, 1)) (hj : mem[j]? = some (.inr (.int, len, .inl f))) (hin : fx_in i len = true) (hm : mem.set j (.inr (.int, len, .inl (upd f i.toNatClampNeg v))) = mem') (kk : he_R k M (pc + 1) lc r mem' F) : he_R k M pc lc (.int v :: .int i :: .ref j :: r) mem F := he_of (fun _ z => hr_stI hat hj hin hm z) kk
theorem he_stL {i : Int32} {v : Int64} {j len : Nat} {f : Nat → Int64} {mem' : fx_M} (hat : tk_at M.1 pc = some (pc, .lastore, 1)) (hj : mem[j]? = some (.inr (.long, len, .inr (.inl f)))) (hin : fx_in i len = true) (hm : mem.set j (.inr (.long, len, .inr (.inl (vp_updL f i.toNatClampNeg v)))) = mem') (kk : he_R k M (pc + 1) lc r mem' F) : he_R k M pc lc (.long v :: .int i :: .ref j :: r) mem F := he_of (fun _ z => hr_stL hat hj hin hm z) kk
theorem he_ivV {idx kd f na j k' : Nat} {o : Nat × List Value} {v : Option Value} {mem' : fx_M} (hc : hr_T k' f (.ref j :: as) mem v mem') (hk : k' ≤ k) (hat : tk_at M.1 pc = some (pc, .invokevirtual idx, 3)) (hlk : rk_lk M.2.2.1 idx = some (kd, f, na)) (hkd : (Nat.beq kd 5 || Nat.beq kd 6) = true) (hpop : fx_pops na [] stk = some (as, .ref j :: r)) (hj : mem[j]? = some (.inl o)) (hsum : (Nat.ble (fx_sum r) 8 && decide (gk_mci[f]? = some o.1)) = true) (kk : he_R k M (pc + 3) lc (v.toList ++ r) mem' F) : he_R k M pc lc stk mem F := he_of (fun _ z => hr_ivV hc hk hat hlk hkd hpop hj hsum z) kk
theorem he_ivS {idx kd f na k' : Nat} {v : Option Value} {mem' : fx_M} (hc : hr_T k' f as mem v mem') (hk : k' ≤ k) (hat : tk_at M.1 pc = some (pc, .invokestatic idx, 3)) (hlk : rk_lk M.2.2.1 idx = some (kd, f, na)) (hkd : (Nat.beq kd 7 || Nat.beq kd 8) = true) (hpop : fx_pops na [] stk = some (as, r)) (hsum : Nat.ble (fx_sum r) 8 = true) (kk : he_R k M (pc + 3) lc (v.toList ++ r) mem' F) : he_R k M pc lc stk mem F := he_of (fun _ z => hr_ivS hc hk hat hlk hkd hpop hsum z) kk
theorem he_meth {f : Nat} (hM : gk_P[f]? = some M) (hc : (Nat.ble M.2.1 21 && Nat.ble (fx_sum as) M.2.1) = true) (kk : he_R k M 0 (lv_args 0 as) [] mem F) : ∃ (v : Option Value) (mem' : fx_M), F (v, mem') ∧ hr_T (k + 1) f as mem v mem' := by
  obtain ⟨R, h1, h2⟩ := kk
  exact ⟨R.1, R.2, h1, hr_meth hM hc h2⟩
theorem he_ldA {i : Int32} {j len : Nat} {ty : FieldType} {f : Nat → Option Nat} (hat : tk_at M.1 pc = some (pc, .aaload, 1)) (hj : mem[j]? = some (.inr (ty, len, .inr (.inr (.inr (.inr f)))))) (hin : fx_in i len = true) (hro : hx_ro ty = true) (kk : he_R k M (pc + 1) lc (va_rf (f i.toNatClampNeg) :: r) mem F) : he_R k M pc lc (.int i :: .ref j :: r) mem F := he_of (fun _ z => hr_ldA hat hj hin hro z) kk
theorem he_stB {i v : Int32} {j len : Nat} {f : Nat → Int32} {mem' : fx_M} (hat : tk_at M.1 pc = some (pc, .bastore, 1)) (hj : mem[j]? = some (.inr (.byte, len, .inl f))) (hin : fx_in i len = true) (hm : mem.set j (.inr (.byte, len, .inl (upd f i.toNatClampNeg v.toInt8.toInt32))) = mem') (kk : he_R k M (pc + 1) lc r mem' F) : he_R k M pc lc (.int v :: .int i :: .ref j :: r) mem F := he_of (fun _ z => hr_stB hat hj hin hm z) kk
theorem he_len {j : Nat} {ty : FieldType} {z : vp_A} (hat : tk_at M.1 pc = some (pc, .arraylength, 1)) (hj : mem[j]? = some (.inr (ty, z))) (kk : he_R k M (pc + 1) lc (.int (Int32.ofNat z.1) :: r) mem F) : he_R k M pc lc (.ref j :: r) mem F := he_of (fun _ z => hr_len hat hj z) kk
theorem he_cpL {idx a b : Nat} {x dp sp : Int32} {j0 j1 n0 n1 : Nat} {f g : Nat → Int64} {mem' : fx_M} (hat : tk_at M.1 pc = some (pc, .invokestatic idx, 3)) (hlk : rk_lk M.2.2.1 idx = some (12, a, b)) (h0 : mem[j0]? = some (.inr (.long, n0, .inr (.inl f)))) (h1 : mem[j1]? = some (.inr (.long, n1, .inr (.inl g)))) (hsum : Nat.ble (fx_sum r) 8 = true) (hc : hx_cc x dp sp n0 n1 = true) (hm : mem.set j1 (.inr (.long, n1, .inr (.inl (va_cpy f g sp.toNatClampNeg dp.toNatClampNeg x.toNatClampNeg)))) = mem') (kk : he_R k M (pc + 3) lc r mem' F) : he_R k M pc lc (.int x :: .int dp :: .ref j1 :: .int sp :: .ref j0 :: r) mem F := he_of (fun _ z => hr_cpL hat hlk h0 h1 hsum hc hm z) kk
theorem hr_w {lc' : fx_L} {R : Option Value × fx_M} (hs : fx_sub lc' lc) (h1 : fx_nd lc') (h2 : fx_nd lc) (h : hr_R k M pc lc' stk mem R) : hr_R k M pc lc stk mem R := by
  obtain ⟨N0, n0, hk⟩ := h
  exact ⟨N0, n0, fun N d n => hx_w_run _ _ _ _ _ _ _ _ _ _ _ ⟨fx_sub_ok hs, h1, h2⟩ (hk N d n)⟩
/-- fewer locals, or in another order -/
theorem he_w {lc' : fx_L} (hs : fx_sub lc' lc) (h1 : fx_nd lc') (h2 : fx_nd lc) (kk : he_R k M pc lc' stk mem F) : he_R k M pc lc stk mem F := he_of (fun _ z => hr_w hs h1 h2 z) kk
end HFE
end MH33_6
