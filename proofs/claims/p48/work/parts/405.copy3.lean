/-! ===== the class: Tales.copyFrom whole ===== -/
def gc_lo2 : List (Nat × tk_V) := [(0, (2, 0, 0, 0)), (1, (2, 1, 0, 0))]
def gc_cutS (p : Nat) (rf : List Nat) (T : tk_S) : Nat → tk_S → Option Bool := fun pc st => cond (Nat.beq pc p) (some (tk_hitS gc_TZ (tk_id ([], []) rf) T st)) none
def gc_Tc (q q' : Nat × Nat × Nat) (k : Nat) (FA : tk_FA) : tk_S := (gc_lo2, [(0, 0, 0, 30), (0, 0, 0, 0), (2, 2, 0, 0), (0, 0, 0, 0), (2, 3, 0, 0)], ([], []), [q.1, q'.1, (if k = 0 then q.2.1 else q.2.2), (if k = 0 then q'.2.1 else q'.2.2)], (0, tk_ky k, (2, 2, 0, 0)) :: (1, tk_ky k, (2, 3, 0, 0)) :: FA)
def gc_Tp (q q' : Nat × Nat × Nat) (FA : tk_FA) : tk_S := (gc_lo2, [(0, 1, 1, 0), (2, 0, 0, 0)], ([(0, 30)], []), [q.1, q'.1], (1, tk_ky 6, (0, 1, 1, 0)) :: FA)
def gc_aft (T : tk_S) (t : Nat) : tk_S := (T.1, [], T.2.2.1, T.2.2.2.1, T.2.2.2.2.filter (tk_kpa T.2.2.2.1 t))
def gc_c0 : tk_Ca := fun _ _ _ _ _ => none
def gc_go (TY : tk_TT) (ms : List (Nat × Nat)) : Nat × tk_S → Option (tk_X ⊕ List (Nat × tk_S)) := tk_go1 (tk_fun ms TY gk_fty gk_mci gc_c0 gk_m117) gk_m117.2.2.2.2.1 gk_m117.1
def gc_emp (r : Option (List tk_X)) : Bool := match r with
  | some [] => true
  | _ => false
theorem gc_emp_ok {r : Option (List tk_X)} (h : gc_emp r = true) : r = some [] := by
  unfold gc_emp at h
  split at h
  · rfl
  · cases h
/-- the runs between the steps by hand -/
def gc_cpr (q q' : Nat × Nat × Nat) (FA FY : tk_FA) (ms : List (Nat × Nat)) : Bool :=
  gc_emp (tk_loop (gc_go gc_TZ ms) (gc_cutS 12 [q.1, q'.1] (gc_Tc q q' 0 FA)) 50 [(0, (gc_lo2, [], ([], []), [q.1, q'.1], FA))] []) &&
  (gc_emp (tk_loop (gc_go gc_TZ ms) (gc_cutS 42 [q.1, q'.1] (gc_Tc q q' 2 FA)) 90 [(15, gc_aft (gc_Tc q q' 0 FA) q.2.1)] []) &&
  (gc_emp (tk_loop (gc_go gc_TZ ms) (gc_cutS 95 [q.1, q'.1] (gc_Tp q q' FA)) 90 [(45, gc_aft (gc_Tc q q' 2 FA) q.2.2)] []) &&
  (match tk_loop (tk_go1H tk_hk0 (tk_fun ms gc_TZ gk_fty gk_mci gc_c0 gk_m117) gk_m117.2.2.2.2.1 gk_m117.1) (fun _ _ => none) 50 [(98, gc_aft (gc_Tp q q' FA) q.1)] [] with
  | some xs => tk_cov gc_TZ (tk_id ([], []) [q.1, q'.1]) xs [(none, ([], []), [q.1, q'.1], FY)]
  | none => false)))
theorem gc_fact {vals : List Int} {rads : List Nat} {ws : va_W} {A : Nat → Prop} {r k j y : Nat} {v : tk_V} {e : va_E} (h7 : va_D A ws) (h : tk_fk vals rads ws (r, tk_ky k, v)) (hy : rads[r]? = some y) (hw : ws[j]? = some (y, e)) : ∃ u, tk_pos e k = some u ∧ tk_g vals rads v u := by
  obtain ⟨y2, j2, i, e2, u, g1, g2, g3, g4, g5⟩ := h
  dsimp only at g1 g2
  rw [hy] at g1
  cases g1
  have hi : i = k := by
    have := Option.some.inj (g2.symm.trans (show tk_num vals (tk_ky k) = some ((k : Nat) : Int) from rfl))
    omega
  subst hi
  have := h7.1 j j2 _ _ hw g3 rfl
  subst this
  rw [hw] at g3
  cases g3
  exact ⟨u, g4, g5⟩
section GCQ
variable {l : Launch} {D : va_G} {xt : tk_XT} {ro : Nat → Nat → Int → Prop} {ads tw : List Nat}
set_option maxHeartbeats 8000000 in
theorem gc_copyFrom (hxt : tk_xtok xt) {q q' : Nat × Nat × Nat} {FA FY : tk_FA} {ms : List (Nat × Nat)} (hq : q ∈ gc_rl) (hq' : q' ∈ gc_rl) (hne : ¬ q = q') (hm : tk_in ms q.2.1 0 = true ∧ tk_in ms q.2.2 0 = true ∧ tk_in ms q.1 6 = true) (hfo : ∀ i v, tk_fv ro gc_reg ads tw q'.2.1 i (3, (q'.2.1 : Int), 0) v → tk_fv ro gc_reg ads tw q.2.1 i (3, (q.2.1 : Int), 0) v) (hfa : ∀ i v, tk_fv ro gc_reg ads tw q'.2.2 i (3, (q'.2.2 : Int), 0) v → tk_fv ro gc_reg ads tw q.2.2 i (3, (q.2.2 : Int), 0) v) (hTD : ∃ fs, gc_ty[q.1]? = some (.inl (9, fs)) ∧ fs[6]? = some (0, 0, 30)) (hTo : gc_ty[q.2.1]? = some (.inr (.int, 30, (3, (q.2.1 : Int), 0))) ∧ gc_ty[q'.2.1]? = some (.inr (.int, 30, (3, (q'.2.1 : Int), 0)))) (hrun : gc_cpr q q' FA FY ms = true) : tk_KS l D gk_cl gk_tbl gk_xw xt gk_MN gk_P gc_TY ro (gc_X tw) ads tw 1 (117, [(2, 0, 0, 0), (2, 1, 0, 0)], ([], []), [q.1, q'.1], FA, ([(none, ([], []), [q.1, q'.1], FY)], ms)) := by
  unfold gc_cpr at hrun
  rw [Bool.and_eq_true, Bool.and_eq_true, Bool.and_eq_true] at hrun
  obtain ⟨hr0, hr1, hr2, hr3⟩ := hrun
  have hr0 := gc_emp_ok hr0
  have hr1 := gc_emp_ok hr1
  have hr2 := gc_emp_ok hr2
  intro qn hqn
  have hqn' : qn = gk_N117 := by
    have : gk_MN[117]? = some gk_N117 := by decide +kernel
    rw [show gk_MN[117]? = some qn from hqn] at this
    exact Option.some.inj this
  subst hqn'
  have hM : gk_P[117]? = some gk_m117 := by rfl
  refine ⟨gk_m117, hM, by decide +kernel, fun vals rads ws av sz hH h3 hA2 h4 h9 _ => ?_⟩
  obtain ⟨hgw, hxo, hcl, hac, hlenM, hmok, hmci⟩ := id gk_rok
  obtain ⟨m1, m2, m3, m4, m5, m6, m7, m8, m9⟩ := hmok 117 gk_N117 gk_m117 hqn hM
  refine Met.ofW (cc := gk_N117.2.2) (maxL := gk_m117.2.1) (ret := gk_m117.2.2.2.2.1) m1 rfl ?_
  intro p e s m args below meth c s₁ B hml hv
  obtain ⟨rfl, hsz, hP, hK, hD0, hC, hxw, hXt, hXw⟩ := hv
  have hts0 := atoms_spec (ws := Jvm.Cond.code gk_N117.2.1 gk_N117.2.2 gk_m117.2.1 gk_m117.2.2.2.2.1 :: gk_tbl) B.pre
  have hts : ∀ w ∈ gk_tbl, w.before av.toArray s = true := fun w hw => hts0 w (List.mem_cons_of_mem _ hw)
  have hown : s.vm.findClass gk_N117.1 = some m.cls := by rw [← m2]; exact findClass_of_methodNamed B.named
  have hnm : meth.name = gk_N117.2.1.name := (name_of_methodNamed B.named B.method).1
  subst hsz
  have hF : rk_Fr s m av.toArray meth D gk_cl (va_A ws s.heap.size) gk_tbl gk_xw gk_fty gk_cln gk_N117.1 gk_m117.2.2.1 gk_m117.2.2.2.1 := ⟨hts, hxw, hown, hK, fun z hz => Or.inr hz, hcl, fun r hr => (m7 r hr).1, fun hz => by rw [hnm]; exact m8 hz, hac, m9⟩
  have hins : ∀ r ∈ gk_m117.1, decode gk_N117.2.2 r.1 = .ok r.2 := m6
  have hck : ∀ r ∈ gk_m117.2.2.1, rk_cok gk_tbl gk_xw gk_MN gk_P gk_N117.1 r := fun r hr => (m7 r hr).2.1
  have hkk : ∀ r ∈ gk_m117.2.2.1, rk_kok gk_tbl gk_N117.1 r := fun r hr => (m7 r hr).2.2
  -- the two TALES
  obtain ⟨yD, radsT, rfl, hyD, h3'⟩ := h3.cons
  obtain ⟨yS, radsT2, rfl, hyS, h3''⟩ := h3'.cons
  have := h3''.nil
  subst this
  obtain ⟨jD, hjDa, hjD⟩ := id hyD
  obtain ⟨jS, hjSa, hjS⟩ := id hyS
  have hcell : ∀ (ws : va_W) (j y : Nat), ws.map Prod.fst = ads → ads[j]? = some y → ∃ e, ws[j]? = some (y, e) := by
    intro ws j y hm hj
    rw [← hm, List.getElem?_map] at hj
    obtain ⟨z, hz, ez⟩ := Option.map_eq_some_iff.mp hj
    exact ⟨z.2, by rw [hz, ← ez]⟩
  have hcall : ∀ X : va_W → Prop, tk_SC l D gk_cl gk_tbl gk_xw xt gk_MN gk_P gc_TZ ro X ads tw 0 gc_c0 := fun X f as w rf fa o h => nomatch h
  have hlk12 : rk_lk gk_m117.2.2.1 38 = some (12, 0, 0) := by decide +kernel
  have hlk6 : ∃ kd, (kd = 0 ∨ kd = 1) ∧ rk_lk gk_m117.2.2.1 30 = some (kd, 9, 6) := by
    first
      | exact ⟨0, Or.inl rfl, by decide +kernel⟩
      | exact ⟨1, Or.inr rfl, by decide +kernel⟩
  obtain ⟨kd, hkd, hlk6⟩ := hlk6
  have d12 : decode gk_N117.2.2 12 = .ok (.invokestatic 38, 3) := hins (12, .invokestatic 38, 3) (List.mem_of_getElem? (i := 7) rfl)
  have d42 : decode gk_N117.2.2 42 = .ok (.invokestatic 38, 3) := hins (42, .invokestatic 38, 3) (List.mem_of_getElem? (i := 23) rfl)
  have d95 : decode gk_N117.2.2 95 = .ok (.putfield 30, 3) := hins (95, .putfield 30, 3) (List.mem_of_getElem? (i := 51) rfl)
  obtain ⟨fsD, hTD1, hTD2⟩ := hTD
  have hTA := gc_ta_ty q hq
  have hTA' := gc_ta_ty q' hq'
  obtain ⟨-, ro1, ro2, ro3⟩ := gc_rl_ok _ hq
  -- the last part
  split at hr3
  · next xs hxs =>
    have W98 := tk_runC (l := l) (p := p) (e := e) (R := (headSpec (Jvm.Cond.code gk_N117.2.1 gk_N117.2.2 gk_m117.2.1 gk_m117.2.2.2.2.1 :: gk_tbl) { frames := 0 + 1, cells := 0, slots := 0, locals := 40 * (0 + 1) }).room) (below := below) (mods := ms) (ws0 := ws) (ys := [(none, ([], []), [q.1, q'.1], FY)]) (X := gc_X tw) (TY := gc_TZ) (ro := ro) (l1 := []) (r1 := []) (cut := fun _ _ => none) tk_hk0_ok gc_xsZ0 hxt hXt gk_rok B.exec B.bytes B.notSynchronized B.returns hml hins hF hck hkk (hcall _) (Nat.le_refl _) (Nat.le_refl _) hH h3 (fun _ _ h => nomatch h) hxs hr3 _ (List.mem_singleton.mpr rfl)
    rw [List.append_nil, List.append_nil] at W98
    dsimp only at W98
    have W95 := tk_putG (X := gc_Z2 tw q q' jD jS) (X' := gc_X tw) (TY := gc_TZ) (ro := ro) (v := (0, 1, 1, 0)) (a := (2, 0, 0, 0)) (lo := gc_lo2) (w := ([(0, 30)], [])) (rf := [q.1, q'.1]) (fa := (1, tk_ky 6, (0, 1, 1, 0)) :: FA) (t := q.1) (f := (0, 0, 30)) (ft := (.int, false)) B.exec B.bytes hF hlk6 hkd d95 hTD1 hTD2 (by decide +kernel) (by decide +kernel) (by decide +kernel) rfl rfl rfl (by
        have k1 : tk_rg gc_TZ q.1 6 = 6 := by
          show (match gc_rgn q.1 with
            | none => 0
            | some g => g 6) = 6
          rw [ro1]
          rfl
        rw [k1]
        exact tk_in_ok.mp hm.2.2) (by
        intro vals2 rads2 ws2 j2 x2 e2 e2' u2 hfk hx2 hrd hmap h7 hob hw2 htw2 hgu hpu hpd hX2
        obtain ⟨kr, rfl⟩ := hrd
        cases hx2
        obtain ⟨eS, hwS⟩ := hcell ws2 jS yS hmap hjSa
        obtain ⟨eD, hwD⟩ := hcell ws2 jD yD hmap hjDa
        have := gc_one h7 hw2 hwD
        subst this
        rw [hw2] at hwD
        cases hwD
        obtain ⟨u3, hp3, hg3⟩ := gc_fact h7 (hfk _ List.mem_cons_self) (show (([yD, yS] : List Nat) ++ kr)[1]? = some yS from rfl) hwS
        have hu : u3 = u2 := by
          obtain ⟨z1, rfl, hz1⟩ := tk_g0 hgu rfl
          obtain ⟨z2, rfl, hz2⟩ := tk_g0 hg3 rfl
          rw [hz1] at hz2
          rw [Int32.toInt_inj.mp (Option.some.inj hz2)]
        subst hu
        exact gc_cnt hq hq' hne hjD hjS hmap h7 hob hw2 hwS hp3 hpu hpd hX2) W98
    have W45 := tk_seg (X := gc_Z2 tw q q' jD jS) (TY := gc_TZ) (ro := ro) (gc_xsZ2 hq hq' hjD hjS) hxt hXt gk_rok B.exec B.bytes hml hins hF hck hkk (hcall _) (Nat.le_refl _) (Nat.le_refl _) (cut := gc_cutS 95 [q.1, q'.1] (gc_Tp q q' FA)) (by
        intro pc st hc
        unfold gc_cutS at hc
        cases hb : Nat.beq pc 95 with
        | false => rw [hb] at hc; cases hc
        | true =>
          rw [hb] at hc
          have := Nat.eq_of_beq_eq_true hb
          subst this
          exact tk_hitS_ok hH h3 (Option.some.inj hc) W95) hr2 _ (List.mem_singleton.mpr rfl)
    have W42 := tk_cpyG (X := gc_Z1 tw q q' jD jS) (X' := gc_Z2 tw q q' jD jS) (TY := gc_TZ) (ro := ro) (N := 30) (d := (2, 2, 0, 0)) (a := (2, 3, 0, 0)) (lo := gc_lo2) (w := ([], [])) (rf := [q.1, q'.1, q.2.2, q'.2.2]) (fa := (0, tk_ky 2, (2, 2, 0, 0)) :: (1, tk_ky 2, (2, 3, 0, 0)) :: FA) (t0 := q'.2.2) (t1 := q.2.2) B.exec B.bytes hml hF (Nat.le_refl _) (Nat.le_refl _) hkk hlk12 d42 hTA' hTA hfa rfl rfl rfl rfl (tk_in_ok.mp hm.2.1) (by rw [show gc_TZ.2.2.1 q.2.2 = none from ro3]; rfl) (by
        intro vals2 rads2 ws2 q0 q1 x0 x1 e0 e1 e1' hfk hx0 hx1 hrd hmap h7 hw0 hw1 ht0 ht1 hel hX2
        obtain ⟨kr, rfl⟩ := hrd
        obtain ⟨eS, hwS⟩ := hcell ws2 jS yS hmap hjSa
        obtain ⟨eD, hwD⟩ := hcell ws2 jD yD hmap hjDa
        obtain ⟨u1, hp1, hg1⟩ := gc_fact h7 (hfk _ List.mem_cons_self) (show (([yD, yS] : List Nat) ++ kr)[0]? = some yD from rfl) hwD
        obtain ⟨u2, hp2, hg2⟩ := gc_fact h7 (hfk _ (List.mem_cons_of_mem _ List.mem_cons_self)) (show (([yD, yS] : List Nat) ++ kr)[1]? = some yS from rfl) hwS
        obtain ⟨z1, hz1, rfl⟩ := tk_g2 hg1 rfl
        obtain ⟨z2, hz2, rfl⟩ := tk_g2 hg2 rfl
        rw [hx1] at hz1
        cases hz1
        rw [hx0] at hz2
        cases hz2
        have ht0' : tw[q0]? = some (if 2 = 0 then q'.2.1 else q'.2.2) := by rw [if_neg (by decide)]; exact ht0
        have ht1' : tw[q1]? = some (if 2 = 0 then q.2.1 else q.2.2) := by rw [if_neg (by decide)]; exact ht1
        exact ⟨⟨gc_XA_cpy hq hjD (Or.inr rfl) h7 hwD hp1 hw1 ht1' hX2.1 hX2.2.1, gc_XS_cpy hq hw1 ht1' hX2.2.1, gc_E_oth hq hq' hjD hjS hw1 ht1 hX2.2.2⟩, gc_E_cpy hq hq' hne hjD hjS (Or.inr rfl) h7 hwD hwS hp1 hp2 hw0 hw1 ht0' ht1' hel⟩) W45
    have W15 := tk_seg (X := gc_Z1 tw q q' jD jS) (TY := gc_TZ) (ro := ro) (gc_xsZ1 hq hq' hjD hjS) hxt hXt gk_rok B.exec B.bytes hml hins hF hck hkk (hcall _) (Nat.le_refl _) (Nat.le_refl _) (cut := gc_cutS 42 [q.1, q'.1] (gc_Tc q q' 2 FA)) (by
        intro pc st hc
        unfold gc_cutS at hc
        cases hb : Nat.beq pc 42 with
        | false => rw [hb] at hc; cases hc
        | true =>
          rw [hb] at hc
          have := Nat.eq_of_beq_eq_true hb
          subst this
          exact tk_hitS_ok hH h3 (Option.some.inj hc) W42) hr1 _ (List.mem_singleton.mpr rfl)
    have W12 := tk_cpyG (X := gc_X tw) (X' := gc_Z1 tw q q' jD jS) (TY := gc_TZ) (ro := ro) (N := 30) (d := (2, 2, 0, 0)) (a := (2, 3, 0, 0)) (lo := gc_lo2) (w := ([], [])) (rf := [q.1, q'.1, q.2.1, q'.2.1]) (fa := (0, tk_ky 0, (2, 2, 0, 0)) :: (1, tk_ky 0, (2, 3, 0, 0)) :: FA) (t0 := q'.2.1) (t1 := q.2.1) B.exec B.bytes hml hF (Nat.le_refl _) (Nat.le_refl _) hkk hlk12 d12 hTo.2 hTo.1 hfo rfl rfl rfl rfl (tk_in_ok.mp hm.1) (by rw [show gc_TZ.2.2.1 q.2.1 = none from ro2]; rfl) (by
        intro vals2 rads2 ws2 q0 q1 x0 x1 e0 e1 e1' hfk hx0 hx1 hrd hmap h7 hw0 hw1 ht0 ht1 hel hX2
        obtain ⟨kr, rfl⟩ := hrd
        obtain ⟨eS, hwS⟩ := hcell ws2 jS yS hmap hjSa
        obtain ⟨eD, hwD⟩ := hcell ws2 jD yD hmap hjDa
        obtain ⟨u1, hp1, hg1⟩ := gc_fact h7 (hfk _ List.mem_cons_self) (show (([yD, yS] : List Nat) ++ kr)[0]? = some yD from rfl) hwD
        obtain ⟨u2, hp2, hg2⟩ := gc_fact h7 (hfk _ (List.mem_cons_of_mem _ List.mem_cons_self)) (show (([yD, yS] : List Nat) ++ kr)[1]? = some yS from rfl) hwS
        obtain ⟨z1, hz1, rfl⟩ := tk_g2 hg1 rfl
        obtain ⟨z2, hz2, rfl⟩ := tk_g2 hg2 rfl
        rw [hx1] at hz1
        cases hz1
        rw [hx0] at hz2
        cases hz2
        have ht0' : tw[q0]? = some (if 0 = 0 then q'.2.1 else q'.2.2) := by rw [if_pos rfl]; exact ht0
        have ht1' : tw[q1]? = some (if 0 = 0 then q.2.1 else q.2.2) := by rw [if_pos rfl]; exact ht1
        have hXn : gc_XA (fun j => ¬ j = jD) tw ws2 := fun t to ta j jo ja y yo ya r e eo ea n x v a1 _ => hX2.1 t to ta j jo ja y yo ya r e eo ea n x v a1 trivial
        exact ⟨gc_XA_cpy hq hjD (Or.inl rfl) h7 hwD hp1 hw1 ht1' hXn hX2.2, gc_XS_cpy hq hw1 ht1' hX2.2, gc_E_cpy hq hq' hne hjD hjS (Or.inl rfl) h7 hwD hwS hp1 hp2 hw0 hw1 ht0' ht1' hel⟩) W15
    have W0 := tk_seg (X := gc_X tw) (TY := gc_TZ) (ro := ro) gc_xsZ0 hxt hXt gk_rok B.exec B.bytes hml hins hF hck hkk (hcall _) (Nat.le_refl _) (Nat.le_refl _) (cut := gc_cutS 12 [q.1, q'.1] (gc_Tc q q' 0 FA)) (by
        intro pc st hc
        unfold gc_cutS at hc
        cases hb : Nat.beq pc 12 with
        | false => rw [hb] at hc; cases hc
        | true =>
          rw [hb] at hc
          have := Nat.eq_of_beq_eq_true hb
          subst this
          exact tk_hitS_ok hH h3 (Option.some.inj hc) W12) hr0 _ (List.mem_singleton.mpr rfl)
    have hlen : (lg_sl av).length ≤ gk_m117.2.1 := by
      rw [rk_lgsl, ← tk_sum_ok hA2]
      show tk_sum [(2, 0, 0, 0), (2, 1, 0, 0)] ≤ gk_m117.2.1
      decide +kernel
    have hl := lv_entry av (n := gk_m117.2.1) hlen
    rw [lg_entry_eq]
    exact W0 vals [yD, yS] s.heap [] _ [] _ hH ⟨⟨[], by simp⟩, ⟨[], by simp⟩, h3, ws, h4, hC, hP, hD0.self, va_S.rf, ⟨tk_un_rf _ _ _ _, hXw⟩, h9⟩ hl (tk_args_ok 0 hA2) trivial
  · cases hr3
end GCQ
