/-! ===== the law: the small run is sound ===== -/
section LQS
variable {p : Program} {l : Launch} {e : Env} {R : Room} {s : State} {m : MethodId} {args : Array Value} {below : List Frame} {meth : Method} {c : Code} {Q : State → Prop} {D : va_G} {Ad : Nat → Prop} {xt : tk_XT} {b ax am i L nc ns : Nat} {xs : Nat → Int32} {adC adM : List Nat}
def gn_TY : tk_TT := tk_TF gm_TY gn_FX (fun _ _ _ _ _ => false)
theorem gn_fmTy : fm_Ty gn_TY := ⟨rfl, rfl, rfl⟩
/-- both worlds stand -/
def lw_J (s : State) (D : va_G) (Ad : Nat → Prop) (adC adM : List Nat) (H : Heap) (locs : List Loc) : Prop := (∃ ws, lw_T gc_TY (gc_X lw_twC) adC lw_twC s D Ad H ws) ∧ (∃ ws, lw_T gn_TY (gn_X lw_twM) adM lw_twM s D Ad H ws) ∧ va_S Ad s.heap H locs
def lw_lc (b ax am i : Nat) : List (Nat × Value) := [(3, .int (nI i)), (2, .ref am), (1, .ref ax), (0, .ref b)]
def lq_St (K : rk_K) (s : State) (D : va_G) (Ad : Nat → Prop) (adC adM : List Nat) (b ax am i : Nat) (xs : Nat → Int32) (nc ns pc : Nat) (st : List lq_V) : Prop := ∀ (H : Heap) (locs : List Loc) (ls : Array Slot) (stk : List Value), lw_J s D Ad adC adM H locs → lv_has ls 4 (lw_lc b ax am i) → rk_A2 (lq_g b ax am i xs) st stk → K pc ls stk H locs nc ns
/-- the contract that a row names -/
def lq_con (l : Launch) (D : va_G) (xt : tk_XT) (adC adM : List Nat) (r : lq_R) : Prop := (r.2.1 = 3 → ∃ (ys : List tk_X) (mods : List (Nat × Nat)), tk_KS l D gk_cl gk_tbl gk_xw xt gk_MN gk_P gc_TY lc_ro (gc_X lw_twC) adC lw_twC 20 (r.2.2.1, (2, 0, 0, 0) :: lq_as 0 r.2.2.2.1, (r.2.2.2.2.1, []), [0], [], ys, mods) ∧ ys.all (lq_ry r.2.2.2.2.2) = true) ∧ (r.2.1 = 4 → ∃ (ys : List tk_X) (mods : List (Nat × Nat)), tk_KS l D gk_cl gk_tbl gk_xw xt gk_MN gk_P gn_TY lc_ro (gn_X lw_twM) adM lw_twM 20 (r.2.2.1, (2, 0, 0, 0) :: lq_as 0 r.2.2.2.1, (r.2.2.2.2.1, []), [0], [], ys, mods) ∧ ys.all (lq_ry r.2.2.2.2.2) = true)
set_option maxHeartbeats 8000000 in
theorem lq_step_ok (hxt : tk_xtok xt) (hXt : xt Ad s s.heap) (hx : p.tables.exec = Jvm.exec) (hb : c.code = code) (hml : c.maxLocals = 4) (hF : rk_Fr s m args meth D gk_cl Ad gk_tbl gk_xw gk_fty gk_cln "GooseIceLaw" gk_lk12 gk_lcs) (hfr : 21 ≤ R.frames) (hlo : 840 ≤ R.locals) (hX : va_X b L xs s s.heap) (hbl : b < s.heap.size) (hbA : ¬ Ad b) (hL : L < 2147483648) (hi : i + 6 ≤ L) (hdis : ∀ x ∈ adM, ¬ x ∈ adC) (haC : tk_ty adC lw_twC 0 ax) (haM : tk_ty adM lw_twM 0 am) (hnc : nc ≤ R.cells) (hns : ns ≤ R.slots)
    {B : Nat → tk_I} (hB : ∀ k, (B k).1 ≤ (xs (i + k)).toInt ∧ (xs (i + k)).toInt ≤ (B k).2) {T : List lq_R} (hT : ∀ r ∈ T, lq_con l D xt adC adM r) {pc : Nat} {ins : Instr} {len : Nat} {st : List lq_V} {res : List (Nat × List lq_V)} (hdg : decode code pc = .ok (ins, len)) (hlen : rk_len ins len = true) (h : lq_step B T pc ins st = some res) (kk : ∀ q ∈ res, lq_St (rk_KW p l e R s m args below meth c Q) s D Ad adC adM b ax am i xs nc ns q.1 q.2) : lq_St (rk_KW p l e R s m args below meth c Q) s D Ad adC adM b ax am i xs nc ns pc st := by
  intro H locs ls stk hJ hl hS
  have hS0 : va_S Ad s.heap H locs := hJ.2.2
  cases ins
  case aload_n k =>
    simp [rk_len] at hlen; subst hlen
    simp only [lq_step] at h
    split at h
    · next e => cases h; exact lv_aload_n hx hb hdg e (lv_at hl 3 rfl) (kk _ (List.mem_singleton.mpr rfl) H locs ls _ hJ hl ⟨rfl, hS⟩)
    · split at h
      · next e => cases h; exact lv_aload_n hx hb hdg e (lv_at hl 2 rfl) (kk _ (List.mem_singleton.mpr rfl) H locs ls _ hJ hl ⟨rfl, hS⟩)
      · split at h
        · next e => cases h; exact lv_aload_n hx hb hdg e (lv_at hl 1 rfl) (kk _ (List.mem_singleton.mpr rfl) H locs ls _ hJ hl ⟨rfl, hS⟩)
        · cases h
  case iload_n k =>
    simp [rk_len] at hlen; subst hlen
    simp only [lq_step] at h
    split at h
    · next e => cases h; exact lv_iload_n hx hb hdg e (lv_at hl 0 rfl) (kk _ (List.mem_singleton.mpr rfl) H locs ls _ hJ hl ⟨rfl, hS⟩)
    · cases h
  case iconst n =>
    simp [rk_len] at hlen; subst hlen
    simp only [lq_step] at h
    split at h
    · next e =>
      cases h
      have hv : Int32.ofInt n = nI n.toNat := by
        rcases (by omega : n = 0 ∨ n = 1 ∨ n = 2 ∨ n = 3 ∨ n = 4 ∨ n = 5) with rfl | rfl | rfl | rfl | rfl | rfl <;> rfl
      exact lv_iconst hx hb hdg hv (kk _ (List.mem_singleton.mpr rfl) H locs ls _ hJ hl ⟨rfl, hS⟩)
    · cases h
  case bipush n =>
    simp [rk_len] at hlen; subst hlen
    simp only [lq_step] at h
    cases h
    exact lv_bipush hx hb hdg rfl (kk _ (List.mem_singleton.mpr rfl) H locs ls _ hJ hl ⟨⟨_, rfl⟩, hS⟩)
  case iadd =>
    simp [rk_len] at hlen; subst hlen
    simp only [lq_step] at h
    split at h
    · next k j r =>
      split at h
      · next e =>
        cases h
        obtain ⟨v1, k1, rfl, g1, hS1⟩ := hS.cons
        obtain ⟨v2, k2, rfl, g2, hS2⟩ := hS1.cons
        have g1 : v1 = .int (nI k) := g1
        have g2 : v2 = .int (nI (i + j)) := g2
        subst g1 g2
        refine lv_iadd hx hb hdg (kk _ (List.mem_singleton.mpr rfl) H locs ls _ hJ hl ⟨?_, hS2⟩)
        show Value.int (nI (i + j) + nI k) = .int (nI (i + (j + k)))
        rw [nI_add, Nat.add_assoc]
      · cases h
    · cases h
  case iaload =>
    simp [rk_len] at hlen; subst hlen
    simp only [lq_step] at h
    split at h
    · next k j r =>
      split at h
      · next e =>
        cases h
        obtain ⟨v1, k1, rfl, g1, hS1⟩ := hS.cons
        obtain ⟨v2, k2, rfl, g2, hS2⟩ := hS1.cons
        have g1 : v1 = .int (nI (i + k)) := g1
        have g2 : v2 = .ref b := g2
        subst g1 g2
        have hin : vp_in (nI (i + k)) L := vp_in_iff.mpr (by rw [nI_i32 (by omega)]; omega)
        refine va_sld hx hb hX hbl hbA hS0 hin hdg (kk _ (List.mem_singleton.mpr rfl) H locs ls _ hJ hl ⟨?_, hS2⟩)
        show Value.int (xs (nI (i + k)).toNatClampNeg) = .int (xs (i + k))
        rw [show (nI (i + k)).toNatClampNeg = i + k from nI_clamp (by omega)]
      · cases h
    · cases h
  case i2l =>
    simp [rk_len] at hlen; subst hlen
    simp only [lq_step] at h
    split at h
    · next a r =>
      split at h
      · next e =>
        cases h
        obtain ⟨v1, k1, rfl, g1, hS1⟩ := hS.cons
        obtain ⟨x, rfl⟩ := lq_int_ok e g1
        exact lv_i2l hx hb hdg rfl (kk _ (List.mem_singleton.mpr rfl) H locs ls _ hJ hl ⟨⟨_, rfl⟩, hS1⟩)
      · cases h
    · cases h
  case lshl =>
    simp [rk_len] at hlen; subst hlen
    simp only [lq_step] at h
    split at h
    · next a j r =>
      split at h
      · next e =>
        cases h
        obtain ⟨v1, k1, rfl, g1, hS1⟩ := hS.cons
        obtain ⟨v2, k2, rfl, ⟨y, rfl⟩, hS2⟩ := hS1.cons
        obtain ⟨x, rfl⟩ := lq_int_ok e g1
        exact lv_lshl hx hb hdg rfl (kk _ (List.mem_singleton.mpr rfl) H locs ls _ hJ hl ⟨⟨_, rfl⟩, hS2⟩)
      · cases h
    · cases h
  case land =>
    simp [rk_len] at hlen; subst hlen
    simp only [lq_step] at h
    split at h
    · cases h
      obtain ⟨v1, k1, rfl, ⟨x, rfl⟩, hS1⟩ := hS.cons
      obtain ⟨v2, k2, rfl, ⟨y, rfl⟩, hS2⟩ := hS1.cons
      exact lv_land hx hb hdg (kk _ (List.mem_singleton.mpr rfl) H locs ls _ hJ hl ⟨⟨_, rfl⟩, hS2⟩)
    · cases h
  case lor =>
    simp [rk_len] at hlen; subst hlen
    simp only [lq_step] at h
    split at h
    · cases h
      obtain ⟨v1, k1, rfl, ⟨x, rfl⟩, hS1⟩ := hS.cons
      obtain ⟨v2, k2, rfl, ⟨y, rfl⟩, hS2⟩ := hS1.cons
      exact lv_lor hx hb hdg (kk _ (List.mem_singleton.mpr rfl) H locs ls _ hJ hl ⟨⟨_, rfl⟩, hS2⟩)
    · cases h
  case ldc2_w idx =>
    simp [rk_len] at hlen; subst hlen
    simp only [lq_step] at h
    split at h
    · next x hc1 =>
      cases h
      obtain ⟨hts, hxw, hown, hK, hA, hcl, hlk, hini, hac, hcs⟩ := hF
      exact lv_ldc2 hx hb hown (hts _ ((hcs _ (rk_cst_mem hc1)).2 x rfl)) hdg (kk _ (List.mem_singleton.mpr rfl) H locs ls _ hJ hl ⟨⟨_, rfl⟩, hS⟩)
    · cases h
  case pop =>
    simp [rk_len] at hlen; subst hlen
    simp only [lq_step] at h
    split at h
    · next a r =>
      split at h
      · next e =>
        cases h
        obtain ⟨v1, k1, rfl, g1, hS1⟩ := hS.cons
        obtain ⟨x, rfl⟩ := lq_int_ok e g1
        exact lv_pop hx hb hdg rfl (kk _ (List.mem_singleton.mpr rfl) H locs ls _ hJ hl hS1)
      · cases h
    · cases h
  case pop2 =>
    simp [rk_len] at hlen; subst hlen
    simp only [lq_step] at h
    split at h
    · cases h
      obtain ⟨v1, k1, rfl, ⟨x, rfl⟩, hS1⟩ := hS.cons
      exact lv_pop2_2 hx hb hdg rfl (kk _ (List.mem_singleton.mpr rfl) H locs ls _ hJ hl hS1)
    · cases h
  case goto off =>
    simp [rk_len] at hlen; subst hlen
    simp only [lq_step] at h
    split at h
    · next e =>
      cases h
      exact lv_goto (tgt := ((pc : Int) + off).toNat) hx hb hdg (by omega) (kk _ (List.mem_singleton.mpr rfl) H locs ls _ hJ hl hS)
    · cases h
  case ifCond cnd off =>
    simp [rk_len] at hlen; subst hlen
    cases cnd
    case eq =>
      simp only [lq_step] at h
      split at h
      · next a r =>
        split at h
        · next e =>
          cases h
          obtain ⟨v1, k1, rfl, g1, hS1⟩ := hS.cons
          obtain ⟨x, rfl⟩ := lq_int_ok e.1 g1
          exact lv_if_eq (tgt := ((pc : Int) + off).toNat) hx hb hdg (by omega) (fun _ => kk _ List.mem_cons_self H locs ls _ hJ hl hS1) (fun _ => kk _ (List.mem_cons_of_mem _ List.mem_cons_self) H locs ls _ hJ hl hS1)
        · cases h
      · cases h
    all_goals (simp [lq_step] at h)
  case if_icmp cnd off =>
    simp [rk_len] at hlen; subst hlen
    cases cnd
    case eq =>
      simp only [lq_step] at h
      split at h
      · next k j r =>
        split at h
        · next e =>
          cases h
          obtain ⟨v1, k1, rfl, g1, hS1⟩ := hS.cons
          obtain ⟨v2, k2, rfl, g2, hS2⟩ := hS1.cons
          have g1 : v1 = .int (nI k) := g1
          have g2 : v2 = .int (nI j) := g2
          obtain ⟨rfl, e2⟩ := e
          subst g1 g2
          exact lv_icmp_eq (tgt := ((pc : Int) + off).toNat) hx hb hdg (by omega) (fun _ => kk _ (List.mem_singleton.mpr rfl) H locs ls _ hJ hl hS2) (fun q => absurd rfl q)
        · cases h
      · cases h
    all_goals (simp [lq_step] at h)
  case invokevirtual idx =>
    simp [rk_len] at hlen; subst hlen
    simp only [lq_step] at h
    split at h
    · next r rest hcl =>
      cases h
      unfold lq_call at hcl
      split at hcl
      · next r' kd f n hfd hlk =>
        split at hcl
        · next as a rest' hpop =>
          split at hcl
          · next hc =>
            cases hcl
            obtain ⟨⟨rfl, rfl, rfl, hmc⟩, ⟨ha1, hside⟩, hfit, hsum⟩ := hc
            obtain ⟨v2, r2, ha, hr, rfl, hn⟩ := lq_pop_ok r.2.2.2.1.length hpop (show rk_A2 (lq_g b ax am i xs) [] [] from trivial) hS
            rw [List.append_nil] at ha
            obtain ⟨vr, stk', rfl, hgr, hS1⟩ := hr.cons
            obtain ⟨hav, hke⟩ := lq_fits_ok hB ha hfit
            have hcon := hT _ (List.mem_of_find?_eq_some hfd)
            have hsum' : (stk'.map fun v => v.category).sum ≤ 8 := by rw [lq_sum_ok hS1]; exact hsum
            obtain ⟨⟨wsC, hC⟩, ⟨wsM, hM⟩, -⟩ := id hJ
            rcases hside with h3 | h4
            · obtain ⟨ys, mods, hK, hys⟩ := hcon.1 h3
              have hvr : vr = .ref ax := by
                unfold lq_g at hgr
                rw [ha1, h3] at hgr
                exact hgr
              subst hvr
              rw [h3] at hmc
              refine lw_call (lc := lw_lc b ax am i) hxt hXt hx hb hml hF (fun r hr => (gk_lkok12 r hr).2.1) hdis hK hfr (by omega) (o1 := (11, _)) rfl hmc haC hlk rfl hke hav hsum' hdg hnc hns hl hC hM hS0 (fun y hy vals' rads' ws1' H' locs' v hH' h1' h2' hS' hun' hret => ?_)
              obtain ⟨u, rfl, hu⟩ := lq_ry_ok (b := b) (ax := ax) (am := am) (i := i) (xs := xs) (List.all_eq_true.mp hys y hy) hret
              exact kk _ (List.mem_singleton.mpr rfl) H' locs' ls _ ⟨⟨_, h1'⟩, ⟨_, h2'⟩, hS'⟩ hl ⟨hu, hS1⟩
            · obtain ⟨ys, mods, hK, hys⟩ := hcon.2 h4
              have hvr : vr = .ref am := by
                unfold lq_g at hgr
                rw [ha1, h4] at hgr
                exact hgr
              subst hvr
              rw [h4] at hmc
              refine lw_call (lc := lw_lc b ax am i) hxt hXt hx hb hml hF (fun r hr => (gk_lkok12 r hr).2.1) (fun x h1 h2 => hdis x h2 h1) hK hfr (by omega) (o1 := (12, _)) rfl hmc haM hlk rfl hke hav hsum' hdg hnc hns hl hM hC hS0 (fun y hy vals' rads' ws1' H' locs' v hH' h1' h2' hS' hun' hret => ?_)
              obtain ⟨u, rfl, hu⟩ := lq_ry_ok (b := b) (ax := ax) (am := am) (i := i) (xs := xs) (List.all_eq_true.mp hys y hy) hret
              exact kk _ (List.mem_singleton.mpr rfl) H' locs' ls _ ⟨⟨_, h2'⟩, ⟨_, h1'⟩, hS'⟩ hl ⟨hu, hS1⟩
          · cases hcl
        · cases hcl
      · cases hcl
    · cases h
  all_goals (simp [lq_step] at h)
theorem lq_run_ok (hxt : tk_xtok xt) (hXt : xt Ad s s.heap) (hx : p.tables.exec = Jvm.exec) (hb : c.code = code) (hml : c.maxLocals = 4) (hF : rk_Fr s m args meth D gk_cl Ad gk_tbl gk_xw gk_fty gk_cln "GooseIceLaw" gk_lk12 gk_lcs) (hfr : 21 ≤ R.frames) (hlo : 840 ≤ R.locals) (hX : va_X b L xs s s.heap) (hbl : b < s.heap.size) (hbA : ¬ Ad b) (hL : L < 2147483648) (hi : i + 6 ≤ L) (hdis : ∀ x ∈ adM, ¬ x ∈ adC) (haC : tk_ty adC lw_twC 0 ax) (haM : tk_ty adM lw_twM 0 am) (hnc : nc ≤ R.cells) (hns : ns ≤ R.slots)
    {B : Nat → tk_I} (hB : ∀ k, (B k).1 ≤ (xs (i + k)).toInt ∧ (xs (i + k)).toInt ≤ (B k).2) {T : List lq_R} (hT : ∀ r ∈ T, lq_con l D xt adC adM r) {li : List (Nat × Instr × Nat)} (hli : ∀ r ∈ li, decode code r.1 = .ok r.2) {stop : Nat} (hstop : lq_St (rk_KW p l e R s m args below meth c Q) s D Ad adC adM b ax am i xs nc ns stop []) : ∀ (n pc : Nat) (st : List lq_V), lq_run B T li stop n pc st = true → lq_St (rk_KW p l e R s m args below meth c Q) s D Ad adC adM b ax am i xs nc ns pc st := by
  intro n
  induction n with
  | zero => intro pc st h; cases h
  | succ n ih =>
    intro pc st h
    unfold lq_run at h
    cases hb1 : Nat.beq pc stop with
    | true =>
      rw [hb1] at h
      have h : st.isEmpty = true := h
      rw [Nat.eq_of_beq_eq_true hb1, List.isEmpty_iff.mp h]
      exact hstop
    | false =>
      rw [hb1] at h
      dsimp only [cond] at h
      split at h
      · next ins len hat =>
        rw [Bool.and_eq_true] at h
        obtain ⟨h1, h2⟩ := h
        split at h2
        · next res hres =>
          have hdg : decode code pc = .ok (ins, len) := hli (pc, ins, len) (lq_at_ok hat)
          refine lq_step_ok (pc := pc) (ins := ins) (len := len) (st := st) (res := res) hxt hXt hx hb hml hF hfr hlo hX hbl hbA hL hi hdis haC haM hnc hns hB hT hdg h1 hres (fun q hq => ?_)
          exact ih q.1 q.2 (List.all_eq_true.mp h2 q hq)
        · cases h2
      · cases h
end LQS
