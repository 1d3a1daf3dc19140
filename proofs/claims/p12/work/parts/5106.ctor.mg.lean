section MH14_0
/-! ===== a constructor, run ===== -/
set_option maxRecDepth 1000000 in
theorem gk_p201 : gk_eqO (gk_call 201 [.inr (.inl 0)] (gk_env 0 3072) [gk_newc 12]) gk_X201 = true := by decide +kernel
/-! ===== a constructor, run ===== -/
set_option maxRecDepth 1000000 in
theorem gk_p126 : gk_eqO (gk_call 126 [.inr (.inl 0)] (gk_env 0 3072) [gk_newc 11]) gk_X126 = true := by decide +kernel
theorem gk_lai : ∀ r ∈ gk_la, decode code r.1 = .ok r.2 := by decide +kernel
set_option maxRecDepth 1000000 in
theorem gk_pre : gk_go (gk_stop 16 (gk_S16 0 3072)) gk_la (gk_q0 0 3072) = true := by decide +kernel
end MH14_0
section MH14_1
/-! THE CLAIM OUT OF ONE WALK OF THE LAW'S BODY. Your part is whole_start (and what it stands on); all else here is the same for every law, but numbers. -/
def R_law : String := "GooseIceLaw"
def lw_P (b : Addr) (xs : List Int32) (args : Array Value) (s : State) : Prop := args = #[.ref b] ∧ s.IntsAt b xs ∧ xs.length ≤ 3072 ∧ (Jvm.Cond.and given_1 narrow_1).before args s = true
def lw_Q (_ : Array Value) (s : State) (o : Outcome) (t : State) : Prop := o = .returned (some (.int 1)) ∧ Framed s o t [] 600000 7302250
def lw_Z (below : List Frame) (a : Array Value) (s : State) : State → Prop := fun t => ∃ o, t.status = .running ∧ Ended t below o ∧ lw_Q a s o t
/-- the law's own end, with 1 on the stack, nothing written that was there before, its room as the claim has it -/
theorem lw_ret {p : Program} {l : Launch} {e : Env} {s : State} {m : MethodId} {below : List Frame} {meth : Method} {c : Code} {b : Nat} (hx : p.tables.exec = Jvm.exec) (hb : c.code = code) (hr : meth.sig.returnType = ret) (hlocks : meth.locks = false) {pc : Nat} {H : Heap} {ls : Array Slot} (hdg : decode code pc = .ok (.ireturn, 1)) : W p l e room_1 s m #[Value.ref b] below meth c H [] 600000 7302250 (lw_Z below #[Value.ref b] s) (F0 m pc ls [.int 1]) := by
  intro T hT X
  obtain ⟨fs, hret, hrun, hended, hW, hframe⟩ := X.leave (v := some (.int 1)) (hlocks := hlocks) (fun h => by rw [hr] at h; cases h)
  have hmeth' : T.vm.method? m = some meth := X.method'
  refine ⟨T.setFrames fs, ?_, .returned (some (.int 1)), hrun, hended, rfl, ⟨_, rfl⟩, hW, hframe⟩
  jvm_step X.here [X.here.top, hx, hb, hdg, hmeth', hr, ret, narrow_b1]
  (try refine ⟨rfl, ?_⟩); (try refine ⟨rfl, ?_⟩)
  first | (intro acts; rw [hret _ acts rfl rfl rfl]) | rw [hret _ _ rfl rfl rfl]
  exact Steps.refl _
/-- what holds at the law's entry: the machine, the code, the tables' words (any of lw_tbl by 'hts w (by decide +kernel)'), the script of L ints xs at the cell b, what the Statement gives of the start (any of its parts by flat_of_before) -/
def lw_At (p : Program) (s : State) (m : MethodId) (meth : Method) (c : Code) (b L : Nat) (xs : Nat → Int32) : Prop :=
  p.tables.exec = Jvm.exec ∧ c.code = code ∧ meth.sig.returnType = ret ∧ c.maxLocals = 4 ∧ s.vm.findClass R_law = some m.cls ∧ (∀ w ∈ lw_tbl, w.before #[Value.ref b] s = true) ∧ va_X b L xs s s.heap ∧ b < s.heap.size ∧ meth.locks = false ∧ (Jvm.Cond.and given_1 narrow_1).before #[Value.ref b] s = true
section RKX2
variable {p : Program} {l : Launch} {e : Env} {R : Room} {s : State} {m : MethodId} {args : Array Value} {below : List Frame} {meth : Method} {c : Code} {Q : State → Prop} {cc : ByteArray} {D : va_G} {cl : List vw_C} {Ad : Nat → Prop} {nL : Nat} {ads0 : List Nat} {b L : Nat} {xs : Nat → Int32}
set_option maxHeartbeats 4000000 in
theorem rk_lawx_ok2 {vals0 : List Value} (hv0 : ∃ k, vals0 = rk_v0 b L xs ++ k) (hx : p.tables.exec = Jvm.exec) (hb : c.code = cc) (hX : va_X b L xs s s.heap) (hbl : b < s.heap.size) (hbA : ¬ Ad b) (hL : L < 2147483648) (pc : Nat) (ins : Instr) (len : Nat) (st : rk_S) (res : List (Nat × rk_S)) (hdg : decode cc pc = .ok (ins, len)) (hlen : rk_len ins len = true) (h : rk_lawx pc ins st = some res) (kk : ∀ q ∈ res, rk_W (rk_KW p l e R s m args below meth c Q) s D cl Ad nL vals0 ads0 q.1 q.2) : rk_W (rk_KW p l e R s m args below meth c Q) s D cl Ad nL vals0 ads0 pc st := by
  obtain ⟨lo, sk, env, hp, nc, ns⟩ := st
  intro vals ws H locs ls stk lc hG hl hL2 hS
  dsimp only at hG hL2 hS ⊢
  have hpre : ∃ k, vals = rk_v0 b L xs ++ k := by
    obtain ⟨k0, rfl⟩ := hv0
    obtain ⟨k1, h1⟩ := hG.2.2.2.2.2.1
    exact ⟨k0 ++ k1, by rw [h1, List.append_assoc]⟩
  have h6 : rk_g vals (ws.map Prod.fst) (.inr (.inr (.inl 6))) (.ref b) := rk_v0_at hpre rfl
  have h7 : rk_g vals (ws.map Prod.fst) (.inr (.inr (.inl 7))) (.int (Int32.ofNat L)) := rk_v0_at hpre rfl
  cases ins
  case aload_n k =>
    simp [rk_len] at hlen; subst hlen
    simp only [rk_lawx] at h
    split at h
    · next ha =>
      cases h
      obtain ⟨v, hv, hg⟩ := rk_ld_ok hL2 ha
      have ev : v = .ref b := Option.some.inj ((show vals[6]? = some v from hg).symm.trans h6)
      subst ev
      exact lv_aload_n hx hb hdg rfl (hl.2.2 _ hv) (kk _ (List.mem_singleton.mpr rfl) vals ws H locs ls _ lc hG hl hL2 ⟨hg, hS⟩)
    · cases h
  case arraylength =>
    simp [rk_len] at hlen; subst hlen
    simp only [rk_lawx] at h
    split at h
    · next r =>
      cases h
      obtain ⟨v, k1, rfl, hg, hSn⟩ := hS.cons; clear hS; have hS := hSn; clear hSn
      have ev : v = .ref b := Option.some.inj ((show vals[6]? = some v from hg).symm.trans h6)
      subst ev
      exact va_slen hx hb hX hbl hbA hG.2.2.2.2.1 hdg (kk _ (List.mem_singleton.mpr rfl) vals ws H locs ls _ lc hG hl hL2 ⟨rk_norm_ok hG.1 h7, hS⟩)
    · cases h
  case iaload =>
    simp [rk_len] at hlen; subst hlen
    simp only [rk_lawx] at h
    split at h
    · next ix r =>
      split at h
      · next i J hi hJ =>
        split at h
        · next h6J =>
          cases h
          obtain ⟨vi, k0, rfl, hgi, hSn⟩ := hS.cons; clear hS; have hS := hSn; clear hSn
          obtain ⟨v, k1, rfl, hg, hSn⟩ := hS.cons; clear hS; have hS := hSn; clear hSn
          have ev : v = .ref b := Option.some.inj ((show vals[6]? = some v from hg).symm.trans h6)
          subst ev
          obtain ⟨xi, rfl, hin, rfl⟩ := rk_ix_ok hG.1 hgi hi
          obtain ⟨y, ey, y1, y2⟩ := rk_iv_ok hG.1 h7 hJ
          cases ey
          have hLn : (Int32.ofNat L).toInt = L := nI_toInt (n := L) hL
          have hLi : 6 ≤ L := by omega
          have hi6 := (vp_in_iff.mp hin)
          have hin2 : vp_in xi L := vp_in_iff.mpr ⟨hi6.1, by omega⟩
          have hlt : xi.toNatClampNeg < 6 := by have : xi.toNatClampNeg = xi.toInt.toNat := rfl; omega
          exact va_sld hx hb hX hbl hbA hG.2.2.2.2.1 hin2 hdg (kk _ (List.mem_singleton.mpr rfl) vals ws H locs ls _ lc hG hl hL2 ⟨rk_norm_ok hG.1 (rk_v0_at hpre (rk_v0_x hlt)), hS⟩)
        · cases h
      · cases h
    · cases h
  all_goals (simp [rk_lawx] at h)
end RKX2
theorem gk_inst : ∀ q ∈ gk_cl, Jvm.Cond.instantiable q.1 q.2.2 ∈ gk_tbl := List.forall_mem_cons.mpr ⟨rk_mt 430 (by decide +kernel) rfl, List.forall_mem_cons.mpr ⟨rk_mt 684 (by decide +kernel) rfl, List.forall_mem_cons.mpr ⟨rk_mt 394 (by decide +kernel) rfl, List.forall_mem_cons.mpr ⟨rk_mt 388 (by decide +kernel) rfl, List.forall_mem_cons.mpr ⟨rk_mt 359 (by decide +kernel) rfl, List.forall_mem_cons.mpr ⟨rk_mt 700 (by decide +kernel) rfl, List.forall_mem_cons.mpr ⟨rk_mt 608 (by decide +kernel) rfl, List.forall_mem_cons.mpr ⟨rk_mt 639 (by decide +kernel) rfl, List.forall_mem_cons.mpr ⟨rk_mt 253 (by decide +kernel) rfl, List.forall_mem_cons.mpr ⟨rk_mt 487 (by decide +kernel) rfl, List.forall_mem_cons.mpr ⟨rk_mt 372 (by decide +kernel) rfl, List.forall_mem_cons.mpr ⟨rk_mt 243 (by decide +kernel) rfl, List.forall_mem_cons.mpr ⟨rk_mt 1650 (by decide +kernel) rfl, fun _ h => absurd h List.not_mem_nil⟩⟩⟩⟩⟩⟩⟩⟩⟩⟩⟩⟩⟩
theorem gk_all {a b : List (Nat × Instr × Nat)} (ha : ∀ r ∈ a, decode code r.1 = .ok r.2) (hb : ∀ r ∈ b, decode code r.1 = .ok r.2) : ∀ r ∈ a ++ b, decode code r.1 = .ok r.2 := fun r hr => (List.mem_append.mp hr).elim (ha r) (hb r)
theorem gk_call_ok (l : Launch) (D : va_G) : rk_SC l D gk_cl gk_tbl gk_xw gk_xt gk_MN gk_P 40 gk_call := rk_run_ok l D gk_xtok gk_rok (gk_sum_ok l D) 30000 40
theorem gk_ctor_ok (l : Launch) (D : va_G) {F ci : Nat} {X : rk_O} (h : gk_eqO (gk_call F [.inr (.inl 0)] (gk_env 0 3072) [gk_newc ci]) X = true) : rk_SC l D gk_cl gk_tbl gk_xw gk_xt gk_MN gk_P 40 (gk_ctor F ci X) := by
  intro f as env hp o ho q hq
  unfold gk_ctor at ho
  split at ho
  · next hc =>
    obtain ⟨rfl, e1, e2, e3⟩ := hc
    have hXo : X = o := Option.some.inj ho
    rw [← hXo]
    have e1 : as = [.inr (.inl 0)] := of_decide_eq_true e1
    have e2 : env = gk_env 0 3072 := of_decide_eq_true e2
    rw [e1, e2, gk_eqL_ok e3]
    exact gk_call_ok l D f [.inr (.inl 0)] (gk_env 0 3072) [gk_newc ci] X (gk_eqO_ok h) q hq
  · cases ho
theorem gk_call2_ok (l : Launch) (D : va_G) : rk_SC l D gk_cl gk_tbl gk_xw gk_xt gk_MN gk_P 40 gk_call2 := by
  intro f as env hp o h q hq
  unfold gk_call2 at h
  split at h
  · split at h
    · exact gk_ctor_ok l D gk_p126 f _ env hp o h q hq
    · split at h
      · exact rk_suf_ok gk_xtok (gk_ctor_ok l D gk_p201) f _ env hp o h q hq
      · split at h
        · exact rk_suf_ok gk_xtok (gk_call_ok l D) f _ env hp o h q hq
        · exact rk_pfx_ok gk_xtok (gk_call_ok l D) f _ env hp o h q hq
  · cases h
section GKL
variable {p : Program} {l : Launch} {e : Env} {s : State} {m : MethodId} {below : List Frame} {meth : Method} {c : Code} {D : va_G} {b L : Nat} {xs : Nat → Int32} {vals0 : List Value}
abbrev gk_A (s : State) : Nat → Prop := fun q => s.heap.size ≤ q
abbrev gk_K (p : Program) (l : Launch) (e : Env) (s : State) (m : MethodId) (below : List Frame) (meth : Method) (c : Code) (b : Nat) : rk_K := rk_KW p l e room_1 s m #[Value.ref b] below meth c (lw_Z below #[Value.ref b] s)
set_option maxHeartbeats 4000000 in
/-- a run of the law to its ends, all of them true -/
theorem gk_w (hx : p.tables.exec = Jvm.exec) (hb : c.code = code) (hr : meth.sig.returnType = ret) (hml : c.maxLocals = 4) (hlocks : meth.locks = false) (hF : rk_Fr s m #[Value.ref b] meth D gk_cl (gk_A s) gk_tbl gk_xw gk_fty gk_cln "GooseIceLaw" gk_lk12 gk_lcs) (hXt : gk_xt vals0 (gk_A s) s s.heap) {ext : rk_Ext} (hext : ∀ (pc : Nat) (ins : Instr) (len : Nat) (st : rk_S) (res : List (Nat × rk_S)), decode code pc = .ok (ins, len) → rk_len ins len = true → ext pc ins st = some res → (∀ q ∈ res, q.2.2.2.2.2.1 ≤ room_1.cells ∧ q.2.2.2.2.2.2 ≤ room_1.slots) → (∀ q ∈ res, rk_W (gk_K p l e s m below meth c b) s D gk_cl (gk_A s) 4 vals0 [] q.1 q.2) → rk_W (gk_K p l e s m below meth c b) s D gk_cl (gk_A s) 4 vals0 [] pc st) {li : List (Nat × Instr × Nat)} (hins : ∀ r ∈ li, decode code r.1 = .ok r.2) {q : Nat × rk_S} (h : gk_go ext li q = true) : rk_W (gk_K p l e s m below meth c b) s D gk_cl (gk_A s) 4 vals0 [] q.1 q.2 := by
  unfold gk_go gk_good1 at h
  split at h
  · next o ho =>
    simp only [Bool.and_eq_true, decide_eq_true_eq, List.all_eq_true] at h
    obtain ⟨h1, h2, h3⟩ := h
    refine rk_loop_ok (p := p) (l := l) (e := e) (s := s) (m := m) (args := #[Value.ref b]) (below := below) (meth := meth) (c := c) (R := room_1) (M := gk_lM li) (d := 40) (call := gk_call2) (cc := code) (D := D) (cl := gk_cl) (Ad := gk_A s) (vals0 := vals0) (ads0 := []) gk_xtok hXt gk_rok hx hb hml hins hF (fun r hr => (gk_lkok12 r hr).2.1) (fun r hr => (gk_lkok12 r hr).2.2) (gk_call2_ok l D) hext (by decide) (by decide) (XS := o.2.2) (fun pc ins len st x a1 a2 a3 a4 a5 a6 => ?_) 30000 q o ho (fun x hx => hx) h1 h2
    obtain ⟨lo, sk, env, hp, nc, ns⟩ := st
    generalize hrt : (gk_lM li).2.2.2.2.1 = rt at a3
    have hrt2 : rt = some .boolean := hrt.symm
    unfold rk_end at a3
    split at a3
    · split at a3
      · cases hrt2
      · cases a3
    · split at a3
      · next a hsk =>
        split at a3
        · next hro =>
          cases a3
          have hv := h3 _ a4
          simp [rk_len] at a2; subst a2
          intro vals ws H locs ls stk lc hG hl hL hS
          dsimp only at hsk hG hL hS a5 a6 hv ⊢
          subst hsk
          have ha : a = .inl (.int 1) := Option.some.inj hv
          subst ha
          obtain ⟨v, k, rfl, hg, hSn⟩ := hS.cons
          have hnil := hSn.nil
          subst hnil
          have hv1 : v = .int 1 := hg
          subst hv1
          refine va_forget (fun q hq => hG.2.2.2.2.1.2.2 q hq) ?_
          refine W.widen (k := 600000) (n := 7302250) a5 a6 ?_
          exact lw_ret hx hb hr hlocks a1
        · cases a3
      · cases a3
    · split at a3
      · next a hsk =>
        split at a3
        · next hro => exact absurd (hro.2.symm.trans hrt2) (by decide)
        · cases a3
      · cases a3
    · cases a3
  · cases h
end GKL
end MH14_1
