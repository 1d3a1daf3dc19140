/-! THE CLAIM OUT OF ONE WALK OF THE LAW'S BODY. Your part is whole_start (and what it stands on); all else here is the same for every law, but numbers. -/
def R_law : String := "GooseIceLaw"
def lw_P (b : Addr) (xs : List Int32) (args : Array Value) (s : State) : Prop := args = #[.ref b] ∧ s.IntsAt b xs ∧ xs.length ≤ 6 ∧ (Jvm.Cond.and given_1 narrow_1).before args s = true
def lw_Q (_ : Array Value) (s : State) (o : Outcome) (t : State) : Prop := o = .returned (some (.int 1)) ∧ Framed s o t [] 600000 7302250
def lw_Z (below : List Frame) (a : Array Value) (s : State) : State → Prop := fun t => ∃ o, t.status = .running ∧ Ended t below o ∧ lw_Q a s o t
/-- the law's own end, with 1 on the stack, nothing written that was there before, its room as the claim has it -/
theorem lw_ret {p : Program} {l : Launch} {e : Env} {s : State} {m : MethodId} {below : List Frame} {meth : Method} {c : Code} {b : Nat} (hx : p.tables.exec = Jvm.exec) (hb : c.code = code) (hr : meth.sig.returnType = ret) (hlocks : meth.locks = false) {pc : Nat} {H : Heap} {ls : Array Slot} (hdg : decode code pc = .ok (.ireturn, 1)) : W p l e room_1 s m #[Value.ref b] below meth c H [] 600000 7302250 (lw_Z below #[Value.ref b] s) (F0 m pc ls [.int 1]) := by
  intro T hT X
  obtain ⟨fs, hret, hrun, hended, hW, hframe⟩ := X.leave (v := some (.int 1)) (hlocks := hlocks) (fun h => by rw [hr] at h; cases h)
  have hmeth' : T.vm.method? m = some meth := X.method'
  refine ⟨T.setFrames fs, ?_, .returned (some (.int 1)), hrun, hended, rfl, ⟨_, rfl⟩, hW, hframe⟩
  jvm_step X.here [X.here.top, hx, hb, hdg, hmeth', hr, ret, narrow_b1]
  (try refine ⟨rfl, ?_⟩); (try refine ⟨rfl, ?_⟩)
  first | (intro acts; rw [hret _ acts rfl rfl rfl]) | rw [hret _ _ rfl rfl rfl]
  exact Steps.refl _
/-- what holds at the law's entry: the machine, the code, the tables' words (any of lw_tbl by 'hts w (by decide +kernel)'), the script of L ints xs at the cell b, what the Statement gives of the start (any of its parts by flat_of_before) -/
def lw_At (p : Program) (s : State) (m : MethodId) (meth : Method) (c : Code) (b L : Nat) (xs : Nat → Int32) : Prop :=
  p.tables.exec = Jvm.exec ∧ c.code = code ∧ meth.sig.returnType = ret ∧ c.maxLocals = 4 ∧ s.vm.findClass R_law = some m.cls ∧ (∀ w ∈ lw_tbl, w.before #[Value.ref b] s = true) ∧ va_X b L xs s s.heap ∧ b < s.heap.size ∧ meth.locks = false ∧ (Jvm.Cond.and given_1 narrow_1).before #[Value.ref b] s = true
section RKX2
variable {p : Program} {l : Launch} {e : Env} {R : Room} {s : State} {m : MethodId} {args : Array Value} {below : List Frame} {meth : Method} {c : Code} {Q : State → Prop} {cc : ByteArray} {D : va_G} {cl : List vw_C} {Ad : Nat → Prop} {nL : Nat} {ads0 : List Nat} {b L : Nat} {xs : Nat → Int32}
set_option maxHeartbeats 4000000 in
theorem rk_lawx_ok2 {vals0 : List Value} (hv0 : ∃ k, vals0 = rk_v0 b L xs ++ k) (hx : p.tables.exec = Jvm.exec) (hb : c.code = cc) (hX : va_X b L xs s s.heap) (hbl : b < s.heap.size) (hbA : ¬ Ad b) (hL : L < 2147483648) (pc : Nat) (ins : Instr) (len : Nat) (st : rk_S) (res : List (Nat × rk_S)) (hdg : decode cc pc = .ok (ins, len)) (hlen : rk_len ins len = true) (h : rk_lawx pc ins st = some res) (kk : ∀ q ∈ res, rk_W (rk_KW p l e R s m args below meth c Q) s D cl Ad nL vals0 ads0 q.1 q.2) : rk_W (rk_KW p l e R s m args below meth c Q) s D cl Ad nL vals0 ads0 pc st := by
  obtain ⟨lo, sk, env, hp, nc, ns⟩ := st
  intro vals ws H locs ls stk lc hG hl hL2 hS
  dsimp only at hG hL2 hS ⊢
  have hpre : ∃ k, vals = rk_v0 b L xs ++ k := by
    obtain ⟨k0, rfl⟩ := hv0
    obtain ⟨k1, h1⟩ := hG.2.2.2.2.2.1
    exact ⟨k0 ++ k1, by rw [h1, List.append_assoc]⟩
  have h6 : rk_g vals (ws.map Prod.fst) (.inr (.inr (.inl 6))) (.ref b) := rk_v0_at hpre rfl
  have h7 : rk_g vals (ws.map Prod.fst) (.inr (.inr (.inl 7))) (.int (Int32.ofNat L)) := rk_v0_at hpre rfl
  cases ins
  case aload_n k =>
    simp [rk_len] at hlen; subst hlen
    simp only [rk_lawx] at h
    split at h
    · next ha =>
      cases h
      obtain ⟨v, hv, hg⟩ := rk_ld_ok hL2 ha
      have ev : v = .ref b := Option.some.inj ((show vals[6]? = some v from hg).symm.trans h6)
      subst ev
      exact lv_aload_n hx hb hdg rfl (hl.2.2 _ hv) (kk _ (List.mem_singleton.mpr rfl) vals ws H locs ls _ lc hG hl hL2 ⟨hg, hS⟩)
    · cases h
  case arraylength =>
    simp [rk_len] at hlen; subst hlen
    simp only [rk_lawx] at h
    split at h
    · next r =>
      cases h
      obtain ⟨v, k1, rfl, hg, hSn⟩ := hS.cons; clear hS; have hS := hSn; clear hSn
      have ev : v = .ref b := Option.some.inj ((show vals[6]? = some v from hg).symm.trans h6)
      subst ev
      exact va_slen hx hb hX hbl hbA hG.2.2.2.2.1 hdg (kk _ (List.mem_singleton.mpr rfl) vals ws H locs ls _ lc hG hl hL2 ⟨rk_norm_ok hG.1 h7, hS⟩)
    · cases h
  case iaload =>
    simp [rk_len] at hlen; subst hlen
    simp only [rk_lawx] at h
    split at h
    · next ix r =>
      split at h
      · next i J hi hJ =>
        split at h
        · next h6J =>
          cases h
          obtain ⟨vi, k0, rfl, hgi, hSn⟩ := hS.cons; clear hS; have hS := hSn; clear hSn
          obtain ⟨v, k1, rfl, hg, hSn⟩ := hS.cons; clear hS; have hS := hSn; clear hSn
          have ev : v = .ref b := Option.some.inj ((show vals[6]? = some v from hg).symm.trans h6)
          subst ev
          obtain ⟨xi, rfl, hin, rfl⟩ := rk_ix_ok hG.1 hgi hi
          obtain ⟨y, ey, y1, y2⟩ := rk_iv_ok hG.1 h7 hJ
          cases ey
          have hLn : (Int32.ofNat L).toInt = L := nI_toInt (n := L) hL
          have hLi : 6 ≤ L := by omega
          have hi6 := (vp_in_iff.mp hin)
          have hin2 : vp_in xi L := vp_in_iff.mpr ⟨hi6.1, by omega⟩
          have hlt : xi.toNatClampNeg < 6 := by have : xi.toNatClampNeg = xi.toInt.toNat := rfl; omega
          exact va_sld hx hb hX hbl hbA hG.2.2.2.2.1 hin2 hdg (kk _ (List.mem_singleton.mpr rfl) vals ws H locs ls _ lc hG hl hL2 ⟨rk_norm_ok hG.1 (rk_v0_at hpre (rk_v0_x hlt)), hS⟩)
        · cases h
      · cases h
    · cases h
  all_goals (simp [rk_lawx] at h)
end RKX2
theorem gk_inst : ∀ q ∈ gk_cl, Jvm.Cond.instantiable q.1 q.2.2 ∈ gk_tbl := List.forall_mem_cons.mpr ⟨rk_mt 430 (by decide +kernel) rfl, List.forall_mem_cons.mpr ⟨rk_mt 684 (by decide +kernel) rfl, List.forall_mem_cons.mpr ⟨rk_mt 394 (by decide +kernel) rfl, List.forall_mem_cons.mpr ⟨rk_mt 388 (by decide +kernel) rfl, List.forall_mem_cons.mpr ⟨rk_mt 359 (by decide +kernel) rfl, List.forall_mem_cons.mpr ⟨rk_mt 700 (by decide +kernel) rfl, List.forall_mem_cons.mpr ⟨rk_mt 608 (by decide +kernel) rfl, List.forall_mem_cons.mpr ⟨rk_mt 639 (by decide +kernel) rfl, List.forall_mem_cons.mpr ⟨rk_mt 253 (by decide +kernel) rfl, List.forall_mem_cons.mpr ⟨rk_mt 487 (by decide +kernel) rfl, List.forall_mem_cons.mpr ⟨rk_mt 372 (by decide +kernel) rfl, List.forall_mem_cons.mpr ⟨rk_mt 243 (by decide +kernel) rfl, List.forall_mem_cons.mpr ⟨rk_mt 1650 (by decide +kernel) rfl, fun _ h => absurd h List.not_mem_nil⟩⟩⟩⟩⟩⟩⟩⟩⟩⟩⟩⟩⟩
theorem gk_atc_mem {pc v : Nat} : ∀ {l : List (Nat × Nat)}, gk_atc l pc = some v → (pc, v) ∈ l := by
  intro l
  induction l with
  | nil => intro h; cases h
  | cons q l ih =>
    intro h
    unfold gk_atc at h
    split at h
    · next e => cases h; subst e; exact List.mem_cons_self
    · exact List.mem_cons_of_mem _ (ih h)
theorem gk_all {a b : List (Nat × Instr × Nat)} (ha : ∀ r ∈ a, decode code r.1 = .ok r.2) (hb : ∀ r ∈ b, decode code r.1 = .ok r.2) : ∀ r ∈ a ++ b, decode code r.1 = .ok r.2 := fun r hr => (List.mem_append.mp hr).elim (ha r) (hb r)
theorem gk_call_ok (l : Launch) (D : va_G) : rk_SC l D gk_cl gk_tbl gk_xw gk_xt gk_MN gk_P 40 gk_call := rk_run_ok l D gk_xtok gk_rok (gk_sum_ok l D) 30000 40
theorem gk_ctor_ok (l : Launch) (D : va_G) {F ci : Nat} {X : rk_O} (h : gk_eqO (gk_call F [.inr (.inl 0)] (gk_env 0 6) [gk_newc ci]) X = true) : rk_SC l D gk_cl gk_tbl gk_xw gk_xt gk_MN gk_P 40 (gk_ctor F ci X) := by
  intro f as env hp o ho q hq
  unfold gk_ctor at ho
  split at ho
  · next hc =>
    obtain ⟨rfl, e1, e2, e3⟩ := hc
    have hXo : X = o := Option.some.inj ho
    rw [← hXo]
    have e1 : as = [.inr (.inl 0)] := of_decide_eq_true e1
    have e2 : env = gk_env 0 6 := of_decide_eq_true e2
    rw [e1, e2, gk_eqL_ok e3]
    exact gk_call_ok l D f [.inr (.inl 0)] (gk_env 0 6) [gk_newc ci] X (gk_eqO_ok h) q hq
  · cases ho
theorem gk_call2_ok (l : Launch) (D : va_G) : rk_SC l D gk_cl gk_tbl gk_xw gk_xt gk_MN gk_P 40 gk_call2 := by
  intro f as env hp o h q hq
  unfold gk_call2 at h
  split at h
  · split at h
    · exact gk_ctor_ok l D gk_p126 f _ env hp o h q hq
    · split at h
      · exact rk_suf_ok gk_xtok (gk_ctor_ok l D gk_p201) f _ env hp o h q hq
      · split at h
        · exact rk_suf_ok gk_xtok (gk_call_ok l D) f _ env hp o h q hq
        · exact rk_pfx_ok gk_xtok (gk_call_ok l D) f _ env hp o h q hq
  · cases h
section GKL
variable {p : Program} {l : Launch} {e : Env} {s : State} {m : MethodId} {below : List Frame} {meth : Method} {c : Code} {D : va_G} {b L : Nat} {xs : Nat → Int32} {vals0 : List Value}
abbrev gk_A (s : State) : Nat → Prop := fun q => s.heap.size ≤ q
abbrev gk_K (p : Program) (l : Launch) (e : Env) (s : State) (m : MethodId) (below : List Frame) (meth : Method) (c : Code) (b : Nat) : rk_K := rk_KW p l e room_1 s m #[Value.ref b] below meth c (lw_Z below #[Value.ref b] s)
set_option maxHeartbeats 4000000 in
/-- a run of the law to its ends, all of them true -/
theorem gk_w (hx : p.tables.exec = Jvm.exec) (hb : c.code = code) (hr : meth.sig.returnType = ret) (hml : c.maxLocals = 4) (hlocks : meth.locks = false) (hF : rk_Fr s m #[Value.ref b] meth D gk_cl (gk_A s) gk_tbl gk_xw gk_fty gk_cln "GooseIceLaw" gk_lk12 gk_lcs) (hXt : gk_xt vals0 (gk_A s) s s.heap) {ext : rk_Ext} (hext : ∀ (pc : Nat) (ins : Instr) (len : Nat) (st : rk_S) (res : List (Nat × rk_S)), decode code pc = .ok (ins, len) → rk_len ins len = true → ext pc ins st = some res → (∀ q ∈ res, q.2.2.2.2.2.1 ≤ room_1.cells ∧ q.2.2.2.2.2.2 ≤ room_1.slots) → (∀ q ∈ res, rk_W (gk_K p l e s m below meth c b) s D gk_cl (gk_A s) 4 vals0 [] q.1 q.2) → rk_W (gk_K p l e s m below meth c b) s D gk_cl (gk_A s) 4 vals0 [] pc st) {li : List (Nat × Instr × Nat)} (hins : ∀ r ∈ li, decode code r.1 = .ok r.2) {q : Nat × rk_S} (h : gk_go ext li q = true) : rk_W (gk_K p l e s m below meth c b) s D gk_cl (gk_A s) 4 vals0 [] q.1 q.2 := by
  unfold gk_go gk_good1 at h
  split at h
  · next o ho =>
    simp only [Bool.and_eq_true, decide_eq_true_eq, List.all_eq_true] at h
    obtain ⟨h1, h2, h3⟩ := h
    refine rk_loop_ok (p := p) (l := l) (e := e) (s := s) (m := m) (args := #[Value.ref b]) (below := below) (meth := meth) (c := c) (R := room_1) (M := gk_lM li) (d := 40) (call := gk_call2) (cc := code) (D := D) (cl := gk_cl) (Ad := gk_A s) (vals0 := vals0) (ads0 := []) gk_xtok hXt gk_rok hx hb hml hins hF (fun r hr => (gk_lkok12 r hr).2.1) (fun r hr => (gk_lkok12 r hr).2.2) (gk_call2_ok l D) hext (by decide) (by decide) (XS := o.2.2) (fun pc ins len st x a1 a2 a3 a4 a5 a6 => ?_) 30000 q o ho (fun x hx => hx) h1 h2
    obtain ⟨lo, sk, env, hp, nc, ns⟩ := st
    generalize hrt : (gk_lM li).2.2.2.2.1 = rt at a3
    have hrt2 : rt = some .boolean := hrt.symm
    unfold rk_end at a3
    split at a3
    · split at a3
      · cases hrt2
      · cases a3
    · split at a3
      · next a hsk =>
        split at a3
        · next hro =>
          cases a3
          have hv := h3 _ a4
          simp [rk_len] at a2; subst a2
          intro vals ws H locs ls stk lc hG hl hL hS
          dsimp only at hsk hG hL hS a5 a6 hv ⊢
          subst hsk
          have ha : a = .inl (.int 1) := Option.some.inj hv
          subst ha
          obtain ⟨v, k, rfl, hg, hSn⟩ := hS.cons
          have hnil := hSn.nil
          subst hnil
          have hv1 : v = .int 1 := hg
          subst hv1
          refine va_forget (fun q hq => hG.2.2.2.2.1.2.2 q hq) ?_
          refine W.widen (k := 600000) (n := 7302250) a5 a6 ?_
          exact lw_ret hx hb hr hlocks a1
        · cases a3
      · cases a3
    · split at a3
      · next a hsk =>
        split at a3
        · next hro => exact absurd (hro.2.symm.trans hrt2) (by decide)
        · cases a3
      · cases a3
    · cases a3
  · cases h
end GKL
def gk_pieces : List (Int × Int × Int × Int) := [((-2147483648), 2147483647, (-2147483648), 0), ((-2147483648), 0, 1, 1), (1, 20, 1, 1), (21, 40, 1, 1), (41, 60, 1, 1), (61, 2147483647, 1, 1), ((-2147483648), 0, 2, 2), (1, 20, 2, 2), (21, 40, 2, 2), (41, 60, 2, 2), (61, 2147483647, 2, 2), ((-2147483648), 0, 3, 3), (1, 20, 3, 3), (21, 40, 3, 3), (41, 60, 3, 3), (61, 2147483647, 3, 3), ((-2147483648), 0, 4, 4), (1, 20, 4, 4), (21, 40, 4, 4), (41, 60, 4, 4), (61, 2147483647, 4, 4), ((-2147483648), 0, 5, 5), (1, 20, 5, 5), (21, 40, 5, 5), (41, 60, 5, 5), (61, 2147483647, 5, 5), ((-2147483648), 0, 6, 6), (1, 20, 6, 6), (21, 40, 6, 6), (41, 60, 6, 6), (61, 2147483647, 6, 6), ((-2147483648), 2147483647, 7, 2147483647)]
theorem gk_cut_W {K : rk_K} {s : State} {D : va_G} {cl : List vw_C} {Ad : Nat → Prop} {nL : Nat} {vals0 : List Value} {ads0 : List Nat} {pc v : Nat} (h : ∀ q ∈ gk_pieces, rk_W K s D cl Ad nL vals0 ads0 pc (gk_cutS v q.1 q.2.1 q.2.2.1 q.2.2.2)) : rk_W K s D cl Ad nL vals0 ads0 pc (gk_S v) := by
  intro vals ws H locs ls stk lc hG hl hL hS
  have hE := hG.1
  obtain ⟨v1, e1, t1⟩ := rk_A2.get hE (i := 1) (a := (0, -2147483648, 2147483647)) rfl
  obtain ⟨v2, e2, t2⟩ := rk_A2.get hE (i := 2) (a := (0, -2147483648, 2147483647)) rfl
  obtain ⟨x1, rfl, a1, a2⟩ : ∃ x : Int32, v1 = .int x ∧ (-2147483648 : Int) ≤ x.toInt ∧ x.toInt ≤ 2147483647 := by
    rcases t1 with ⟨-, x, h1, h2, h3⟩ | ⟨h0, -⟩ | ⟨h0, -⟩
    · exact ⟨x, h1, h2, h3⟩
    · exact absurd h0 (by decide)
    · exact absurd h0 (by decide)
  obtain ⟨x2, rfl, b1, b2⟩ : ∃ x : Int32, v2 = .int x ∧ (-2147483648 : Int) ≤ x.toInt ∧ x.toInt ≤ 2147483647 := by
    rcases t2 with ⟨-, x, h1, h2, h3⟩ | ⟨h0, -⟩ | ⟨h0, -⟩
    · exact ⟨x, h1, h2, h3⟩
    · exact absurd h0 (by decide)
    · exact absurd h0 (by decide)
  obtain ⟨q, hm, c1, c2, c3, c4⟩ : ∃ q, q ∈ gk_pieces ∧ q.1 ≤ x1.toInt ∧ x1.toInt ≤ q.2.1 ∧ q.2.2.1 ≤ x2.toInt ∧ x2.toInt ≤ q.2.2.2 := by
    have hb : x2.toInt ≤ 0 ∨ x2.toInt = 1 ∨ x2.toInt = 2 ∨ x2.toInt = 3 ∨ x2.toInt = 4 ∨ x2.toInt = 5 ∨ x2.toInt = 6 ∨ 7 ≤ x2.toInt := by omega
    have hn : x1.toInt ≤ 0 ∨ (1 ≤ x1.toInt ∧ x1.toInt ≤ 20) ∨ (21 ≤ x1.toInt ∧ x1.toInt ≤ 40) ∨ (41 ≤ x1.toInt ∧ x1.toInt ≤ 60) ∨ 61 ≤ x1.toInt := by omega
    rcases hb with hb | hb | hb | hb | hb | hb | hb | hb
    · exact ⟨_, List.mem_of_getElem? (i := 0) rfl, by dsimp only; omega⟩
    · rcases hn with hn | hn | hn | hn | hn
      · exact ⟨_, List.mem_of_getElem? (i := 1) rfl, by dsimp only; omega⟩
      · exact ⟨_, List.mem_of_getElem? (i := 2) rfl, by dsimp only; omega⟩
      · exact ⟨_, List.mem_of_getElem? (i := 3) rfl, by dsimp only; omega⟩
      · exact ⟨_, List.mem_of_getElem? (i := 4) rfl, by dsimp only; omega⟩
      · exact ⟨_, List.mem_of_getElem? (i := 5) rfl, by dsimp only; omega⟩
    · rcases hn with hn | hn | hn | hn | hn
      · exact ⟨_, List.mem_of_getElem? (i := 6) rfl, by dsimp only; omega⟩
      · exact ⟨_, List.mem_of_getElem? (i := 7) rfl, by dsimp only; omega⟩
      · exact ⟨_, List.mem_of_getElem? (i := 8) rfl, by dsimp only; omega⟩
      · exact ⟨_, List.mem_of_getElem? (i := 9) rfl, by dsimp only; omega⟩
      · exact ⟨_, List.mem_of_getElem? (i := 10) rfl, by dsimp only; omega⟩
    · rcases hn with hn | hn | hn | hn | hn
      · exact ⟨_, List.mem_of_getElem? (i := 11) rfl, by dsimp only; omega⟩
      · exact ⟨_, List.mem_of_getElem? (i := 12) rfl, by dsimp only; omega⟩
      · exact ⟨_, List.mem_of_getElem? (i := 13) rfl, by dsimp only; omega⟩
      · exact ⟨_, List.mem_of_getElem? (i := 14) rfl, by dsimp only; omega⟩
      · exact ⟨_, List.mem_of_getElem? (i := 15) rfl, by dsimp only; omega⟩
    · rcases hn with hn | hn | hn | hn | hn
      · exact ⟨_, List.mem_of_getElem? (i := 16) rfl, by dsimp only; omega⟩
      · exact ⟨_, List.mem_of_getElem? (i := 17) rfl, by dsimp only; omega⟩
      · exact ⟨_, List.mem_of_getElem? (i := 18) rfl, by dsimp only; omega⟩
      · exact ⟨_, List.mem_of_getElem? (i := 19) rfl, by dsimp only; omega⟩
      · exact ⟨_, List.mem_of_getElem? (i := 20) rfl, by dsimp only; omega⟩
    · rcases hn with hn | hn | hn | hn | hn
      · exact ⟨_, List.mem_of_getElem? (i := 21) rfl, by dsimp only; omega⟩
      · exact ⟨_, List.mem_of_getElem? (i := 22) rfl, by dsimp only; omega⟩
      · exact ⟨_, List.mem_of_getElem? (i := 23) rfl, by dsimp only; omega⟩
      · exact ⟨_, List.mem_of_getElem? (i := 24) rfl, by dsimp only; omega⟩
      · exact ⟨_, List.mem_of_getElem? (i := 25) rfl, by dsimp only; omega⟩
    · rcases hn with hn | hn | hn | hn | hn
      · exact ⟨_, List.mem_of_getElem? (i := 26) rfl, by dsimp only; omega⟩
      · exact ⟨_, List.mem_of_getElem? (i := 27) rfl, by dsimp only; omega⟩
      · exact ⟨_, List.mem_of_getElem? (i := 28) rfl, by dsimp only; omega⟩
      · exact ⟨_, List.mem_of_getElem? (i := 29) rfl, by dsimp only; omega⟩
      · exact ⟨_, List.mem_of_getElem? (i := 30) rfl, by dsimp only; omega⟩
    · exact ⟨_, List.mem_of_getElem? (i := 31) rfl, by dsimp only; omega⟩
  obtain ⟨env1, q1, hE1⟩ := rk_cut_ok (ads := ws.map Prod.fst) (a := .inr (.inr (.inl 1))) (x := x1) hE e1 c1 c2
  obtain ⟨env2, q2, hE2⟩ := rk_cut_ok (ads := ws.map Prod.fst) (a := .inr (.inr (.inl 2))) (x := x2) hE1 e2 c3 c4
  have hcs : gk_cutS v q.1 q.2.1 q.2.2.1 q.2.2.2 = ((gk_S v).1, (gk_S v).2.1, env2, (gk_S v).2.2.2) := by
    unfold gk_cutS
    rw [q1, Option.bind_some, q2]
  have h9 := h q hm vals ws H locs ls stk lc
  rw [hcs] at h9
  exact h9 (hG.env0 hE2) hl hL hS
theorem gk_d33 : decode code 33 = .ok (.tableswitch 2127 0 58 #[251, 264, 278, 292, 335, 408, 442, 505, 568, 591, 614, 637, 660, 693, 726, 759, 792, 825, 848, 891, 924, 947, 970, 993, 1016, 1039, 1062, 1095, 1154, 1187, 1220, 1253, 1296, 1329, 1362, 1405, 1428, 1461, 1494, 1517, 1530, 1553, 1586, 1629, 1662, 1675, 1698, 1721, 1754, 1787, 1820, 1843, 1906, 1969, 2022, 2045, 2068, 2101, 2114], 251) := by decide +kernel
theorem gk_of33 {j : Nat} (hj : j < 59) : (#[251, 264, 278, 292, 335, 408, 442, 505, 568, 591, 614, 637, 660, 693, 726, 759, 792, 825, 848, 891, 924, 947, 970, 993, 1016, 1039, 1062, 1095, 1154, 1187, 1220, 1253, 1296, 1329, 1362, 1405, 1428, 1461, 1494, 1517, 1530, 1553, 1586, 1629, 1662, 1675, 1698, 1721, 1754, 1787, 1820, 1843, 1906, 1969, 2022, 2045, 2068, 2101, 2114] : Array Int)[j]? = some ((gk_tgl.getD j 0 : Int) - 33) := of_decide_eq_true (List.all_eq_true.mp (show (List.range 59).all (fun j => decide ((#[251, 264, 278, 292, 335, 408, 442, 505, 568, 591, 614, 637, 660, 693, 726, 759, 792, 825, 848, 891, 924, 947, 970, 993, 1016, 1039, 1062, 1095, 1154, 1187, 1220, 1253, 1296, 1329, 1362, 1405, 1428, 1461, 1494, 1517, 1530, 1553, 1586, 1629, 1662, 1675, 1698, 1721, 1754, 1787, 1820, 1843, 1906, 1969, 2022, 2045, 2068, 2101, 2114] : Array Int)[j]? = some ((gk_tgl.getD j 0 : Int) - 33))) = true from by decide +kernel) j (List.mem_range.mpr hj))
theorem gk_cp {j : Nat} (hj : j < 59) : (gk_tgl.getD j 0, j) ∈ gk_cpc := of_decide_eq_true (List.all_eq_true.mp (show (List.range 59).all (fun j => decide ((gk_tgl.getD j 0, j) ∈ gk_cpc)) = true from by decide +kernel) j (List.mem_range.mpr hj))
theorem gk_disp {p : Program} {l : Launch} {e : Env} {s : State} {m : MethodId} {below : List Frame} {meth : Method} {c : Code} {D : va_G} {b : Nat} {vals0 : List Value} (hx : p.tables.exec = Jvm.exec) (hb : c.code = code) (hc : ∀ q ∈ gk_cpc, rk_W (gk_K p l e s m below meth c b) s D gk_cl (gk_A s) 4 vals0 [] q.1 (gk_S q.2)) (hd : rk_W (gk_K p l e s m below meth c b) s D gk_cl (gk_A s) 4 vals0 [] 2160 gk_Sd) : rk_W (gk_K p l e s m below meth c b) s D gk_cl (gk_A s) 4 vals0 [] 33 gk_S33 := by
  intro vals ws H locs ls stk lc hG hl hL hS
  obtain ⟨v9, k, rfl, hg, hSn⟩ := rk_A2.cons (show rk_A2 (rk_g vals (ws.map Prod.fst)) [.inr (.inr (.inl 9))] stk from hS)
  have hnil := hSn.nil
  subst hnil
  have hg9 : vals[9]? = some v9 := hg
  obtain ⟨y, rfl, c1, c2⟩ := rk_iv_ok (I := (0, 63)) hG.1 hg rfl
  dsimp only at c1 c2
  obtain ⟨j, hj, rfl⟩ := nI_of (x := y) (by rw [Int32.lt_iff_toInt_lt, Int32.toInt_zero]; omega)
  have hjt := nI_toInt hj
  rw [hjt] at c1 c2
  by_cases h59 : j < 59
  · have hE2 : rk_E (gk_env 6 6 ++ [(0, (j : Int), (j : Int))]) vals := rk_A2.setL (R := rk_tok) (a := (0, (j : Int), (j : Int))) (b := .int (nI j)) (Or.inl ⟨rfl, nI j, rfl, by rw [hjt]; exact Int.le_refl _, by rw [hjt]; exact Int.le_refl _⟩) hG.1 (i := 9) hg9
    refine lv_tableIn (off := (gk_tgl.getD j 0 : Int) - 33) (tgt := gk_tgl.getD j 0) hx hb gk_d33 (by rw [hjt]; omega) (by rw [hjt]; omega) (by rw [hjt, show ((j : Int) - 0).toNat = j by omega]; exact gk_of33 h59) (by show (33 : Int) + _ = _; omega) ?_
    exact hc _ (gk_cp h59) vals ws H locs ls [] lc (hG.env0 hE2) hl hL trivial
  · refine lv_tableOut (tgt := 2160) hx hb gk_d33 (Or.inr (by rw [hjt]; omega)) (by decide) ?_
    exact hd vals ws H locs ls [] lc hG hl hL trivial
def gk_tm (i : Nat) : Term := Term.string "GooseIce$Reader" 26
theorem gk_env_ok {b L : Nat} {xs : Nat → Int32} {a : Nat} {lo hi : Int} (h1 : lo ≤ (Int32.ofNat L).toInt) (h2 : (Int32.ofNat L).toInt ≤ hi) : rk_E (gk_env lo hi) (rk_v0 b L xs ++ [.ref a]) := by
  have hi0 : ∀ x : Int32, rk_tok (0, -2147483648, 2147483647) (.int x) := fun x => Or.inl ⟨rfl, x, rfl, Int32.le_toInt x, Int32.toInt_le x⟩
  exact ⟨hi0 _, hi0 _, hi0 _, hi0 _, hi0 _, hi0 _, Or.inr (Or.inr ⟨rfl, b, rfl⟩), Or.inl ⟨rfl, _, rfl, h1, h2⟩, Or.inr (Or.inr ⟨rfl, a, rfl⟩), trivial⟩
set_option maxHeartbeats 8000000 in
set_option maxRecDepth 100000 in
theorem whole_start {p : Program} {e : Env} {s : State} {m : MethodId} {below : List Frame} {meth : Method} {c : Code} (l : Launch) (hflags : l.flags = flags0) {b L : Nat} {xs : Nat → Int32} (hL : L ≤ 6) (C0 : lw_At p s m meth c b L xs) : W p l e room_1 s m #[Value.ref b] below meth c s.heap [] 0 0 (lw_Z below #[Value.ref b] s) (entryFrame m ([Value.ref b] : List Value).toArray 4) := by
  obtain ⟨hx, hb, hr, hml, hown, hts0, hX, hbl, hlocks, hgv⟩ := id C0
  have hts : ∀ w ∈ gk_tbl, w.before #[Value.ref b] s = true := fun w hw => hts0 w (List.mem_filter.mp hw).1
  have hxw : ∀ w ∈ gk_xw, va_Nw w s := by
    intro w hw
    have h := hts0 w (List.mem_filter.mp hw).1
    rcases gk_xok w hw with ⟨_, _, _, _, _, _, rfl⟩ | ⟨_, _, _, _, rfl⟩ | ⟨C, rfl⟩ | ⟨t, rfl⟩
    · exact va_Nw.of rfl h
    · exact va_Nw.of rfl h
    · exact va_AO.of h
    · exact va_AOA.of h
  have h0 : ∀ k : Nat, ∃ z : ClassId × (Nat → Nat), ∀ q : vw_C, gk_cl[k]? = some q → u_Kn s q.1 q.2.1 q.2.2 z.1 z.2 := by
    intro k
    cases hq : gk_cl[k]? with
    | none => exact ⟨((0 : Nat), fun _ => 0), fun q h => by cases h⟩
    | some q =>
      obtain ⟨cC, iS, hKn⟩ := u_known (C := q.1) (T := q.2.1) (N := q.2.2) (n := q.2.2) hts (gk_clok k q hq).1 (hts _ (gk_inst q (List.mem_of_getElem? hq)))
      exact ⟨(cC, iS), fun q' h => by cases h; exact hKn⟩
  obtain ⟨z, hz⟩ := Classical.axiomOfChoice h0
  have hK : va_K (fun k => (z k).1, fun k => (z k).2) gk_cl [] s := ⟨fun k q hq => hz k q hq, fun k q hq => by cases hq⟩
  have hA0 : ∀ q : Nat, q < s.heap.size → ¬ gk_A s q := fun q hq => Nat.not_le.mpr hq
  -- the class's one text, by the Statement's own words
  have hs := flat_of_before _ hgv
  have hall : ∀ j : Nat, j < 115 → (Cond.eq (.elem (.field (gk_tm 0) "java/lang/String" "value" "[B") (.int (Int32.ofNat j))) (.int (sg_b.getD j 0))) ∈ flatC (Jvm.Cond.and given_1 narrow_1) := fun j hj => of_decide_eq_true (List.all_eq_true.mp (show (List.range 115).all (fun j => decide ((Cond.eq (.elem (.field (gk_tm 0) "java/lang/String" "value" "[B") (.int (Int32.ofNat j))) (.int (sg_b.getD j 0))) ∈ flatC (Jvm.Cond.and given_1 narrow_1))) = true from by decide +kernel) j (List.mem_range.mpr hj))
  obtain ⟨adK, adV, hSt, hEv⟩ := vk_Sof (args := #[Value.ref b]) (s := s) (N := 1) (tm := gk_tm) (len := [115]) (byt := [sg_b]) (A := gk_A s)
    (fun i hi => by rcases (show i = 0 by omega) with rfl; decide)
    (fun i hi => by rcases (show i = 0 by omega) with rfl; exact hs _ (by decide +kernel))
    (fun i hi => by rcases (show i = 0 by omega) with rfl; exact hs _ (by decide +kernel))
    (fun i hi => by rcases (show i = 0 by omega) with rfl; exact hs _ (by decide +kernel))
    (fun i hi => by rcases (show i = 0 by omega) with rfl; exact hs _ (by decide +kernel))
    (fun i hi j hj => by rcases (show i = 0 by omega) with rfl; exact hs _ (hall j hj))
    (fun i j hi hj hij => absurd (show i = j by omega) hij) hA0
  obtain ⟨q1, q2, q3, q4⟩ := hSt.1 0 (by decide)
  have hXs : sg_X (adK 0) (adV 0) (gk_A s) s s.heap := ⟨q1, q2, q3, q4, va_Zof (hts0 (.laysStatic "java/lang/String" "COMPACT_STRINGS" "Z") (by decide +kernel)) (hts0 (.initialized "java/lang/String") (by decide +kernel)) (va_eqi (hs (.eq (.static "java/lang/String" "COMPACT_STRINGS" "Z") (.int 1)) (by decide +kernel))) hA0, va_Zqof (hts0 (.laysStatic "jdk/internal/util/Preconditions" "SIOOBE_FORMATTER" "Ljava/util/function/BiFunction;") (by decide +kernel)) (hts0 (.initialized "jdk/internal/util/Preconditions") (by decide +kernel)) (hs (.isRef (.static "jdk/internal/util/Preconditions" "SIOOBE_FORMATTER" "Ljava/util/function/BiFunction;")) (by decide +kernel)) hA0⟩
  have hXt : gk_xt (rk_v0 b L xs ++ [.ref (adK 0)]) (gk_A s) s s.heap := ⟨adK 0, adV 0, rfl, hXs, vk_R.of (hts0 (.stringRef "GooseIce$Reader" 26 sg_t) (by decide +kernel)) (hEv 0 (by decide))⟩
  have hF : rk_Fr s m #[Value.ref b] meth (fun k => (z k).1, fun k => (z k).2) gk_cl (gk_A s) gk_tbl gk_xw gk_fty gk_cln "GooseIceLaw" gk_lk12 gk_lcs := ⟨hts, hxw, hown, hK, fun _ h => h, gk_clok, fun r hr => (gk_lkok12 r hr).1, (by rintro ⟨r, hr, h2⟩; exact absurd (List.all_eq_true.mp (show gk_lk12.all (fun r => !(r.2.1 == 2)) = true by decide +kernel) r hr) (by simp [h2])), gk_rok.2.2.2.1, List.forall_mem_cons.mpr ⟨⟨fun x hx => (by cases hx), fun x hx => (by cases hx; exact rk_mt 2475 (by decide +kernel) rfl)⟩, fun _ h => absurd h List.not_mem_nil⟩⟩
  have hLs : L < 2147483648 := by omega
  have hLn : (Int32.ofNat L).toInt = L := nI_toInt (n := L) hLs
  have hlaw := fun (pc : Nat) (ins : Instr) (len : Nat) (st : rk_S) (res : List (Nat × rk_S)) (a1 : decode code pc = .ok (ins, len)) (a2 : rk_len ins len = true) (a3 : rk_lawx pc ins st = some res) (_ : ∀ q ∈ res, q.2.2.2.2.2.1 ≤ room_1.cells ∧ q.2.2.2.2.2.2 ≤ room_1.slots) (a5 : ∀ q ∈ res, rk_W (gk_K p l e s m below meth c b) s (fun k => (z k).1, fun k => (z k).2) gk_cl (gk_A s) 4 (rk_v0 b L xs ++ [.ref (adK 0)]) [] q.1 q.2) => rk_lawx_ok2 (p := p) (l := l) (e := e) (R := room_1) (s := s) (m := m) (args := #[Value.ref b]) (below := below) (meth := meth) (c := c) (Q := lw_Z below #[Value.ref b] s) (cc := code) (D := (fun k => (z k).1, fun k => (z k).2)) (cl := gk_cl) (Ad := gk_A s) (nL := 4) (ads0 := []) (vals0 := rk_v0 b L xs ++ [.ref (adK 0)]) ⟨_, rfl⟩ hx hb hX hbl (Nat.not_le.mpr hbl) hLs pc ins len st res a1 a2 a3 a5
  have hl := lv_entry ([Value.ref b] : List Value) (n := 4) (Nat.le_of_ble_eq_true rfl)
  rw [lg_entry_eq]
  have go : ∀ (lo hi : Int), lo ≤ (L : Int) → (L : Int) ≤ hi → rk_W (gk_K p l e s m below meth c b) s (fun k => (z k).1, fun k => (z k).2) gk_cl (gk_A s) 4 (rk_v0 b L xs ++ [.ref (adK 0)]) [] (gk_q0 lo hi).1 (gk_q0 lo hi).2 → W p l e room_1 s m #[Value.ref b] below meth c s.heap [] 0 0 (lw_Z below #[Value.ref b] s) (F0 m 0 (lg_sl ([Value.ref b] : List Value) ++ List.replicate (4 - (lg_sl ([Value.ref b] : List Value)).length) Slot.unset).toArray []) := by
    intro lo hi h1 h2 hw
    exact hw (rk_v0 b L xs ++ [Value.ref (adK 0)]) [] s.heap [] _ [] _ ⟨gk_env_ok (b := b) (L := L) (xs := xs) (a := adK 0) (lo := lo) (hi := hi) (by rw [hLn]; exact h1) (by rw [hLn]; exact h2), trivial, (fun k q hq => by cases hq), ⟨fun i j p q hp => (by cases hp), fun k q hq => (by cases hq)⟩, va_S.rf, ⟨[], by simp⟩, ⟨[], rfl⟩⟩ hl ⟨⟨rfl, rfl⟩, trivial⟩ trivial
  have hw := fun {li : List (Nat × Instr × Nat)} {q : Nat × rk_S} (hins : ∀ r ∈ li, decode code r.1 = .ok r.2) (h : gk_go rk_lawx (li ++ gk_lb) q = true) => gk_w (D := (fun k => (z k).1, fun k => (z k).2)) (b := b) (vals0 := rk_v0 b L xs ++ [.ref (adK 0)]) hx hb hr hml hlocks hF hXt hlaw (gk_all hins gk_lbi) h
  have hst : ∀ (at_ : Nat) (S : rk_S), rk_W (gk_K p l e s m below meth c b) s (fun k => (z k).1, fun k => (z k).2) gk_cl (gk_A s) 4 (rk_v0 b L xs ++ [.ref (adK 0)]) [] at_ S → ∀ {li : List (Nat × Instr × Nat)} {q : Nat × rk_S}, (∀ r ∈ li, decode code r.1 = .ok r.2) → gk_go (gk_stop at_ S) li q = true → rk_W (gk_K p l e s m below meth c b) s (fun k => (z k).1, fun k => (z k).2) gk_cl (gk_A s) 4 (rk_v0 b L xs ++ [.ref (adK 0)]) [] q.1 q.2 := by
    intro at_ S hS li q hins h
    refine gk_w (D := (fun k => (z k).1, fun k => (z k).2)) (b := b) (vals0 := rk_v0 b L xs ++ [.ref (adK 0)]) hx hb hr hml hlocks hF hXt (ext := gk_stop at_ S) (fun pc ins len st res a1 a2 a3 a4 a5 => ?_) hins h
    unfold gk_stop at a3
    split at a3
    · next e1 =>
      split at a3
      · next e2 =>
        rw [gk_eqS_ok e2, e1]
        exact hS
      · cases a3
    · exact hlaw pc ins len st res a1 a2 a3 a4 a5
  have hst2 : ∀ (at_ : Nat) (S : rk_S), rk_W (gk_K p l e s m below meth c b) s (fun k => (z k).1, fun k => (z k).2) gk_cl (gk_A s) 4 (rk_v0 b L xs ++ [.ref (adK 0)]) [] at_ S → ∀ {li : List (Nat × Instr × Nat)} {q : Nat × rk_S}, (∀ r ∈ li, decode code r.1 = .ok r.2) → gk_go (gk_stop2 at_ S) li q = true → rk_W (gk_K p l e s m below meth c b) s (fun k => (z k).1, fun k => (z k).2) gk_cl (gk_A s) 4 (rk_v0 b L xs ++ [.ref (adK 0)]) [] q.1 q.2 := by
    intro at_ S hS li q hins h
    refine gk_w (D := (fun k => (z k).1, fun k => (z k).2)) (b := b) (vals0 := rk_v0 b L xs ++ [.ref (adK 0)]) hx hb hr hml hlocks hF hXt (ext := gk_stop2 at_ S) (fun pc ins len st res a1 a2 a3 a4 a5 => ?_) hins h
    unfold gk_stop2 at a3
    cases e1 : Nat.beq pc at_ with
    | false =>
      rw [e1] at a3
      exact hlaw pc ins len st res a1 a2 a3 a4 a5
    | true =>
      rw [e1] at a3
      cases e2 : gk_eqS st S with
      | false =>
        rw [e2] at a3
        exact hlaw pc ins len st res a1 a2 a3 a4 a5
      | true =>
        rw [gk_eqS_ok e2, Nat.eq_of_beq_eq_true e1]
        exact hS
  refine go 0 6 (by omega) (by omega) (hst 16 (gk_S16 0 6) ?_ (gk_all gk_lai gk_lbi) gk_pre)
  intro vals ws H locs ls stk lc hG hl2 hL2 hS2
  obtain ⟨k0, hk0⟩ := hG.2.2.2.2.2.1
  have hk1 : k0 = [] := by
    have h1 : (gk_env 0 6).length = vals.length := rk_A2.len (show rk_A2 rk_tok (gk_env 0 6) vals from hG.1)
    rw [hk0] at h1
    rw [List.length_append] at h1
    have h2 : (rk_v0 b L xs ++ [Value.ref (adK 0)]).length = 9 := rfl
    have h3 : (gk_env 0 6).length = 9 := rfl
    exact List.length_eq_zero_iff.mp (by omega)
  subst hk1
  rw [List.append_nil] at hk0
  by_cases hL6 : L = 6
  · have hp48 : rk_W (gk_K p l e s m below meth c b) s (fun k => (z k).1, fun k => (z k).2) gk_cl (gk_A s) 4 (rk_v0 b L xs ++ [.ref (adK 0)]) [] 1787 (gk_S 48) := gk_cut_W (List.forall_mem_cons.mpr ⟨hw gk_lci48 gk_case48_m2147483648_2147483647_m2147483648_0, List.forall_mem_cons.mpr ⟨hw gk_lci48 gk_case48_m2147483648_0_1_1, List.forall_mem_cons.mpr ⟨hw gk_lci48 gk_case48_1_20_1_1, List.forall_mem_cons.mpr ⟨hw gk_lci48 gk_case48_21_40_1_1, List.forall_mem_cons.mpr ⟨hw gk_lci48 gk_case48_41_60_1_1, List.forall_mem_cons.mpr ⟨hw gk_lci48 gk_case48_61_2147483647_1_1, List.forall_mem_cons.mpr ⟨hw gk_lci48 gk_case48_m2147483648_0_2_2, List.forall_mem_cons.mpr ⟨hw gk_lci48 gk_case48_1_20_2_2, List.forall_mem_cons.mpr ⟨hw gk_lci48 gk_case48_21_40_2_2, List.forall_mem_cons.mpr ⟨hw gk_lci48 gk_case48_41_60_2_2, List.forall_mem_cons.mpr ⟨hw gk_lci48 gk_case48_61_2147483647_2_2, List.forall_mem_cons.mpr ⟨hw gk_lci48 gk_case48_m2147483648_0_3_3, List.forall_mem_cons.mpr ⟨hw gk_lci48 gk_case48_1_20_3_3, List.forall_mem_cons.mpr ⟨hw gk_lci48 gk_case48_21_40_3_3, List.forall_mem_cons.mpr ⟨hw gk_lci48 gk_case48_41_60_3_3, List.forall_mem_cons.mpr ⟨hw gk_lci48 gk_case48_61_2147483647_3_3, List.forall_mem_cons.mpr ⟨hw gk_lci48 gk_case48_m2147483648_0_4_4, List.forall_mem_cons.mpr ⟨hw gk_lci48 gk_case48_1_20_4_4, List.forall_mem_cons.mpr ⟨hw gk_lci48 gk_case48_21_40_4_4, List.forall_mem_cons.mpr ⟨hw gk_lci48 gk_case48_41_60_4_4, List.forall_mem_cons.mpr ⟨hw gk_lci48 gk_case48_61_2147483647_4_4, List.forall_mem_cons.mpr ⟨hw gk_lci48 gk_case48_m2147483648_0_5_5, List.forall_mem_cons.mpr ⟨hw gk_lci48 gk_case48_1_20_5_5, List.forall_mem_cons.mpr ⟨hw gk_lci48 gk_case48_21_40_5_5, List.forall_mem_cons.mpr ⟨hw gk_lci48 gk_case48_41_60_5_5, List.forall_mem_cons.mpr ⟨hw gk_lci48 gk_case48_61_2147483647_5_5, List.forall_mem_cons.mpr ⟨hw gk_lci48 gk_case48_m2147483648_0_6_6, List.forall_mem_cons.mpr ⟨hw gk_lci48 gk_case48_1_20_6_6, List.forall_mem_cons.mpr ⟨hw gk_lci48 gk_case48_21_40_6_6, List.forall_mem_cons.mpr ⟨hw gk_lci48 gk_case48_41_60_6_6, List.forall_mem_cons.mpr ⟨hw gk_lci48 gk_case48_61_2147483647_6_6, List.forall_mem_cons.mpr ⟨hw gk_lci48 gk_case48_m2147483648_2147483647_7_2147483647, fun _ h => absurd h List.not_mem_nil⟩⟩⟩⟩⟩⟩⟩⟩⟩⟩⟩⟩⟩⟩⟩⟩⟩⟩⟩⟩⟩⟩⟩⟩⟩⟩⟩⟩⟩⟩⟩⟩)
    have hp49 : rk_W (gk_K p l e s m below meth c b) s (fun k => (z k).1, fun k => (z k).2) gk_cl (gk_A s) 4 (rk_v0 b L xs ++ [.ref (adK 0)]) [] 1820 (gk_S 49) := gk_cut_W (List.forall_mem_cons.mpr ⟨hw gk_lci49 gk_case49_m2147483648_2147483647_m2147483648_0, List.forall_mem_cons.mpr ⟨hw gk_lci49 gk_case49_m2147483648_0_1_1, List.forall_mem_cons.mpr ⟨hw gk_lci49 gk_case49_1_20_1_1, List.forall_mem_cons.mpr ⟨hw gk_lci49 gk_case49_21_40_1_1, List.forall_mem_cons.mpr ⟨hw gk_lci49 gk_case49_41_60_1_1, List.forall_mem_cons.mpr ⟨hw gk_lci49 gk_case49_61_2147483647_1_1, List.forall_mem_cons.mpr ⟨hw gk_lci49 gk_case49_m2147483648_0_2_2, List.forall_mem_cons.mpr ⟨hw gk_lci49 gk_case49_1_20_2_2, List.forall_mem_cons.mpr ⟨hw gk_lci49 gk_case49_21_40_2_2, List.forall_mem_cons.mpr ⟨hw gk_lci49 gk_case49_41_60_2_2, List.forall_mem_cons.mpr ⟨hw gk_lci49 gk_case49_61_2147483647_2_2, List.forall_mem_cons.mpr ⟨hw gk_lci49 gk_case49_m2147483648_0_3_3, List.forall_mem_cons.mpr ⟨hw gk_lci49 gk_case49_1_20_3_3, List.forall_mem_cons.mpr ⟨hw gk_lci49 gk_case49_21_40_3_3, List.forall_mem_cons.mpr ⟨hw gk_lci49 gk_case49_41_60_3_3, List.forall_mem_cons.mpr ⟨hw gk_lci49 gk_case49_61_2147483647_3_3, List.forall_mem_cons.mpr ⟨hw gk_lci49 gk_case49_m2147483648_0_4_4, List.forall_mem_cons.mpr ⟨hw gk_lci49 gk_case49_1_20_4_4, List.forall_mem_cons.mpr ⟨hw gk_lci49 gk_case49_21_40_4_4, List.forall_mem_cons.mpr ⟨hw gk_lci49 gk_case49_41_60_4_4, List.forall_mem_cons.mpr ⟨hw gk_lci49 gk_case49_61_2147483647_4_4, List.forall_mem_cons.mpr ⟨hw gk_lci49 gk_case49_m2147483648_0_5_5, List.forall_mem_cons.mpr ⟨hw gk_lci49 gk_case49_1_20_5_5, List.forall_mem_cons.mpr ⟨hw gk_lci49 gk_case49_21_40_5_5, List.forall_mem_cons.mpr ⟨hw gk_lci49 gk_case49_41_60_5_5, List.forall_mem_cons.mpr ⟨hw gk_lci49 gk_case49_61_2147483647_5_5, List.forall_mem_cons.mpr ⟨hw gk_lci49 gk_case49_m2147483648_0_6_6, List.forall_mem_cons.mpr ⟨hw gk_lci49 gk_case49_1_20_6_6, List.forall_mem_cons.mpr ⟨hw gk_lci49 gk_case49_21_40_6_6, List.forall_mem_cons.mpr ⟨hw gk_lci49 gk_case49_41_60_6_6, List.forall_mem_cons.mpr ⟨hw gk_lci49 gk_case49_61_2147483647_6_6, List.forall_mem_cons.mpr ⟨hw gk_lci49 gk_case49_m2147483648_2147483647_7_2147483647, fun _ h => absurd h List.not_mem_nil⟩⟩⟩⟩⟩⟩⟩⟩⟩⟩⟩⟩⟩⟩⟩⟩⟩⟩⟩⟩⟩⟩⟩⟩⟩⟩⟩⟩⟩⟩⟩⟩)
    have h8 : rk_W (gk_K p l e s m below meth c b) s (fun k => (z k).1, fun k => (z k).2) gk_cl (gk_A s) 4 (rk_v0 b L xs ++ [.ref (adK 0)]) [] 601 (gk_S 8) := hst2 610 gk_S8 (hw gk_lci8 gk_case8b) (gk_all gk_lci8 gk_lbi) gk_case8a
    have hc : ∀ q ∈ gk_cpc, rk_W (gk_K p l e s m below meth c b) s (fun k => (z k).1, fun k => (z k).2) gk_cl (gk_A s) 4 (rk_v0 b L xs ++ [.ref (adK 0)]) [] q.1 (gk_S q.2) := List.forall_mem_cons.mpr ⟨hw gk_lci0 gk_case0, List.forall_mem_cons.mpr ⟨hw gk_lci1 gk_case1, List.forall_mem_cons.mpr ⟨hw gk_lci2 gk_case2, List.forall_mem_cons.mpr ⟨hw gk_lci3 gk_case3, List.forall_mem_cons.mpr ⟨hw gk_lci4 gk_case4, List.forall_mem_cons.mpr ⟨hw gk_lci5 gk_case5, List.forall_mem_cons.mpr ⟨hw gk_lci6 gk_case6, List.forall_mem_cons.mpr ⟨hw gk_lci7 gk_case7, List.forall_mem_cons.mpr ⟨h8, List.forall_mem_cons.mpr ⟨hw gk_lci9 gk_case9, List.forall_mem_cons.mpr ⟨hw gk_lci10 gk_case10, List.forall_mem_cons.mpr ⟨hw gk_lci11 gk_case11, List.forall_mem_cons.mpr ⟨hw gk_lci12 gk_case12, List.forall_mem_cons.mpr ⟨hw gk_lci13 gk_case13, List.forall_mem_cons.mpr ⟨hw gk_lci14 gk_case14, List.forall_mem_cons.mpr ⟨hw gk_lci15 gk_case15, List.forall_mem_cons.mpr ⟨hw gk_lci16 gk_case16, List.forall_mem_cons.mpr ⟨hw gk_lci17 gk_case17, List.forall_mem_cons.mpr ⟨hw gk_lci18 gk_case18, List.forall_mem_cons.mpr ⟨hw gk_lci19 gk_case19, List.forall_mem_cons.mpr ⟨hw gk_lci20 gk_case20, List.forall_mem_cons.mpr ⟨hw gk_lci21 gk_case21, List.forall_mem_cons.mpr ⟨hw gk_lci22 gk_case22, List.forall_mem_cons.mpr ⟨hw gk_lci23 gk_case23, List.forall_mem_cons.mpr ⟨hw gk_lci24 gk_case24, List.forall_mem_cons.mpr ⟨hw gk_lci25 gk_case25, List.forall_mem_cons.mpr ⟨hw gk_lci26 gk_case26, List.forall_mem_cons.mpr ⟨hw gk_lci27 gk_case27, List.forall_mem_cons.mpr ⟨hw gk_lci28 gk_case28, List.forall_mem_cons.mpr ⟨hw gk_lci29 gk_case29, List.forall_mem_cons.mpr ⟨hw gk_lci30 gk_case30, List.forall_mem_cons.mpr ⟨hw gk_lci31 gk_case31, List.forall_mem_cons.mpr ⟨hw gk_lci32 gk_case32, List.forall_mem_cons.mpr ⟨hw gk_lci33 gk_case33, List.forall_mem_cons.mpr ⟨hw gk_lci34 gk_case34, List.forall_mem_cons.mpr ⟨hw gk_lci35 gk_case35, List.forall_mem_cons.mpr ⟨hw gk_lci36 gk_case36, List.forall_mem_cons.mpr ⟨hw gk_lci37 gk_case37, List.forall_mem_cons.mpr ⟨hw gk_lci38 gk_case38, List.forall_mem_cons.mpr ⟨hw gk_lci39 gk_case39, List.forall_mem_cons.mpr ⟨hw gk_lci40 gk_case40, List.forall_mem_cons.mpr ⟨hw gk_lci41 gk_case41, List.forall_mem_cons.mpr ⟨hw gk_lci42 gk_case42, List.forall_mem_cons.mpr ⟨hw gk_lci43 gk_case43, List.forall_mem_cons.mpr ⟨hw gk_lci44 gk_case44, List.forall_mem_cons.mpr ⟨hw gk_lci45 gk_case45, List.forall_mem_cons.mpr ⟨hw gk_lci46 gk_case46, List.forall_mem_cons.mpr ⟨hw gk_lci47 gk_case47, List.forall_mem_cons.mpr ⟨hp48, List.forall_mem_cons.mpr ⟨hp49, List.forall_mem_cons.mpr ⟨hw gk_lci50 gk_case50, List.forall_mem_cons.mpr ⟨hw gk_lci51 gk_case51, List.forall_mem_cons.mpr ⟨hw gk_lci52 gk_case52, List.forall_mem_cons.mpr ⟨hw gk_lci53 gk_case53, List.forall_mem_cons.mpr ⟨hw gk_lci54 gk_case54, List.forall_mem_cons.mpr ⟨hw gk_lci55 gk_case55, List.forall_mem_cons.mpr ⟨hw gk_lci56 gk_case56, List.forall_mem_cons.mpr ⟨hw gk_lci57 gk_case57, List.forall_mem_cons.mpr ⟨hw gk_lci58 gk_case58, fun _ h => absurd h List.not_mem_nil⟩⟩⟩⟩⟩⟩⟩⟩⟩⟩⟩⟩⟩⟩⟩⟩⟩⟩⟩⟩⟩⟩⟩⟩⟩⟩⟩⟩⟩⟩⟩⟩⟩⟩⟩⟩⟩⟩⟩⟩⟩⟩⟩⟩⟩⟩⟩⟩⟩⟩⟩⟩⟩⟩⟩⟩⟩⟩⟩
    have hd : rk_W (gk_K p l e s m below meth c b) s (fun k => (z k).1, fun k => (z k).2) gk_cl (gk_A s) 4 (rk_v0 b L xs ++ [.ref (adK 0)]) [] 2160 gk_Sd := hw (li := []) (fun _ h => absurd h List.not_mem_nil) gk_dflt
    have h16 := hst 33 gk_S33 (gk_disp hx hb hc hd) (gk_all gk_lai (gk_all gk_lbi gk_ldi)) gk_pre6
    exact h16 vals ws H locs ls stk lc (hG.env0 (by rw [hk0]; exact gk_env_ok (b := b) (L := L) (xs := xs) (a := adK 0) (by rw [hLn]; omega) (by rw [hLn]; omega))) hl2 hL2 hS2
  · exact hw gk_lai gk_pre5 vals ws H locs ls stk lc (hG.env0 (by rw [hk0]; exact gk_env_ok (b := b) (L := L) (xs := xs) (a := adK 0) (by rw [hLn]; omega) (by rw [hLn]; omega))) hl2 hL2 hS2
set_option maxHeartbeats 4000000 in
theorem lw_walk (l : Launch) (hflags : l.flags = flags0) (b : Addr) (xs : List Int32) : MetFree l x (headSpec (Jvm.Cond.code x code maxLocals ret :: tables_1) room_1) (lw_P b xs) (fun _ _ _ _ _ => True) lw_Q := by
  refine MetFree.of_bodyS (code := code) (maxLocals := maxLocals) (ret := ret) (by decide) ?_ ?_
  · intro args s m h hn
    obtain ⟨meth, c, h1, h2, h3, h4, h5, h6, -, -⟩ := Cond.code_spec hn (atoms_spec (ws := Jvm.Cond.code x code maxLocals ret :: tables_1) h _ List.mem_cons_self)
    exact ⟨meth, c, h1, h2, h3, h4, h5, h6⟩
  · intro p e s m args below meth c s₁ B hml0 hP _
    obtain ⟨rfl, hx, hbd, hgv⟩ := hP
    obtain ⟨scr, harrAt, hlist, hof, hsmall⟩ := hx
    obtain ⟨hcb, hkn, -, -⟩ := State.arrayAt?_spec harrAt
    have hown : s.vm.findClass R_law = some m.cls := findClass_of_methodNamed B.named
    have hts0 : ∀ c ∈ (Jvm.Cond.code x code maxLocals ret :: tables_1), c.before #[Value.ref b] s = true := atoms_spec (ws := Jvm.Cond.code x code maxLocals ret :: tables_1) B.pre
    have hts : ∀ w ∈ lw_tbl, w.before #[Value.ref b] s = true := k2_hts_sels lw_privs (fun w hw => hts0 w (List.mem_cons_of_mem _ hw)) lw_privs_ok
    have hml : c.maxLocals = 4 := B.maxLocals_eq (hts0 _ List.mem_cons_self)
    have X₀ : Stand p l e room_1 s m #[Value.ref b] below meth c s₁ [] 0 0 := Stand.of_body B
    have hh0 : s₁.heap = s.heap := by rw [B.state]; rfl
    have hsz : scr.slots.size = xs.length := by rw [← Array.length_toList, hlist, List.length_map]
    have hval : ∀ j : Nat, j < xs.length → scr.slots[j]? = some (.int (xs.getD j 0)) := fun j hj => by
      rw [← Array.getElem?_toList, hlist]
      simp [hj]
    have hbl : b < s.heap.size := (Array.getElem?_eq_some_iff.mp hcb).1
    have hX : va_X b xs.length (fun j => xs.getD j 0) s s.heap := ⟨scr, hcb, hof, hkn, hsz, hval⟩
    have K : W p l e room_1 s m #[Value.ref b] below meth c s₁.heap [] 0 0 (lw_Z below #[Value.ref b] s) (entryFrame m ([Value.ref b] : List Value).toArray 4) := by
      rw [hh0]
      exact whole_start l hflags hbd ⟨B.exec, B.bytes, B.returns, hml, hown, hts, hX, hbl, B.notSynchronized, hgv⟩
    obtain ⟨t, a1, o, b1, b2, b3⟩ := K s₁ rfl X₀
    exact ⟨t, o, a1, b1, b2, b3⟩
theorem lw_pre_spec {args : Array Value} {s : State} (h : (Jvm.Cond.and given_1 narrow_1).before args s = true) (hr : rest_1_c.before args s = true) : ∃ (b : Addr) (xs : List Int32), lw_P b xs args s := by
  have hs := flat_of_before _ h
  have hq := flat_of_before _ hr
  have hc : (Cond.count 1).before args s = true := hs _ (by decide +kernel)
  have harr : (Cond.arrayOf (.arg 0) .int).before args s = true := hs _ (by decide +kernel)
  have hle : (Cond.le (.length (.arg 0)) (.int 6)).before args s = true := hs _ (by decide +kernel)
  have hlen : (Cond.isInt (.length (.arg 0))).before args s = true := hq _ (by decide +kernel)
  have hall : (Cond.all (.arg 0) (.isInt (.elem (.arg 0) (.index 0)))).before args s = true := hq _ (by decide +kernel)
  obtain ⟨b, xs, hb, hx⟩ := State.ints_of_pre rfl harr hlen hall
  have hsm : xs.length < 2 ^ 31 := hx.choose_spec.2.2.2
  have hev : (Term.length (.arg 0)).eval args s none [] s = some (.int xs.length.toInt32) := hx.length_eval hb
  have hv := Cond.le_ints hev (show (Term.int 6).eval args s none [] s = some (.int 6) from rfl)
  have hd : xs.length.toInt32 ≤ 6 := by
    simpa [Cond.before, Cond.holds, hv] using hle
  have hN : xs.length ≤ 6 := (Int32.ofNat_le_ofNat hsm (by decide)).mp (show Int32.ofNat xs.length ≤ Int32.ofNat 6 from hd)
  exact ⟨b, xs, Cond.one_arg hc (show args[0]? = some (.ref b) from hb), hx, hN, h⟩
theorem lw_comes (l : Launch) (hflags : l.flags = flags0) : Comes l x (Jvm.Cond.code x code maxLocals ret :: tables_1) room_1 (fun tb e args s => Calls_1 tb e args s ∧ rest_1 tb e args s ∧ Pre_1 tb e args s)
    (fun _ _ args s o t => lw_Q args s o t) := by
  intro p e ha hc hk s m args below hf hfit hheap happ hpre
  obtain ⟨b, xs, hP⟩ := lw_pre_spec hpre.2.2 hpre.2.1
  obtain ⟨k, o, h1, h2, h3, hQ⟩ := lw_walk l hflags b xs p e ha hc hk s m args below hf ((Spec.applies_iff_loose hf).mp happ).1 hP trivial
  exact ⟨k, o, h1, h2, h3, hQ⟩
theorem lw_frame {s t : State} {o : Outcome} {args : Array Value} (h : Framed s o t [] 600000 7302250) :
    Framed s o t (fieldLocs frame_1_writes args s ++ arrayLocs frame_1_arrays args s ++ staticLocs frame_1_statics s) 600000 7302250 := h
theorem lw_limb (L : Cond) (hL : ∀ (args : Array Value) (s t : State), L.after args s (.returned (some (.int 1))) t = true) :
    ArmFor flags0 classFile x code maxLocals ret World_1 tables_1 room_1 Calls_1 rest_1 Pre_1
      (fun tb e a s o t => postC L tb e a s o t ∧ Framed s o t (fieldLocs frame_1_writes a s ++ arrayLocs frame_1_arrays a s ++ staticLocs frame_1_statics s) 600000 7302250) := by
  intro l hflags _ _ p e ha hc hk s m args below hf hfit hheap happ hpre
  obtain ⟨k, o, h1, h2, h3, rfl, hF⟩ := lw_comes l hflags p e ha hc hk s m args below hf hfit hheap happ hpre
  exact ⟨k, _, h1, h2, h3, hL args s _, lw_frame hF⟩
theorem i_vc : Claimed_1_1 ∧ Claimed_1_2 := ⟨lw_limb limb_1_1 (fun args s t => by simp [limb_1_1, Cond.after, Cond.holds, Cond.value]), lw_limb limb_1_2 (fun args s t => Cond.after_iff.mpr (by
  first | (rw [show limb_1_2 = Cond.eq .result (.int 1) from rfl, Cond.eq_ints (x := 1) (y := 1) rfl rfl]; simp; done) | (simp [limb_1_2, Cond.value, Term.eval]; done)))⟩
