/-! ===== rk: the steps that look at no cell are sound ===== -/
def rk_holds (c : ClassFile.Cond) (x y : Int32) : Prop := match c with
  | .eq => x.toInt = y.toInt
  | .ne => ¬ x.toInt = y.toInt
  | .lt => x.toInt < y.toInt
  | .ge => y.toInt ≤ x.toInt
  | .gt => y.toInt < x.toInt
  | .le => x.toInt ≤ y.toInt
theorem rk_cut2 {env : List rk_T} {vals : List Value} {ads : List Nat} {a b : rk_V} {x y : Int32} {l1 h1 l2 h2 : Int} (hE : rk_E env vals) (ga : rk_g vals ads a (.int x)) (gb : rk_g vals ads b (.int y)) (p1 : l1 ≤ x.toInt) (p2 : x.toInt ≤ h1) (p3 : l2 ≤ y.toInt) (p4 : y.toInt ≤ h2) : ∃ env', (rk_cut env a l1 h1).bind (fun e => rk_cut e b l2 h2) = some env' ∧ rk_E env' vals := by
  obtain ⟨e1, q1, r1⟩ := rk_cut_ok hE ga p1 p2
  obtain ⟨e2, q2, r2⟩ := rk_cut_ok r1 gb p3 p4
  exact ⟨e2, by rw [q1]; exact q2, r2⟩
theorem rk_cond_ok (c : ClassFile.Cond) {env : List rk_T} {vals : List Value} {ads : List Nat} {a b : rk_V} {x y : Int32} {I J : Int × Int} (hE : rk_E env vals) (ga : rk_g vals ads a (.int x)) (gb : rk_g vals ads b (.int y)) (hi : rk_iv env a = some I) (hj : rk_iv env b = some J) (h : rk_holds c x y) : ∃ env', rk_cond c env a b I J = some env' ∧ rk_E env' vals := by
  obtain ⟨x', e1, p1, p2⟩ := rk_iv_ok hE ga hi
  cases e1
  obtain ⟨y', e2, p3, p4⟩ := rk_iv_ok hE gb hj
  cases e2
  obtain ⟨f1, f2⟩ := rk_full_ok x
  obtain ⟨f3, f4⟩ := rk_full_ok y
  dsimp only [rk_full] at f1 f2 f3 f4
  cases c <;> dsimp only [rk_holds] at h <;> dsimp only [rk_cond]
  · exact rk_cut2 hE ga gb (by omega) (by omega) (by omega) (by omega)
  · split
    · omega
    · split
      · exact rk_cut_ok hE ga (by omega) (by omega)
      · split
        · exact rk_cut_ok hE ga (by omega) (by omega)
        · split
          · exact rk_cut_ok hE gb (by omega) (by omega)
          · split
            · exact rk_cut_ok hE gb (by omega) (by omega)
            · exact ⟨env, rfl, hE⟩
  all_goals exact rk_cut2 hE ga gb (by omega) (by omega) (by omega) (by omega)
theorem rk_not_ok {c : ClassFile.Cond} {x y : Int32} (h : ¬ rk_holds c x y) : rk_holds (rk_not c) x y := by
  cases c <;> dsimp only [rk_holds, rk_not] at h ⊢ <;> omega
theorem rk_opt_mem {r : Option (List rk_T)} {e : List rk_T} (h : r = some e) (pc : Nat) (lo : List (Nat × rk_V)) (sk : List rk_V) (hp : List rk_H) (nc ns : Nat) : (pc, (lo, sk, e, hp, nc, ns)) ∈ rk_opt r pc lo sk hp nc ns := by
  rw [h]; exact List.mem_singleton.mpr rfl
section RKP
variable {p : Program} {l : Launch} {e : Env} {R : Room} {s : State} {m : MethodId} {args : Array Value} {below : List Frame} {meth : Method} {c : Code} {Q : State → Prop} {cc : ByteArray} {D : va_G} {cl : List vw_C} {Ad : Nat → Prop} {nL : Nat} {vals0 : List Value} {ads0 : List Nat}
/-- a comparison, by its row -/
theorem rk_if_ok {K : rk_K} {cd : ClassFile.Cond} {off : Int} {pc : Nat} {a b : rk_V} {lo : List (Nat × rk_V)} {sk : List rk_V} {env : List rk_T} {hp : List rk_H} {nc ns : Nat} {res : List (Nat × rk_S)} (h : rk_if cd off pc a b lo sk env hp nc ns = some res) (kk : ∀ q ∈ res, rk_W K s D cl Ad nL vals0 ads0 q.1 q.2)
    {vals : List Value} {ws : va_W} {H : Heap} {locs : List Loc} {ls : Array Slot} {stk : List Value} {lc : List (Nat × Value)} {va vb : Value} (hG : rk_G s D cl Ad vals0 ads0 vals ws H locs env hp) (hl : lv_has ls nL lc) (hL : rk_Lo vals (ws.map Prod.fst) lo lc) (ga : rk_g vals (ws.map Prod.fst) a va) (gb : rk_g vals (ws.map Prod.fst) b vb) (hS : rk_A2 (rk_g vals (ws.map Prod.fst)) sk stk) :
    ∃ (x y : Int32) (tgt : Nat), va = .int x ∧ vb = .int y ∧ (pc : Int) + off = (tgt : Int) ∧ (rk_holds cd x y → K tgt ls stk H locs nc ns) ∧ (¬ rk_holds cd x y → K (pc + 3) ls stk H locs nc ns) := by
  unfold rk_if at h
  split at h
  · next I J hi hj =>
    split at h
    · next hpc =>
      cases h
      obtain ⟨x, rfl, -, -⟩ := rk_iv_ok hG.1 ga hi
      obtain ⟨y, rfl, -, -⟩ := rk_iv_ok hG.1 gb hj
      refine ⟨x, y, ((pc : Int) + off).toNat, rfl, rfl, by omega, fun hh => ?_, fun hh => ?_⟩
      · obtain ⟨e', q1, q2⟩ := rk_cond_ok cd hG.1 ga gb hi hj hh
        exact kk _ (List.mem_append_left _ (rk_opt_mem q1 _ lo sk hp nc ns)) vals ws H locs ls stk lc (hG.env0 q2) hl hL hS
      · obtain ⟨e', q1, q2⟩ := rk_cond_ok (rk_not cd) hG.1 ga gb hi hj (rk_not_ok hh)
        exact kk _ (List.mem_append_right _ (rk_opt_mem q1 _ lo sk hp nc ns)) vals ws H locs ls stk lc (hG.env0 q2) hl hL hS
    · cases h
  · cases h
def rk_len (ins : Instr) (len : Nat) : Bool := match ins with
  | .bipush _ | .iload _ | .lload _ | .aload _ | .istore _ | .lstore _ | .astore _ | .ldc _ | .newarray _ => len == 2
  | .sipush _ | .iinc _ _ | .ifCond _ _ | .if_icmp _ _ | .goto _ | .getfield _ | .putfield _ | .getstatic _ | .new _ | .invokevirtual _ | .invokestatic _ | .invokespecial _ | .ldc_w _ | .ldc2_w _ | .anewarray _ => len == 3
  | .multianewarray _ _ => len == 4
  | .tableswitch _ _ _ _ | .lookupswitch _ _ => true
  | _ => len == 1

set_option maxHeartbeats 4000000 in
theorem rk_pure_ok (hx : p.tables.exec = Jvm.exec) (hb : c.code = cc) {pc : Nat} {ins : Instr} {len : Nat} {st : rk_S} {res : List (Nat × rk_S)} (hdg : decode cc pc = .ok (ins, len)) (hlen : rk_len ins len = true) (h : rk_pure nL pc ins st = some res) (kk : ∀ q ∈ res, rk_W (rk_KW p l e R s m args below meth c Q) s D cl Ad nL vals0 ads0 q.1 q.2) : rk_W (rk_KW p l e R s m args below meth c Q) s D cl Ad nL vals0 ads0 pc st := by
  obtain ⟨lo, sk, env, hp, nc, ns⟩ := st
  intro vals ws H locs ls stk lc hG hl hL hS
  dsimp only at hG hL hS ⊢
  cases ins

  case iconst n =>
    simp [rk_len] at hlen; subst hlen
    simp only [rk_pure, Option.some.injEq] at h; subst h
    refine lv_iconst (v := Int32.ofInt n) hx hb hdg rfl ?_
    exact kk _ (List.mem_singleton.mpr rfl) vals ws H locs ls _ lc hG hl hL ⟨rfl, hS⟩
  case bipush n =>
    simp [rk_len] at hlen; subst hlen
    simp only [rk_pure, Option.some.injEq] at h; subst h
    refine lv_bipush (v := (Int8.ofInt n).toInt32) hx hb hdg rfl ?_
    exact kk _ (List.mem_singleton.mpr rfl) vals ws H locs ls _ lc hG hl hL ⟨rfl, hS⟩
  case sipush n =>
    simp [rk_len] at hlen; subst hlen
    simp only [rk_pure, Option.some.injEq] at h; subst h
    refine lv_sipush (v := (Int16.ofInt n).toInt32) hx hb hdg rfl ?_
    exact kk _ (List.mem_singleton.mpr rfl) vals ws H locs ls _ lc hG hl hL ⟨rfl, hS⟩
  case lconst n =>
    simp [rk_len] at hlen; subst hlen
    simp only [rk_pure, Option.some.injEq] at h; subst h
    refine lv_lconst (v := Int64.ofNat (n : Nat)) hx hb hdg rfl ?_
    exact kk _ (List.mem_singleton.mpr rfl) vals ws H locs ls _ lc hG hl hL ⟨rfl, hS⟩
  case aconst_null =>
    simp [rk_len] at hlen; subst hlen
    simp only [rk_pure, Option.some.injEq] at h; subst h
    refine lv_null hx hb hdg ?_
    exact kk _ (List.mem_singleton.mpr rfl) vals ws H locs ls _ lc hG hl hL ⟨rfl, hS⟩
  case iload_n k =>
    simp [rk_len] at hlen; subst hlen
    simp only [rk_pure, rk_ldi] at h
    split at h
    · next a ha =>
      split at h
      · next hi =>
        cases h
        obtain ⟨v, hv, hg⟩ := rk_ld_ok hL ha
        obtain ⟨I, hI⟩ := Option.isSome_iff_exists.mp hi
        obtain ⟨x, rfl, -, -⟩ := rk_iv_ok hG.1 hg hI
        refine lv_iload_n hx hb hdg rfl (hl.2.2 _ hv) ?_
        exact kk _ (List.mem_singleton.mpr rfl) vals ws H locs ls _ lc hG hl hL ⟨rk_norm_ok hG.1 hg, hS⟩
      · cases h
    · cases h
  case iload k =>
    simp [rk_len] at hlen; subst hlen
    simp only [rk_pure, rk_ldi] at h
    split at h
    · next a ha =>
      split at h
      · next hi =>
        cases h
        obtain ⟨v, hv, hg⟩ := rk_ld_ok hL ha
        obtain ⟨I, hI⟩ := Option.isSome_iff_exists.mp hi
        obtain ⟨x, rfl, -, -⟩ := rk_iv_ok hG.1 hg hI
        refine lv_iload hx hb hdg (hl.2.2 _ hv) ?_
        exact kk _ (List.mem_singleton.mpr rfl) vals ws H locs ls _ lc hG hl hL ⟨rk_norm_ok hG.1 hg, hS⟩
      · cases h
    · cases h
  case lload_n k =>
    simp [rk_len] at hlen; subst hlen
    simp only [rk_pure, rk_ldl] at h
    split at h
    · next a ha =>
      split at h
      · next hi =>
        cases h
        obtain ⟨v, hv, hg⟩ := rk_ld_ok hL ha
        obtain ⟨x, rfl⟩ := rk_isL_ok hG.1 hg hi
        refine lv_lload_n hx hb hdg rfl (hl.2.2 _ hv) ?_
        exact kk _ (List.mem_singleton.mpr rfl) vals ws H locs ls _ lc hG hl hL ⟨hg, hS⟩
      · cases h
    · cases h
  case lload k =>
    simp [rk_len] at hlen; subst hlen
    simp only [rk_pure, rk_ldl] at h
    split at h
    · next a ha =>
      split at h
      · next hi =>
        cases h
        obtain ⟨v, hv, hg⟩ := rk_ld_ok hL ha
        obtain ⟨x, rfl⟩ := rk_isL_ok hG.1 hg hi
        refine lv_lload hx hb hdg (hl.2.2 _ hv) ?_
        exact kk _ (List.mem_singleton.mpr rfl) vals ws H locs ls _ lc hG hl hL ⟨hg, hS⟩
      · cases h
    · cases h
  case aload_n k =>
    simp [rk_len] at hlen; subst hlen
    simp only [rk_pure, rk_lda] at h
    split at h
    · next j ha =>
      cases h
      obtain ⟨v, hv, hg⟩ := rk_ld_ok hL ha
      obtain ⟨x, hj, rfl⟩ := id hg
      refine lv_aload_n hx hb hdg rfl (hl.2.2 _ hv) ?_
      exact kk _ (List.mem_singleton.mpr rfl) vals ws H locs ls _ lc hG hl hL ⟨hg, hS⟩
    · cases h
  case aload k =>
    simp [rk_len] at hlen; subst hlen
    simp only [rk_pure, rk_lda] at h
    split at h
    · next j ha =>
      cases h
      obtain ⟨v, hv, hg⟩ := rk_ld_ok hL ha
      obtain ⟨x, hj, rfl⟩ := id hg
      refine lv_aload hx hb hdg (hl.2.2 _ hv) ?_
      exact kk _ (List.mem_singleton.mpr rfl) vals ws H locs ls _ lc hG hl hL ⟨hg, hS⟩
    · cases h
  case istore_n k =>
    simp [rk_len] at hlen; subst hlen
    simp only [rk_pure, rk_sti] at h
    split at h
    · next a r =>
      split at h
      · next hi =>
        cases h
        obtain ⟨v, k1, rfl, hg, hSn⟩ := hS.cons; clear hS; have hS := hSn; clear hSn
        obtain ⟨I, hI⟩ := Option.isSome_iff_exists.mp hi.1
        obtain ⟨x, rfl, -, -⟩ := rk_iv_ok hG.1 hg hI
        refine lv_istore_n hx hb hdg rfl hl hi.2 rfl (fun ls' hl' => ?_)
        exact kk _ (List.mem_singleton.mpr rfl) vals ws H locs ls' _ _ hG hl' (rk_st1_ok hG.1 hL hg) hS
      · cases h
    · cases h
  case istore k =>
    simp [rk_len] at hlen; subst hlen
    simp only [rk_pure, rk_sti] at h
    split at h
    · next a r =>
      split at h
      · next hi =>
        cases h
        obtain ⟨v, k1, rfl, hg, hSn⟩ := hS.cons; clear hS; have hS := hSn; clear hSn
        obtain ⟨I, hI⟩ := Option.isSome_iff_exists.mp hi.1
        obtain ⟨x, rfl, -, -⟩ := rk_iv_ok hG.1 hg hI
        refine lv_istore hx hb hdg hl hi.2 rfl (fun ls' hl' => ?_)
        exact kk _ (List.mem_singleton.mpr rfl) vals ws H locs ls' _ _ hG hl' (rk_st1_ok hG.1 hL hg) hS
      · cases h
    · cases h
  case lstore_n k =>
    simp [rk_len] at hlen; subst hlen
    simp only [rk_pure, rk_stl] at h
    split at h
    · next a r =>
      split at h
      · next hi =>
        cases h
        obtain ⟨v, k1, rfl, hg, hSn⟩ := hS.cons; clear hS; have hS := hSn; clear hSn
        obtain ⟨x, rfl⟩ := rk_isL_ok hG.1 hg hi.1
        refine lv_lstore_n hx hb hdg rfl hl hi.2 rfl (fun ls' hl' => ?_)
        exact kk _ (List.mem_singleton.mpr rfl) vals ws H locs ls' _ _ hG hl' (rk_st2_ok hG.1 hL hg) hS
      · cases h
    · cases h
  case lstore k =>
    simp [rk_len] at hlen; subst hlen
    simp only [rk_pure, rk_stl] at h
    split at h
    · next a r =>
      split at h
      · next hi =>
        cases h
        obtain ⟨v, k1, rfl, hg, hSn⟩ := hS.cons; clear hS; have hS := hSn; clear hSn
        obtain ⟨x, rfl⟩ := rk_isL_ok hG.1 hg hi.1
        refine lv_lstore hx hb hdg hl hi.2 rfl (fun ls' hl' => ?_)
        exact kk _ (List.mem_singleton.mpr rfl) vals ws H locs ls' _ _ hG hl' (rk_st2_ok hG.1 hL hg) hS
      · cases h
    · cases h
  case astore_n k =>
    simp [rk_len] at hlen; subst hlen
    simp only [rk_pure, rk_sta] at h
    split at h
    · next j r =>
      split at h
      · next hi =>
        cases h
        obtain ⟨v, k1, rfl, hg, hSn⟩ := hS.cons; clear hS; have hS := hSn; clear hSn
        obtain ⟨x, hj, rfl⟩ := id hg
        refine lv_astore_n hx hb hdg rfl hl hi rfl (fun ls' hl' => ?_)
        exact kk _ (List.mem_singleton.mpr rfl) vals ws H locs ls' _ _ hG hl' (rk_st1_ok hG.1 hL hg) hS
      · cases h
    · cases h
  case astore k =>
    simp [rk_len] at hlen; subst hlen
    simp only [rk_pure, rk_sta] at h
    split at h
    · next j r =>
      split at h
      · next hi =>
        cases h
        obtain ⟨v, k1, rfl, hg, hSn⟩ := hS.cons; clear hS; have hS := hSn; clear hSn
        obtain ⟨x, hj, rfl⟩ := id hg
        refine lv_astore hx hb hdg hl hi rfl (fun ls' hl' => ?_)
        exact kk _ (List.mem_singleton.mpr rfl) vals ws H locs ls' _ _ hG hl' (rk_st1_ok hG.1 hL hg) hS
      · cases h
    · cases h
  case iinc i n =>
    simp [rk_len] at hlen; subst hlen
    simp only [rk_pure] at h
    split at h
    · next a ha =>
      split at h
      · next hi =>
        split at h
        · next q hq =>
          cases h
          obtain ⟨v, hv, hg⟩ := rk_ld_ok hL ha
          obtain ⟨x, y, k2, rfl, ey, hE2, hg2⟩ := rk_bin_ok rk_s_add hG.1 hg (show rk_g vals (ws.map Prod.fst) (.inl (.int (Int32.ofInt n))) (.int (Int32.ofInt n)) from rfl) hq
          cases ey
          obtain ⟨kq, hkq⟩ := List.getElem?_of_mem hv
          refine lv_iinc hx hb hdg hl hkq rfl hi rfl (fun ls' hl' => ?_)
          exact kk _ (List.mem_singleton.mpr rfl) (vals ++ k2) ws H locs ls' _ _ (hG.env hE2) hl' (rk_st1_ok hE2 (hL.grow k2) hg2) (rk_skG hS k2)
        · cases h
      · cases h
    · cases h
  case dup =>
    simp [rk_len] at hlen; subst hlen
    simp only [rk_pure] at h
    split at h
    · next a r =>
      split at h
      · next hc =>
        cases h
        obtain ⟨v, k1, rfl, hg, hS1⟩ := hS.cons
        refine lv_dup hx hb hdg (by rw [← rk_cat_ok hG.1 hg]; exact hc) ?_
        exact kk _ (List.mem_singleton.mpr rfl) vals ws H locs ls _ lc hG hl hL ⟨hg, hg, hS1⟩
      · cases h
    · cases h
  case dup2 =>
    simp [rk_len] at hlen; subst hlen
    simp only [rk_pure] at h
    split at h
    · next a b r =>
      obtain ⟨v, k1, rfl, hg, hS1⟩ := hS.cons
      obtain ⟨v2, k2, rfl, hg2, hS2⟩ := hS1.cons
      split at h
      · next hc =>
        cases h
        refine lv_dup2_11 hx hb hdg (by rw [← rk_cat_ok hG.1 hg]; exact hc.1) (by rw [← rk_cat_ok hG.1 hg2]; exact hc.2) ?_
        exact kk _ (List.mem_singleton.mpr rfl) vals ws H locs ls _ lc hG hl hL ⟨hg, hg2, hg, hg2, hS2⟩
      · split at h
        · next hc =>
          cases h
          refine lv_dup2_2 hx hb hdg (by rw [← rk_cat_ok hG.1 hg]; exact hc) ?_
          exact kk _ (List.mem_singleton.mpr rfl) vals ws H locs ls _ lc hG hl hL ⟨hg, hg, hg2, hS2⟩
        · cases h
    · cases h
  case pop =>
    simp [rk_len] at hlen; subst hlen
    simp only [rk_pure] at h
    split at h
    · next a r =>
      split at h
      · next hc =>
        cases h
        obtain ⟨v, k1, rfl, hg, hS1⟩ := hS.cons
        refine lv_pop hx hb hdg (by rw [← rk_cat_ok hG.1 hg]; exact hc) ?_
        exact kk _ (List.mem_singleton.mpr rfl) vals ws H locs ls _ lc hG hl hL hS1
      · cases h
    · cases h
  case pop2 =>
    simp [rk_len] at hlen; subst hlen
    simp only [rk_pure] at h
    split at h
    · next a r =>
      split at h
      · next hc =>
        cases h
        obtain ⟨v, k1, rfl, hg, hS1⟩ := hS.cons
        refine lv_pop2_2 hx hb hdg (by rw [← rk_cat_ok hG.1 hg]; exact hc) ?_
        exact kk _ (List.mem_singleton.mpr rfl) vals ws H locs ls _ lc hG hl hL hS1
      · cases h
    · cases h
  case iadd =>
    simp [rk_len] at hlen; subst hlen
    simp only [rk_pure] at h
    split at h
    · next b a r =>
      unfold rk_op2 at h
      split at h
      · next q hq =>
        cases h
        obtain ⟨vb, k1, rfl, gb, hSn⟩ := hS.cons; clear hS; have hS := hSn; clear hSn
        obtain ⟨va, k2, rfl, ga, hSn⟩ := hS.cons; clear hS; have hS := hSn; clear hSn
        obtain ⟨x, y, k3, rfl, rfl, hE2, hg2⟩ := rk_bin_ok rk_s_add hG.1 ga gb hq
        refine lv_iadd hx hb hdg ?_
        exact kk _ (List.mem_singleton.mpr rfl) (vals ++ k3) ws H locs ls _ lc (hG.env hE2) hl (hL.grow k3) ⟨hg2, rk_skG hS k3⟩
      · cases h
    · cases h
  case isub =>
    simp [rk_len] at hlen; subst hlen
    simp only [rk_pure] at h
    split at h
    · next b a r =>
      unfold rk_op2 at h
      split at h
      · next q hq =>
        cases h
        obtain ⟨vb, k1, rfl, gb, hSn⟩ := hS.cons; clear hS; have hS := hSn; clear hSn
        obtain ⟨va, k2, rfl, ga, hSn⟩ := hS.cons; clear hS; have hS := hSn; clear hSn
        obtain ⟨x, y, k3, rfl, rfl, hE2, hg2⟩ := rk_bin_ok rk_s_sub hG.1 ga gb hq
        refine lv_isub hx hb hdg ?_
        exact kk _ (List.mem_singleton.mpr rfl) (vals ++ k3) ws H locs ls _ lc (hG.env hE2) hl (hL.grow k3) ⟨hg2, rk_skG hS k3⟩
      · cases h
    · cases h
  case imul =>
    simp [rk_len] at hlen; subst hlen
    simp only [rk_pure] at h
    split at h
    · next b a r =>
      unfold rk_op2 at h
      split at h
      · next q hq =>
        cases h
        obtain ⟨vb, k1, rfl, gb, hSn⟩ := hS.cons; clear hS; have hS := hSn; clear hSn
        obtain ⟨va, k2, rfl, ga, hSn⟩ := hS.cons; clear hS; have hS := hSn; clear hSn
        obtain ⟨x, y, k3, rfl, rfl, hE2, hg2⟩ := rk_bin_ok (rk_s_full _) hG.1 ga gb hq
        refine lv_imul hx hb hdg ?_
        exact kk _ (List.mem_singleton.mpr rfl) (vals ++ k3) ws H locs ls _ lc (hG.env hE2) hl (hL.grow k3) ⟨hg2, rk_skG hS k3⟩
      · cases h
    · cases h
  case iand =>
    simp [rk_len] at hlen; subst hlen
    simp only [rk_pure] at h
    split at h
    · next b a r =>
      unfold rk_op2 at h
      split at h
      · next q hq =>
        cases h
        obtain ⟨vb, k1, rfl, gb, hSn⟩ := hS.cons; clear hS; have hS := hSn; clear hSn
        obtain ⟨va, k2, rfl, ga, hSn⟩ := hS.cons; clear hS; have hS := hSn; clear hSn
        obtain ⟨x, y, k3, rfl, rfl, hE2, hg2⟩ := rk_bin_ok rk_s_and hG.1 ga gb hq
        refine lv_iand hx hb hdg ?_
        exact kk _ (List.mem_singleton.mpr rfl) (vals ++ k3) ws H locs ls _ lc (hG.env hE2) hl (hL.grow k3) ⟨hg2, rk_skG hS k3⟩
      · cases h
    · cases h
  case ior =>
    simp [rk_len] at hlen; subst hlen
    simp only [rk_pure] at h
    split at h
    · next b a r =>
      unfold rk_op2 at h
      split at h
      · next q hq =>
        cases h
        obtain ⟨vb, k1, rfl, gb, hSn⟩ := hS.cons; clear hS; have hS := hSn; clear hSn
        obtain ⟨va, k2, rfl, ga, hSn⟩ := hS.cons; clear hS; have hS := hSn; clear hSn
        obtain ⟨x, y, k3, rfl, rfl, hE2, hg2⟩ := rk_bin_ok (rk_s_full _) hG.1 ga gb hq
        refine lv_ior hx hb hdg ?_
        exact kk _ (List.mem_singleton.mpr rfl) (vals ++ k3) ws H locs ls _ lc (hG.env hE2) hl (hL.grow k3) ⟨hg2, rk_skG hS k3⟩
      · cases h
    · cases h
  case ixor =>
    simp [rk_len] at hlen; subst hlen
    simp only [rk_pure] at h
    split at h
    · next b a r =>
      unfold rk_op2 at h
      split at h
      · next q hq =>
        cases h
        obtain ⟨vb, k1, rfl, gb, hSn⟩ := hS.cons; clear hS; have hS := hSn; clear hSn
        obtain ⟨va, k2, rfl, ga, hSn⟩ := hS.cons; clear hS; have hS := hSn; clear hSn
        obtain ⟨x, y, k3, rfl, rfl, hE2, hg2⟩ := rk_bin_ok (rk_s_full _) hG.1 ga gb hq
        refine lv_ixor hx hb hdg ?_
        exact kk _ (List.mem_singleton.mpr rfl) (vals ++ k3) ws H locs ls _ lc (hG.env hE2) hl (hL.grow k3) ⟨hg2, rk_skG hS k3⟩
      · cases h
    · cases h
  case ifCond cd off =>
    simp [rk_len] at hlen; subst hlen
    simp only [rk_pure] at h
    split at h
    · next a r =>
      obtain ⟨va, k1, rfl, ga, hSn⟩ := hS.cons; clear hS; have hS := hSn; clear hSn
      obtain ⟨x, y, tgt, rfl, ey, ht, k1, k2⟩ := rk_if_ok h kk hG hl hL ga (show rk_g vals (ws.map Prod.fst) (.inl (.int 0)) (.int 0) from rfl) hS
      cases ey
      cases cd
      case eq => exact lv_if_eq hx hb hdg ht (fun q => k1 (Int32.toInt_inj.mpr q)) (fun q => k2 (fun z => q (Int32.toInt_inj.mp z)))
      case ne => exact lv_if_ne hx hb hdg ht (fun q => k1 (fun z => q (Int32.toInt_inj.mp z))) (fun q => k2 (fun z => z (Int32.toInt_inj.mpr q)))
      case lt => exact lv_if_lt hx hb hdg ht (fun q => k1 (Int32.lt_iff_toInt_lt.mp q)) (fun q => k2 (fun z => q (Int32.lt_iff_toInt_lt.mpr z)))
      case ge => exact lv_if_ge hx hb hdg ht (fun q => k1 (Int32.le_iff_toInt_le.mp q)) (fun q => k2 (fun z => q (Int32.le_iff_toInt_le.mpr z)))
      case gt => exact lv_if_gt hx hb hdg ht (fun q => k1 (Int32.lt_iff_toInt_lt.mp q)) (fun q => k2 (fun z => q (Int32.lt_iff_toInt_lt.mpr z)))
      case le => exact lv_if_le hx hb hdg ht (fun q => k1 (Int32.le_iff_toInt_le.mp q)) (fun q => k2 (fun z => q (Int32.le_iff_toInt_le.mpr z)))
    · cases h
  case if_icmp cd off =>
    simp [rk_len] at hlen; subst hlen
    simp only [rk_pure] at h
    split at h
    · next b a r =>
      obtain ⟨vb, k0, rfl, gb, hSn⟩ := hS.cons; clear hS; have hS := hSn; clear hSn
      obtain ⟨va, k1, rfl, ga, hSn⟩ := hS.cons; clear hS; have hS := hSn; clear hSn
      obtain ⟨x, y, tgt, rfl, rfl, ht, k1, k2⟩ := rk_if_ok h kk hG hl hL ga gb hS
      cases cd
      case eq => exact lv_icmp_eq hx hb hdg ht (fun q => k1 (Int32.toInt_inj.mpr q)) (fun q => k2 (fun z => q (Int32.toInt_inj.mp z)))
      case ne => exact lv_icmp_ne hx hb hdg ht (fun q => k1 (fun z => q (Int32.toInt_inj.mp z))) (fun q => k2 (fun z => z (Int32.toInt_inj.mpr q)))
      case lt => exact lv_icmp_lt hx hb hdg ht (fun q => k1 (Int32.lt_iff_toInt_lt.mp q)) (fun q => k2 (fun z => q (Int32.lt_iff_toInt_lt.mpr z)))
      case ge => exact lv_icmp_ge hx hb hdg ht (fun q => k1 (Int32.le_iff_toInt_le.mp q)) (fun q => k2 (fun z => q (Int32.le_iff_toInt_le.mpr z)))
      case gt => exact lv_icmp_gt hx hb hdg ht (fun q => k1 (Int32.lt_iff_toInt_lt.mp q)) (fun q => k2 (fun z => q (Int32.lt_iff_toInt_lt.mpr z)))
      case le => exact lv_icmp_le hx hb hdg ht (fun q => k1 (Int32.le_iff_toInt_le.mp q)) (fun q => k2 (fun z => q (Int32.le_iff_toInt_le.mpr z)))
    · cases h
  case goto off =>
    simp [rk_len] at hlen; subst hlen
    simp only [rk_pure] at h
    split at h
    · next hpc =>
      cases h
      exact lv_goto (tgt := ((pc : Int) + off).toNat) hx hb hdg (by omega) (kk _ (List.mem_singleton.mpr rfl) vals ws H locs ls _ lc hG hl hL hS)
    · cases h
  all_goals (simp [rk_pure] at h)
theorem rk_nz_ok {env : List rk_T} {vals : List Value} {ads : List Nat} {b : rk_V} {y : Int32} (hE : rk_E env vals) (gb : rk_g vals ads b (.int y)) (h : rk_nz env b = true) : ¬ y = 0 := by
  unfold rk_nz at h
  split at h
  · next J hj =>
    obtain ⟨y', e, h1, h2⟩ := rk_iv_ok hE gb hj
    cases e
    intro hy
    subst hy
    have h0 : (0 : Int32).toInt = 0 := rfl
    rw [h0] at h1 h2
    simp at h
    omega
  · cases h
theorem rk_lnz_ok {vals : List Value} {ads : List Nat} {b : rk_V} {y : Int64} (gb : rk_g vals ads b (.long y)) (h : rk_lnz b = true) : ¬ y = 0 := by
  unfold rk_lnz at h
  split at h
  · next z =>
    have gb : Value.long y = Value.long z := gb
    cases gb
    exact of_decide_eq_true h
  · cases h
theorem rk_s_i2b (x : Int32) : (-128 : Int) ≤ (x.toInt8.toInt32).toInt ∧ (x.toInt8.toInt32).toInt ≤ 127 := by
  rw [Int8.toInt_toInt32]
  exact ⟨Int8.le_toInt _, Int8.toInt_le _⟩
theorem rk_s_i2s (x : Int32) : (-32768 : Int) ≤ (x.toInt16.toInt32).toInt ∧ (x.toInt16.toInt32).toInt ≤ 32767 := by
  rw [Int16.toInt_toInt32]
  exact ⟨Int16.le_toInt _, Int16.toInt_le _⟩
theorem rk_lg (x y : Int64) : (-1 : Int) ≤ (lg_cmp x y).toInt ∧ (lg_cmp x y).toInt ≤ 1 := by
  unfold lg_cmp
  split
  · decide
  · split <;> decide
theorem rk_ll (x : Int32) : x.toInt64.toInt32 = x := by
  apply Int32.toInt_inj.mp
  rw [Int64.toInt_toInt32, Int32.toInt_toInt64]
  obtain ⟨f1, f2⟩ := rk_full_ok x
  dsimp only [rk_full] at f1 f2
  exact Int.bmod_eq_of_le (by omega) (by omega)
theorem rk_lgc (x y : Int64) : (lg_cmp x y = 1 ∧ y.toInt < x.toInt) ∨ (lg_cmp x y = 0 ∧ x.toInt = y.toInt) ∨ (lg_cmp x y = -1 ∧ x.toInt < y.toInt) := by
  unfold lg_cmp
  split
  · next h => exact Or.inl ⟨rfl, Int64.lt_iff_toInt_lt.mp h⟩
  · next h =>
    split
    · next e => exact Or.inr (Or.inl ⟨rfl, by rw [e]⟩)
    · next e =>
      refine Or.inr (Or.inr ⟨rfl, ?_⟩)
      have h1 : ¬ y.toInt < x.toInt := fun z => h (Int64.lt_iff_toInt_lt.mpr z)
      have h2 : ¬ x.toInt = y.toInt := fun z => e (Int64.toInt_inj.mp z)
      omega
theorem rk_s_rem : rk_sound2 (fun x y => x - x / y * y) rk_irem := by
  intro x y I J h1 h2 h3 h4
  unfold rk_irem
  split
  · next h =>
    obtain ⟨a, ha, rfl⟩ := nI_of (x := x) (by rw [Int32.lt_iff_toInt_lt, Int32.toInt_zero]; omega)
    obtain ⟨d, hd, rfl⟩ := nI_of (x := y) (by rw [Int32.lt_iff_toInt_lt, Int32.toInt_zero]; omega)
    rw [nI_toInt hd] at h3 h4
    have h0 : 0 < d := by omega
    dsimp only
    rw [pk_rem ha h0 hd]
    have := Nat.mod_lt a h0
    rw [nI_toInt (by omega)]
    omega
  · exact rk_full_ok _
theorem rk_sw_ok {a : rk_V} {pc : Nat} {lo : List (Nat × rk_V)} {sk : List rk_V} {env : List rk_T} {hp : List rk_H} {nc ns : Nat} {vals : List Value} {ads : List Nat} {x : Int32} (hE : rk_E env vals) (ga : rk_g vals ads a (.int x)) : ∀ {offs : List Int} {v : Int} {k : Nat} {res : List (Nat × rk_S)}, rk_sw a pc lo sk env hp nc ns v offs = some res → k < offs.length → x.toInt = v + k → ∃ (o : Int) (env2 : List rk_T), offs[k]? = some o ∧ rk_E env2 vals ∧ 0 ≤ (pc : Int) + o ∧ (((pc : Int) + o).toNat, (lo, sk, env2, hp, nc, ns)) ∈ res := by
  intro offs
  induction offs with
  | nil => intro v k res _ hk; simp at hk
  | cons o offs ih =>
    intro v k res h hk hxv
    unfold rk_sw at h
    split at h
    · next hpc =>
      obtain ⟨r2, hr2, e1⟩ := Option.map_eq_some_iff.mp h
      subst e1
      cases k with
      | zero =>
        obtain ⟨e2, q1, q2⟩ := rk_cut_ok (lo := v) (hi := v) hE ga (by omega) (by omega)
        exact ⟨o, e2, rfl, q2, hpc, List.mem_append_left _ (rk_opt_mem q1 _ lo sk hp nc ns)⟩
      | succ k =>
        obtain ⟨o2, e2, q1, q2, q3, q4⟩ := ih hr2 (by simpa using hk) (by omega)
        exact ⟨o2, e2, by simpa using q1, q2, q3, List.mem_append_right _ q4⟩
    · cases h
set_option maxHeartbeats 4000000 in
theorem rk_pure2_ok (hx : p.tables.exec = Jvm.exec) (hb : c.code = cc) {pc : Nat} {ins : Instr} {len : Nat} {st : rk_S} {res : List (Nat × rk_S)} (hdg : decode cc pc = .ok (ins, len)) (hlen : rk_len ins len = true) (h : rk_pure2 pc ins st = some res) (kk : ∀ q ∈ res, rk_W (rk_KW p l e R s m args below meth c Q) s D cl Ad nL vals0 ads0 q.1 q.2) : rk_W (rk_KW p l e R s m args below meth c Q) s D cl Ad nL vals0 ads0 pc st := by
  obtain ⟨lo, sk, env, hp, nc, ns⟩ := st
  intro vals ws H locs ls stk lc hG hl hL hS
  dsimp only at hG hL hS ⊢
  cases ins

  case ishl =>
    simp [rk_len] at hlen; subst hlen
    simp only [rk_pure2] at h
    split at h
    · next b a r =>
      unfold rk_op2 at h
      split at h
      · next q hq =>
        cases h
        obtain ⟨vb, k1, rfl, gb, hSn⟩ := hS.cons; clear hS; have hS := hSn; clear hSn
        obtain ⟨va, k2, rfl, ga, hSn⟩ := hS.cons; clear hS; have hS := hSn; clear hSn
        obtain ⟨x, y, k3, rfl, rfl, hE2, hg2⟩ := rk_bin_ok (rk_s_full _) hG.1 ga gb hq
        refine lv_ishl hx hb hdg ?_
        exact kk _ (List.mem_singleton.mpr rfl) (vals ++ k3) ws H locs ls _ lc (hG.env hE2) hl (hL.grow k3) ⟨hg2, rk_skG hS k3⟩
      · cases h
    · cases h
  case ishr =>
    simp [rk_len] at hlen; subst hlen
    simp only [rk_pure2] at h
    split at h
    · next b a r =>
      unfold rk_op2 at h
      split at h
      · next q hq =>
        cases h
        obtain ⟨vb, k1, rfl, gb, hSn⟩ := hS.cons; clear hS; have hS := hSn; clear hSn
        obtain ⟨va, k2, rfl, ga, hSn⟩ := hS.cons; clear hS; have hS := hSn; clear hSn
        obtain ⟨x, y, k3, rfl, rfl, hE2, hg2⟩ := rk_bin_ok (rk_s_full _) hG.1 ga gb hq
        refine lv_ishr hx hb hdg ?_
        exact kk _ (List.mem_singleton.mpr rfl) (vals ++ k3) ws H locs ls _ lc (hG.env hE2) hl (hL.grow k3) ⟨hg2, rk_skG hS k3⟩
      · cases h
    · cases h
  case iushr =>
    simp [rk_len] at hlen; subst hlen
    simp only [rk_pure2] at h
    split at h
    · next b a r =>
      unfold rk_op2 at h
      split at h
      · next q hq =>
        cases h
        obtain ⟨vb, k1, rfl, gb, hSn⟩ := hS.cons; clear hS; have hS := hSn; clear hSn
        obtain ⟨va, k2, rfl, ga, hSn⟩ := hS.cons; clear hS; have hS := hSn; clear hSn
        obtain ⟨x, y, k3, rfl, rfl, hE2, hg2⟩ := rk_bin_ok (rk_s_full _) hG.1 ga gb hq
        refine lv_iushr hx hb hdg rfl ?_
        exact kk _ (List.mem_singleton.mpr rfl) (vals ++ k3) ws H locs ls _ lc (hG.env hE2) hl (hL.grow k3) ⟨hg2, rk_skG hS k3⟩
      · cases h
    · cases h
  case idiv =>
    simp [rk_len] at hlen; subst hlen
    simp only [rk_pure2] at h
    split at h
    · next b a r =>
      split at h
      · next hz =>
        unfold rk_op2 at h
        split at h
        · next q hq =>
          cases h
          obtain ⟨vb, k1, rfl, gb, hSn⟩ := hS.cons; clear hS; have hS := hSn; clear hSn
          obtain ⟨va, k2, rfl, ga, hSn⟩ := hS.cons; clear hS; have hS := hSn; clear hSn
          obtain ⟨x, y, k3, rfl, rfl, hE2, hg2⟩ := rk_bin_ok (rk_s_full _) hG.1 ga gb hq
          have hne : ¬ y = 0 := rk_nz_ok hG.1 gb hz
          refine lv_idiv hx hb hdg hne ?_
          exact kk _ (List.mem_singleton.mpr rfl) (vals ++ k3) ws H locs ls _ lc (hG.env hE2) hl (hL.grow k3) ⟨hg2, rk_skG hS k3⟩
        · cases h
      · cases h
    · cases h
  case irem =>
    simp [rk_len] at hlen; subst hlen
    simp only [rk_pure2] at h
    split at h
    · next b a r =>
      split at h
      · next hz =>
        unfold rk_op2 at h
        split at h
        · next q hq =>
          cases h
          obtain ⟨vb, k1, rfl, gb, hSn⟩ := hS.cons; clear hS; have hS := hSn; clear hSn
          obtain ⟨va, k2, rfl, ga, hSn⟩ := hS.cons; clear hS; have hS := hSn; clear hSn
          obtain ⟨x, y, k3, rfl, rfl, hE2, hg2⟩ := rk_bin_ok rk_s_rem hG.1 ga gb hq
          have hne : ¬ y = 0 := rk_nz_ok hG.1 gb hz
          refine lv_irem hx hb hdg hne ?_
          exact kk _ (List.mem_singleton.mpr rfl) (vals ++ k3) ws H locs ls _ lc (hG.env hE2) hl (hL.grow k3) ⟨hg2, rk_skG hS k3⟩
        · cases h
      · cases h
    · cases h
  case ineg =>
    simp [rk_len] at hlen; subst hlen
    simp only [rk_pure2] at h
    split at h
    · next a r =>
      unfold rk_op2 at h
      split at h
      · next q hq =>
        cases h
        obtain ⟨va, k2, rfl, ga, hSn⟩ := hS.cons; clear hS; have hS := hSn; clear hSn
        obtain ⟨x, k3, rfl, hE2, hg2⟩ := rk_un_ok (fun x => rk_full_ok _) hG.1 ga hq
        refine lv_ineg hx hb hdg ?_
        exact kk _ (List.mem_singleton.mpr rfl) (vals ++ k3) ws H locs ls _ lc (hG.env hE2) hl (hL.grow k3) ⟨hg2, rk_skG hS k3⟩
      · cases h
    · cases h
  case i2b =>
    simp [rk_len] at hlen; subst hlen
    simp only [rk_pure2] at h
    split at h
    · next a r =>
      unfold rk_op2 at h
      split at h
      · next q hq =>
        cases h
        obtain ⟨va, k2, rfl, ga, hSn⟩ := hS.cons; clear hS; have hS := hSn; clear hSn
        obtain ⟨x, k3, rfl, hE2, hg2⟩ := rk_un_ok rk_s_i2b hG.1 ga hq
        refine lv_i2b hx hb hdg rfl ?_
        exact kk _ (List.mem_singleton.mpr rfl) (vals ++ k3) ws H locs ls _ lc (hG.env hE2) hl (hL.grow k3) ⟨hg2, rk_skG hS k3⟩
      · cases h
    · cases h
  case i2s =>
    simp [rk_len] at hlen; subst hlen
    simp only [rk_pure2] at h
    split at h
    · next a r =>
      unfold rk_op2 at h
      split at h
      · next q hq =>
        cases h
        obtain ⟨va, k2, rfl, ga, hSn⟩ := hS.cons; clear hS; have hS := hSn; clear hSn
        obtain ⟨x, k3, rfl, hE2, hg2⟩ := rk_un_ok rk_s_i2s hG.1 ga hq
        refine lv_i2s hx hb hdg rfl ?_
        exact kk _ (List.mem_singleton.mpr rfl) (vals ++ k3) ws H locs ls _ lc (hG.env hE2) hl (hL.grow k3) ⟨hg2, rk_skG hS k3⟩
      · cases h
    · cases h
  case i2l =>
    simp [rk_len] at hlen; subst hlen
    simp only [rk_pure2] at h
    split at h
    · next x r =>
      cases h
      obtain ⟨va, k2, rfl, ga, hSn⟩ := hS.cons; clear hS; have hS := hSn; clear hSn
      cases ga
      refine lv_i2l hx hb hdg rfl ?_
      exact kk _ (List.mem_singleton.mpr rfl) vals ws H locs ls _ lc hG hl hL ⟨rfl, hS⟩
    · next k r =>
      split at h
      · next hi =>
        cases h
        obtain ⟨va, k2, rfl, ga, hSn⟩ := hS.cons; clear hS; have hS := hSn; clear hSn
        obtain ⟨I, hI⟩ := Option.isSome_iff_exists.mp hi
        obtain ⟨x, rfl, -, -⟩ := rk_iv_ok hG.1 ga hI
        refine lv_i2l hx hb hdg rfl ?_
        exact kk _ (List.mem_singleton.mpr rfl) vals ws H locs ls _ lc hG hl hL ⟨⟨x, ga, rfl⟩, hS⟩
      · cases h
    · cases h
  case l2i =>
    simp [rk_len] at hlen; subst hlen
    simp only [rk_pure2] at h
    split at h
    · next x r =>
      cases h
      obtain ⟨va, k2, rfl, ga, hSn⟩ := hS.cons; clear hS; have hS := hSn; clear hSn
      cases ga
      refine lv_l2i hx hb hdg rfl ?_
      exact kk _ (List.mem_singleton.mpr rfl) vals ws H locs ls _ lc hG hl hL ⟨rfl, hS⟩
    · next k r =>
      cases h
      obtain ⟨va, k2, rfl, ⟨x, hx1, rfl⟩, hSn⟩ := hS.cons; clear hS; have hS := hSn; clear hSn
      refine lv_l2i (v := x) hx hb hdg (rk_ll x) ?_
      exact kk _ (List.mem_singleton.mpr rfl) vals ws H locs ls _ lc hG hl hL ⟨hx1, hS⟩
    · next a r _ _ =>
      split at h
      · next hi =>
        obtain ⟨va, k2, rfl, ga, hSn⟩ := hS.cons; clear hS; have hS := hSn; clear hSn
        obtain ⟨x, rfl⟩ := rk_isL_ok hG.1 ga hi
        obtain ⟨k3, hE2, hg2⟩ := rk_fi_ok (ws.map Prod.fst) (x := x.toInt32) (I := rk_full) hG.1 (rk_full_ok _).1 (rk_full_ok _).2
        cases h
        refine lv_l2i hx hb hdg rfl ?_
        exact kk _ (List.mem_singleton.mpr rfl) (vals ++ k3) ws H locs ls _ lc (hG.env hE2) hl (hL.grow k3) ⟨hg2, rk_skG hS k3⟩
      · cases h
    · cases h
  case ladd =>
    simp [rk_len] at hlen; subst hlen
    simp only [rk_pure2] at h
    split at h
    · next b a r =>
      unfold rk_op2 at h
      split at h
      · next q hq =>
        cases h
        obtain ⟨vb, k1, rfl, gb, hSn⟩ := hS.cons; clear hS; have hS := hSn; clear hSn
        obtain ⟨va, k2, rfl, ga, hSn⟩ := hS.cons; clear hS; have hS := hSn; clear hSn
        obtain ⟨x, y, k3, rfl, rfl, hE2, hg2⟩ := rk_lbin_ok hG.1 ga gb hq
        refine lv_ladd hx hb hdg ?_
        exact kk _ (List.mem_singleton.mpr rfl) (vals ++ k3) ws H locs ls _ lc (hG.env hE2) hl (hL.grow k3) ⟨hg2, rk_skG hS k3⟩
      · cases h
    · cases h
  case lsub =>
    simp [rk_len] at hlen; subst hlen
    simp only [rk_pure2] at h
    split at h
    · next b a r =>
      unfold rk_op2 at h
      split at h
      · next q hq =>
        cases h
        obtain ⟨vb, k1, rfl, gb, hSn⟩ := hS.cons; clear hS; have hS := hSn; clear hSn
        obtain ⟨va, k2, rfl, ga, hSn⟩ := hS.cons; clear hS; have hS := hSn; clear hSn
        obtain ⟨x, y, k3, rfl, rfl, hE2, hg2⟩ := rk_lbin_ok hG.1 ga gb hq
        refine lv_lsub hx hb hdg ?_
        exact kk _ (List.mem_singleton.mpr rfl) (vals ++ k3) ws H locs ls _ lc (hG.env hE2) hl (hL.grow k3) ⟨hg2, rk_skG hS k3⟩
      · cases h
    · cases h
  case lmul =>
    simp [rk_len] at hlen; subst hlen
    simp only [rk_pure2] at h
    split at h
    · next b a r =>
      unfold rk_op2 at h
      split at h
      · next q hq =>
        cases h
        obtain ⟨vb, k1, rfl, gb, hSn⟩ := hS.cons; clear hS; have hS := hSn; clear hSn
        obtain ⟨va, k2, rfl, ga, hSn⟩ := hS.cons; clear hS; have hS := hSn; clear hSn
        obtain ⟨x, y, k3, rfl, rfl, hE2, hg2⟩ := rk_lbin_ok hG.1 ga gb hq
        refine lv_lmul hx hb hdg ?_
        exact kk _ (List.mem_singleton.mpr rfl) (vals ++ k3) ws H locs ls _ lc (hG.env hE2) hl (hL.grow k3) ⟨hg2, rk_skG hS k3⟩
      · cases h
    · cases h
  case land =>
    simp [rk_len] at hlen; subst hlen
    simp only [rk_pure2] at h
    split at h
    · next b a r =>
      unfold rk_op2 at h
      split at h
      · next q hq =>
        cases h
        obtain ⟨vb, k1, rfl, gb, hSn⟩ := hS.cons; clear hS; have hS := hSn; clear hSn
        obtain ⟨va, k2, rfl, ga, hSn⟩ := hS.cons; clear hS; have hS := hSn; clear hSn
        obtain ⟨x, y, k3, rfl, rfl, hE2, hg2⟩ := rk_lbin_ok hG.1 ga gb hq
        refine lv_land hx hb hdg ?_
        exact kk _ (List.mem_singleton.mpr rfl) (vals ++ k3) ws H locs ls _ lc (hG.env hE2) hl (hL.grow k3) ⟨hg2, rk_skG hS k3⟩
      · cases h
    · cases h
  case lor =>
    simp [rk_len] at hlen; subst hlen
    simp only [rk_pure2] at h
    split at h
    · next b a r =>
      unfold rk_op2 at h
      split at h
      · next q hq =>
        cases h
        obtain ⟨vb, k1, rfl, gb, hSn⟩ := hS.cons; clear hS; have hS := hSn; clear hSn
        obtain ⟨va, k2, rfl, ga, hSn⟩ := hS.cons; clear hS; have hS := hSn; clear hSn
        obtain ⟨x, y, k3, rfl, rfl, hE2, hg2⟩ := rk_lbin_ok hG.1 ga gb hq
        refine lv_lor hx hb hdg ?_
        exact kk _ (List.mem_singleton.mpr rfl) (vals ++ k3) ws H locs ls _ lc (hG.env hE2) hl (hL.grow k3) ⟨hg2, rk_skG hS k3⟩
      · cases h
    · cases h
  case lxor =>
    simp [rk_len] at hlen; subst hlen
    simp only [rk_pure2] at h
    split at h
    · next b a r =>
      unfold rk_op2 at h
      split at h
      · next q hq =>
        cases h
        obtain ⟨vb, k1, rfl, gb, hSn⟩ := hS.cons; clear hS; have hS := hSn; clear hSn
        obtain ⟨va, k2, rfl, ga, hSn⟩ := hS.cons; clear hS; have hS := hSn; clear hSn
        obtain ⟨x, y, k3, rfl, rfl, hE2, hg2⟩ := rk_lbin_ok hG.1 ga gb hq
        refine lv_lxor hx hb hdg ?_
        exact kk _ (List.mem_singleton.mpr rfl) (vals ++ k3) ws H locs ls _ lc (hG.env hE2) hl (hL.grow k3) ⟨hg2, rk_skG hS k3⟩
      · cases h
    · cases h
  case ldiv =>
    simp [rk_len] at hlen; subst hlen
    simp only [rk_pure2] at h
    split at h
    · next b a r =>
      split at h
      · next hz =>
        unfold rk_op2 at h
        split at h
        · next q hq =>
          cases h
          obtain ⟨vb, k1, rfl, gb, hSn⟩ := hS.cons; clear hS; have hS := hSn; clear hSn
          obtain ⟨va, k2, rfl, ga, hSn⟩ := hS.cons; clear hS; have hS := hSn; clear hSn
          obtain ⟨x, y, k3, rfl, rfl, hE2, hg2⟩ := rk_lbin_ok hG.1 ga gb hq
          have hne : ¬ y = 0 := rk_lnz_ok gb hz
          refine lv_ldiv hx hb hdg hne ?_
          exact kk _ (List.mem_singleton.mpr rfl) (vals ++ k3) ws H locs ls _ lc (hG.env hE2) hl (hL.grow k3) ⟨hg2, rk_skG hS k3⟩
        · cases h
      · cases h
    · cases h
  case lrem =>
    simp [rk_len] at hlen; subst hlen
    simp only [rk_pure2] at h
    split at h
    · next b a r =>
      split at h
      · next hz =>
        unfold rk_op2 at h
        split at h
        · next q hq =>
          cases h
          obtain ⟨vb, k1, rfl, gb, hSn⟩ := hS.cons; clear hS; have hS := hSn; clear hSn
          obtain ⟨va, k2, rfl, ga, hSn⟩ := hS.cons; clear hS; have hS := hSn; clear hSn
          obtain ⟨x, y, k3, rfl, rfl, hE2, hg2⟩ := rk_lbin_ok hG.1 ga gb hq
          have hne : ¬ y = 0 := rk_lnz_ok gb hz
          refine lv_lrem hx hb hdg hne ?_
          exact kk _ (List.mem_singleton.mpr rfl) (vals ++ k3) ws H locs ls _ lc (hG.env hE2) hl (hL.grow k3) ⟨hg2, rk_skG hS k3⟩
        · cases h
      · cases h
    · cases h
  case lshl =>
    simp [rk_len] at hlen; subst hlen
    simp only [rk_pure2] at h
    split at h
    · next b a r =>
      unfold rk_op2 at h
      split at h
      · next q hq =>
        cases h
        obtain ⟨vb, k1, rfl, gb, hSn⟩ := hS.cons; clear hS; have hS := hSn; clear hSn
        obtain ⟨va, k2, rfl, ga, hSn⟩ := hS.cons; clear hS; have hS := hSn; clear hSn
        obtain ⟨x, y, k3, rfl, rfl, hE2, hg2⟩ := rk_lsh_ok hG.1 ga gb hq
        refine lv_lshl hx hb hdg rfl ?_
        exact kk _ (List.mem_singleton.mpr rfl) (vals ++ k3) ws H locs ls _ lc (hG.env hE2) hl (hL.grow k3) ⟨hg2, rk_skG hS k3⟩
      · cases h
    · cases h
  case lshr =>
    simp [rk_len] at hlen; subst hlen
    simp only [rk_pure2] at h
    split at h
    · next b a r =>
      unfold rk_op2 at h
      split at h
      · next q hq =>
        cases h
        obtain ⟨vb, k1, rfl, gb, hSn⟩ := hS.cons; clear hS; have hS := hSn; clear hSn
        obtain ⟨va, k2, rfl, ga, hSn⟩ := hS.cons; clear hS; have hS := hSn; clear hSn
        obtain ⟨x, y, k3, rfl, rfl, hE2, hg2⟩ := rk_lsh_ok hG.1 ga gb hq
        refine lv_lshr hx hb hdg rfl ?_
        exact kk _ (List.mem_singleton.mpr rfl) (vals ++ k3) ws H locs ls _ lc (hG.env hE2) hl (hL.grow k3) ⟨hg2, rk_skG hS k3⟩
      · cases h
    · cases h
  case lushr =>
    simp [rk_len] at hlen; subst hlen
    simp only [rk_pure2] at h
    split at h
    · next b a r =>
      unfold rk_op2 at h
      split at h
      · next q hq =>
        cases h
        obtain ⟨vb, k1, rfl, gb, hSn⟩ := hS.cons; clear hS; have hS := hSn; clear hSn
        obtain ⟨va, k2, rfl, ga, hSn⟩ := hS.cons; clear hS; have hS := hSn; clear hSn
        obtain ⟨x, y, k3, rfl, rfl, hE2, hg2⟩ := rk_lsh_ok hG.1 ga gb hq
        refine lv_lushr hx hb hdg rfl ?_
        exact kk _ (List.mem_singleton.mpr rfl) (vals ++ k3) ws H locs ls _ lc (hG.env hE2) hl (hL.grow k3) ⟨hg2, rk_skG hS k3⟩
      · cases h
    · cases h
  case lcmp =>
    simp [rk_len] at hlen; subst hlen
    simp only [rk_pure2] at h
    split at h
    · next y x r =>
      cases h
      obtain ⟨vb, k1, rfl, gb, hSn⟩ := hS.cons; clear hS; have hS := hSn; clear hSn
      obtain ⟨va, k2, rfl, ga, hSn⟩ := hS.cons; clear hS; have hS := hSn; clear hSn
      cases ga; cases gb
      refine W.lcmp hx hb hdg ?_
      exact kk _ (List.mem_singleton.mpr rfl) vals ws H locs ls _ lc hG hl hL ⟨rfl, hS⟩
    · next y k r =>
      cases h
      obtain ⟨vb, k1, rfl, gb, hSn⟩ := hS.cons; clear hS; have hS := hSn; clear hSn
      cases gb
      obtain ⟨va, k2, rfl, ⟨x, hx1, rfl⟩, hSn⟩ := hS.cons; clear hS; have hS := hSn; clear hSn
      obtain ⟨f1, f2⟩ := rk_full_ok x
      dsimp only [rk_full] at f1 f2
      refine W.lcmp hx hb hdg ?_
      rcases rk_lgc x.toInt64 y with ⟨e1, e2⟩ | ⟨e1, e2⟩ | ⟨e1, e2⟩ <;> rw [Int32.toInt_toInt64] at e2 <;> rw [e1]
      · obtain ⟨e2, q1, q2⟩ := rk_cut_ok (lo := y.toInt + 1) (hi := 2147483647) hG.1 (show rk_g vals (ws.map Prod.fst) (.inr (.inr (.inl k))) (.int x) from hx1) (by omega) (by omega)
        exact kk _ (List.mem_append_left _ (rk_opt_mem q1 _ lo _ hp nc ns)) vals ws H locs ls _ lc (hG.env0 q2) hl hL ⟨rfl, hS⟩
      · obtain ⟨e2, q1, q2⟩ := rk_cut_ok (lo := y.toInt) (hi := y.toInt) hG.1 (show rk_g vals (ws.map Prod.fst) (.inr (.inr (.inl k))) (.int x) from hx1) (by omega) (by omega)
        exact kk _ (List.mem_append_right _ (List.mem_append_left _ (rk_opt_mem q1 _ lo _ hp nc ns))) vals ws H locs ls _ lc (hG.env0 q2) hl hL ⟨rfl, hS⟩
      · obtain ⟨e2, q1, q2⟩ := rk_cut_ok (lo := -2147483648) (hi := y.toInt - 1) hG.1 (show rk_g vals (ws.map Prod.fst) (.inr (.inr (.inl k))) (.int x) from hx1) (by omega) (by omega)
        exact kk _ (List.mem_append_right _ (List.mem_append_right _ (rk_opt_mem q1 _ lo _ hp nc ns))) vals ws H locs ls _ lc (hG.env0 q2) hl hL ⟨rfl, hS⟩
    · next k x r =>
      cases h
      obtain ⟨vb, k1, rfl, ⟨y, hy1, rfl⟩, hSn⟩ := hS.cons; clear hS; have hS := hSn; clear hSn
      obtain ⟨va, k2, rfl, ga, hSn⟩ := hS.cons; clear hS; have hS := hSn; clear hSn
      cases ga
      obtain ⟨f1, f2⟩ := rk_full_ok y
      dsimp only [rk_full] at f1 f2
      refine W.lcmp hx hb hdg ?_
      rcases rk_lgc x y.toInt64 with ⟨e1, e2⟩ | ⟨e1, e2⟩ | ⟨e1, e2⟩ <;> rw [Int32.toInt_toInt64] at e2 <;> rw [e1]
      · obtain ⟨e2, q1, q2⟩ := rk_cut_ok (lo := -2147483648) (hi := x.toInt - 1) hG.1 (show rk_g vals (ws.map Prod.fst) (.inr (.inr (.inl k))) (.int y) from hy1) (by omega) (by omega)
        exact kk _ (List.mem_append_left _ (rk_opt_mem q1 _ lo _ hp nc ns)) vals ws H locs ls _ lc (hG.env0 q2) hl hL ⟨rfl, hS⟩
      · obtain ⟨e2, q1, q2⟩ := rk_cut_ok (lo := x.toInt) (hi := x.toInt) hG.1 (show rk_g vals (ws.map Prod.fst) (.inr (.inr (.inl k))) (.int y) from hy1) (by omega) (by omega)
        exact kk _ (List.mem_append_right _ (List.mem_append_left _ (rk_opt_mem q1 _ lo _ hp nc ns))) vals ws H locs ls _ lc (hG.env0 q2) hl hL ⟨rfl, hS⟩
      · obtain ⟨e2, q1, q2⟩ := rk_cut_ok (lo := x.toInt + 1) (hi := 2147483647) hG.1 (show rk_g vals (ws.map Prod.fst) (.inr (.inr (.inl k))) (.int y) from hy1) (by omega) (by omega)
        exact kk _ (List.mem_append_right _ (List.mem_append_right _ (rk_opt_mem q1 _ lo _ hp nc ns))) vals ws H locs ls _ lc (hG.env0 q2) hl hL ⟨rfl, hS⟩
    · next b a r _ _ _ =>
      split at h
      · next hi =>
        rw [Bool.and_eq_true] at hi
        obtain ⟨vb, k1, rfl, gb, hSn⟩ := hS.cons; clear hS; have hS := hSn; clear hSn
        obtain ⟨va, k2, rfl, ga, hSn⟩ := hS.cons; clear hS; have hS := hSn; clear hSn
        obtain ⟨x, rfl⟩ := rk_isL_ok hG.1 ga hi.1
        obtain ⟨y, rfl⟩ := rk_isL_ok hG.1 gb hi.2
        obtain ⟨k3, hE2, hg2⟩ := rk_fi_ok (ws.map Prod.fst) (x := lg_cmp x y) (I := (-1, 1)) hG.1 (rk_lg x y).1 (rk_lg x y).2
        cases h
        refine W.lcmp hx hb hdg ?_
        exact kk _ (List.mem_singleton.mpr rfl) (vals ++ k3) ws H locs ls _ lc (hG.env hE2) hl (hL.grow k3) ⟨hg2, rk_skG hS k3⟩
      · cases h
    · cases h
  case tableswitch dflt low high offs =>
    simp only [rk_pure2] at h
    split at h
    · next a r =>
      split at h
      · next I hi =>
        split at h
        · next hc =>
          obtain ⟨va, k1, rfl, ga, hSn⟩ := hS.cons; clear hS; have hS := hSn; clear hSn
          obtain ⟨x, rfl, p1, p2⟩ := rk_iv_ok hG.1 ga hi
          obtain ⟨sw, hsw, e1⟩ := Option.map_eq_some_iff.mp h
          subst e1
          by_cases hlow : x.toInt < low ∨ high < x.toInt
          · refine lv_tableOut (tgt := ((pc : Int) + dflt).toNat) hx hb hdg hlow (by omega) ?_
            have b0 : (-2147483648 : Int) ≤ x.toInt := Int32.le_toInt x
            have b1 : x.toInt ≤ (2147483647 : Int) := Int32.toInt_le x
            rcases hlow with hl1 | hl1
            · obtain ⟨e2, q1, q2⟩ := rk_cut_ok (lo := -2147483648) (hi := low - 1) hG.1 ga b0 (by omega)
              exact kk _ (List.mem_append_right _ (List.mem_append_left _ (rk_opt_mem q1 _ lo r hp nc ns))) vals ws H locs ls _ lc (hG.env0 q2) hl hL hS
            · obtain ⟨e2, q1, q2⟩ := rk_cut_ok (lo := high + 1) (hi := 2147483647) hG.1 ga (by omega) b1
              exact kk _ (List.mem_append_right _ (List.mem_append_right _ (rk_opt_mem q1 _ lo r hp nc ns))) vals ws H locs ls _ lc (hG.env0 q2) hl hL hS
          · obtain ⟨o, env2, q1, q2, q3, q4⟩ := rk_sw_ok (v := low) (k := (x.toInt - low).toNat) hG.1 ga hsw (by omega) (by omega)
            rw [Array.getElem?_toList] at q1
            exact lv_tableIn (tgt := ((pc : Int) + o).toNat) hx hb hdg (by omega) (by omega) q1 (by omega) (kk _ (List.mem_append_left _ q4) vals ws H locs ls _ lc (hG.env0 q2) hl hL hS)
        · cases h
      · cases h
    · cases h
  all_goals (simp [rk_pure2] at h)
end RKP