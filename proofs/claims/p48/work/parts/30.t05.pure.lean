theorem tk_nosome {α : Type} {x : α} (h : (none : Option α) = some x) : False := by cases h
/-! ===== tk: which function an instruction is (no cells) ===== -/
/-- a long and an int, a long of which nothing is known -/
def tk_lsh (f : Int64 → Int32 → Int64) (env : List tk_I) (a b : tk_V) : tk_VE := if a.2.1 = 0 ∧ b.2.1 = 0 then ((1, 0, 0, (f (Int64.ofInt a.2.2.2) (Int32.ofInt b.2.2.2)).toInt), env) else tk_new env 1 (tk_rng 1)
theorem tk_lsh_ok {f : Int64 → Int32 → Int64} {env : List tk_I} {vals : List Int} {a b : tk_V} {x : Int64} {y : Int32} (hE : tk_E env vals) (ha : tk_num vals a = some x.toInt) (hb : tk_num vals b = some y.toInt) : tk_is 1 vals (tk_lsh f env a b) (f x y).toInt := by
  unfold tk_lsh
  split
  · next e =>
    rw [← tk_lit ha e.1, ← tk_lit hb e.2, Int64.ofInt_toInt, Int32.ofInt_toInt]
    exact tk_is_old 1 hE rfl rfl
  · exact tk_is_new 1 hE (tk_lrng _).1 (tk_lrng _).2
def tk_f_sh (pc : Nat) (op : List tk_I → tk_V → tk_V → tk_VE) : tk_Fn := fun st => match st.2.1 with
  | b :: a :: r => if a.1 = 1 ∧ b.1 = 0 then some [(pc, (st.1, (op st.2.2.1.1 a b).1 :: r, ((op st.2.2.1.1 a b).2, st.2.2.1.2), st.2.2.2))] else none
  | _ => none
def tk_Gi2b (_ : tk_I) : tk_I := (-128, 127)
def tk_Gi2s (_ : tk_I) : tk_I := (-32768, 32767)
theorem tk_w_add (x y : Int32) : (x + y).toInt = tk_wrap 0 (x.toInt + y.toInt) := Int32.toInt_add x y
theorem tk_w_sub (x y : Int32) : (x - y).toInt = tk_wrap 0 (x.toInt - y.toInt) := Int32.toInt_sub x y
theorem tk_w_mul (x y : Int32) : (x * y).toInt = tk_wrap 0 (x.toInt * y.toInt) := Int32.toInt_mul x y
theorem tk_w_addL (x y : Int64) : (x + y).toInt = tk_wrap 1 (x.toInt + y.toInt) := Int64.toInt_add x y
theorem tk_w_subL (x y : Int64) : (x - y).toInt = tk_wrap 1 (x.toInt - y.toInt) := Int64.toInt_sub x y
theorem tk_w_mulL (x y : Int64) : (x * y).toInt = tk_wrap 1 (x.toInt * y.toInt) := Int64.toInt_mul x y
theorem tk_b_inv {k pc : Nat} {op : List tk_I → tk_V → tk_V → Option tk_VE} {st : tk_S} {res : List (Nat × tk_S)} {vals : List Int} {rads : List Nat} {stk : List Value} (h : tk_f_b k pc op st = some res) (hS : rk_A2 (tk_g vals rads) st.2.1 stk) : ∃ a b r q va vb rest, stk = vb :: va :: rest ∧ a.1 = k ∧ b.1 = k ∧ tk_g vals rads a va ∧ tk_g vals rads b vb ∧ rk_A2 (tk_g vals rads) r rest ∧ op st.2.2.1.1 a b = some q ∧ res = [(pc, (st.1, q.1 :: r, (q.2, st.2.2.1.2), st.2.2.2))] := by
  unfold tk_f_b at h
  split at h
  · next b a r e =>
    split at h
    · next hk =>
      split at h
      · next q hq =>
        cases h
        rw [e] at hS
        obtain ⟨vb, k1, rfl, gb, hS1⟩ := hS.cons
        obtain ⟨va, k2, rfl, ga, hS2⟩ := hS1.cons
        exact ⟨a, b, r, q, va, vb, k2, rfl, hk.1, hk.2, ga, gb, hS2, hq, rfl⟩
      · cases h
    · cases h
  · cases h
theorem tk_u_inv {k pc : Nat} {op : List tk_I → tk_V → Option tk_VE} {st : tk_S} {res : List (Nat × tk_S)} {vals : List Int} {rads : List Nat} {stk : List Value} (h : tk_f_u k pc op st = some res) (hS : rk_A2 (tk_g vals rads) st.2.1 stk) : ∃ a r q va rest, stk = va :: rest ∧ a.1 = k ∧ tk_g vals rads a va ∧ rk_A2 (tk_g vals rads) r rest ∧ op st.2.2.1.1 a = some q ∧ res = [(pc, (st.1, q.1 :: r, (q.2, st.2.2.1.2), st.2.2.2))] := by
  unfold tk_f_u at h
  split at h
  · next a r e =>
    split at h
    · next hk =>
      split at h
      · next q hq =>
        cases h
        rw [e] at hS
        obtain ⟨va, k2, rfl, ga, hS2⟩ := hS.cons
        exact ⟨a, r, q, va, k2, rfl, hk, ga, hS2, hq, rfl⟩
      · cases h
    · cases h
  · cases h
theorem tk_sh_inv {pc : Nat} {op : List tk_I → tk_V → tk_V → tk_VE} {st : tk_S} {res : List (Nat × tk_S)} {vals : List Int} {rads : List Nat} {stk : List Value} (h : tk_f_sh pc op st = some res) (hS : rk_A2 (tk_g vals rads) st.2.1 stk) : ∃ a b r va vb rest, stk = vb :: va :: rest ∧ a.1 = 1 ∧ b.1 = 0 ∧ tk_g vals rads a va ∧ tk_g vals rads b vb ∧ rk_A2 (tk_g vals rads) r rest ∧ res = [(pc, (st.1, (op st.2.2.1.1 a b).1 :: r, ((op st.2.2.1.1 a b).2, st.2.2.1.2), st.2.2.2))] := by
  unfold tk_f_sh at h
  split at h
  · next b a r e =>
    split at h
    · next hk =>
      cases h
      rw [e] at hS
      obtain ⟨vb, k1, rfl, gb, hS1⟩ := hS.cons
      obtain ⟨va, k2, rfl, ga, hS2⟩ := hS1.cons
      exact ⟨a, b, r, va, vb, k2, rfl, hk.1, hk.2, ga, gb, hS2, rfl⟩
    · cases h
  · cases h
theorem tk_dv_inv {op : List tk_I → tk_V → tk_V → Option tk_VE} {env : List tk_I} {a b : tk_V} {q : tk_VE} (h : tk_dv op env a b = some q) : tk_nz env b = true ∧ op env a b = some q := by
  unfold tk_dv at h
  split at h
  · next e => exact ⟨e, h⟩
  · cases h
section TKP
variable {K : rk_K} {nL : Nat} {Hr : tk_Hr}
theorem tk_finI (hgr : tk_gr Hr) {pc : Nat} {lo : List (Nat × tk_V)} {r : List tk_V} {q : tk_VE} {cs : List tk_Q} {rest : List Nat × tk_FA} {vals : List Int} {rads : List Nat} {H : Heap} {locs : List Loc} {ls : Array Slot} {stk : List Value} {lc : List (Nat × Value)} {x : Int32} (kk : ∀ z ∈ [(pc, ((lo, q.1 :: r, (q.2, cs), rest) : tk_S))], tk_St K nL Hr z.1 z.2) (hq : tk_is 0 vals q x.toInt) (hC : tk_C cs vals) (hR : Hr vals rads H locs rest.1 rest.2) (hl : lv_has ls nL lc) (hL : tk_Lo vals rads lo lc) (hS : rk_A2 (tk_g vals rads) r stk) : K pc ls (.int x :: stk) H locs 0 0 := by
  obtain ⟨hk, l, hE, hn⟩ := hq
  have hL' := hL.grow l []
  have hS' := tk_skG hS l []
  rw [List.append_nil] at hL' hS'
  exact kk _ (List.mem_singleton.mpr rfl) (vals ++ l) rads H locs ls _ lc ⟨hE, tk_C_grow l hC⟩ (hgr _ l _ _ _ _ _ hR) hl hL' ⟨tk_gi hk hn, hS'⟩
theorem tk_finL (hgr : tk_gr Hr) {pc : Nat} {lo : List (Nat × tk_V)} {r : List tk_V} {q : tk_VE} {cs : List tk_Q} {rest : List Nat × tk_FA} {vals : List Int} {rads : List Nat} {H : Heap} {locs : List Loc} {ls : Array Slot} {stk : List Value} {lc : List (Nat × Value)} {x : Int64} (kk : ∀ z ∈ [(pc, ((lo, q.1 :: r, (q.2, cs), rest) : tk_S))], tk_St K nL Hr z.1 z.2) (hq : tk_is 1 vals q x.toInt) (hC : tk_C cs vals) (hR : Hr vals rads H locs rest.1 rest.2) (hl : lv_has ls nL lc) (hL : tk_Lo vals rads lo lc) (hS : rk_A2 (tk_g vals rads) r stk) : K pc ls (.long x :: stk) H locs 0 0 := by
  obtain ⟨hk, l, hE, hn⟩ := hq
  have hL' := hL.grow l []
  have hS' := tk_skG hS l []
  rw [List.append_nil] at hL' hS'
  exact kk _ (List.mem_singleton.mpr rfl) (vals ++ l) rads H locs ls _ lc ⟨hE, tk_C_grow l hC⟩ (hgr _ l _ _ _ _ _ hR) hl hL' ⟨tk_gl hk hn, hS'⟩
theorem tk_ws_ok {pc : Nat} {lo : List (Nat × tk_V)} {sk : List tk_V} {rest : List Nat × tk_FA} {ws : List tk_W} {w : tk_W} {res : List (Nat × tk_S)} (hw : w ∈ ws) (hin : ∀ z ∈ tk_ws pc lo sk rest ws, z ∈ res) (kk : ∀ z ∈ res, tk_St K nL Hr z.1 z.2) : tk_St K nL Hr pc (lo, sk, w, rest) := kk _ (hin _ (List.mem_map.mpr ⟨w, hw, rfl⟩))
end TKP
def tk_pf (nL pc : Nat) (ins : Instr) : Option tk_Fn := match ins with
  | .iconst n => some (tk_f_push (pc + 1) (0, 0, 0, (Int32.ofInt n).toInt))
  | .bipush n => some (tk_f_push (pc + 2) (0, 0, 0, ((Int8.ofInt n).toInt32).toInt))
  | .sipush n => some (tk_f_push (pc + 3) (0, 0, 0, ((Int16.ofInt n).toInt32).toInt))
  | .lconst n => some (tk_f_push (pc + 1) (1, 0, 0, (Int64.ofNat (n : Nat)).toInt))
  | .aconst_null => some (tk_f_push (pc + 1) (3, 0, 0, 0))
  | .iload_n k => some (tk_f_ld (pc + 1) k 0)
  | .iload k => some (tk_f_ld (pc + 2) k 0)
  | .lload_n k => some (tk_f_ld (pc + 1) k 1)
  | .lload k => some (tk_f_ld (pc + 2) k 1)
  | .aload_n k => some (tk_f_ld (pc + 1) k 2)
  | .aload k => some (tk_f_ld (pc + 2) k 2)
  | .istore_n k => some (tk_f_st nL (pc + 1) k 0)
  | .istore k => some (tk_f_st nL (pc + 2) k 0)
  | .lstore_n k => some (tk_f_st2 nL (pc + 1) k)
  | .lstore k => some (tk_f_st2 nL (pc + 2) k)
  | .astore_n k => some (tk_f_st nL (pc + 1) k 2)
  | .astore k => some (tk_f_st nL (pc + 2) k 2)
  | .iinc i n => some (tk_f_inc nL (pc + 3) i n)
  | .dup => some (tk_f_dup (pc + 1))
  | .dup2 => some (tk_f_dup2 (pc + 1))
  | .pop => some (tk_f_pop (pc + 1) 1)
  | .pop2 => some (tk_f_pop (pc + 1) 2)
  | .iadd => some (tk_f_b 0 (pc + 1) (tk_addv 0))
  | .isub => some (tk_f_b 0 (pc + 1) (tk_subv 0))
  | .imul => some (tk_f_b 0 (pc + 1) (tk_mulv 0))
  | .iand => some (tk_f_b 0 (pc + 1) (tk_op2 (fun x y => x &&& y) tk_Gand))
  | .ior => some (tk_f_b 0 (pc + 1) (tk_op2 (fun x y => x ||| y) tk_Gor))
  | .ixor => some (tk_f_b 0 (pc + 1) (tk_op2 (fun x y => x ^^^ y) tk_Gor))
  | .ishl => some (tk_f_b 0 (pc + 1) (tk_op2 (fun x y => x <<< (y &&& 31)) tk_Gshl))
  | .ishr => some (tk_f_b 0 (pc + 1) (tk_op2 (fun x y => x >>> (y &&& 31)) tk_Gshr))
  | .iushr => some (tk_f_b 0 (pc + 1) (tk_op2 (fun x y => (x.toUInt32 >>> (y.toUInt32 &&& Int32.toUInt32 31)).toInt32) tk_Gshr))
  | .idiv => some (tk_f_b 0 (pc + 1) (tk_dv (tk_op2 (fun x y => x / y) tk_Gdiv)))
  | .irem => some (tk_f_b 0 (pc + 1) (tk_dv (tk_op2 (fun x y => x - x / y * y) tk_Grem)))
  | .ineg => some (tk_f_u 0 (pc + 1) (tk_op1 (fun x => -x) tk_Gneg))
  | .i2b => some (tk_f_u 0 (pc + 1) (tk_op1 (fun x => x.toInt8.toInt32) tk_Gi2b))
  | .i2s => some (tk_f_u 0 (pc + 1) (tk_op1 (fun x => x.toInt16.toInt32) tk_Gi2s))
  | .i2l => some (tk_f_i2l (pc + 1))
  | .l2i => some (tk_f_u 1 (pc + 1) tk_l2i)
  | .ladd => some (tk_f_b 1 (pc + 1) (tk_addv 1))
  | .lsub => some (tk_f_b 1 (pc + 1) (tk_subv 1))
  | .lmul => some (tk_f_b 1 (pc + 1) (tk_mulv 1))
  | .land => some (tk_f_b 1 (pc + 1) (fun env a b => some (tk_lop (fun x y => x &&& y) env a b)))
  | .lor => some (tk_f_b 1 (pc + 1) (fun env a b => some (tk_lop (fun x y => x ||| y) env a b)))
  | .lxor => some (tk_f_b 1 (pc + 1) (fun env a b => some (tk_lop (fun x y => x ^^^ y) env a b)))
  | .ldiv => some (tk_f_b 1 (pc + 1) (tk_dv (fun env a b => some (tk_lop (fun x y => x / y) env a b))))
  | .lrem => some (tk_f_b 1 (pc + 1) (tk_dv (fun env a b => some (tk_lop (fun x y => x - x / y * y) env a b))))
  | .lshl => some (tk_f_sh (pc + 1) (tk_lsh (fun x y => x <<< (y.toInt64 &&& 63))))
  | .lshr => some (tk_f_sh (pc + 1) (tk_lsh (fun x y => x >>> (y.toInt64 &&& 63))))
  | .lushr => some (tk_f_sh (pc + 1) (tk_lsh (fun x y => (x.toUInt64 >>> (y.toInt64.toUInt64 &&& Int64.toUInt64 63)).toInt64)))
  | .lcmp => some (tk_f_lcmp (pc + 1))
  | .ifCond c off => some (tk_f_if0 c pc off)
  | .if_icmp c off => some (tk_f_if c pc off)
  | .goto off => some (tk_f_goto pc off)
  | _ => none
section TKQ
variable {p : Program} {l : Launch} {e : Env} {R : Room} {s : State} {m : MethodId} {args : Array Value} {below : List Frame} {meth : Method} {c : Code} {Q : State → Prop} {cc : ByteArray} {nL : Nat} {Hr : tk_Hr}
set_option maxHeartbeats 8000000 in
theorem tk_pf_ok (hx : p.tables.exec = Jvm.exec) (hb : c.code = cc) (hgr : tk_gr Hr) {pc : Nat} {ins : Instr} {len : Nat} {F : tk_Fn} {st : tk_S} {res : List (Nat × tk_S)} (hdg : decode cc pc = .ok (ins, len)) (hlen : rk_len ins len = true) (h : tk_pf nL pc ins = some F) (hF : F st = some res) (kk : ∀ q ∈ res, tk_St (rk_KW p l e R s m args below meth c Q) nL Hr q.1 q.2) : tk_St (rk_KW p l e R s m args below meth c Q) nL Hr pc st := by
  obtain ⟨lo, sk, w, rest⟩ := st
  intro vals rads H locs ls stk lc hH hR hl hL hS
  dsimp only at hH hR hL hS
  cases ins
  case iconst n =>
    simp [rk_len] at hlen; subst hlen
    obtain rfl := Option.some.inj h
    obtain rfl := Option.some.inj hF
    refine lv_iconst (v := Int32.ofInt n) hx hb hdg rfl ?_
    exact kk _ (List.mem_singleton.mpr rfl) vals rads H locs ls _ lc hH hR hl hL ⟨tk_gi rfl rfl, hS⟩
  case bipush n =>
    simp [rk_len] at hlen; subst hlen
    obtain rfl := Option.some.inj h
    obtain rfl := Option.some.inj hF
    refine lv_bipush (v := (Int8.ofInt n).toInt32) hx hb hdg rfl ?_
    exact kk _ (List.mem_singleton.mpr rfl) vals rads H locs ls _ lc hH hR hl hL ⟨tk_gi rfl rfl, hS⟩
  case sipush n =>
    simp [rk_len] at hlen; subst hlen
    obtain rfl := Option.some.inj h
    obtain rfl := Option.some.inj hF
    refine lv_sipush (v := (Int16.ofInt n).toInt32) hx hb hdg rfl ?_
    exact kk _ (List.mem_singleton.mpr rfl) vals rads H locs ls _ lc hH hR hl hL ⟨tk_gi rfl rfl, hS⟩
  case lconst n =>
    simp [rk_len] at hlen; subst hlen
    obtain rfl := Option.some.inj h
    obtain rfl := Option.some.inj hF
    refine lv_lconst (v := Int64.ofNat (n : Nat)) hx hb hdg rfl ?_
    exact kk _ (List.mem_singleton.mpr rfl) vals rads H locs ls _ lc hH hR hl hL ⟨tk_gl rfl rfl, hS⟩
  case aconst_null =>
    simp [rk_len] at hlen; subst hlen
    obtain rfl := Option.some.inj h
    obtain rfl := Option.some.inj hF
    refine lv_null hx hb hdg ?_
    exact kk _ (List.mem_singleton.mpr rfl) vals rads H locs ls _ lc hH hR hl hL ⟨(show tk_g vals rads (3, 0, 0, 0) .null from rfl), hS⟩
  case iload_n k =>
    simp [rk_len] at hlen; subst hlen
    obtain rfl := Option.some.inj h
    unfold tk_f_ld at hF
    split at hF
    · next a ha =>
      split at hF
      · next hk =>
        cases hF
        obtain ⟨v, hv, hg⟩ := tk_ld_ok hL ha
        obtain ⟨x, rfl, -⟩ := tk_g0 hg hk
        refine lv_iload_n hx hb hdg rfl (hl.2.2 _ hv) ?_
        exact kk _ (List.mem_singleton.mpr rfl) vals rads H locs ls _ lc hH hR hl hL ⟨tk_nm_ok hH.1 hg, hS⟩
      · cases hF
    · cases hF
  case iload k =>
    simp [rk_len] at hlen; subst hlen
    obtain rfl := Option.some.inj h
    unfold tk_f_ld at hF
    split at hF
    · next a ha =>
      split at hF
      · next hk =>
        cases hF
        obtain ⟨v, hv, hg⟩ := tk_ld_ok hL ha
        obtain ⟨x, rfl, -⟩ := tk_g0 hg hk
        refine lv_iload hx hb hdg (hl.2.2 _ hv) ?_
        exact kk _ (List.mem_singleton.mpr rfl) vals rads H locs ls _ lc hH hR hl hL ⟨tk_nm_ok hH.1 hg, hS⟩
      · cases hF
    · cases hF
  case lload_n k =>
    simp [rk_len] at hlen; subst hlen
    obtain rfl := Option.some.inj h
    unfold tk_f_ld at hF
    split at hF
    · next a ha =>
      split at hF
      · next hk =>
        cases hF
        obtain ⟨v, hv, hg⟩ := tk_ld_ok hL ha
        obtain ⟨x, rfl, -⟩ := tk_g1 hg hk
        refine lv_lload_n hx hb hdg rfl (hl.2.2 _ hv) ?_
        exact kk _ (List.mem_singleton.mpr rfl) vals rads H locs ls _ lc hH hR hl hL ⟨tk_nm_ok hH.1 hg, hS⟩
      · cases hF
    · cases hF
  case lload k =>
    simp [rk_len] at hlen; subst hlen
    obtain rfl := Option.some.inj h
    unfold tk_f_ld at hF
    split at hF
    · next a ha =>
      split at hF
      · next hk =>
        cases hF
        obtain ⟨v, hv, hg⟩ := tk_ld_ok hL ha
        obtain ⟨x, rfl, -⟩ := tk_g1 hg hk
        refine lv_lload hx hb hdg (hl.2.2 _ hv) ?_
        exact kk _ (List.mem_singleton.mpr rfl) vals rads H locs ls _ lc hH hR hl hL ⟨tk_nm_ok hH.1 hg, hS⟩
      · cases hF
    · cases hF
  case aload_n k =>
    simp [rk_len] at hlen; subst hlen
    obtain rfl := Option.some.inj h
    unfold tk_f_ld at hF
    split at hF
    · next a ha =>
      split at hF
      · next hk =>
        cases hF
        obtain ⟨v, hv, hg⟩ := tk_ld_ok hL ha
        obtain ⟨x, -, rfl⟩ := tk_g2 hg hk
        refine lv_aload_n hx hb hdg rfl (hl.2.2 _ hv) ?_
        exact kk _ (List.mem_singleton.mpr rfl) vals rads H locs ls _ lc hH hR hl hL ⟨tk_nm_ok hH.1 hg, hS⟩
      · cases hF
    · cases hF
  case aload k =>
    simp [rk_len] at hlen; subst hlen
    obtain rfl := Option.some.inj h
    unfold tk_f_ld at hF
    split at hF
    · next a ha =>
      split at hF
      · next hk =>
        cases hF
        obtain ⟨v, hv, hg⟩ := tk_ld_ok hL ha
        obtain ⟨x, -, rfl⟩ := tk_g2 hg hk
        refine lv_aload hx hb hdg (hl.2.2 _ hv) ?_
        exact kk _ (List.mem_singleton.mpr rfl) vals rads H locs ls _ lc hH hR hl hL ⟨tk_nm_ok hH.1 hg, hS⟩
      · cases hF
    · cases hF
  case istore_n k =>
    simp [rk_len] at hlen; subst hlen
    obtain rfl := Option.some.inj h
    unfold tk_f_st at hF
    split at hF
    · next a r e1 =>
      dsimp only at e1
      subst e1
      split at hF
      · next hk =>
        cases hF
        obtain ⟨v, k1, rfl, hg, hS1⟩ := hS.cons
        obtain ⟨x, rfl, -⟩ := tk_g0 hg hk.1
        refine lv_istore_n hx hb hdg rfl hl hk.2.1 rfl (fun ls' hl' => ?_)
        exact kk _ (List.mem_singleton.mpr rfl) vals rads H locs ls' _ _ hH hR hl' (tk_st1_ok hL hg) hS1
      · cases hF
    · cases hF
  case istore k =>
    simp [rk_len] at hlen; subst hlen
    obtain rfl := Option.some.inj h
    unfold tk_f_st at hF
    split at hF
    · next a r e1 =>
      dsimp only at e1
      subst e1
      split at hF
      · next hk =>
        cases hF
        obtain ⟨v, k1, rfl, hg, hS1⟩ := hS.cons
        obtain ⟨x, rfl, -⟩ := tk_g0 hg hk.1
        refine lv_istore hx hb hdg hl hk.2.1 rfl (fun ls' hl' => ?_)
        exact kk _ (List.mem_singleton.mpr rfl) vals rads H locs ls' _ _ hH hR hl' (tk_st1_ok hL hg) hS1
      · cases hF
    · cases hF
  case astore_n k =>
    simp [rk_len] at hlen; subst hlen
    obtain rfl := Option.some.inj h
    unfold tk_f_st at hF
    split at hF
    · next a r e1 =>
      dsimp only at e1
      subst e1
      split at hF
      · next hk =>
        cases hF
        obtain ⟨v, k1, rfl, hg, hS1⟩ := hS.cons
        obtain ⟨x, -, rfl⟩ := tk_g2 hg hk.1
        refine lv_astore_n hx hb hdg rfl hl hk.2.1 rfl (fun ls' hl' => ?_)
        exact kk _ (List.mem_singleton.mpr rfl) vals rads H locs ls' _ _ hH hR hl' (tk_st1_ok hL hg) hS1
      · cases hF
    · cases hF
  case astore k =>
    simp [rk_len] at hlen; subst hlen
    obtain rfl := Option.some.inj h
    unfold tk_f_st at hF
    split at hF
    · next a r e1 =>
      dsimp only at e1
      subst e1
      split at hF
      · next hk =>
        cases hF
        obtain ⟨v, k1, rfl, hg, hS1⟩ := hS.cons
        obtain ⟨x, -, rfl⟩ := tk_g2 hg hk.1
        refine lv_astore hx hb hdg hl hk.2.1 rfl (fun ls' hl' => ?_)
        exact kk _ (List.mem_singleton.mpr rfl) vals rads H locs ls' _ _ hH hR hl' (tk_st1_ok hL hg) hS1
      · cases hF
    · cases hF
  case lstore_n k =>
    simp [rk_len] at hlen; subst hlen
    obtain rfl := Option.some.inj h
    unfold tk_f_st2 at hF
    split at hF
    · next a r e1 =>
      dsimp only at e1
      subst e1
      split at hF
      · next hk =>
        cases hF
        obtain ⟨v, k1, rfl, hg, hS1⟩ := hS.cons
        obtain ⟨x, rfl, -⟩ := tk_g1 hg hk.1
        refine lv_lstore_n hx hb hdg rfl hl hk.2 rfl (fun ls' hl' => ?_)
        exact kk _ (List.mem_singleton.mpr rfl) vals rads H locs ls' _ _ hH hR hl' (tk_st2_ok hL hg) hS1
      · cases hF
    · cases hF
  case lstore k =>
    simp [rk_len] at hlen; subst hlen
    obtain rfl := Option.some.inj h
    unfold tk_f_st2 at hF
    split at hF
    · next a r e1 =>
      dsimp only at e1
      subst e1
      split at hF
      · next hk =>
        cases hF
        obtain ⟨v, k1, rfl, hg, hS1⟩ := hS.cons
        obtain ⟨x, rfl, -⟩ := tk_g1 hg hk.1
        refine lv_lstore hx hb hdg hl hk.2 rfl (fun ls' hl' => ?_)
        exact kk _ (List.mem_singleton.mpr rfl) vals rads H locs ls' _ _ hH hR hl' (tk_st2_ok hL hg) hS1
      · cases hF
    · cases hF
  case iinc i n =>
    simp [rk_len] at hlen; subst hlen
    obtain rfl := Option.some.inj h
    unfold tk_f_inc at hF
    split at hF
    · next a ha =>
      split at hF
      · next hk =>
        split at hF
        · next q hq =>
          cases hF
          obtain ⟨v, hv, hg⟩ := tk_ld_ok hL ha
          obtain ⟨x, rfl, hx1⟩ := tk_g0 hg hk.1
          obtain ⟨k1, l1, hE1, hn1⟩ := tk_addv_ok hH.1 hx1 (show tk_num vals (0, 0, 0, (Int32.ofInt n).toInt) = some (Int32.ofInt n).toInt from rfl) hq
          rw [← tk_w_add] at hn1
          obtain ⟨kq, hkq⟩ := List.getElem?_of_mem hv
          have hL' := hL.grow l1 []
          have hS' := tk_skG hS l1 []
          rw [List.append_nil] at hL' hS'
          refine lv_iinc hx hb hdg hl hkq rfl hk.2 rfl (fun ls' hl' => ?_)
          exact kk _ (List.mem_singleton.mpr rfl) (vals ++ l1) rads H locs ls' _ _ ⟨hE1, tk_C_grow l1 hH.2⟩ (hgr _ l1 _ _ _ _ _ hR) hl' (tk_st1_ok hL' (tk_gi k1 hn1)) hS'
        · cases hF
      · cases hF
    · cases hF
  case dup =>
    simp [rk_len] at hlen; subst hlen
    obtain rfl := Option.some.inj h
    unfold tk_f_dup at hF
    split at hF
    · next a r e1 =>
      dsimp only at e1
      subst e1
      split at hF
      · next hk =>
        cases hF
        obtain ⟨v, k1, rfl, hg, hS1⟩ := hS.cons
        refine lv_dup hx hb hdg (by rw [← tk_cat_ok hg]; exact hk) ?_
        exact kk _ (List.mem_singleton.mpr rfl) vals rads H locs ls _ lc hH hR hl hL ⟨hg, hg, hS1⟩
      · cases hF
    · cases hF
  case dup2 =>
    simp [rk_len] at hlen; subst hlen
    obtain rfl := Option.some.inj h
    unfold tk_f_dup2 at hF
    split at hF
    · next a b r e1 =>
      dsimp only at e1
      subst e1
      obtain ⟨v, k1, rfl, hg, hS1⟩ := hS.cons
      obtain ⟨v2, k2, rfl, hg2, hS2⟩ := hS1.cons
      split at hF
      · next hc =>
        cases hF
        refine lv_dup2_11 hx hb hdg (by rw [← tk_cat_ok hg]; exact hc.1) (by rw [← tk_cat_ok hg2]; exact hc.2) ?_
        exact kk _ (List.mem_singleton.mpr rfl) vals rads H locs ls _ lc hH hR hl hL ⟨hg, hg2, hg, hg2, hS2⟩
      · split at hF
        · next hc =>
          cases hF
          refine lv_dup2_2 hx hb hdg (by rw [← tk_cat_ok hg]; exact hc) ?_
          exact kk _ (List.mem_singleton.mpr rfl) vals rads H locs ls _ lc hH hR hl hL ⟨hg, hg, hg2, hS2⟩
        · cases hF
    · cases hF
  case pop =>
    simp [rk_len] at hlen; subst hlen
    obtain rfl := Option.some.inj h
    unfold tk_f_pop at hF
    split at hF
    · next a r e1 =>
      dsimp only at e1
      subst e1
      split at hF
      · next hk =>
        cases hF
        obtain ⟨v, k1, rfl, hg, hS1⟩ := hS.cons
        refine lv_pop hx hb hdg (by rw [← tk_cat_ok hg]; exact hk) ?_
        exact kk _ (List.mem_singleton.mpr rfl) vals rads H locs ls _ lc hH hR hl hL hS1
      · cases hF
    · cases hF
  case pop2 =>
    simp [rk_len] at hlen; subst hlen
    obtain rfl := Option.some.inj h
    unfold tk_f_pop at hF
    split at hF
    · next a r e1 =>
      dsimp only at e1
      subst e1
      split at hF
      · next hk =>
        cases hF
        obtain ⟨v, k1, rfl, hg, hS1⟩ := hS.cons
        refine lv_pop2_2 hx hb hdg (by rw [← tk_cat_ok hg]; exact hk) ?_
        exact kk _ (List.mem_singleton.mpr rfl) vals rads H locs ls _ lc hH hR hl hL hS1
      · cases hF
    · cases hF
  case iadd =>
    simp [rk_len] at hlen; subst hlen
    obtain rfl := Option.some.inj h
    obtain ⟨a, b, r, q, va, vb, rest2, rfl, ka, kb, ga, gb, hS2, hq, rfl⟩ := tk_b_inv hF hS
    obtain ⟨x, rfl, hx1⟩ := tk_g0 ga ka
    obtain ⟨y, rfl, hy1⟩ := tk_g0 gb kb
    refine lv_iadd hx hb hdg ?_
    exact tk_finI hgr kk (by rw [tk_w_add]; exact tk_addv_ok hH.1 hx1 hy1 hq) hH.2 hR hl hL hS2
  case isub =>
    simp [rk_len] at hlen; subst hlen
    obtain rfl := Option.some.inj h
    obtain ⟨a, b, r, q, va, vb, rest2, rfl, ka, kb, ga, gb, hS2, hq, rfl⟩ := tk_b_inv hF hS
    obtain ⟨x, rfl, hx1⟩ := tk_g0 ga ka
    obtain ⟨y, rfl, hy1⟩ := tk_g0 gb kb
    refine lv_isub hx hb hdg ?_
    exact tk_finI hgr kk (by rw [tk_w_sub]; exact tk_subv_ok hH.1 hx1 hy1 hq) hH.2 hR hl hL hS2
  case imul =>
    simp [rk_len] at hlen; subst hlen
    obtain rfl := Option.some.inj h
    obtain ⟨a, b, r, q, va, vb, rest2, rfl, ka, kb, ga, gb, hS2, hq, rfl⟩ := tk_b_inv hF hS
    obtain ⟨x, rfl, hx1⟩ := tk_g0 ga ka
    obtain ⟨y, rfl, hy1⟩ := tk_g0 gb kb
    refine lv_imul hx hb hdg ?_
    exact tk_finI hgr kk (by rw [tk_w_mul]; exact tk_mulv_ok hH.1 hx1 hy1 hq) hH.2 hR hl hL hS2
  case iand =>
    simp [rk_len] at hlen; subst hlen
    obtain rfl := Option.some.inj h
    obtain ⟨a, b, r, q, va, vb, rest2, rfl, ka, kb, ga, gb, hS2, hq, rfl⟩ := tk_b_inv hF hS
    obtain ⟨x, rfl, hx1⟩ := tk_g0 ga ka
    obtain ⟨y, rfl, hy1⟩ := tk_g0 gb kb
    refine lv_iand hx hb hdg  ?_
    exact tk_finI hgr kk (tk_op2_ok tk_s_and hH.1 hx1 hy1 hq) hH.2 hR hl hL hS2
  case ior =>
    simp [rk_len] at hlen; subst hlen
    obtain rfl := Option.some.inj h
    obtain ⟨a, b, r, q, va, vb, rest2, rfl, ka, kb, ga, gb, hS2, hq, rfl⟩ := tk_b_inv hF hS
    obtain ⟨x, rfl, hx1⟩ := tk_g0 ga ka
    obtain ⟨y, rfl, hy1⟩ := tk_g0 gb kb
    refine lv_ior hx hb hdg  ?_
    exact tk_finI hgr kk (tk_op2_ok tk_s_or hH.1 hx1 hy1 hq) hH.2 hR hl hL hS2
  case ixor =>
    simp [rk_len] at hlen; subst hlen
    obtain rfl := Option.some.inj h
    obtain ⟨a, b, r, q, va, vb, rest2, rfl, ka, kb, ga, gb, hS2, hq, rfl⟩ := tk_b_inv hF hS
    obtain ⟨x, rfl, hx1⟩ := tk_g0 ga ka
    obtain ⟨y, rfl, hy1⟩ := tk_g0 gb kb
    refine lv_ixor hx hb hdg  ?_
    exact tk_finI hgr kk (tk_op2_ok tk_s_xor hH.1 hx1 hy1 hq) hH.2 hR hl hL hS2
  case ishl =>
    simp [rk_len] at hlen; subst hlen
    obtain rfl := Option.some.inj h
    obtain ⟨a, b, r, q, va, vb, rest2, rfl, ka, kb, ga, gb, hS2, hq, rfl⟩ := tk_b_inv hF hS
    obtain ⟨x, rfl, hx1⟩ := tk_g0 ga ka
    obtain ⟨y, rfl, hy1⟩ := tk_g0 gb kb
    refine lv_ishl hx hb hdg  ?_
    exact tk_finI hgr kk (tk_op2_ok tk_s_shl hH.1 hx1 hy1 hq) hH.2 hR hl hL hS2
  case ishr =>
    simp [rk_len] at hlen; subst hlen
    obtain rfl := Option.some.inj h
    obtain ⟨a, b, r, q, va, vb, rest2, rfl, ka, kb, ga, gb, hS2, hq, rfl⟩ := tk_b_inv hF hS
    obtain ⟨x, rfl, hx1⟩ := tk_g0 ga ka
    obtain ⟨y, rfl, hy1⟩ := tk_g0 gb kb
    refine lv_ishr hx hb hdg  ?_
    exact tk_finI hgr kk (tk_op2_ok tk_s_shr hH.1 hx1 hy1 hq) hH.2 hR hl hL hS2
  case iushr =>
    simp [rk_len] at hlen; subst hlen
    obtain rfl := Option.some.inj h
    obtain ⟨a, b, r, q, va, vb, rest2, rfl, ka, kb, ga, gb, hS2, hq, rfl⟩ := tk_b_inv hF hS
    obtain ⟨x, rfl, hx1⟩ := tk_g0 ga ka
    obtain ⟨y, rfl, hy1⟩ := tk_g0 gb kb
    refine lv_iushr hx hb hdg rfl ?_
    exact tk_finI hgr kk (tk_op2_ok tk_s_ushr hH.1 hx1 hy1 hq) hH.2 hR hl hL hS2
  case idiv =>
    simp [rk_len] at hlen; subst hlen
    obtain rfl := Option.some.inj h
    obtain ⟨a, b, r, q, va, vb, rest2, rfl, ka, kb, ga, gb, hS2, hq, rfl⟩ := tk_b_inv hF hS
    obtain ⟨x, rfl, hx1⟩ := tk_g0 ga ka
    obtain ⟨y, rfl, hy1⟩ := tk_g0 gb kb
    obtain ⟨hz, hq⟩ := tk_dv_inv hq
    have hne : ¬ y = 0 := fun z => tk_nz_ok hH.1 hy1 hz (by rw [z]; rfl)
    refine lv_idiv hx hb hdg hne ?_
    exact tk_finI hgr kk (tk_op2_ok tk_s_div hH.1 hx1 hy1 hq) hH.2 hR hl hL hS2
  case irem =>
    simp [rk_len] at hlen; subst hlen
    obtain rfl := Option.some.inj h
    obtain ⟨a, b, r, q, va, vb, rest2, rfl, ka, kb, ga, gb, hS2, hq, rfl⟩ := tk_b_inv hF hS
    obtain ⟨x, rfl, hx1⟩ := tk_g0 ga ka
    obtain ⟨y, rfl, hy1⟩ := tk_g0 gb kb
    obtain ⟨hz, hq⟩ := tk_dv_inv hq
    have hne : ¬ y = 0 := fun z => tk_nz_ok hH.1 hy1 hz (by rw [z]; rfl)
    refine lv_irem hx hb hdg hne ?_
    exact tk_finI hgr kk (tk_op2_ok tk_s_rem hH.1 hx1 hy1 hq) hH.2 hR hl hL hS2
  case ineg =>
    simp [rk_len] at hlen; subst hlen
    obtain rfl := Option.some.inj h
    obtain ⟨a, r, q, va, rest2, rfl, ka, ga, hS2, hq, rfl⟩ := tk_u_inv hF hS
    obtain ⟨x, rfl, hx1⟩ := tk_g0 ga ka
    refine lv_ineg hx hb hdg ?_
    exact tk_finI hgr kk (tk_op1_ok tk_s_neg hH.1 hx1 hq) hH.2 hR hl hL hS2
  case i2b =>
    simp [rk_len] at hlen; subst hlen
    obtain rfl := Option.some.inj h
    obtain ⟨a, r, q, va, rest2, rfl, ka, ga, hS2, hq, rfl⟩ := tk_u_inv hF hS
    obtain ⟨x, rfl, hx1⟩ := tk_g0 ga ka
    refine lv_i2b hx hb hdg rfl ?_
    exact tk_finI hgr kk (tk_op1_ok (fun x _ _ _ => rk_s_i2b x) hH.1 hx1 hq) hH.2 hR hl hL hS2
  case i2s =>
    simp [rk_len] at hlen; subst hlen
    obtain rfl := Option.some.inj h
    obtain ⟨a, r, q, va, rest2, rfl, ka, ga, hS2, hq, rfl⟩ := tk_u_inv hF hS
    obtain ⟨x, rfl, hx1⟩ := tk_g0 ga ka
    refine lv_i2s hx hb hdg rfl ?_
    exact tk_finI hgr kk (tk_op1_ok (fun x _ _ _ => rk_s_i2s x) hH.1 hx1 hq) hH.2 hR hl hL hS2
  case i2l =>
    simp [rk_len] at hlen; subst hlen
    obtain rfl := Option.some.inj h
    unfold tk_f_i2l at hF
    split at hF
    · next a r e1 =>
      dsimp only at e1
      subst e1
      split at hF
      · next hk =>
        cases hF
        obtain ⟨v, k1, rfl, hg, hS1⟩ := hS.cons
        obtain ⟨x, rfl, hx1⟩ := tk_g0 hg hk
        refine lv_i2l hx hb hdg rfl ?_
        exact kk _ (List.mem_singleton.mpr rfl) vals rads H locs ls _ lc hH hR hl hL ⟨tk_gl rfl (by rw [Int32.toInt_toInt64]; exact hx1), hS1⟩
      · cases hF
    · cases hF
  case l2i =>
    simp [rk_len] at hlen; subst hlen
    obtain rfl := Option.some.inj h
    obtain ⟨a, r, q, va, rest2, rfl, ka, ga, hS2, hq, rfl⟩ := tk_u_inv hF hS
    obtain ⟨x, rfl, hx1⟩ := tk_g1 ga ka
    refine lv_l2i hx hb hdg rfl ?_
    refine tk_finI hgr kk ?_ hH.2 hR hl hL hS2
    unfold tk_l2i at hq
    split at hq
    · next I hI =>
      have b1 := tk_iv_ok hH.1 hx1 hI
      rw [Int64.toInt_toInt32]
      split at hq
      · next hf =>
        cases hq
        have e1 : x.toInt.bmod (2 ^ 32) = x.toInt := tk_wrap_id (k := 0) hf b1.1 b1.2
        rw [e1]
        exact tk_is_old 0 hH.1 rfl hx1
      · cases hq
        exact tk_is_new 0 hH.1 (tk_wrap_in 0 _).1 (tk_wrap_in 0 _).2
    · cases hq
  case ladd =>
    simp [rk_len] at hlen; subst hlen
    obtain rfl := Option.some.inj h
    obtain ⟨a, b, r, q, va, vb, rest2, rfl, ka, kb, ga, gb, hS2, hq, rfl⟩ := tk_b_inv hF hS
    obtain ⟨x, rfl, hx1⟩ := tk_g1 ga ka
    obtain ⟨y, rfl, hy1⟩ := tk_g1 gb kb
    refine lv_ladd hx hb hdg ?_
    exact tk_finL hgr kk (by rw [tk_w_addL]; exact tk_addv_ok hH.1 hx1 hy1 hq) hH.2 hR hl hL hS2
  case lsub =>
    simp [rk_len] at hlen; subst hlen
    obtain rfl := Option.some.inj h
    obtain ⟨a, b, r, q, va, vb, rest2, rfl, ka, kb, ga, gb, hS2, hq, rfl⟩ := tk_b_inv hF hS
    obtain ⟨x, rfl, hx1⟩ := tk_g1 ga ka
    obtain ⟨y, rfl, hy1⟩ := tk_g1 gb kb
    refine lv_lsub hx hb hdg ?_
    exact tk_finL hgr kk (by rw [tk_w_subL]; exact tk_subv_ok hH.1 hx1 hy1 hq) hH.2 hR hl hL hS2
  case lmul =>
    simp [rk_len] at hlen; subst hlen
    obtain rfl := Option.some.inj h
    obtain ⟨a, b, r, q, va, vb, rest2, rfl, ka, kb, ga, gb, hS2, hq, rfl⟩ := tk_b_inv hF hS
    obtain ⟨x, rfl, hx1⟩ := tk_g1 ga ka
    obtain ⟨y, rfl, hy1⟩ := tk_g1 gb kb
    refine lv_lmul hx hb hdg ?_
    exact tk_finL hgr kk (by rw [tk_w_mulL]; exact tk_mulv_ok hH.1 hx1 hy1 hq) hH.2 hR hl hL hS2
  case land =>
    simp [rk_len] at hlen; subst hlen
    obtain rfl := Option.some.inj h
    obtain ⟨a, b, r, q, va, vb, rest2, rfl, ka, kb, ga, gb, hS2, hq, rfl⟩ := tk_b_inv hF hS
    obtain ⟨x, rfl, hx1⟩ := tk_g1 ga ka
    obtain ⟨y, rfl, hy1⟩ := tk_g1 gb kb
    cases hq
    refine lv_land hx hb hdg ?_
    exact tk_finL hgr kk (tk_lop_ok (f := fun x y => x &&& y) hH.1 hx1 hy1) hH.2 hR hl hL hS2
  case lor =>
    simp [rk_len] at hlen; subst hlen
    obtain rfl := Option.some.inj h
    obtain ⟨a, b, r, q, va, vb, rest2, rfl, ka, kb, ga, gb, hS2, hq, rfl⟩ := tk_b_inv hF hS
    obtain ⟨x, rfl, hx1⟩ := tk_g1 ga ka
    obtain ⟨y, rfl, hy1⟩ := tk_g1 gb kb
    cases hq
    refine lv_lor hx hb hdg ?_
    exact tk_finL hgr kk (tk_lop_ok (f := fun x y => x ||| y) hH.1 hx1 hy1) hH.2 hR hl hL hS2
  case lxor =>
    simp [rk_len] at hlen; subst hlen
    obtain rfl := Option.some.inj h
    obtain ⟨a, b, r, q, va, vb, rest2, rfl, ka, kb, ga, gb, hS2, hq, rfl⟩ := tk_b_inv hF hS
    obtain ⟨x, rfl, hx1⟩ := tk_g1 ga ka
    obtain ⟨y, rfl, hy1⟩ := tk_g1 gb kb
    cases hq
    refine lv_lxor hx hb hdg ?_
    exact tk_finL hgr kk (tk_lop_ok (f := fun x y => x ^^^ y) hH.1 hx1 hy1) hH.2 hR hl hL hS2
  case ldiv =>
    simp [rk_len] at hlen; subst hlen
    obtain rfl := Option.some.inj h
    obtain ⟨a, b, r, q, va, vb, rest2, rfl, ka, kb, ga, gb, hS2, hq, rfl⟩ := tk_b_inv hF hS
    obtain ⟨x, rfl, hx1⟩ := tk_g1 ga ka
    obtain ⟨y, rfl, hy1⟩ := tk_g1 gb kb
    obtain ⟨hz, hq⟩ := tk_dv_inv hq
    cases hq
    have hne : ¬ y = 0 := fun z => tk_nz_ok hH.1 hy1 hz (by rw [z]; rfl)
    refine lv_ldiv hx hb hdg hne ?_
    exact tk_finL hgr kk (tk_lop_ok (f := fun x y => x / y) hH.1 hx1 hy1) hH.2 hR hl hL hS2
  case lrem =>
    simp [rk_len] at hlen; subst hlen
    obtain rfl := Option.some.inj h
    obtain ⟨a, b, r, q, va, vb, rest2, rfl, ka, kb, ga, gb, hS2, hq, rfl⟩ := tk_b_inv hF hS
    obtain ⟨x, rfl, hx1⟩ := tk_g1 ga ka
    obtain ⟨y, rfl, hy1⟩ := tk_g1 gb kb
    obtain ⟨hz, hq⟩ := tk_dv_inv hq
    cases hq
    have hne : ¬ y = 0 := fun z => tk_nz_ok hH.1 hy1 hz (by rw [z]; rfl)
    refine lv_lrem hx hb hdg hne ?_
    exact tk_finL hgr kk (tk_lop_ok (f := fun x y => x - x / y * y) hH.1 hx1 hy1) hH.2 hR hl hL hS2
  case lshl =>
    simp [rk_len] at hlen; subst hlen
    obtain rfl := Option.some.inj h
    obtain ⟨a, b, r, va, vb, rest2, rfl, ka, kb, ga, gb, hS2, rfl⟩ := tk_sh_inv hF hS
    obtain ⟨x, rfl, hx1⟩ := tk_g1 ga ka
    obtain ⟨y, rfl, hy1⟩ := tk_g0 gb kb
    refine lv_lshl hx hb hdg rfl ?_
    exact tk_finL hgr kk (tk_lsh_ok (f := fun x y => x <<< (y.toInt64 &&& 63)) hH.1 hx1 hy1) hH.2 hR hl hL hS2
  case lshr =>
    simp [rk_len] at hlen; subst hlen
    obtain rfl := Option.some.inj h
    obtain ⟨a, b, r, va, vb, rest2, rfl, ka, kb, ga, gb, hS2, rfl⟩ := tk_sh_inv hF hS
    obtain ⟨x, rfl, hx1⟩ := tk_g1 ga ka
    obtain ⟨y, rfl, hy1⟩ := tk_g0 gb kb
    refine lv_lshr hx hb hdg rfl ?_
    exact tk_finL hgr kk (tk_lsh_ok (f := fun x y => x >>> (y.toInt64 &&& 63)) hH.1 hx1 hy1) hH.2 hR hl hL hS2
  case lushr =>
    simp [rk_len] at hlen; subst hlen
    obtain rfl := Option.some.inj h
    obtain ⟨a, b, r, va, vb, rest2, rfl, ka, kb, ga, gb, hS2, rfl⟩ := tk_sh_inv hF hS
    obtain ⟨x, rfl, hx1⟩ := tk_g1 ga ka
    obtain ⟨y, rfl, hy1⟩ := tk_g0 gb kb
    refine lv_lushr hx hb hdg rfl ?_
    exact tk_finL hgr kk (tk_lsh_ok (f := fun x y => (x.toUInt64 >>> (y.toInt64.toUInt64 &&& Int64.toUInt64 63)).toInt64) hH.1 hx1 hy1) hH.2 hR hl hL hS2
  case lcmp =>
    simp [rk_len] at hlen; subst hlen
    obtain rfl := Option.some.inj h
    unfold tk_f_lcmp at hF
    split at hF
    · next b a r e1 =>
      dsimp only at e1
      subst e1
      split at hF
      · next hk =>
        cases hF
        obtain ⟨vb, k1, rfl, gb, hS1⟩ := hS.cons
        obtain ⟨va, k2, rfl, ga, hS2⟩ := hS1.cons
        obtain ⟨x, rfl, hx1⟩ := tk_g1 ga hk.1
        obtain ⟨y, rfl, hy1⟩ := tk_g1 gb hk.2
        refine W.lcmp hx hb hdg ?_
        rcases rk_lgc x y with ⟨e1, e2⟩ | ⟨e1, e2⟩ | ⟨e1, e2⟩ <;> rw [e1]
        · obtain ⟨w', h1, h2⟩ := tk_lt_ok hH hy1 hx1 e2
          exact tk_ws_ok h1 (fun z hz => List.mem_append_left _ hz) kk vals rads H locs ls _ lc h2 hR hl hL ⟨tk_gi rfl rfl, hS2⟩
        · obtain ⟨w', h1, h2⟩ := tk_eq_ok hH hx1 hy1 e2
          exact tk_ws_ok h1 (fun z hz => List.mem_append_right _ (List.mem_append_left _ hz)) kk vals rads H locs ls _ lc h2 hR hl hL ⟨tk_gi rfl rfl, hS2⟩
        · obtain ⟨w', h1, h2⟩ := tk_lt_ok hH hx1 hy1 e2
          exact tk_ws_ok h1 (fun z hz => List.mem_append_right _ (List.mem_append_right _ hz)) kk vals rads H locs ls _ lc h2 hR hl hL ⟨tk_gi rfl rfl, hS2⟩
      · cases hF
    · cases hF
  case ifCond cd off =>
    simp [rk_len] at hlen; subst hlen
    obtain rfl := Option.some.inj h
    unfold tk_f_if0 at hF
    split at hF
    · next a r e1 =>
      dsimp only at e1
      subst e1
      split at hF
      · next hk =>
        cases hF
        obtain ⟨va, k2, rfl, ga, hS2⟩ := hS.cons
        obtain ⟨x, rfl, hx1⟩ := tk_g0 ga hk.1
        have hy1 : tk_num vals (0, 0, 0, 0) = some (0 : Int32).toInt := rfl
        have hpos := hk.2
        have key : (tk_holds cd x.toInt (0 : Int32).toInt → rk_KW p l e R s m args below meth c Q ((pc : Int) + off).toNat ls k2 H locs 0 0) ∧ (¬ tk_holds cd x.toInt (0 : Int32).toInt → rk_KW p l e R s m args below meth c Q (pc + 3) ls k2 H locs 0 0) := by
          refine ⟨fun hh => ?_, fun hh => ?_⟩
          · obtain ⟨w', h1, h2⟩ := tk_cond_ok cd hH hx1 hy1 hh
            exact tk_ws_ok h1 (fun z hz => List.mem_append_left _ hz) kk vals rads H locs ls _ lc h2 hR hl hL hS2
          · obtain ⟨w', h1, h2⟩ := tk_cond_ok (rk_not cd) hH hx1 hy1 (tk_not_ok hh)
            exact tk_ws_ok h1 (fun z hz => List.mem_append_right _ hz) kk vals rads H locs ls _ lc h2 hR hl hL hS2
        have ht : (pc : Int) + off = ((((pc : Int) + off).toNat : Nat) : Int) := by omega
        obtain ⟨k1, k2⟩ := key
        cases cd
        case eq => exact lv_if_eq hx hb hdg ht (fun q => k1 (Int32.toInt_inj.mpr q)) (fun q => k2 (fun z => q (Int32.toInt_inj.mp z)))
        case ne => exact lv_if_ne hx hb hdg ht (fun q => k1 (fun z => q (Int32.toInt_inj.mp z))) (fun q => k2 (fun z => z (Int32.toInt_inj.mpr q)))
        case lt => exact lv_if_lt hx hb hdg ht (fun q => k1 (Int32.lt_iff_toInt_lt.mp q)) (fun q => k2 (fun z => q (Int32.lt_iff_toInt_lt.mpr z)))
        case ge => exact lv_if_ge hx hb hdg ht (fun q => k1 (Int32.le_iff_toInt_le.mp q)) (fun q => k2 (fun z => q (Int32.le_iff_toInt_le.mpr z)))
        case gt => exact lv_if_gt hx hb hdg ht (fun q => k1 (Int32.lt_iff_toInt_lt.mp q)) (fun q => k2 (fun z => q (Int32.lt_iff_toInt_lt.mpr z)))
        case le => exact lv_if_le hx hb hdg ht (fun q => k1 (Int32.le_iff_toInt_le.mp q)) (fun q => k2 (fun z => q (Int32.le_iff_toInt_le.mpr z)))
      · cases hF
    · cases hF
  case if_icmp cd off =>
    simp [rk_len] at hlen; subst hlen
    obtain rfl := Option.some.inj h
    unfold tk_f_if at hF
    split at hF
    · next b a r e1 =>
      dsimp only at e1
      subst e1
      split at hF
      · next hk =>
        cases hF
        obtain ⟨vb, k1, rfl, gb, hS1⟩ := hS.cons
        obtain ⟨va, k2, rfl, ga, hS2⟩ := hS1.cons
        obtain ⟨x, rfl, hx1⟩ := tk_g0 ga hk.1
        obtain ⟨y, rfl, hy1⟩ := tk_g0 gb hk.2.1
        have hpos := hk.2.2
        have key : (tk_holds cd x.toInt y.toInt → rk_KW p l e R s m args below meth c Q ((pc : Int) + off).toNat ls k2 H locs 0 0) ∧ (¬ tk_holds cd x.toInt y.toInt → rk_KW p l e R s m args below meth c Q (pc + 3) ls k2 H locs 0 0) := by
          refine ⟨fun hh => ?_, fun hh => ?_⟩
          · obtain ⟨w', h1, h2⟩ := tk_cond_ok cd hH hx1 hy1 hh
            exact tk_ws_ok h1 (fun z hz => List.mem_append_left _ hz) kk vals rads H locs ls _ lc h2 hR hl hL hS2
          · obtain ⟨w', h1, h2⟩ := tk_cond_ok (rk_not cd) hH hx1 hy1 (tk_not_ok hh)
            exact tk_ws_ok h1 (fun z hz => List.mem_append_right _ hz) kk vals rads H locs ls _ lc h2 hR hl hL hS2
        have ht : (pc : Int) + off = ((((pc : Int) + off).toNat : Nat) : Int) := by omega
        obtain ⟨k1, k2⟩ := key
        cases cd
        case eq => exact lv_icmp_eq hx hb hdg ht (fun q => k1 (Int32.toInt_inj.mpr q)) (fun q => k2 (fun z => q (Int32.toInt_inj.mp z)))
        case ne => exact lv_icmp_ne hx hb hdg ht (fun q => k1 (fun z => q (Int32.toInt_inj.mp z))) (fun q => k2 (fun z => z (Int32.toInt_inj.mpr q)))
        case lt => exact lv_icmp_lt hx hb hdg ht (fun q => k1 (Int32.lt_iff_toInt_lt.mp q)) (fun q => k2 (fun z => q (Int32.lt_iff_toInt_lt.mpr z)))
        case ge => exact lv_icmp_ge hx hb hdg ht (fun q => k1 (Int32.le_iff_toInt_le.mp q)) (fun q => k2 (fun z => q (Int32.le_iff_toInt_le.mpr z)))
        case gt => exact lv_icmp_gt hx hb hdg ht (fun q => k1 (Int32.lt_iff_toInt_lt.mp q)) (fun q => k2 (fun z => q (Int32.lt_iff_toInt_lt.mpr z)))
        case le => exact lv_icmp_le hx hb hdg ht (fun q => k1 (Int32.le_iff_toInt_le.mp q)) (fun q => k2 (fun z => q (Int32.le_iff_toInt_le.mpr z)))
      · cases hF
    · cases hF
  case goto off =>
    simp [rk_len] at hlen; subst hlen
    obtain rfl := Option.some.inj h
    unfold tk_f_goto at hF
    split at hF
    · next hpc =>
      cases hF
      exact lv_goto (tgt := ((pc : Int) + off).toNat) hx hb hdg (by omega) (kk _ (List.mem_singleton.mpr rfl) vals rads H locs ls _ lc hH hR hl hL hS)
    · cases hF
  all_goals exact (tk_nosome (show (none : Option tk_Fn) = some F from h)).elim
end TKQ
