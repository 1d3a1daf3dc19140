theorem rk_num_ok {env : List rk_T} {vals : List Value} {ads : List Nat} {a : rk_V} {v : Value} {k : Nat} (hE : rk_E env vals) (h : rk_g vals ads a v) (hi : rk_num env a = some k) : ∃ x : Int32, v = .int x ∧ ¬ x < 0 ∧ x.toNatClampNeg = k := by
  unfold rk_num at hi
  split at hi
  · next I hI =>
    obtain ⟨x, rfl, h1, h2⟩ := rk_iv_ok hE h hI
    split at hi
    · next hc =>
      cases hi
      have e : x.toInt = I.1 := by omega
      have hc2 : x.toNatClampNeg = I.1.toNat := by rw [← e]; rfl
      exact ⟨x, rfl, by rw [Int32.lt_iff_toInt_lt, Int32.toInt_zero]; omega, hc2⟩
    · cases hi
  · cases hi
theorem rk_cpy_look (d1 d0 : rk_V) (o0 : List (Nat × rk_V)) (sp dp : Nat) (acc : List (Nat × rk_V)) (j : Nat) : ∀ n : Nat, rk_look d1 (rk_cpy d0 o0 sp dp n acc) j = if dp ≤ j ∧ j < dp + n then rk_look d0 o0 (sp + (j - dp)) else rk_look d1 acc j := by
  intro n
  induction n with
  | zero => rw [if_neg (by omega)]; rfl
  | succ n ih =>
    show (if dp + n = j then rk_look d0 o0 (sp + n) else rk_look d1 (rk_cpy d0 o0 sp dp n acc) j) = _
    by_cases e : dp + n = j
    · rw [if_pos e, if_pos (by omega), show j - dp = n by omega]
    · rw [if_neg e, ih]
      by_cases q : dp ≤ j ∧ j < dp + n
      · rw [if_pos q, if_pos (by omega)]
      · rw [if_neg q, if_neg (by omega)]
section RKC
variable {p : Program} {l : Launch} {e : Env} {R : Room} {s : State} {m : MethodId} {args : Array Value} {below : List Frame} {meth : Method} {c : Code} {Q : State → Prop} {cc : ByteArray} {D : va_G} {cl : List vw_C} {Ad : Nat → Prop} {nL : Nat} {vals0 : List Value} {ads0 : List Nat}
variable {tbl xw : List Jvm.Cond} {fty : rk_F} {cln : List String} {own : String} {lk : List (Nat × Nat × Nat × Nat)} {cs : List (Nat × Value)}
set_option maxHeartbeats 4000000 in
theorem rk_copy_ok (hx : p.tables.exec = Jvm.exec) (hb : c.code = cc) (hml : c.maxLocals = nL) (hF : rk_Fr s m args meth D cl Ad tbl xw fty cln own lk cs) (hck : ∀ r ∈ lk, rk_kok tbl own r) (hfr : 1 ≤ R.frames) (hlo : 40 ≤ R.locals) {pc : Nat} {ins : Instr} {len : Nat} {st : rk_S} {res : List (Nat × rk_S)} (hdg : decode cc pc = .ok (ins, len)) (hlen : rk_len ins len = true) (h : rk_copy lk pc ins st = some res) (kk : ∀ q ∈ res, rk_W (rk_KW p l e R s m args below meth c Q) s D cl Ad nL vals0 ads0 q.1 q.2) : rk_W (rk_KW p l e R s m args below meth c Q) s D cl Ad nL vals0 ads0 pc st := by
  obtain ⟨hts, hxw, hown, hK, hA, hcl, hlk, hini, hac, hcs⟩ := hF
  obtain ⟨lo, sk, env, hp, nc, ns⟩ := st
  intro vals ws H locs ls stk lc hG hl hL hS
  dsimp only at hG hL hS ⊢
  cases ins
  case invokestatic idx =>
    simp [rk_len] at hlen; subst hlen
    simp only [rk_copy] at h
    split at h
    · next a0 a1 hlk1 =>
      obtain ⟨w1, w2, w3, w4⟩ := hck _ (rk_lk_mem hlk1) rfl
      split at h
      · next an adp j1 asp j0 r =>
        split at h
        · next hsum =>
          obtain ⟨vn, k1, rfl, gn, hSn⟩ := hS.cons; clear hS; have hS := hSn; clear hSn
          obtain ⟨vd, k2, rfl, gd, hSn⟩ := hS.cons; clear hS; have hS := hSn; clear hSn
          obtain ⟨va1, k3, rfl, ⟨x1, hj1x, rfl⟩, hSn⟩ := hS.cons; clear hS; have hS := hSn; clear hSn
          obtain ⟨vs, k4, rfl, gs, hSn⟩ := hS.cons; clear hS; have hS := hSn; clear hSn
          obtain ⟨va0, k5, rfl, ⟨x0, hj0x, rfl⟩, hSn⟩ := hS.cons; clear hS; have hS := hSn; clear hSn
          rw [rk_sum_ok hG.1 hS] at hsum
          have hnf : nativeFrameWords "java/lang/System" "arraycopy" 5 ≤ 20 := by decide +kernel
          have hlr : (k5.map fun v => v.category).sum + (nativeFrameWords "java/lang/System" "arraycopy" 5 + 11) ≤ R.locals := by omega
          split at h
          · next n dp sp n0 d0 o0 n1 d1 o1 hn hdp hsp hj0 hj1 =>
            split at h
            · next hc =>
              cases h
              obtain ⟨xn, rfl, qn, rfl⟩ := rk_num_ok hG.1 gn hn
              obtain ⟨xd, rfl, qd, rfl⟩ := rk_num_ok hG.1 gd hdp
              obtain ⟨xs, rfl, qs, rfl⟩ := rk_num_ok hG.1 gs hsp
              obtain ⟨e0, hw0, cA0, hA01, hA02, f, rfl, hf⟩ := hG.cell hj0 hj0x
              obtain ⟨e1, hw1, cA1, hA11, hA12, g, rfl, hg⟩ := hG.cell hj1 hj1x
              have hK2 : va_K D cl [(cA0, .int), (cA1, .int)] s := (rk_K1 hK hA01 hA02).app (rk_K1 hK hA11 hA12)
              refine va_copyi (ty := .int) hx hb (by rw [hml]; exact hl.1.symm) hown (hts _ w1) (hts _ w2) (hts _ w3) (hts _ w4) hK2 hG.2.2.1 hG.2.2.2.1 hG.2.2.2.2.1 j0 j1 0 1 hw0 hw1 rfl rfl rfl qs qd qn hc.1 hc.2 (fun _ _ => rfl) hfr hlr hdg (fun H1 locs1 hP1 hD1 hS1 => ?_)
              have hG1 := hG.setc (c' := .inr (.int, n1, d1, rk_cpy d0 o0 xs.toNatClampNeg xd.toNatClampNeg xn.toNatClampNeg o1)) hw1 hP1 hD1 hS1 ⟨cA1, hA11, hA12, _, rfl, fun j => by
                show rk_g vals (ws.map Prod.fst) (rk_look d1 (rk_cpy d0 o0 xs.toNatClampNeg xd.toNatClampNeg xn.toNatClampNeg o1) j) _
                rw [rk_cpy_look]
                split
                · next q => rw [pk_cpy_in q.1 q.2]; exact hf _
                · next q => rw [pk_cpy_out (by omega)]; exact hg _⟩
              refine kk _ (List.mem_singleton.mpr rfl) vals _ H1 locs1 ls _ lc hG1 hl ?_ ?_
              · rw [rk_map_set hw1]; exact hL
              · rw [rk_map_set hw1]; exact hS
            · cases h
          · next n dp sp n0 d0 o0 n1 d1 o1 hn hdp hsp hj0 hj1 =>
            split at h
            · next hc =>
              cases h
              obtain ⟨xn, rfl, qn, rfl⟩ := rk_num_ok hG.1 gn hn
              obtain ⟨xd, rfl, qd, rfl⟩ := rk_num_ok hG.1 gd hdp
              obtain ⟨xs, rfl, qs, rfl⟩ := rk_num_ok hG.1 gs hsp
              obtain ⟨e0, hw0, cA0, hA01, hA02, f, rfl, hf⟩ := hG.cell hj0 hj0x
              obtain ⟨e1, hw1, cA1, hA11, hA12, g, rfl, hg⟩ := hG.cell hj1 hj1x
              have hK2 : va_K D cl [(cA0, .long), (cA1, .long)] s := (rk_K1 hK hA01 hA02).app (rk_K1 hK hA11 hA12)
              refine va_copyl (ty := .long) hx hb (by rw [hml]; exact hl.1.symm) hown (hts _ w1) (hts _ w2) (hts _ w3) (hts _ w4) hK2 hG.2.2.1 hG.2.2.2.1 hG.2.2.2.2.1 j0 j1 0 1 hw0 hw1 rfl rfl rfl qs qd qn hc.1 hc.2 (fun _ _ => rfl) hfr hlr hdg (fun H1 locs1 hP1 hD1 hS1 => ?_)
              have hG1 := hG.setc (c' := .inr (.long, n1, d1, rk_cpy d0 o0 xs.toNatClampNeg xd.toNatClampNeg xn.toNatClampNeg o1)) hw1 hP1 hD1 hS1 ⟨cA1, hA11, hA12, _, rfl, fun j => by
                show rk_g vals (ws.map Prod.fst) (rk_look d1 (rk_cpy d0 o0 xs.toNatClampNeg xd.toNatClampNeg xn.toNatClampNeg o1) j) _
                rw [rk_cpy_look]
                split
                · next q => rw [pk_cpy_in q.1 q.2]; exact hf _
                · next q => rw [pk_cpy_out (by omega)]; exact hg _⟩
              refine kk _ (List.mem_singleton.mpr rfl) vals _ H1 locs1 ls _ lc hG1 hl ?_ ?_
              · rw [rk_map_set hw1]; exact hL
              · rw [rk_map_set hw1]; exact hS
            · cases h
          · cases h
        · cases h
      · cases h
    · cases h
  all_goals (simp [rk_copy] at h)
end RKC
