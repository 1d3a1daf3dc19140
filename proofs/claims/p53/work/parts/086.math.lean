/-! ===== rk: Math.max, min, abs are sound ===== -/
theorem rk_s_max : rk_sound2 (fun x y => if x < y then y else x) rk_imax := by
  intro x y I J h1 h2 h3 h4
  unfold rk_imax
  dsimp only
  split
  · next h =>
    have := Int32.lt_iff_toInt_lt.mp h
    omega
  · next h =>
    have : ¬ x.toInt < y.toInt := fun q => h (Int32.lt_iff_toInt_lt.mpr q)
    omega
theorem rk_s_min : rk_sound2 (fun x y => if y < x then y else x) rk_imin := by
  intro x y I J h1 h2 h3 h4
  unfold rk_imin
  dsimp only
  split
  · next h =>
    have := Int32.lt_iff_toInt_lt.mp h
    omega
  · next h =>
    have : ¬ y.toInt < x.toInt := fun q => h (Int32.lt_iff_toInt_lt.mpr q)
    omega
section RKMA
variable {p : Program} {l : Launch} {e : Env} {R : Room} {s : State} {m : MethodId} {args : Array Value} {below : List Frame} {meth : Method} {c : Code} {Q : State → Prop} {cc : ByteArray} {D : va_G} {cl : List vw_C} {Ad : Nat → Prop} {nL : Nat} {vals0 : List Value} {ads0 : List Nat}
variable {tbl xw : List Jvm.Cond} {fty : rk_F} {cln : List String} {own : String} {lk : List (Nat × Nat × Nat × Nat)} {cs : List (Nat × Value)}
set_option maxHeartbeats 4000000 in
theorem rk_math_ok (hx : p.tables.exec = Jvm.exec) (hb : c.code = cc) (hml : c.maxLocals = nL) (hF : rk_Fr s m args meth D cl Ad tbl xw fty cln own lk cs) (hfr : 1 ≤ R.frames) (hlo : 40 ≤ R.locals) {pc : Nat} {ins : Instr} {len : Nat} {st : rk_S} {res : List (Nat × rk_S)} (hdg : decode cc pc = .ok (ins, len)) (hlen : rk_len ins len = true) (h : rk_math lk pc ins st = some res) (hroom : ∀ q ∈ res, q.2.2.2.2.2.1 ≤ R.cells ∧ q.2.2.2.2.2.2 ≤ R.slots) (kk : ∀ q ∈ res, rk_W (rk_KW p l e R s m args below meth c Q) s D cl Ad nL vals0 ads0 q.1 q.2) : rk_W (rk_KW p l e R s m args below meth c Q) s D cl Ad nL vals0 ads0 pc st := by
  obtain ⟨hts, hxw, hown, hK, hA, hcl, hlk, hini, hac, hcs⟩ := hF
  obtain ⟨lo, sk, env, hp, nc, ns⟩ := st
  intro vals ws H locs ls stk lc hG hl hL hS
  dsimp only at hG hL hS ⊢
  cases ins
  case invokestatic idx =>
    simp [rk_len] at hlen; subst hlen
    simp only [rk_math] at h
    split at h
    · next a0 a1 hlk1 =>
      obtain ⟨w1, w2, w3, w4⟩ := hlk _ (rk_lk_mem hlk1)
      split at h
      · next b a r =>
        split at h
        · next hsum =>
          unfold rk_op2 at h
          split at h
          · next q hq =>
            cases h
            obtain ⟨vb, k1, rfl, gb, hSn⟩ := hS.cons; clear hS; have hS := hSn; clear hSn
            obtain ⟨va, k2, rfl, ga, hSn⟩ := hS.cons; clear hS; have hS := hSn; clear hSn
            rw [rk_sum_ok hG.1 hS] at hsum
            obtain ⟨x, y, k3, rfl, rfl, hE2, hg2⟩ := rk_bin_ok rk_s_max hG.1 ga gb hq
            have hrm := hroom _ (List.mem_singleton.mpr rfl)
            refine va_mmax hx hb (by rw [hml]; exact hl.1.symm) hown (hts _ w1) (hts _ w2) (hts _ w3) (hts _ w4) hfr (by omega) hrm.1 hrm.2 hdg ?_
            exact kk _ (List.mem_singleton.mpr rfl) (vals ++ k3) ws H locs ls _ lc (hG.env hE2) hl (hL.grow k3) ⟨hg2, rk_skG hS k3⟩
          · cases h
        · cases h
      · cases h
    · next a0 a1 hlk1 =>
      obtain ⟨w1, w2, w3, w4⟩ := hlk _ (rk_lk_mem hlk1)
      split at h
      · next b a r =>
        split at h
        · next hsum =>
          unfold rk_op2 at h
          split at h
          · next q hq =>
            cases h
            obtain ⟨vb, k1, rfl, gb, hSn⟩ := hS.cons; clear hS; have hS := hSn; clear hSn
            obtain ⟨va, k2, rfl, ga, hSn⟩ := hS.cons; clear hS; have hS := hSn; clear hSn
            rw [rk_sum_ok hG.1 hS] at hsum
            obtain ⟨x, y, k3, rfl, rfl, hE2, hg2⟩ := rk_bin_ok rk_s_min hG.1 ga gb hq
            have hrm := hroom _ (List.mem_singleton.mpr rfl)
            refine va_mmin hx hb (by rw [hml]; exact hl.1.symm) hown (hts _ w1) (hts _ w2) (hts _ w3) (hts _ w4) hfr (by omega) hrm.1 hrm.2 hdg ?_
            exact kk _ (List.mem_singleton.mpr rfl) (vals ++ k3) ws H locs ls _ lc (hG.env hE2) hl (hL.grow k3) ⟨hg2, rk_skG hS k3⟩
          · cases h
        · cases h
      · cases h
    · next a0 a1 hlk1 =>
      obtain ⟨w1, w2, w3, w4⟩ := hlk _ (rk_lk_mem hlk1)
      split at h
      · next b a r =>
        split at h
        · next hsum =>
          unfold rk_op2 at h
          split at h
          · next q hq =>
            cases h
            obtain ⟨vb, k1, rfl, gb, hSn⟩ := hS.cons; clear hS; have hS := hSn; clear hSn
            obtain ⟨va, k2, rfl, ga, hSn⟩ := hS.cons; clear hS; have hS := hSn; clear hSn
            rw [rk_sum_ok hG.1 hS] at hsum
            obtain ⟨x, y, k3, rfl, rfl, hE2, hg2⟩ := rk_lbin_ok hG.1 ga gb hq
            have hrm := hroom _ (List.mem_singleton.mpr rfl)
            refine va_mmax_long hx hb (by rw [hml]; exact hl.1.symm) hown (hts _ w1) (hts _ w2) (hts _ w3) (hts _ w4) hfr (by omega) hrm.1 hrm.2 hdg ?_
            exact kk _ (List.mem_singleton.mpr rfl) (vals ++ k3) ws H locs ls _ lc (hG.env hE2) hl (hL.grow k3) ⟨hg2, rk_skG hS k3⟩
          · cases h
        · cases h
      · cases h
    · next a0 a1 hlk1 =>
      obtain ⟨w1, w2, w3, w4⟩ := hlk _ (rk_lk_mem hlk1)
      split at h
      · next a r =>
        split at h
        · next hsum =>
          unfold rk_op2 at h
          split at h
          · next q hq =>
            cases h
            obtain ⟨va, k2, rfl, ga, hSn⟩ := hS.cons; clear hS; have hS := hSn; clear hSn
            rw [rk_sum_ok hG.1 hS] at hsum
            obtain ⟨x, k3, rfl, hE2, hg2⟩ := rk_un_ok (fun x => rk_full_ok _) hG.1 ga hq
            have hrm := hroom _ (List.mem_singleton.mpr rfl)
            refine va_mabs hx hb (by rw [hml]; exact hl.1.symm) hown (hts _ w1) (hts _ w2) (hts _ w3) (hts _ w4) hfr (by omega) hrm.1 hrm.2 hdg ?_
            exact kk _ (List.mem_singleton.mpr rfl) (vals ++ k3) ws H locs ls _ lc (hG.env hE2) hl (hL.grow k3) ⟨hg2, rk_skG hS k3⟩
          · cases h
        · cases h
      · cases h
    · cases h
  all_goals (simp [rk_math] at h)
end RKMA
