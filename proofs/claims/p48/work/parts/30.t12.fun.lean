/-! ===== tk: each instruction's function, all of them; it is sound ===== -/
def tk_or (f g : tk_Fn) : tk_Fn := fun st => match f st with
  | some r => some r
  | none => g st
def tk_csti : Option Value → Option Value
  | some (.int x) => some (.int x)
  | _ => none
def tk_cstl : Option Value → Option Value
  | some (.long x) => some (.long x)
  | _ => none
def tk_fun (mods : List (Nat × Nat)) (TY : tk_TT) (fty : rk_F) (mci : List Nat) (call : tk_Ca) (M : rk_M2) (pc : Nat) (ins : Instr) : Option tk_Fn := match ins with
  | .getfield idx => match rk_lk M.2.2.1 idx with
    | some (kd, ci, k) => some (tk_f_get TY (pc + 3) kd ci k)
    | none => none
  | .putfield idx => match rk_lk M.2.2.1 idx with
    | some (kd, ci, k) => some (tk_f_put mods TY fty (pc + 3) kd ci k)
    | none => none
  | .iaload => some (tk_f_ld0 TY (pc + 1))
  | .baload => some (tk_f_ld1 TY (pc + 1))
  | .laload => some (tk_f_ld2 TY (pc + 1))
  | .aaload => some (tk_or (tk_f_ld3 TY (pc + 1)) (tk_f_ld4 TY (pc + 1)))
  | .iastore => some (tk_f_sa0 mods TY (pc + 1))
  | .bastore => some (tk_f_sa1 mods TY (pc + 1))
  | .lastore => some (tk_f_sa2 mods TY (pc + 1))
  | .arraylength => some (tk_f_len TY (pc + 1))
  | .lrem => some (tk_or (tk_f_lrem (pc + 1)) (tk_f_b 1 (pc + 1) (tk_dv (fun env a b => some (tk_lop (fun x y => x - x / y * y) env a b)))))
  | .tableswitch d lo hi offs => some (tk_f_tab pc d lo hi offs.toList)
  | .lookupswitch d ps => some (tk_f_lks pc d ps.toList)
  | .ldc idx => some (tk_f_cst (pc + 2) (tk_csti (rk_cst M.2.2.2.1 idx)))
  | .ldc_w idx => some (tk_f_cst (pc + 3) (tk_csti (rk_cst M.2.2.2.1 idx)))
  | .ldc2_w idx => some (tk_f_cst (pc + 3) (tk_cstl (rk_cst M.2.2.2.1 idx)))
  | .invokevirtual idx => match rk_lk M.2.2.1 idx with
    | some (kd, f, n) => if kd = 5 ∨ kd = 6 then some (tk_f_cv mods TY mci call (pc + 3) f n) else none
    | none => none
  | .invokestatic idx => match rk_lk M.2.2.1 idx with
    | some (kd, f, n) => if kd = 7 ∨ kd = 8 then some (tk_f_cs mods call (pc + 3) f n) else if kd = 12 then some (tk_f_cpy mods TY (pc + 3)) else if kd = 14 then some (tk_f_mm 0 .ge .lt (pc + 3)) else if kd = 15 then some (tk_f_mm 0 .le .gt (pc + 3)) else if kd = 16 then some (tk_f_mm 1 .gt .le (pc + 3)) else if kd = 17 then some (tk_f_abs (pc + 3)) else none
    | none => none
  | ins => tk_pf M.2.1 pc ins
section TKF
variable {p : Program} {l : Launch} {e : Env} {R : Room} {s : State} {m : MethodId} {args : Array Value} {below : List Frame} {meth : Method} {c : Code} {Q : State → Prop} {cc : ByteArray} {D : va_G} {cl : List vw_C} {Ad : Nat → Prop} {vals0 : List Int} {rads0 : List Nat}
variable {mods : List (Nat × Nat)} {ws0 : va_W} {tbl xw : List Jvm.Cond} {fty : rk_F} {cln : List String} {MN : List rk_N} {mci : List Nat} {P : List rk_M2} {own : String} {xt : tk_XT} {TY : tk_TT} {ro : Nat → Nat → Int → Prop} {X : va_W → Prop} {ads tw : List Nat}
set_option maxHeartbeats 8000000 in
theorem tk_fun_ok (hXs : tk_xs TY X ads tw) (hxt : tk_xtok xt) (hXt : xt Ad s s.heap) (hok : rk_ok tbl xw cl fty cln MN mci P) (hx : p.tables.exec = Jvm.exec) (hb : c.code = cc) {M : rk_M2} (hml : c.maxLocals = M.2.1) (hF : rk_Fr s m args meth D cl Ad tbl xw fty cln own M.2.2.1 M.2.2.2.1) (hck : ∀ r ∈ M.2.2.1, rk_cok tbl xw MN P own r) (hkk : ∀ r ∈ M.2.2.1, rk_kok tbl own r) {d : Nat} {call : tk_Ca} (hcall : tk_SC l D cl tbl xw xt MN P TY ro X ads tw d call) (hfr : d + 1 ≤ R.frames) (hlo : 40 * (d + 1) ≤ R.locals) {pc : Nat} {ins : Instr} {len : Nat} {F : tk_Fn} {st : tk_S} {res : List (Nat × tk_S)} (hdg : decode cc pc = .ok (ins, len)) (hlen : rk_len ins len = true) (h : tk_fun mods TY fty mci call M pc ins = some F) (hFs : F st = some res) (kk : ∀ q ∈ res, tk_St (rk_KW p l e R s m args below meth c Q) M.2.1 (tk_hr mods ws0 TY ro X ads tw s D cl Ad vals0 rads0) q.1 q.2) : tk_St (rk_KW p l e R s m args below meth c Q) M.2.1 (tk_hr mods ws0 TY ro X ads tw s D cl Ad vals0 rads0) pc st := by
  have hcs0 := hF
  obtain ⟨hts, hxw, hown, hK, hA, hcl, hlk, hini, hac, hcs⟩ := hcs0
  cases ins
  case getfield idx =>
    simp [rk_len] at hlen; subst hlen
    change (match rk_lk M.2.2.1 idx with
      | some (kd, ci, k) => some (tk_f_get TY (pc + 3) kd ci k)
      | none => none) = some F at h
    split at h
    · next kd ci k hlk1 =>
      obtain rfl := Option.some.inj h
      exact tk_get_ok hx hb hF hlk1 hdg hFs kk
    · cases h
  case putfield idx =>
    simp [rk_len] at hlen; subst hlen
    change (match rk_lk M.2.2.1 idx with
      | some (kd, ci, k) => some (tk_f_put mods TY fty (pc + 3) kd ci k)
      | none => none) = some F at h
    split at h
    · next kd ci k hlk1 =>
      obtain rfl := Option.some.inj h
      exact tk_put_ok hx hb hF hlk1 hdg hXs hFs kk
    · cases h
  case iaload => simp [rk_len] at hlen; subst hlen; obtain rfl := Option.some.inj h; exact tk_ld0_ok hx hb hF hdg hFs kk
  case baload => simp [rk_len] at hlen; subst hlen; obtain rfl := Option.some.inj h; exact tk_ld1_ok hx hb hF hdg hFs kk
  case laload => simp [rk_len] at hlen; subst hlen; obtain rfl := Option.some.inj h; exact tk_ld2_ok hx hb hF hdg hFs kk
  case aaload =>
    simp [rk_len] at hlen; subst hlen
    obtain rfl := Option.some.inj h
    unfold tk_or at hFs
    split at hFs
    · next r hr => cases hFs; exact tk_ld3_ok hx hb hF hdg hr kk
    · exact tk_ld4_ok hx hb hF hdg hFs kk
  case iastore => simp [rk_len] at hlen; subst hlen; obtain rfl := Option.some.inj h; exact tk_sa0_ok hx hb hF hdg hXs hFs kk
  case bastore => simp [rk_len] at hlen; subst hlen; obtain rfl := Option.some.inj h; exact tk_sa1_ok hx hb hF hdg hXs hFs kk
  case lastore => simp [rk_len] at hlen; subst hlen; obtain rfl := Option.some.inj h; exact tk_sa2_ok hx hb hF hdg hXs hFs kk
  case lrem =>
    simp [rk_len] at hlen; subst hlen
    obtain rfl := Option.some.inj h
    unfold tk_or at hFs
    split at hFs
    · next r hr => cases hFs; exact tk_lrem_ok hx hb tk_hr_gr hdg hr kk
    · exact tk_pf_ok (ins := .lrem) (len := 1) hx hb tk_hr_gr hdg rfl rfl hFs kk
  case arraylength => simp [rk_len] at hlen; subst hlen; obtain rfl := Option.some.inj h; exact tk_len_ok hx hb hF hdg hFs kk
  case tableswitch dd lo hi offs => obtain rfl := Option.some.inj h; exact tk_tab_ok hx hb hdg hFs kk
  case lookupswitch dd ps => obtain rfl := Option.some.inj h; exact tk_lks_ok hx hb hdg hFs kk
  case invokevirtual idx =>
    simp [rk_len] at hlen; subst hlen
    change (match rk_lk M.2.2.1 idx with
      | some (kd, f, n) => if kd = 5 ∨ kd = 6 then some (tk_f_cv mods TY mci call (pc + 3) f n) else none
      | none => none) = some F at h
    split at h
    · next kd f n hlk1 =>
      split at h
      · next hkd =>
        obtain rfl := Option.some.inj h
        exact tk_cv_ok hxt hXt hok hx hb hml hF hck hcall hfr hlo hlk1 hkd hdg hFs kk
      · cases h
    · cases h
  case invokestatic idx =>
    simp [rk_len] at hlen; subst hlen
    change (match rk_lk M.2.2.1 idx with
      | some (kd, f, n) => if kd = 7 ∨ kd = 8 then some (tk_f_cs mods call (pc + 3) f n) else if kd = 12 then some (tk_f_cpy mods TY (pc + 3)) else if kd = 14 then some (tk_f_mm 0 .ge .lt (pc + 3)) else if kd = 15 then some (tk_f_mm 0 .le .gt (pc + 3)) else if kd = 16 then some (tk_f_mm 1 .gt .le (pc + 3)) else if kd = 17 then some (tk_f_abs (pc + 3)) else none
      | none => none) = some F at h
    split at h
    · next kd f n hlk1 =>
      split at h
      · next hkd =>
        obtain rfl := Option.some.inj h
        exact tk_cs_ok hxt hXt hok hx hb hml hF hck hcall hfr hlo hlk1 hkd hdg hFs kk
      · have hfr1 : 1 ≤ R.frames := by omega
        have hlo1 : 40 ≤ R.locals := by omega
        split at h
        · next e => subst e; obtain rfl := Option.some.inj h; exact tk_cpy_ok hx hb hml hF hfr1 hlo1 hkk hlk1 hdg hXs hFs kk
        · split at h
          · next e => subst e; obtain rfl := Option.some.inj h; exact tk_mm_i hx hb hml hF hfr1 hlo1 hlk1 hdg hFs kk
          · split at h
            · next e => subst e; obtain rfl := Option.some.inj h; exact tk_mn_i hx hb hml hF hfr1 hlo1 hlk1 hdg hFs kk
            · split at h
              · next e => subst e; obtain rfl := Option.some.inj h; exact tk_mm_l hx hb hml hF hfr1 hlo1 hlk1 hdg hFs kk
              · split at h
                · next e => subst e; obtain rfl := Option.some.inj h; exact tk_abs_i hx hb hml hF hfr1 hlo1 hlk1 hdg hFs kk
                · cases h
    · cases h
  case ldc idx =>
    simp [rk_len] at hlen; subst hlen
    obtain rfl := Option.some.inj h
    obtain ⟨lo, sk, w, rest⟩ := st
    intro vals rads H locs ls stk lc hH hR hl hL hS
    cases hc1 : rk_cst M.2.2.2.1 idx with
    | none => rw [hc1] at hFs; exact (tk_nosome (show (none : tk_R) = some res from hFs)).elim
    | some v =>
      rw [hc1] at hFs
      cases v with
      | int x =>
        obtain rfl := Option.some.inj hFs
        exact lv_ldc hx hb hown (hts _ ((hcs _ (rk_cst_mem hc1)).1 x rfl)) hdg (kk _ (List.mem_singleton.mpr rfl) vals rads H locs ls _ lc hH hR hl hL ⟨tk_gi rfl rfl, hS⟩)
      | _ => exact (tk_nosome (show (none : tk_R) = some res from hFs)).elim
  case ldc_w idx =>
    simp [rk_len] at hlen; subst hlen
    obtain rfl := Option.some.inj h
    obtain ⟨lo, sk, w, rest⟩ := st
    intro vals rads H locs ls stk lc hH hR hl hL hS
    cases hc1 : rk_cst M.2.2.2.1 idx with
    | none => rw [hc1] at hFs; exact (tk_nosome (show (none : tk_R) = some res from hFs)).elim
    | some v =>
      rw [hc1] at hFs
      cases v with
      | int x =>
        obtain rfl := Option.some.inj hFs
        exact lv_ldcw hx hb hown (hts _ ((hcs _ (rk_cst_mem hc1)).1 x rfl)) hdg (kk _ (List.mem_singleton.mpr rfl) vals rads H locs ls _ lc hH hR hl hL ⟨tk_gi rfl rfl, hS⟩)
      | _ => exact (tk_nosome (show (none : tk_R) = some res from hFs)).elim
  case ldc2_w idx =>
    simp [rk_len] at hlen; subst hlen
    obtain rfl := Option.some.inj h
    obtain ⟨lo, sk, w, rest⟩ := st
    intro vals rads H locs ls stk lc hH hR hl hL hS
    cases hc1 : rk_cst M.2.2.2.1 idx with
    | none => rw [hc1] at hFs; exact (tk_nosome (show (none : tk_R) = some res from hFs)).elim
    | some v =>
      rw [hc1] at hFs
      cases v with
      | long x =>
        obtain rfl := Option.some.inj hFs
        exact lv_ldc2 hx hb hown (hts _ ((hcs _ (rk_cst_mem hc1)).2 x rfl)) hdg (kk _ (List.mem_singleton.mpr rfl) vals rads H locs ls _ lc hH hR hl hL ⟨tk_gl rfl rfl, hS⟩)
      | _ => exact (tk_nosome (show (none : tk_R) = some res from hFs)).elim
  all_goals exact tk_pf_ok hx hb tk_hr_gr hdg hlen h hFs kk
end TKF
