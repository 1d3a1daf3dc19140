/-! ===== hx: fx over a part of a world: the memory first, addresses of other cells behind it ===== -/
def hx_ok (U : State) (ps : fx_P) (mem : fx_M) : Prop := mem.length ≤ ps.length ∧ ∀ (j : Nat) (q : Nat × ClassId) (ty : FieldType) (z : vp_A), ps[j]? = some q → mem[j]? = some (.inr (ty, z)) → ArrOfT U q.2 ty ∧ va_RA U q.2 ty
theorem hx_w_get {U : State} {ps : fx_P} {mem : fx_M} (h : hx_ok U ps mem) {j : Nat} {e : fx_E} (hj : mem[j]? = some e) : ∃ q, ps[j]? = some q ∧ fx_ad ps j = q.1 ∧ (fx_w ps mem)[j]? = some (q.1, fx_c ps q.2 e) := by
  have hlt : j < ps.length := Nat.lt_of_lt_of_le (List.getElem?_eq_some_iff.mp hj).1 h.1
  have hq : ps[j]? = some ps[j] := List.getElem?_eq_getElem hlt
  refine ⟨ps[j], hq, ?_, ?_⟩
  · unfold fx_ad
    rw [hq]
  · unfold fx_w
    rw [List.getElem?_zipWith, hq, hj]
theorem hx_ok_obj {U : State} {ps : fx_P} {mem : fx_M} (h : hx_ok U ps mem) (j : Nat) (o : Nat × List Value) : hx_ok U ps (mem.set j (.inl o)) := by
  refine ⟨by rw [List.length_set]; exact h.1, fun i q ty z hq hm => ?_⟩
  rw [List.getElem?_set] at hm
  split at hm
  · split at hm <;> cases hm
  · exact h.2 i q ty z hq hm
theorem hx_ok_arr {U : State} {ps : fx_P} {mem : fx_M} (h : hx_ok U ps mem) {j : Nat} {ty : FieldType} {z z' : vp_A} (hj : mem[j]? = some (.inr (ty, z))) : hx_ok U ps (mem.set j (.inr (ty, z'))) := by
  refine ⟨by rw [List.length_set]; exact h.1, fun i q ty2 z2 hq hm => ?_⟩
  rw [List.getElem?_set] at hm
  split at hm
  · next e =>
    subst e
    split at hm
    · cases hm
      exact h.2 _ _ _ _ hq hj
    · cases hm
  · exact h.2 i q ty2 z2 hq hm
section HXM
variable {p : Program} {l : Launch} {e : Env} {R : Room} {s : State} {m : MethodId} {args : Array Value} {below : List Frame} {meth : Method} {c : Code} {Q : State → Prop} {cc : ByteArray} {D : va_G} {cl : List vw_C} {Ad : Nat → Prop} {tbl xw : List Jvm.Cond} {fty : rk_F} {cln : List String} {own : String}
theorem hx_arr {lk : List (Nat × Nat × Nat × Nat)} {cs : List (Nat × Value)} (hF : rk_Fr s m args meth D cl Ad tbl xw fty cln own lk cs) {ps : fx_P} {mem : fx_M} (hO : hx_ok s ps mem) {j : Nat} {ty : FieldType} {z : vp_A} (hj : mem[j]? = some (.inr (ty, z))) : ∃ q, ps[j]? = some q ∧ fx_ad ps j = q.1 ∧ (fx_w ps mem)[j]? = some (q.1, .inl (q.2, fx_z ps z)) ∧ va_K D cl [(q.2, ty)] s := by
  obtain ⟨q, h1, h2, h3⟩ := hx_w_get hO hj
  obtain ⟨g1, g2⟩ := hO.2 j q ty z h1 hj
  exact ⟨q, h1, h2, h3, rk_K1 hF.2.2.2.1 g1 g2⟩
set_option maxHeartbeats 8000000 in
theorem hx_mem_ok {M : rk_M2} (hx : p.tables.exec = Jvm.exec) (hb : c.code = cc) (hml : c.maxLocals = M.2.1) (hF : rk_Fr s m args meth D cl Ad tbl xw fty cln own M.2.2.1 M.2.2.2.1) (hfr : 1 ≤ R.frames) (hlo : 40 ≤ R.locals) {pc : Nat} {ins : Instr} {len : Nat} (hdg : decode cc pc = .ok (ins, len)) (hlen : rk_len ins len = true) {ps : fx_P} {lc : fx_L} {stk : List Value} {mem : fx_M} {zz : Nat × fx_L × List Value × fx_M} (h : fx_mem fty M pc ins lc stk mem = some zz) (hO : hx_ok s ps mem) {H : Heap} {locs : List Loc} {ls : Array Slot} (hP : va_P D cl (fx_w ps mem) H) (hD : va_D Ad (fx_w ps mem)) (hS : va_S Ad s.heap H locs) (hl : lv_has ls M.2.1 (fx_lm ps lc)) (kk : ∀ (H' : Heap) (locs' : List Loc) (ls' : Array Slot), hx_ok s ps zz.2.2.2 → va_P D cl (fx_w ps zz.2.2.2) H' → va_D Ad (fx_w ps zz.2.2.2) → va_S Ad s.heap H' locs' → lv_has ls' M.2.1 (fx_lm ps zz.2.1) → rk_KW p l e R s m args below meth c Q zz.1 ls' (zz.2.2.1.map (fx_v ps)) H' locs' 0 0) : rk_KW p l e R s m args below meth c Q pc ls (stk.map (fx_v ps)) H locs 0 0 := by
  have hF0 := hF
  obtain ⟨hts, hxw, hown, hK, hA, hcl, hlk, hini, hac, hcs⟩ := hF0
  cases ins
  case getfield idx =>
    simp [rk_len] at hlen; subst hlen
    change (match rk_lk M.2.2.1 idx with
      | some q => fx_gf (pc + 3) q.1 q.2.1 q.2.2
      | none => fx_none) lc stk mem = some zz at h
    cases hlk1 : rk_lk M.2.2.1 idx with
    | none => rw [hlk1] at h; exact fx_nos h
    | some q =>
      rw [hlk1] at h
      obtain ⟨kd, ci, k⟩ := q
      change fx_gf (pc + 3) kd ci k lc stk mem = some zz at h
      unfold fx_gf at h
      split at h
      · next j r =>
        split at h
        · next o hj =>
          cases hc : (Nat.ble kd 2 && Nat.beq o.1 ci) with
          | false => rw [hc] at h; exact fx_nos h
          | true =>
            rw [hc] at h
            dsimp only [cond] at h
            rw [Bool.and_eq_true] at hc
            have hkd := Nat.le_of_ble_eq_true hc.1
            have hci := Nat.eq_of_beq_eq_true hc.2
            obtain ⟨ci2, vs⟩ := o
            dsimp only at hci
            subst hci
            split at h
            · next v hv =>
              obtain rfl := Option.some.inj h
              obtain ⟨q, h1, h2, h3⟩ := hx_w_get hO hj
              have hw : (fx_w ps mem)[j]? = some (fx_ad ps j, .inr (ci2, vs.map (fx_v ps))) := by rw [h2]; exact h3
              have hv2 : (vs.map (fx_v ps))[k]? = some (fx_v ps v) := by rw [List.getElem?_map, hv]; rfl
              have fin := kk H locs ls hO hP hD hS hl
              have hr := hlk _ (rk_lk_mem hlk1)
              show rk_KW p l e R s m args below meth c Q pc ls (.ref (fx_ad ps j) :: r.map (fx_v ps)) H locs 0 0
              rcases (show kd = 0 ∨ kd = 1 ∨ kd = 2 by omega) with rfl | rfl | rfl
              · obtain ⟨q, hq, hkN, hm⟩ := hr
                exact va_get (C := q.1) (T := q.2.1) (N := q.2.2) hx hb hts (hcl _ _ hq).1 hown hK hP j hw hq k hkN (hts _ hm) (fun _ h9 => h9) hv2 hdg fin
              · obtain ⟨q, host, hq, hkN, hm⟩ := hr
                exact va_getN (C := q.1) (T := q.2.1) (N := q.2.2) hx hb hts (hcl _ _ hq).1 hown hK hP j hw hq k hkN (va_Nw.use rfl (hxw _ hm)) (fun _ h9 => h9) hv2 hdg fin
              · obtain ⟨q, hq, hkN, hm, -⟩ := hr
                exact va_get (C := q.1) (T := q.2.1) (N := q.2.2) hx hb hts (hcl _ _ hq).1 hown hK hP j hw hq k hkN (hts _ hm) (fun _ h9 => h9) hv2 hdg fin
            · exact fx_nos h
        · exact fx_nos h
      · exact fx_nos h
  case putfield idx =>
    simp [rk_len] at hlen; subst hlen
    change (match rk_lk M.2.2.1 idx with
      | some q => fx_pf fty (pc + 3) q.1 q.2.1 q.2.2
      | none => fx_none) lc stk mem = some zz at h
    cases hlk1 : rk_lk M.2.2.1 idx with
    | none => rw [hlk1] at h; exact fx_nos h
    | some q =>
      rw [hlk1] at h
      obtain ⟨kd, ci, k⟩ := q
      change fx_pf fty (pc + 3) kd ci k lc stk mem = some zz at h
      unfold fx_pf at h
      split at h
      · next v j r =>
        split at h
        · next o ft hj hft =>
          obtain ⟨hc, rfl⟩ := fx_if_inv h
          rw [Bool.and_eq_true, Bool.and_eq_true, Bool.and_eq_true, Bool.and_eq_true] at hc
          obtain ⟨c1, c2, c3, c4, c5⟩ := hc
          have hkd := Nat.le_of_ble_eq_true c1
          have hci := Nat.eq_of_beq_eq_true c2
          have hkl : k < o.2.length := Nat.le_of_ble_eq_true c3
          have hft2 : ft.2 = false := by
            cases hz : ft.2 with
            | false => rfl
            | true => rw [hz] at c5; cases c5
          obtain ⟨ci2, vs⟩ := o
          dsimp only at hci hkl hj
          subst hci
          obtain ⟨hv1, hn, hfi⟩ := fx_vt_ok (ps := ps) c4
          obtain ⟨q, h1, h2, h3⟩ := hx_w_get hO hj
          have hw : (fx_w ps mem)[j]? = some (fx_ad ps j, .inr (ci2, vs.map (fx_v ps))) := by rw [h2]; exact h3
          have eset : fx_w ps (mem.set j (.inl (ci2, vs.set k v))) = (fx_w ps mem).set j (fx_ad ps j, .inr (ci2, (vs.map (fx_v ps)).set k v)) := by
            rw [fx_w_set ps mem j _ q h1, h2]
            show (fx_w ps mem).set j (q.1, .inr (ci2, (vs.set k v).map (fx_v ps))) = _
            rw [List.map_set, hv1]
          have fin : ∀ (H1 : Heap) (locs1 : List Loc), va_P D cl ((fx_w ps mem).set j (fx_ad ps j, .inr (ci2, (vs.map (fx_v ps)).set k v))) H1 → va_D Ad ((fx_w ps mem).set j (fx_ad ps j, .inr (ci2, (vs.map (fx_v ps)).set k v))) → va_S Ad s.heap H1 locs1 → rk_KW p l e R s m args below meth c Q (pc + 3) ls (r.map (fx_v ps)) H1 locs1 0 0 := fun H1 locs1 g1 g2 g3 => kk H1 locs1 ls (hx_ok_obj hO _ _) (by rw [eset]; exact g1) (by rw [eset]; exact g2) g3 hl
          show rk_KW p l e R s m args below meth c Q pc ls (fx_v ps v :: .ref (fx_ad ps j) :: r.map (fx_v ps)) H locs 0 0
          rw [hv1]
          have hr := hlk _ (rk_lk_mem hlk1)
          obtain ⟨tf, htf, htk⟩ := Option.bind_eq_some_iff.mp hft
          have hkl2 : k < (vs.map (fx_v ps)).length := by rw [List.length_map]; exact hkl
          rcases (show kd = 0 ∨ kd = 1 by omega) with rfl | rfl
          · obtain ⟨q, hq, hkN, hm1⟩ := hr
            obtain ⟨d1, d2, -, tf', htf', hlenT, hT2⟩ := hcl _ _ hq
            cases htf.symm.trans htf'
            obtain ⟨t1, t2⟩ := hT2 k ft htk
            exact va_put (C := q.1) (T := q.2.1) (N := q.2.2) hx hb hts d1 _ (rk_ty hlenT hT2) d2 hown hK hP hD hS j hw hq k hkN (hts _ hm1) (fun _ h9 => h9) (t2.trans hft2) t1 hn hfi hkl2 hdg fin
          · obtain ⟨q, host, hq, hkN, hm1⟩ := hr
            obtain ⟨d1, d2, -, tf', htf', hlenT, hT2⟩ := hcl _ _ hq
            cases htf.symm.trans htf'
            obtain ⟨t1, t2⟩ := hT2 k ft htk
            exact va_putN (C := q.1) (T := q.2.1) (N := q.2.2) hx hb hts d1 _ (rk_ty hlenT hT2) d2 hown hK hP hD hS j hw hq k hkN (va_Nw.use rfl (hxw _ hm1)) (fun _ h9 => h9) (t2.trans hft2) t1 hn hfi hkl2 hdg fin
        · exact fx_nos h
      · exact fx_nos h
  case iaload =>
    simp [rk_len] at hlen; subst hlen
    change fx_ia (pc + 1) lc stk mem = some zz at h
    unfold fx_ia at h
    split at h
    · next i j r =>
      split at h
      · next n f hj =>
        obtain ⟨hc, rfl⟩ := fx_if_inv h
        obtain ⟨q, h1, h2, h3, h4⟩ := hx_arr hF hO hj
        show rk_KW p l e R s m args below meth c Q pc ls (.int i :: .ref (fx_ad ps j) :: r.map (fx_v ps)) H locs 0 0
        rw [h2]
        exact va_iald hx hb h4 hP j 0 h3 rfl (fx_in_ok hc) hdg (kk H locs ls hO hP hD hS hl)
      · exact fx_nos h
    · exact fx_nos h
  case baload =>
    simp [rk_len] at hlen; subst hlen
    change fx_ba (pc + 1) lc stk mem = some zz at h
    unfold fx_ba at h
    split at h
    · next i j r =>
      split at h
      · next n f hj =>
        obtain ⟨hc, rfl⟩ := fx_if_inv h
        obtain ⟨q, h1, h2, h3, h4⟩ := hx_arr hF hO hj
        show rk_KW p l e R s m args below meth c Q pc ls (.int i :: .ref (fx_ad ps j) :: r.map (fx_v ps)) H locs 0 0
        rw [h2]
        exact va_bald hx hb h4 hP j 0 h3 rfl (fx_in_ok hc) hdg (kk H locs ls hO hP hD hS hl)
      · exact fx_nos h
    · exact fx_nos h
  case laload =>
    simp [rk_len] at hlen; subst hlen
    change fx_la (pc + 1) lc stk mem = some zz at h
    unfold fx_la at h
    split at h
    · next i j r =>
      split at h
      · next n f hj =>
        obtain ⟨hc, rfl⟩ := fx_if_inv h
        obtain ⟨q, h1, h2, h3, h4⟩ := hx_arr hF hO hj
        show rk_KW p l e R s m args below meth c Q pc ls (.int i :: .ref (fx_ad ps j) :: r.map (fx_v ps)) H locs 0 0
        rw [h2]
        exact va_lald hx hb h4 hP j 0 h3 rfl (fx_in_ok hc) hdg (kk H locs ls hO hP hD hS hl)
      · exact fx_nos h
    · exact fx_nos h
  case iastore =>
    simp [rk_len] at hlen; subst hlen
    change fx_is (pc + 1) lc stk mem = some zz at h
    unfold fx_is at h
    split at h
    · next v i j r =>
      split at h
      · next n f hj =>
        obtain ⟨hc, rfl⟩ := fx_if_inv h
        obtain ⟨q, h1, h2, h3, h4⟩ := hx_arr hF hO hj
        have eset : fx_w ps (mem.set j (.inr (.int, n, .inl (upd f i.toNatClampNeg v)))) = (fx_w ps mem).set j (q.1, .inl (q.2, n, .inl (upd f i.toNatClampNeg v))) := fx_w_set ps mem j _ q h1
        show rk_KW p l e R s m args below meth c Q pc ls (.int v :: .int i :: .ref (fx_ad ps j) :: r.map (fx_v ps)) H locs 0 0
        rw [h2]
        refine va_iast hx hb h4 hP hD hS j 0 h3 rfl (fx_in_ok hc) hdg (fun H1 locs1 hP1 hD1 hS1 => ?_)
        exact kk H1 locs1 ls (hx_ok_arr hO hj) (by rw [eset]; exact hP1) (by rw [eset]; exact hD1) hS1 hl
      · exact fx_nos h
    · exact fx_nos h
  case bastore =>
    simp [rk_len] at hlen; subst hlen
    change fx_bs (pc + 1) lc stk mem = some zz at h
    unfold fx_bs at h
    split at h
    · next v i j r =>
      split at h
      · next n f hj =>
        obtain ⟨hc, rfl⟩ := fx_if_inv h
        obtain ⟨q, h1, h2, h3, h4⟩ := hx_arr hF hO hj
        have eset : fx_w ps (mem.set j (.inr (.byte, n, .inl (upd f i.toNatClampNeg v.toInt8.toInt32)))) = (fx_w ps mem).set j (q.1, .inl (q.2, n, .inl (upd f i.toNatClampNeg v.toInt8.toInt32))) := fx_w_set ps mem j _ q h1
        show rk_KW p l e R s m args below meth c Q pc ls (.int v :: .int i :: .ref (fx_ad ps j) :: r.map (fx_v ps)) H locs 0 0
        rw [h2]
        refine va_bast hx hb h4 hP hD hS j 0 h3 rfl (fx_in_ok hc) hdg (fun H1 locs1 hP1 hD1 hS1 => ?_)
        exact kk H1 locs1 ls (hx_ok_arr hO hj) (by rw [eset]; exact hP1) (by rw [eset]; exact hD1) hS1 hl
      · exact fx_nos h
    · exact fx_nos h
  case lastore =>
    simp [rk_len] at hlen; subst hlen
    change fx_ls (pc + 1) lc stk mem = some zz at h
    unfold fx_ls at h
    split at h
    · next v i j r =>
      split at h
      · next n f hj =>
        obtain ⟨hc, rfl⟩ := fx_if_inv h
        obtain ⟨q, h1, h2, h3, h4⟩ := hx_arr hF hO hj
        have eset : fx_w ps (mem.set j (.inr (.long, n, .inr (.inl (vp_updL f i.toNatClampNeg v))))) = (fx_w ps mem).set j (q.1, .inl (q.2, n, .inr (.inl (vp_updL f i.toNatClampNeg v)))) := fx_w_set ps mem j _ q h1
        show rk_KW p l e R s m args below meth c Q pc ls (.long v :: .int i :: .ref (fx_ad ps j) :: r.map (fx_v ps)) H locs 0 0
        rw [h2]
        refine va_last hx hb h4 hP hD hS j 0 h3 rfl (fx_in_ok hc) hdg (fun H1 locs1 hP1 hD1 hS1 => ?_)
        exact kk H1 locs1 ls (hx_ok_arr hO hj) (by rw [eset]; exact hP1) (by rw [eset]; exact hD1) hS1 hl
      · exact fx_nos h
    · exact fx_nos h
  case ldc idx =>
    simp [rk_len] at hlen; subst hlen
    change fx_ct (pc + 2) (tk_csti (rk_cst M.2.2.2.1 idx)) lc stk mem = some zz at h
    cases hc1 : rk_cst M.2.2.2.1 idx with
    | none => rw [hc1] at h; exact fx_nos h
    | some v =>
      rw [hc1] at h
      cases v with
      | int x =>
        obtain rfl := Option.some.inj h
        exact lv_ldc hx hb hown (hts _ ((hcs _ (rk_cst_mem hc1)).1 x rfl)) hdg (kk H locs ls hO hP hD hS hl)
      | _ => exact fx_nos h
  case ldc_w idx =>
    simp [rk_len] at hlen; subst hlen
    change fx_ct (pc + 3) (tk_csti (rk_cst M.2.2.2.1 idx)) lc stk mem = some zz at h
    cases hc1 : rk_cst M.2.2.2.1 idx with
    | none => rw [hc1] at h; exact fx_nos h
    | some v =>
      rw [hc1] at h
      cases v with
      | int x =>
        obtain rfl := Option.some.inj h
        exact lv_ldcw hx hb hown (hts _ ((hcs _ (rk_cst_mem hc1)).1 x rfl)) hdg (kk H locs ls hO hP hD hS hl)
      | _ => exact fx_nos h
  case ldc2_w idx =>
    simp [rk_len] at hlen; subst hlen
    change fx_ct (pc + 3) (tk_cstl (rk_cst M.2.2.2.1 idx)) lc stk mem = some zz at h
    cases hc1 : rk_cst M.2.2.2.1 idx with
    | none => rw [hc1] at h; exact fx_nos h
    | some v =>
      rw [hc1] at h
      cases v with
      | long x =>
        obtain rfl := Option.some.inj h
        exact lv_ldc2 hx hb hown (hts _ ((hcs _ (rk_cst_mem hc1)).2 x rfl)) hdg (kk H locs ls hO hP hD hS hl)
      | _ => exact fx_nos h
  case tableswitch dd lo hi offs =>
    change fx_tb pc dd lo hi offs.toList lc stk mem = some zz at h
    unfold fx_tb at h
    split at h
    · next x r =>
      obtain ⟨hc, rfl⟩ := fx_if_inv h
      rw [Bool.and_eq_true, decide_eq_true_eq, decide_eq_true_eq] at hc
      obtain ⟨hlen2, g1⟩ := hc
      have fin := kk H locs ls hO hP hD hS hl
      dsimp only [fx_to] at fin
      show rk_KW p l e R s m args below meth c Q pc ls (.int x :: r.map (fx_v ps)) H locs 0 0
      rcases tk_tp_ok dd x.toInt offs.toList lo with ⟨h1, h2⟩ | ⟨i, h1, h2⟩
      · rw [h2] at fin g1
        exact lv_tableOut (tgt := ((pc : Int) + dd).toNat) hx hb hdg (by omega) (by omega) fin
      · have hi2 : i < offs.toList.length := (List.getElem?_eq_some_iff.mp h2).1
        refine lv_tableIn (off := Op.lookupswitch.offset (tk_tp lo offs.toList) dd x.toInt) (tgt := ((pc : Int) + Op.lookupswitch.offset (tk_tp lo offs.toList) dd x.toInt).toNat) hx hb hdg (by omega) (by omega) ?_ (by omega) fin
        rw [show (x.toInt - lo).toNat = i from by omega]
        rw [Array.getElem?_toList] at h2
        exact h2
    · exact fx_nos h
  case lookupswitch dd sps =>
    change fx_lk pc dd sps.toList lc stk mem = some zz at h
    unfold fx_lk at h
    split at h
    · next x r =>
      obtain ⟨hc, rfl⟩ := fx_if_inv h
      rw [Bool.and_eq_true, decide_eq_true_eq] at hc
      obtain ⟨hsrt, g1⟩ := hc
      have fin := kk H locs ls hO hP hD hS hl
      dsimp only [fx_to] at fin
      show rk_KW p l e R s m args below meth c Q pc ls (.int x :: r.map (fx_v ps)) H locs 0 0
      refine lv_lookup (tgt := ((pc : Int) + Op.lookupswitch.offset sps.toList dd x.toInt).toNat) hx hb hdg ?_ rfl (by omega) fin
      exact hsrt
    · exact fx_nos h
  case invokestatic idx =>
    simp [rk_len] at hlen; subst hlen
    change (match rk_lk M.2.2.1 idx with
      | some q => fx_st q.1 q.2.1 (pc + 3)
      | none => fx_none) lc stk mem = some zz at h
    cases hlk1 : rk_lk M.2.2.1 idx with
    | none => rw [hlk1] at h; exact fx_nos h
    | some q =>
      rw [hlk1] at h
      obtain ⟨kd, f, k⟩ := q
      have hr := hlk _ (rk_lk_mem hlk1)
      have hsum : ∀ r : List Value, Nat.ble (fx_sum r) 8 = true → ((r.map (fx_v ps)).map fun v => v.category).sum ≤ 8 := fun r hr9 => by
        have := Nat.le_of_ble_eq_true hr9
        rw [List.map_map]
        have e9 : ((fun v : Value => v.category) ∘ fx_v ps) = (fun v : Value => v.category) := funext (fun v => fx_v_cat ps v)
        rw [e9]
        exact this
      change fx_st kd f (pc + 3) lc stk mem = some zz at h
      unfold fx_st at h
      cases e14 : Nat.beq kd 14 with
      | true =>
        rw [e14] at h
        obtain rfl := Nat.eq_of_beq_eq_true e14
        change fx_mx _ (pc + 3) lc stk mem = some zz at h
        unfold fx_mx at h
        split at h
        · next y x r =>
          obtain ⟨hc, rfl⟩ := fx_if_inv h
          obtain ⟨w1, w2, w3, w4⟩ := hr
          have hs8 := hsum r hc
          exact va_mmax hx hb (by rw [hml]; exact hl.1.symm) hown (hts _ w1) (hts _ w2) (hts _ w3) (hts _ w4) hfr (by omega) (Nat.zero_le _) (Nat.zero_le _) hdg (kk H locs ls hO hP hD hS hl)
        · exact fx_nos h
      | false =>
        rw [e14] at h
        dsimp only [cond] at h
        cases e15 : Nat.beq kd 15 with
        | true =>
          rw [e15] at h
          obtain rfl := Nat.eq_of_beq_eq_true e15
          change fx_mx _ (pc + 3) lc stk mem = some zz at h
          unfold fx_mx at h
          split at h
          · next y x r =>
            obtain ⟨hc, rfl⟩ := fx_if_inv h
            obtain ⟨w1, w2, w3, w4⟩ := hr
            have hs8 := hsum r hc
            exact va_mmin hx hb (by rw [hml]; exact hl.1.symm) hown (hts _ w1) (hts _ w2) (hts _ w3) (hts _ w4) hfr (by omega) (Nat.zero_le _) (Nat.zero_le _) hdg (kk H locs ls hO hP hD hS hl)
          · exact fx_nos h
        | false =>
          rw [e15] at h
          dsimp only [cond] at h
          cases e17 : Nat.beq kd 17 with
          | true =>
            rw [e17] at h
            obtain rfl := Nat.eq_of_beq_eq_true e17
            change fx_ab (pc + 3) lc stk mem = some zz at h
            unfold fx_ab at h
            split at h
            · next x r =>
              obtain ⟨hc, rfl⟩ := fx_if_inv h
              obtain ⟨w1, w2, w3, w4⟩ := hr
              have hs8 := hsum r hc
              exact va_mabs hx hb (by rw [hml]; exact hl.1.symm) hown (hts _ w1) (hts _ w2) (hts _ w3) (hts _ w4) hfr (by omega) (Nat.zero_le _) (Nat.zero_le _) hdg (kk H locs ls hO hP hD hS hl)
            · exact fx_nos h
          | false => rw [e17] at h; exact fx_nos h
  case bipush v9 =>
    change fx_pl M.2.1 pc (.bipush v9) lc stk mem = some zz at h
    unfold fx_pl at h
    split at h
    · next z9 hz9 =>
      obtain rfl := Option.some.inj h
      exact fx_pure_ok ps hx hb hdg hlen hz9 hl (fun ls' hl' => kk H locs ls' hO hP hD hS hl')
    · exact fx_nos h
  case iconst v9 =>
    change fx_pl M.2.1 pc (.iconst v9) lc stk mem = some zz at h
    unfold fx_pl at h
    split at h
    · next z9 hz9 =>
      obtain rfl := Option.some.inj h
      exact fx_pure_ok ps hx hb hdg hlen hz9 hl (fun ls' hl' => kk H locs ls' hO hP hD hS hl')
    · exact fx_nos h
  case lconst v9 =>
    change fx_pl M.2.1 pc (.lconst v9) lc stk mem = some zz at h
    unfold fx_pl at h
    split at h
    · next z9 hz9 =>
      obtain rfl := Option.some.inj h
      exact fx_pure_ok ps hx hb hdg hlen hz9 hl (fun ls' hl' => kk H locs ls' hO hP hD hS hl')
    · exact fx_nos h
  case sipush v9 =>
    change fx_pl M.2.1 pc (.sipush v9) lc stk mem = some zz at h
    unfold fx_pl at h
    split at h
    · next z9 hz9 =>
      obtain rfl := Option.some.inj h
      exact fx_pure_ok ps hx hb hdg hlen hz9 hl (fun ls' hl' => kk H locs ls' hO hP hD hS hl')
    · exact fx_nos h
  all_goals
    (first
      | exact fx_nos (show (none : fx_R4) = some zz from h)
      | (change fx_pl M.2.1 pc _ lc stk mem = some zz at h
         unfold fx_pl at h
         split at h
         · next z9 hz9 =>
           obtain rfl := Option.some.inj h
           exact fx_pure_ok ps hx hb hdg hlen hz9 hl (fun ls' hl' => kk H locs ls' hO hP hD hS hl')
         · exact fx_nos h))
end HXM

/-- loads of references, lengths, copies of rows -/
def hx_ro (ty : FieldType) : Bool := match ty with
  | .object _ => true
  | .array _ => true
  | _ => false
def hx_aa (pc : Nat) (lc : fx_L) (stk : List Value) (mem : fx_M) : fx_R4 := match stk with
  | .int i :: .ref j :: r => (match mem[j]? with
    | some (.inr (ty, n, .inr (.inr (.inr (.inr f))))) => cond (fx_in i n && hx_ro ty) (some (pc, lc, va_rf (f i.toNatClampNeg) :: r, mem)) none
    | _ => none)
  | _ => none
def hx_al (pc : Nat) (lc : fx_L) (stk : List Value) (mem : fx_M) : fx_R4 := match stk with
  | .ref j :: r => (match mem[j]? with
    | some (.inr (_, z)) => some (pc, lc, .int (Int32.ofNat z.1) :: r, mem)
    | _ => none)
  | _ => none
def hx_cc (n dp sp : Int32) (n0 n1 : Nat) : Bool := (decide (0 ≤ n.toInt) && (decide (0 ≤ dp.toInt) && decide (0 ≤ sp.toInt))) && (decide (sp.toInt + n.toInt ≤ (n0 : Int)) && decide (dp.toInt + n.toInt ≤ (n1 : Int)))
def hx_cp (pc : Nat) (lc : fx_L) (stk : List Value) (mem : fx_M) : fx_R4 := match stk with
  | .int n :: .int dp :: .ref j1 :: .int sp :: .ref j0 :: r => (match mem[j0]?, mem[j1]? with
    | some (.inr (.int, n0, .inl f)), some (.inr (.int, n1, .inl g)) => cond (Nat.ble (fx_sum r) 8 && hx_cc n dp sp n0 n1) (some (pc, lc, r, mem.set j1 (.inr (.int, n1, .inl (va_cpy f g sp.toNatClampNeg dp.toNatClampNeg n.toNatClampNeg))))) none
    | some (.inr (.long, n0, .inr (.inl f))), some (.inr (.long, n1, .inr (.inl g))) => cond (Nat.ble (fx_sum r) 8 && hx_cc n dp sp n0 n1) (some (pc, lc, r, mem.set j1 (.inr (.long, n1, .inr (.inl (va_cpy f g sp.toNatClampNeg dp.toNatClampNeg n.toNatClampNeg)))))) none
    | _, _ => none)
  | _ => none
theorem hx_cc_ok {n dp sp : Int32} {n0 n1 : Nat} (h : hx_cc n dp sp n0 n1 = true) : ¬ sp < 0 ∧ ¬ dp < 0 ∧ ¬ n < 0 ∧ sp.toNatClampNeg + n.toNatClampNeg ≤ n0 ∧ dp.toNatClampNeg + n.toNatClampNeg ≤ n1 := by
  unfold hx_cc at h
  rw [Bool.and_eq_true, Bool.and_eq_true, Bool.and_eq_true, Bool.and_eq_true, decide_eq_true_eq, decide_eq_true_eq, decide_eq_true_eq, decide_eq_true_eq, decide_eq_true_eq] at h
  obtain ⟨⟨h1, h2, h3⟩, h4, h5⟩ := h
  have z0 : (0 : Int32).toInt = 0 := rfl
  have e1 : sp.toNatClampNeg = sp.toInt.toNat := rfl
  have e2 : dp.toNatClampNeg = dp.toInt.toNat := rfl
  have e3 : n.toNatClampNeg = n.toInt.toNat := rfl
  refine ⟨fun q => ?_, fun q => ?_, fun q => ?_, by omega, by omega⟩
  all_goals
    have q2 := Int32.lt_iff_toInt_lt.mp q
    omega
theorem hx_rf (ps : fx_P) (o : Option Nat) : va_rf (o.map (fx_ad ps)) = fx_v ps (va_rf o) := by cases o <;> rfl
