section MG17_0
/-! ===== hx: fx over a part of a world: the memory first, addresses of other cells behind it ===== -/
def hx_ok (U : State) (ps : fx_P) (mem : fx_M) : Prop := mem.length ≤ ps.length ∧ ∀ (j : Nat) (q : Nat × ClassId) (ty : FieldType) (z : vp_A), ps[j]? = some q → mem[j]? = some (.inr (ty, z)) → ArrOfT U q.2 ty ∧ va_RA U q.2 ty
theorem hx_w_get {U : State} {ps : fx_P} {mem : fx_M} (h : hx_ok U ps mem) {j : Nat} {e : fx_E} (hj : mem[j]? = some e) : ∃ q, ps[j]? = some q ∧ fx_ad ps j = q.1 ∧ (fx_w ps mem)[j]? = some (q.1, fx_c ps q.2 e) := by
  have hlt : j < ps.length := Nat.lt_of_lt_of_le (List.getElem?_eq_some_iff.mp hj).1 h.1
  have hq : ps[j]? = some ps[j] := List.getElem?_eq_getElem hlt
  refine ⟨ps[j], hq, ?_, ?_⟩
  · unfold fx_ad
    rw [hq]
  · unfold fx_w
    rw [List.getElem?_zipWith, hq, hj]
theorem hx_ok_obj {U : State} {ps : fx_P} {mem : fx_M} (h : hx_ok U ps mem) (j : Nat) (o : Nat × List Value) : hx_ok U ps (mem.set j (.inl o)) := by
  refine ⟨by rw [List.length_set]; exact h.1, fun i q ty z hq hm => ?_⟩
  rw [List.getElem?_set] at hm
  split at hm
  · split at hm <;> cases hm
  · exact h.2 i q ty z hq hm
theorem hx_ok_arr {U : State} {ps : fx_P} {mem : fx_M} (h : hx_ok U ps mem) {j : Nat} {ty : FieldType} {z z' : vp_A} (hj : mem[j]? = some (.inr (ty, z))) : hx_ok U ps (mem.set j (.inr (ty, z'))) := by
  refine ⟨by rw [List.length_set]; exact h.1, fun i q ty2 z2 hq hm => ?_⟩
  rw [List.getElem?_set] at hm
  split at hm
  · next e =>
    subst e
    split at hm
    · cases hm
      exact h.2 _ _ _ _ hq hj
    · cases hm
  · exact h.2 i q ty2 z2 hq hm
section HXM
variable {p : Program} {l : Launch} {e : Env} {R : Room} {s : State} {m : MethodId} {args : Array Value} {below : List Frame} {meth : Method} {c : Code} {Q : State → Prop} {cc : ByteArray} {D : va_G} {cl : List vw_C} {Ad : Nat → Prop} {tbl xw : List Jvm.Cond} {fty : rk_F} {cln : List String} {own : String}
theorem hx_arr {lk : List (Nat × Nat × Nat × Nat)} {cs : List (Nat × Value)} (hF : rk_Fr s m args meth D cl Ad tbl xw fty cln own lk cs) {ps : fx_P} {mem : fx_M} (hO : hx_ok s ps mem) {j : Nat} {ty : FieldType} {z : vp_A} (hj : mem[j]? = some (.inr (ty, z))) : ∃ q, ps[j]? = some q ∧ fx_ad ps j = q.1 ∧ (fx_w ps mem)[j]? = some (q.1, .inl (q.2, fx_z ps z)) ∧ va_K D cl [(q.2, ty)] s := by
  obtain ⟨q, h1, h2, h3⟩ := hx_w_get hO hj
  obtain ⟨g1, g2⟩ := hO.2 j q ty z h1 hj
  exact ⟨q, h1, h2, h3, rk_K1 hF.2.2.2.1 g1 g2⟩
set_option maxHeartbeats 8000000 in
theorem hx_mem_ok {M : rk_M2} (hx : p.tables.exec = Jvm.exec) (hb : c.code = cc) (hml : c.maxLocals = M.2.1) (hF : rk_Fr s m args meth D cl Ad tbl xw fty cln own M.2.2.1 M.2.2.2.1) (hfr : 1 ≤ R.frames) (hlo : 40 ≤ R.locals) {pc : Nat} {ins : Instr} {len : Nat} (hdg : decode cc pc = .ok (ins, len)) (hlen : rk_len ins len = true) {ps : fx_P} {lc : fx_L} {stk : List Value} {mem : fx_M} {zz : Nat × fx_L × List Value × fx_M} (h : fx_mem fty M pc ins lc stk mem = some zz) (hO : hx_ok s ps mem) {H : Heap} {locs : List Loc} {ls : Array Slot} (hP : va_P D cl (fx_w ps mem) H) (hD : va_D Ad (fx_w ps mem)) (hS : va_S Ad s.heap H locs) (hl : lv_has ls M.2.1 (fx_lm ps lc)) (kk : ∀ (H' : Heap) (locs' : List Loc) (ls' : Array Slot), hx_ok s ps zz.2.2.2 → va_P D cl (fx_w ps zz.2.2.2) H' → va_D Ad (fx_w ps zz.2.2.2) → va_S Ad s.heap H' locs' → lv_has ls' M.2.1 (fx_lm ps zz.2.1) → rk_KW p l e R s m args below meth c Q zz.1 ls' (zz.2.2.1.map (fx_v ps)) H' locs' 0 0) : rk_KW p l e R s m args below meth c Q pc ls (stk.map (fx_v ps)) H locs 0 0 := by
  have hF0 := hF
  obtain ⟨hts, hxw, hown, hK, hA, hcl, hlk, hini, hac, hcs⟩ := hF0
  cases ins
  case getfield idx =>
    simp [rk_len] at hlen; subst hlen
    change (match rk_lk M.2.2.1 idx with
      | some q => fx_gf (pc + 3) q.1 q.2.1 q.2.2
      | none => fx_none) lc stk mem = some zz at h
    cases hlk1 : rk_lk M.2.2.1 idx with
    | none => rw [hlk1] at h; exact fx_nos h
    | some q =>
      rw [hlk1] at h
      obtain ⟨kd, ci, k⟩ := q
      change fx_gf (pc + 3) kd ci k lc stk mem = some zz at h
      unfold fx_gf at h
      split at h
      · next j r =>
        split at h
        · next o hj =>
          cases hc : (Nat.ble kd 2 && Nat.beq o.1 ci) with
          | false => rw [hc] at h; exact fx_nos h
          | true =>
            rw [hc] at h
            dsimp only [cond] at h
            rw [Bool.and_eq_true] at hc
            have hkd := Nat.le_of_ble_eq_true hc.1
            have hci := Nat.eq_of_beq_eq_true hc.2
            obtain ⟨ci2, vs⟩ := o
            dsimp only at hci
            subst hci
            split at h
            · next v hv =>
              obtain rfl := Option.some.inj h
              obtain ⟨q, h1, h2, h3⟩ := hx_w_get hO hj
              have hw : (fx_w ps mem)[j]? = some (fx_ad ps j, .inr (ci2, vs.map (fx_v ps))) := by rw [h2]; exact h3
              have hv2 : (vs.map (fx_v ps))[k]? = some (fx_v ps v) := by rw [List.getElem?_map, hv]; rfl
              have fin := kk H locs ls hO hP hD hS hl
              have hr := hlk _ (rk_lk_mem hlk1)
              show rk_KW p l e R s m args below meth c Q pc ls (.ref (fx_ad ps j) :: r.map (fx_v ps)) H locs 0 0
              rcases (show kd = 0 ∨ kd = 1 ∨ kd = 2 by omega) with rfl | rfl | rfl
              · obtain ⟨q, hq, hkN, hm⟩ := hr
                exact va_get (C := q.1) (T := q.2.1) (N := q.2.2) hx hb hts (hcl _ _ hq).1 hown hK hP j hw hq k hkN (hts _ hm) (fun _ h9 => h9) hv2 hdg fin
              · obtain ⟨q, host, hq, hkN, hm⟩ := hr
                exact va_getN (C := q.1) (T := q.2.1) (N := q.2.2) hx hb hts (hcl _ _ hq).1 hown hK hP j hw hq k hkN (va_Nw.use rfl (hxw _ hm)) (fun _ h9 => h9) hv2 hdg fin
              · obtain ⟨q, hq, hkN, hm, -⟩ := hr
                exact va_get (C := q.1) (T := q.2.1) (N := q.2.2) hx hb hts (hcl _ _ hq).1 hown hK hP j hw hq k hkN (hts _ hm) (fun _ h9 => h9) hv2 hdg fin
            · exact fx_nos h
        · exact fx_nos h
      · exact fx_nos h
  case putfield idx =>
    simp [rk_len] at hlen; subst hlen
    change (match rk_lk M.2.2.1 idx with
      | some q => fx_pf fty (pc + 3) q.1 q.2.1 q.2.2
      | none => fx_none) lc stk mem = some zz at h
    cases hlk1 : rk_lk M.2.2.1 idx with
    | none => rw [hlk1] at h; exact fx_nos h
    | some q =>
      rw [hlk1] at h
      obtain ⟨kd, ci, k⟩ := q
      change fx_pf fty (pc + 3) kd ci k lc stk mem = some zz at h
      unfold fx_pf at h
      split at h
      · next v j r =>
        split at h
        · next o ft hj hft =>
          obtain ⟨hc, rfl⟩ := fx_if_inv h
          rw [Bool.and_eq_true, Bool.and_eq_true, Bool.and_eq_true, Bool.and_eq_true] at hc
          obtain ⟨c1, c2, c3, c4, c5⟩ := hc
          have hkd := Nat.le_of_ble_eq_true c1
          have hci := Nat.eq_of_beq_eq_true c2
          have hkl : k < o.2.length := Nat.le_of_ble_eq_true c3
          have hft2 : ft.2 = false := by
            cases hz : ft.2 with
            | false => rfl
            | true => rw [hz] at c5; cases c5
          obtain ⟨ci2, vs⟩ := o
          dsimp only at hci hkl hj
          subst hci
          obtain ⟨hv1, hn, hfi⟩ := fx_vt_ok (ps := ps) c4
          obtain ⟨q, h1, h2, h3⟩ := hx_w_get hO hj
          have hw : (fx_w ps mem)[j]? = some (fx_ad ps j, .inr (ci2, vs.map (fx_v ps))) := by rw [h2]; exact h3
          have eset : fx_w ps (mem.set j (.inl (ci2, vs.set k v))) = (fx_w ps mem).set j (fx_ad ps j, .inr (ci2, (vs.map (fx_v ps)).set k v)) := by
            rw [fx_w_set ps mem j _ q h1, h2]
            show (fx_w ps mem).set j (q.1, .inr (ci2, (vs.set k v).map (fx_v ps))) = _
            rw [List.map_set, hv1]
          have fin : ∀ (H1 : Heap) (locs1 : List Loc), va_P D cl ((fx_w ps mem).set j (fx_ad ps j, .inr (ci2, (vs.map (fx_v ps)).set k v))) H1 → va_D Ad ((fx_w ps mem).set j (fx_ad ps j, .inr (ci2, (vs.map (fx_v ps)).set k v))) → va_S Ad s.heap H1 locs1 → rk_KW p l e R s m args below meth c Q (pc + 3) ls (r.map (fx_v ps)) H1 locs1 0 0 := fun H1 locs1 g1 g2 g3 => kk H1 locs1 ls (hx_ok_obj hO _ _) (by rw [eset]; exact g1) (by rw [eset]; exact g2) g3 hl
          show rk_KW p l e R s m args below meth c Q pc ls (fx_v ps v :: .ref (fx_ad ps j) :: r.map (fx_v ps)) H locs 0 0
          rw [hv1]
          have hr := hlk _ (rk_lk_mem hlk1)
          obtain ⟨tf, htf, htk⟩ := Option.bind_eq_some_iff.mp hft
          have hkl2 : k < (vs.map (fx_v ps)).length := by rw [List.length_map]; exact hkl
          rcases (show kd = 0 ∨ kd = 1 by omega) with rfl | rfl
          · obtain ⟨q, hq, hkN, hm1⟩ := hr
            obtain ⟨d1, d2, -, tf', htf', hlenT, hT2⟩ := hcl _ _ hq
            cases htf.symm.trans htf'
            obtain ⟨t1, t2⟩ := hT2 k ft htk
            exact va_put (C := q.1) (T := q.2.1) (N := q.2.2) hx hb hts d1 _ (rk_ty hlenT hT2) d2 hown hK hP hD hS j hw hq k hkN (hts _ hm1) (fun _ h9 => h9) (t2.trans hft2) t1 hn hfi hkl2 hdg fin
          · obtain ⟨q, host, hq, hkN, hm1⟩ := hr
            obtain ⟨d1, d2, -, tf', htf', hlenT, hT2⟩ := hcl _ _ hq
            cases htf.symm.trans htf'
            obtain ⟨t1, t2⟩ := hT2 k ft htk
            exact va_putN (C := q.1) (T := q.2.1) (N := q.2.2) hx hb hts d1 _ (rk_ty hlenT hT2) d2 hown hK hP hD hS j hw hq k hkN (va_Nw.use rfl (hxw _ hm1)) (fun _ h9 => h9) (t2.trans hft2) t1 hn hfi hkl2 hdg fin
        · exact fx_nos h
      · exact fx_nos h
  case iaload =>
    simp [rk_len] at hlen; subst hlen
    change fx_ia (pc + 1) lc stk mem = some zz at h
    unfold fx_ia at h
    split at h
    · next i j r =>
      split at h
      · next n f hj =>
        obtain ⟨hc, rfl⟩ := fx_if_inv h
        obtain ⟨q, h1, h2, h3, h4⟩ := hx_arr hF hO hj
        show rk_KW p l e R s m args below meth c Q pc ls (.int i :: .ref (fx_ad ps j) :: r.map (fx_v ps)) H locs 0 0
        rw [h2]
        exact va_iald hx hb h4 hP j 0 h3 rfl (fx_in_ok hc) hdg (kk H locs ls hO hP hD hS hl)
      · exact fx_nos h
    · exact fx_nos h
  case baload =>
    simp [rk_len] at hlen; subst hlen
    change fx_ba (pc + 1) lc stk mem = some zz at h
    unfold fx_ba at h
    split at h
    · next i j r =>
      split at h
      · next n f hj =>
        obtain ⟨hc, rfl⟩ := fx_if_inv h
        obtain ⟨q, h1, h2, h3, h4⟩ := hx_arr hF hO hj
        show rk_KW p l e R s m args below meth c Q pc ls (.int i :: .ref (fx_ad ps j) :: r.map (fx_v ps)) H locs 0 0
        rw [h2]
        exact va_bald hx hb h4 hP j 0 h3 rfl (fx_in_ok hc) hdg (kk H locs ls hO hP hD hS hl)
      · exact fx_nos h
    · exact fx_nos h
  case laload =>
    simp [rk_len] at hlen; subst hlen
    change fx_la (pc + 1) lc stk mem = some zz at h
    unfold fx_la at h
    split at h
    · next i j r =>
      split at h
      · next n f hj =>
        obtain ⟨hc, rfl⟩ := fx_if_inv h
        obtain ⟨q, h1, h2, h3, h4⟩ := hx_arr hF hO hj
        show rk_KW p l e R s m args below meth c Q pc ls (.int i :: .ref (fx_ad ps j) :: r.map (fx_v ps)) H locs 0 0
        rw [h2]
        exact va_lald hx hb h4 hP j 0 h3 rfl (fx_in_ok hc) hdg (kk H locs ls hO hP hD hS hl)
      · exact fx_nos h
    · exact fx_nos h
  case iastore =>
    simp [rk_len] at hlen; subst hlen
    change fx_is (pc + 1) lc stk mem = some zz at h
    unfold fx_is at h
    split at h
    · next v i j r =>
      split at h
      · next n f hj =>
        obtain ⟨hc, rfl⟩ := fx_if_inv h
        obtain ⟨q, h1, h2, h3, h4⟩ := hx_arr hF hO hj
        have eset : fx_w ps (mem.set j (.inr (.int, n, .inl (upd f i.toNatClampNeg v)))) = (fx_w ps mem).set j (q.1, .inl (q.2, n, .inl (upd f i.toNatClampNeg v))) := fx_w_set ps mem j _ q h1
        show rk_KW p l e R s m args below meth c Q pc ls (.int v :: .int i :: .ref (fx_ad ps j) :: r.map (fx_v ps)) H locs 0 0
        rw [h2]
        refine va_iast hx hb h4 hP hD hS j 0 h3 rfl (fx_in_ok hc) hdg (fun H1 locs1 hP1 hD1 hS1 => ?_)
        exact kk H1 locs1 ls (hx_ok_arr hO hj) (by rw [eset]; exact hP1) (by rw [eset]; exact hD1) hS1 hl
      · exact fx_nos h
    · exact fx_nos h
  case bastore =>
    simp [rk_len] at hlen; subst hlen
    change fx_bs (pc + 1) lc stk mem = some zz at h
    unfold fx_bs at h
    split at h
    · next v i j r =>
      split at h
      · next n f hj =>
        obtain ⟨hc, rfl⟩ := fx_if_inv h
        obtain ⟨q, h1, h2, h3, h4⟩ := hx_arr hF hO hj
        have eset : fx_w ps (mem.set j (.inr (.byte, n, .inl (upd f i.toNatClampNeg v.toInt8.toInt32)))) = (fx_w ps mem).set j (q.1, .inl (q.2, n, .inl (upd f i.toNatClampNeg v.toInt8.toInt32))) := fx_w_set ps mem j _ q h1
        show rk_KW p l e R s m args below meth c Q pc ls (.int v :: .int i :: .ref (fx_ad ps j) :: r.map (fx_v ps)) H locs 0 0
        rw [h2]
        refine va_bast hx hb h4 hP hD hS j 0 h3 rfl (fx_in_ok hc) hdg (fun H1 locs1 hP1 hD1 hS1 => ?_)
        exact kk H1 locs1 ls (hx_ok_arr hO hj) (by rw [eset]; exact hP1) (by rw [eset]; exact hD1) hS1 hl
      · exact fx_nos h
    · exact fx_nos h
  case lastore =>
    simp [rk_len] at hlen; subst hlen
    change fx_ls (pc + 1) lc stk mem = some zz at h
    unfold fx_ls at h
    split at h
    · next v i j r =>
      split at h
      · next n f hj =>
        obtain ⟨hc, rfl⟩ := fx_if_inv h
        obtain ⟨q, h1, h2, h3, h4⟩ := hx_arr hF hO hj
        have eset : fx_w ps (mem.set j (.inr (.long, n, .inr (.inl (vp_updL f i.toNatClampNeg v))))) = (fx_w ps mem).set j (q.1, .inl (q.2, n, .inr (.inl (vp_updL f i.toNatClampNeg v)))) := fx_w_set ps mem j _ q h1
        show rk_KW p l e R s m args below meth c Q pc ls (.long v :: .int i :: .ref (fx_ad ps j) :: r.map (fx_v ps)) H locs 0 0
        rw [h2]
        refine va_last hx hb h4 hP hD hS j 0 h3 rfl (fx_in_ok hc) hdg (fun H1 locs1 hP1 hD1 hS1 => ?_)
        exact kk H1 locs1 ls (hx_ok_arr hO hj) (by rw [eset]; exact hP1) (by rw [eset]; exact hD1) hS1 hl
      · exact fx_nos h
    · exact fx_nos h
  case ldc idx =>
    simp [rk_len] at hlen; subst hlen
    change fx_ct (pc + 2) (tk_csti (rk_cst M.2.2.2.1 idx)) lc stk mem = some zz at h
    cases hc1 : rk_cst M.2.2.2.1 idx with
    | none => rw [hc1] at h; exact fx_nos h
    | some v =>
      rw [hc1] at h
      cases v with
      | int x =>
        obtain rfl := Option.some.inj h
        exact lv_ldc hx hb hown (hts _ ((hcs _ (rk_cst_mem hc1)).1 x rfl)) hdg (kk H locs ls hO hP hD hS hl)
      | _ => exact fx_nos h
  case ldc_w idx =>
    simp [rk_len] at hlen; subst hlen
    change fx_ct (pc + 3) (tk_csti (rk_cst M.2.2.2.1 idx)) lc stk mem = some zz at h
    cases hc1 : rk_cst M.2.2.2.1 idx with
    | none => rw [hc1] at h; exact fx_nos h
    | some v =>
      rw [hc1] at h
      cases v with
      | int x =>
        obtain rfl := Option.some.inj h
        exact lv_ldcw hx hb hown (hts _ ((hcs _ (rk_cst_mem hc1)).1 x rfl)) hdg (kk H locs ls hO hP hD hS hl)
      | _ => exact fx_nos h
  case ldc2_w idx =>
    simp [rk_len] at hlen; subst hlen
    change fx_ct (pc + 3) (tk_cstl (rk_cst M.2.2.2.1 idx)) lc stk mem = some zz at h
    cases hc1 : rk_cst M.2.2.2.1 idx with
    | none => rw [hc1] at h; exact fx_nos h
    | some v =>
      rw [hc1] at h
      cases v with
      | long x =>
        obtain rfl := Option.some.inj h
        exact lv_ldc2 hx hb hown (hts _ ((hcs _ (rk_cst_mem hc1)).2 x rfl)) hdg (kk H locs ls hO hP hD hS hl)
      | _ => exact fx_nos h
  case tableswitch dd lo hi offs =>
    change fx_tb pc dd lo hi offs.toList lc stk mem = some zz at h
    unfold fx_tb at h
    split at h
    · next x r =>
      obtain ⟨hc, rfl⟩ := fx_if_inv h
      rw [Bool.and_eq_true, decide_eq_true_eq, decide_eq_true_eq] at hc
      obtain ⟨hlen2, g1⟩ := hc
      have fin := kk H locs ls hO hP hD hS hl
      dsimp only [fx_to] at fin
      show rk_KW p l e R s m args below meth c Q pc ls (.int x :: r.map (fx_v ps)) H locs 0 0
      rcases tk_tp_ok dd x.toInt offs.toList lo with ⟨h1, h2⟩ | ⟨i, h1, h2⟩
      · rw [h2] at fin g1
        exact lv_tableOut (tgt := ((pc : Int) + dd).toNat) hx hb hdg (by omega) (by omega) fin
      · have hi2 : i < offs.toList.length := (List.getElem?_eq_some_iff.mp h2).1
        refine lv_tableIn (off := Op.lookupswitch.offset (tk_tp lo offs.toList) dd x.toInt) (tgt := ((pc : Int) + Op.lookupswitch.offset (tk_tp lo offs.toList) dd x.toInt).toNat) hx hb hdg (by omega) (by omega) ?_ (by omega) fin
        rw [show (x.toInt - lo).toNat = i from by omega]
        rw [Array.getElem?_toList] at h2
        exact h2
    · exact fx_nos h
  case lookupswitch dd sps =>
    change fx_lk pc dd sps.toList lc stk mem = some zz at h
    unfold fx_lk at h
    split at h
    · next x r =>
      obtain ⟨hc, rfl⟩ := fx_if_inv h
      rw [Bool.and_eq_true, decide_eq_true_eq] at hc
      obtain ⟨hsrt, g1⟩ := hc
      have fin := kk H locs ls hO hP hD hS hl
      dsimp only [fx_to] at fin
      show rk_KW p l e R s m args below meth c Q pc ls (.int x :: r.map (fx_v ps)) H locs 0 0
      refine lv_lookup (tgt := ((pc : Int) + Op.lookupswitch.offset sps.toList dd x.toInt).toNat) hx hb hdg ?_ rfl (by omega) fin
      exact hsrt
    · exact fx_nos h
  case invokestatic idx =>
    simp [rk_len] at hlen; subst hlen
    change (match rk_lk M.2.2.1 idx with
      | some q => fx_st q.1 q.2.1 (pc + 3)
      | none => fx_none) lc stk mem = some zz at h
    cases hlk1 : rk_lk M.2.2.1 idx with
    | none => rw [hlk1] at h; exact fx_nos h
    | some q =>
      rw [hlk1] at h
      obtain ⟨kd, f, k⟩ := q
      have hr := hlk _ (rk_lk_mem hlk1)
      have hsum : ∀ r : List Value, Nat.ble (fx_sum r) 8 = true → ((r.map (fx_v ps)).map fun v => v.category).sum ≤ 8 := fun r hr9 => by
        have := Nat.le_of_ble_eq_true hr9
        rw [List.map_map]
        have e9 : ((fun v : Value => v.category) ∘ fx_v ps) = (fun v : Value => v.category) := funext (fun v => fx_v_cat ps v)
        rw [e9]
        exact this
      change fx_st kd f (pc + 3) lc stk mem = some zz at h
      unfold fx_st at h
      cases e14 : Nat.beq kd 14 with
      | true =>
        rw [e14] at h
        obtain rfl := Nat.eq_of_beq_eq_true e14
        change fx_mx _ (pc + 3) lc stk mem = some zz at h
        unfold fx_mx at h
        split at h
        · next y x r =>
          obtain ⟨hc, rfl⟩ := fx_if_inv h
          obtain ⟨w1, w2, w3, w4⟩ := hr
          have hs8 := hsum r hc
          exact va_mmax hx hb (by rw [hml]; exact hl.1.symm) hown (hts _ w1) (hts _ w2) (hts _ w3) (hts _ w4) hfr (by omega) (Nat.zero_le _) (Nat.zero_le _) hdg (kk H locs ls hO hP hD hS hl)
        · exact fx_nos h
      | false =>
        rw [e14] at h
        dsimp only [cond] at h
        cases e15 : Nat.beq kd 15 with
        | true =>
          rw [e15] at h
          obtain rfl := Nat.eq_of_beq_eq_true e15
          change fx_mx _ (pc + 3) lc stk mem = some zz at h
          unfold fx_mx at h
          split at h
          · next y x r =>
            obtain ⟨hc, rfl⟩ := fx_if_inv h
            obtain ⟨w1, w2, w3, w4⟩ := hr
            have hs8 := hsum r hc
            exact va_mmin hx hb (by rw [hml]; exact hl.1.symm) hown (hts _ w1) (hts _ w2) (hts _ w3) (hts _ w4) hfr (by omega) (Nat.zero_le _) (Nat.zero_le _) hdg (kk H locs ls hO hP hD hS hl)
          · exact fx_nos h
        | false =>
          rw [e15] at h
          dsimp only [cond] at h
          cases e17 : Nat.beq kd 17 with
          | true =>
            rw [e17] at h
            obtain rfl := Nat.eq_of_beq_eq_true e17
            change fx_ab (pc + 3) lc stk mem = some zz at h
            unfold fx_ab at h
            split at h
            · next x r =>
              obtain ⟨hc, rfl⟩ := fx_if_inv h
              obtain ⟨w1, w2, w3, w4⟩ := hr
              have hs8 := hsum r hc
              exact va_mabs hx hb (by rw [hml]; exact hl.1.symm) hown (hts _ w1) (hts _ w2) (hts _ w3) (hts _ w4) hfr (by omega) (Nat.zero_le _) (Nat.zero_le _) hdg (kk H locs ls hO hP hD hS hl)
            · exact fx_nos h
          | false => rw [e17] at h; exact fx_nos h
  case bipush v9 =>
    change fx_pl M.2.1 pc (.bipush v9) lc stk mem = some zz at h
    unfold fx_pl at h
    split at h
    · next z9 hz9 =>
      obtain rfl := Option.some.inj h
      exact fx_pure_ok ps hx hb hdg hlen hz9 hl (fun ls' hl' => kk H locs ls' hO hP hD hS hl')
    · exact fx_nos h
  case iconst v9 =>
    change fx_pl M.2.1 pc (.iconst v9) lc stk mem = some zz at h
    unfold fx_pl at h
    split at h
    · next z9 hz9 =>
      obtain rfl := Option.some.inj h
      exact fx_pure_ok ps hx hb hdg hlen hz9 hl (fun ls' hl' => kk H locs ls' hO hP hD hS hl')
    · exact fx_nos h
  case lconst v9 =>
    change fx_pl M.2.1 pc (.lconst v9) lc stk mem = some zz at h
    unfold fx_pl at h
    split at h
    · next z9 hz9 =>
      obtain rfl := Option.some.inj h
      exact fx_pure_ok ps hx hb hdg hlen hz9 hl (fun ls' hl' => kk H locs ls' hO hP hD hS hl')
    · exact fx_nos h
  case sipush v9 =>
    change fx_pl M.2.1 pc (.sipush v9) lc stk mem = some zz at h
    unfold fx_pl at h
    split at h
    · next z9 hz9 =>
      obtain rfl := Option.some.inj h
      exact fx_pure_ok ps hx hb hdg hlen hz9 hl (fun ls' hl' => kk H locs ls' hO hP hD hS hl')
    · exact fx_nos h
  all_goals
    (first
      | exact fx_nos (show (none : fx_R4) = some zz from h)
      | (change fx_pl M.2.1 pc _ lc stk mem = some zz at h
         unfold fx_pl at h
         split at h
         · next z9 hz9 =>
           obtain rfl := Option.some.inj h
           exact fx_pure_ok ps hx hb hdg hlen hz9 hl (fun ls' hl' => kk H locs ls' hO hP hD hS hl')
         · exact fx_nos h))
end HXM

/-- loads of references, lengths, copies of rows -/
def hx_ro (ty : FieldType) : Bool := match ty with
  | .object _ => true
  | .array _ => true
  | _ => false
def hx_aa (pc : Nat) (lc : fx_L) (stk : List Value) (mem : fx_M) : fx_R4 := match stk with
  | .int i :: .ref j :: r => (match mem[j]? with
    | some (.inr (ty, n, .inr (.inr (.inr (.inr f))))) => cond (fx_in i n && hx_ro ty) (some (pc, lc, va_rf (f i.toNatClampNeg) :: r, mem)) none
    | _ => none)
  | _ => none
def hx_al (pc : Nat) (lc : fx_L) (stk : List Value) (mem : fx_M) : fx_R4 := match stk with
  | .ref j :: r => (match mem[j]? with
    | some (.inr (_, z)) => some (pc, lc, .int (Int32.ofNat z.1) :: r, mem)
    | _ => none)
  | _ => none
def hx_cc (n dp sp : Int32) (n0 n1 : Nat) : Bool := (decide (0 ≤ n.toInt) && (decide (0 ≤ dp.toInt) && decide (0 ≤ sp.toInt))) && (decide (sp.toInt + n.toInt ≤ (n0 : Int)) && decide (dp.toInt + n.toInt ≤ (n1 : Int)))
def hx_cp (pc : Nat) (lc : fx_L) (stk : List Value) (mem : fx_M) : fx_R4 := match stk with
  | .int n :: .int dp :: .ref j1 :: .int sp :: .ref j0 :: r => (match mem[j0]?, mem[j1]? with
    | some (.inr (.int, n0, .inl f)), some (.inr (.int, n1, .inl g)) => cond (Nat.ble (fx_sum r) 8 && hx_cc n dp sp n0 n1) (some (pc, lc, r, mem.set j1 (.inr (.int, n1, .inl (va_cpy f g sp.toNatClampNeg dp.toNatClampNeg n.toNatClampNeg))))) none
    | some (.inr (.long, n0, .inr (.inl f))), some (.inr (.long, n1, .inr (.inl g))) => cond (Nat.ble (fx_sum r) 8 && hx_cc n dp sp n0 n1) (some (pc, lc, r, mem.set j1 (.inr (.long, n1, .inr (.inl (va_cpy f g sp.toNatClampNeg dp.toNatClampNeg n.toNatClampNeg)))))) none
    | _, _ => none)
  | _ => none
theorem hx_cc_ok {n dp sp : Int32} {n0 n1 : Nat} (h : hx_cc n dp sp n0 n1 = true) : ¬ sp < 0 ∧ ¬ dp < 0 ∧ ¬ n < 0 ∧ sp.toNatClampNeg + n.toNatClampNeg ≤ n0 ∧ dp.toNatClampNeg + n.toNatClampNeg ≤ n1 := by
  unfold hx_cc at h
  rw [Bool.and_eq_true, Bool.and_eq_true, Bool.and_eq_true, Bool.and_eq_true, decide_eq_true_eq, decide_eq_true_eq, decide_eq_true_eq, decide_eq_true_eq, decide_eq_true_eq] at h
  obtain ⟨⟨h1, h2, h3⟩, h4, h5⟩ := h
  have z0 : (0 : Int32).toInt = 0 := rfl
  have e1 : sp.toNatClampNeg = sp.toInt.toNat := rfl
  have e2 : dp.toNatClampNeg = dp.toInt.toNat := rfl
  have e3 : n.toNatClampNeg = n.toInt.toNat := rfl
  refine ⟨fun q => ?_, fun q => ?_, fun q => ?_, by omega, by omega⟩
  all_goals
    have q2 := Int32.lt_iff_toInt_lt.mp q
    omega
theorem hx_rf (ps : fx_P) (o : Option Nat) : va_rf (o.map (fx_ad ps)) = fx_v ps (va_rf o) := by cases o <;> rfl
end MG17_0
section MG17_1
/-! ===== hx: calls, runs, and what they say of the machine ===== -/
def hx_cv (mci : List Nat) (call : fx_Ca) (pc f n : Nat) (lc : fx_L) (stk : List Value) (mem : fx_M) : fx_R4 := match fx_pops n [] stk with
  | some (as, .ref j :: r) => (match mem[j]? with
    | some (.inl o) => cond (Nat.ble (fx_sum r) 8 && decide (mci[f]? = some o.1)) (fx_aft pc lc r (call f (.ref j :: as) mem)) none
    | _ => none)
  | _ => none
def hx_step (call : fx_Ca) (fty : rk_F) (mci : List Nat) (M : rk_M2) (pc : Nat) (ins : Instr) (lc : fx_L) (stk : List Value) (mem : fx_M) : fx_R4 := match ins with
  | .invokevirtual idx => (match rk_lk M.2.2.1 idx with
    | some q => cond (Nat.beq q.1 5 || Nat.beq q.1 6) (hx_cv mci call (pc + 3) q.2.1 q.2.2 lc stk mem) none
    | none => none)
  | .invokestatic idx => (match rk_lk M.2.2.1 idx with
    | some q => cond (Nat.beq q.1 7 || Nat.beq q.1 8) (fx_cs call (pc + 3) q.2.1 q.2.2 lc stk mem) (cond (Nat.beq q.1 12) (hx_cp (pc + 3) lc stk mem) (fx_mem fty M pc (.invokestatic idx) lc stk mem))
    | none => none)
  | .aaload => hx_aa (pc + 1) lc stk mem
  | .arraylength => hx_al (pc + 1) lc stk mem
  | ins => fx_mem fty M pc ins lc stk mem
def hx_run (call : fx_Ca) (fty : rk_F) (mci : List Nat) (M : rk_M2) : Nat → Nat → fx_L → List Value → fx_M → Option (Option Value × fx_M)
  | 0, _, _, _, _ => none
  | n + 1, pc, lc, stk, mem => match tk_at M.1 pc with
    | none => none
    | some q => cond (rk_len q.2.1 q.2.2) (match fx_end M.2.2.2.2.1 q.2.1 stk with
      | some (some v) => some (v, mem)
      | some none => none
      | none => (match hx_step call fty mci M pc q.2.1 lc stk mem with
        | some z => hx_run call fty mci M n z.1 z.2.1 z.2.2.1 z.2.2.2
        | none => none)) none
def hx_call (fty : rk_F) (mci : List Nat) (P : List rk_M2) (N : Nat) : Nat → fx_Ca
  | 0 => fun _ _ _ => none
  | d + 1 => fun f as mem => match P[f]? with
    | none => none
    | some M => cond (Nat.ble M.2.1 21 && Nat.ble (fx_sum as) M.2.1) (hx_run (hx_call fty mci P N d) fty mci M N 0 (lv_args 0 as) [] mem) none
section HFXR
variable {l : Launch} {D : va_G} {xt : tk_XT}
def hx_Pre (D : va_G) (xt : tk_XT) (ps : fx_P) (mem : fx_M) (sz : Nat) (as : List Value) : Array Value → State → Prop := fun v U => v = (as.map (fx_v ps)).toArray ∧ U.heap.size = sz ∧ va_P D gk_cl (fx_w ps mem) U.heap ∧ va_K D gk_cl [] U ∧ va_D (fun _ => True) (fx_w ps mem) ∧ hx_ok U ps mem ∧ (∀ w ∈ gk_xw, va_Nw w U) ∧ xt (va_A (fx_w ps mem) sz) U U.heap
def hx_Post (D : va_G) (ps : fx_P) (mem : fx_M) (r : Option Value) (Ad : Nat → Prop) : Array Value → State → Outcome → State → Prop := fun _ st oc t => (oc = .returned (r.map (fx_v ps)) ∧ hx_ok t ps mem ∧ va_P D gk_cl (fx_w ps mem) t.heap ∧ va_D Ad (fx_w ps mem)) ∧ va_F Ad st t
theorem hx_ok_moved {u U : State} (hvm : u.vm.Alike U.vm) {ps : fx_P} {mem : fx_M} (h : hx_ok u ps mem) : hx_ok U ps mem := ⟨h.1, fun j q ty z h1 h2 => by
  obtain ⟨g1, g2⟩ := h.2 j q ty z h1 h2
  exact ⟨arrOfT_moved hvm g1, g2.moved hvm⟩⟩
theorem hx_blind {xt : tk_XT} {D : va_G} (hxt : tk_xtok xt) {ps : fx_P} {mem : fx_M} {sz : Nat} {as : List Value} (hxo : rk_xok gk_xw) : FrameBlind (hx_Pre D xt ps mem sz as) := by
  intro a U g mk q
  obtain ⟨h1, h2, h3, h4, h5, h6, h7, h8⟩ := q
  exact ⟨h1, h2, h3, va_K.moved (u := U) (U := U.calling g mk a) (Vm.Alike.refl U.vm) h4, h5, hx_ok_moved (u := U) (U := U.calling g mk a) (Vm.Alike.refl U.vm) h6, rk_xw_same hxo (s := U) (U := U.calling g mk a) rfl h7, hxt.1 _ U (U.calling g mk a) _ rfl h8⟩
def hx_SC (l : Launch) (D : va_G) (xt : tk_XT) (d : Nat) (call : fx_Ca) : Prop := ∀ (f : Nat) (as : List Value) (mem mem' : fx_M) (r : Option Value), call f as mem = some (r, mem') → ∀ q : rk_N, gk_MN[f]? = some q → ∃ M, gk_P[f]? = some M ∧ M.2.1 ≤ 21 ∧ ∀ (ps : fx_P) (sz : Nat), Met l q.2.1 (Jvm.Cond.code q.2.1 q.2.2 M.2.1 M.2.2.2.2.1 :: gk_tbl) { frames := d + 4, cells := 0, slots := 0, locals := 40 * (d + 4) } (hx_Pre D xt ps mem sz as) (hx_Post D ps mem' r (va_A (fx_w ps mem) sz)) 0 0 (va_A (fx_w ps mem) sz)
end HFXR
section HFXB
variable {p : Program} {l : Launch} {e : Env} {R : Room} {s : State} {m : MethodId} {args : Array Value} {below : List Frame} {meth : Method} {c : Code} {Q : State → Prop} {cc : ByteArray} {D : va_G} {Ad : Nat → Prop} {xt : tk_XT} {own : String}
theorem hx_back {ps : fx_P} {mem mem' : fx_M} {r : Option Value} {H : Heap} {locs : List Loc} {ls : Array Slot} {st0 rest : List Value} {pc : Nat} {as : Array Value} (hA : ∀ q, s.heap.size ≤ q → Ad q) (hD : va_D Ad (fx_w ps mem)) (hS : va_S Ad s.heap H locs)
    (hr : va_Run p l e R s m args below meth c H locs 0 0 0 0 (F0 m pc ls st0) rest (hx_Post D ps mem' r (va_A (fx_w ps mem) H.size) as) (va_A (fx_w ps mem) H.size))
    (kk : ∀ (H' : Heap) (locs' : List Loc), hx_ok s ps mem' → va_P D gk_cl (fx_w ps mem') H' → va_D Ad (fx_w ps mem') → va_S Ad s.heap H' locs' → rk_KW p l e R s m args below meth c Q (pc + 3) ls ((r.map (fx_v ps)).toList ++ rest) H' locs' 0 0) : rk_KW p l e R s m args below meth c Q pc ls st0 H locs 0 0 := by
  have hsub : ∀ q, va_A (fx_w ps mem) H.size q → Ad q := by
    rintro q (⟨k, e1, hk⟩ | hq)
    · exact hD.2 k _ hk
    · exact hA q (Nat.le_trans hS.1 hq)
  intro T hT X
  obtain ⟨v, st₀, t, T', L, h0, X', hLf, e1, e2, ⟨⟨b1, b2, b3, b4⟩, hF⟩, go⟩ := hr T hT X
  have hal : t.vm.Alike s.vm := by rw [← e2]; exact X'.warmed.alike.symm
  have hS1 : va_S Ad s.heap t.heap (locs ++ L) := by
    refine ⟨Nat.le_trans hS.1 (by rw [← h0]; exact hF.1), fun q hq hn => ?_, fun z hz => ?_⟩
    · rw [hF.2 q (by rw [h0]; exact Nat.lt_of_lt_of_le hq hS.1) (fun z => hn (hsub q z)), h0]
      exact hS.2.1 q hq hn
    · rcases List.mem_append.mp hz with z1 | z1
      · exact hS.2.2 z z1
      · exact hsub _ (hLf z z1)
  have hv : v = r.map (fx_v ps) := Outcome.returned.inj b1
  subst hv
  obtain ⟨t2, c1, c2⟩ := kk t.heap (locs ++ L) (hx_ok_moved hal b2) b3 (b4.weaken (fun _ _ _ z => hsub _ z)) hS1 T' e1 X'
  exact ⟨t2, go t2 c1, c2⟩
theorem hx_pre (hxt : tk_xtok xt) {ps : fx_P} {mem : fx_M} {H : Heap} {locs : List Loc} {as : List Value} (hXt : xt Ad s s.heap) (hA : ∀ q, s.heap.size ≤ q → Ad q) (hS : va_S Ad s.heap H locs) (hxo : rk_xok gk_xw) (hxw : ∀ w ∈ gk_xw, va_Nw w s) (hK : va_K D gk_cl [] s) (hO : hx_ok s ps mem) (hP : va_P D gk_cl (fx_w ps mem) H) (hD : va_D Ad (fx_w ps mem)) (U : State) (hU : U.heap = H) (hW : s.WarmedH U.vm) : hx_Pre D xt ps mem H.size as (as.map (fx_v ps)).toArray U :=
  ⟨rfl, by rw [hU], by rw [hU]; exact hP, va_K.moved hW.alike hK, hD.weaken (fun _ _ _ _ => trivial), hx_ok_moved hW.alike hO, rk_xw_warm hxo hW hxw, by
    rw [hU]
    refine hxt.2.1 _ _ _ _ hW (hxt.2.2 _ _ _ _ _ hXt (fun a ha hn => hS.2.1 a ha hn) ?_)
    rintro q (⟨k, e1, hk⟩ | hq)
    · exact hD.2 k _ hk
    · exact hA q (Nat.le_trans hS.1 hq)⟩
set_option maxHeartbeats 8000000 in
theorem hx_step_ok (hxt : tk_xtok xt) {M : rk_M2} (hkk : ∀ r ∈ M.2.2.1, rk_kok gk_tbl own r) {ps : fx_P} (hXt : xt Ad s s.heap) (hok : rk_ok gk_tbl gk_xw gk_cl gk_fty gk_cln gk_MN gk_mci gk_P) (hx : p.tables.exec = Jvm.exec) (hb : c.code = cc) (hml : c.maxLocals = M.2.1) (hF : rk_Fr s m args meth D gk_cl Ad gk_tbl gk_xw gk_fty gk_cln own M.2.2.1 M.2.2.2.1) (hck : ∀ r ∈ M.2.2.1, rk_cok gk_tbl gk_xw gk_MN gk_P own r) {d : Nat} {call : fx_Ca} (hcall : hx_SC l D xt d call) (hfr : d + 5 ≤ R.frames) (hlo : 40 * (d + 5) ≤ R.locals) {pc : Nat} {ins : Instr} {len : Nat} (hdg : decode cc pc = .ok (ins, len)) (hlen : rk_len ins len = true) {lc : fx_L} {stk : List Value} {mem : fx_M} {zz : Nat × fx_L × List Value × fx_M} (h : hx_step call gk_fty gk_mci M pc ins lc stk mem = some zz) (hO : hx_ok s ps mem) {H : Heap} {locs : List Loc} {ls : Array Slot} (hP : va_P D gk_cl (fx_w ps mem) H) (hD : va_D Ad (fx_w ps mem)) (hS : va_S Ad s.heap H locs) (hl : lv_has ls M.2.1 (fx_lm ps lc)) (kk : ∀ (H' : Heap) (locs' : List Loc) (ls' : Array Slot), hx_ok s ps zz.2.2.2 → va_P D gk_cl (fx_w ps zz.2.2.2) H' → va_D Ad (fx_w ps zz.2.2.2) → va_S Ad s.heap H' locs' → lv_has ls' M.2.1 (fx_lm ps zz.2.1) → rk_KW p l e R s m args below meth c Q zz.1 ls' (zz.2.2.1.map (fx_v ps)) H' locs' 0 0) : rk_KW p l e R s m args below meth c Q pc ls (stk.map (fx_v ps)) H locs 0 0 := by
  have hbase : fx_mem gk_fty M pc ins lc stk mem = some zz → rk_KW p l e R s m args below meth c Q pc ls (stk.map (fx_v ps)) H locs 0 0 := fun h2 => hx_mem_ok hx hb hml hF (by omega) (by omega) hdg hlen h2 hO hP hD hS hl kk
  obtain ⟨hgw, hxo, -, -, hlenM, hmok, hmci⟩ := hok
  have hF0 := hF
  obtain ⟨hts, hxw, hown, hK, hA, hcl, hlk, hini, hac, hcs⟩ := hF0
  have hfix : CallFix p m c cc M.2.1 s args gk_tbl own := ⟨hx, hb, hml, hown, hts⟩
  cases ins
  case invokevirtual idx =>
    simp [rk_len] at hlen; subst hlen
    change (match rk_lk M.2.2.1 idx with
      | some q => cond (Nat.beq q.1 5 || Nat.beq q.1 6) (hx_cv gk_mci call (pc + 3) q.2.1 q.2.2 lc stk mem) none
      | none => none) = some zz at h
    split at h
    · next q9 hlk1 =>
      obtain ⟨kd, f, n⟩ := q9
      cases hkd : (Nat.beq kd 5 || Nat.beq kd 6) with
      | false => rw [hkd] at h; exact fx_nos h
      | true =>
        rw [hkd] at h
        change hx_cv gk_mci call (pc + 3) f n lc stk mem = some zz at h
        have hkd2 : kd = 5 ∨ kd = 6 := by
          rw [Bool.or_eq_true] at hkd
          exact hkd.imp Nat.eq_of_beq_eq_true Nat.eq_of_beq_eq_true
        unfold hx_cv at h
        split at h
        · next as j r hpop =>
          split at h
          · next o hj =>
            cases hcn : (Nat.ble (fx_sum r) 8 && decide (gk_mci[f]? = some o.1)) with
            | false => rw [hcn] at h; exact fx_nos h
            | true =>
              rw [hcn] at h
              change fx_aft (pc + 3) lc r (call f (.ref j :: as) mem) = some zz at h
              rw [Bool.and_eq_true] at hcn
              have hsum := Nat.le_of_ble_eq_true hcn.1
              have hci := of_decide_eq_true hcn.2
              unfold fx_aft at h
              split at h
              · next x hcl1 =>
                obtain ⟨r9, mem9⟩ := x
                obtain rfl := Option.some.inj h
                obtain ⟨v2, rfl, rfl, hn⟩ := fx_pops_ok n hpop
                rw [List.append_nil] at hcl1
                obtain ⟨q, h1, h2, h3⟩ := hx_w_get hO hj
                obtain ⟨ci, vs⟩ := o
                have hw : (fx_w ps mem)[j]? = some (fx_ad ps j, .inr (ci, vs.map (fx_v ps))) := by rw [h2]; exact h3
                have hck1 := hck _ (rk_lk_mem hlk1)
                rw [← fx_sum_lm ps] at hsum
                have hstk : ((v2.reverse ++ .ref j :: r).map (fx_v ps)) = (v2.map (fx_v ps)).reverse ++ (.ref (fx_ad ps j) :: r.map (fx_v ps)) := by
                  rw [List.map_append, List.map_reverse]
                  rfl
                rw [hstk]
                have kk2 : ∀ (H' : Heap) (locs' : List Loc), hx_ok s ps mem9 → va_P D gk_cl (fx_w ps mem9) H' → va_D Ad (fx_w ps mem9) → va_S Ad s.heap H' locs' → rk_KW p l e R s m args below meth c Q (pc + 3) ls ((r9.map (fx_v ps)).toList ++ r.map (fx_v ps)) H' locs' 0 0 := fun H' locs' g1 g2 g3 g4 => by
                  have := kk H' locs' ls g1 g2 g3 g4 hl
                  cases r9 with
                  | none => exact this
                  | some v9 => exact this
                rcases hkd2 with rfl | rfl
                · obtain ⟨q, hq, w1, w2, w3, w4⟩ := hck1
                  obtain ⟨M', hM, hM21, hmet⟩ := hcall f _ _ _ _ hcl1 q hq
                  obtain ⟨m1, m2, m3, m4, m5, -⟩ := hmok f q M' hq hM
                  obtain ⟨kq, hkq, -⟩ := hP j _ hw
                  have hkn := hmci f ci q kq hci hq hkq
                  have hrecv := va_recv hK hP hkq hw
                  rw [hkn] at hrecv
                  refine hx_back (as := ((Value.ref j :: v2).map (fx_v ps)).toArray) hA hD hS ?_ kk2
                  exact va_runV (C := q.1) (As := v2.map (fx_v ps)) hfix (hmet ps H.size) ⟨callB_of n hts (rk_good hgw m4) rfl rfl rfl (hts _ m5) (hts _ w1) ⟨m3.1, m3.2, w4⟩ ⟨hfr, by show 8 + (M'.2.1 + 11) + 40 * (d + 4) ≤ R.locals; omega⟩, hts _ w2, hts _ w3⟩ ⟨hx_blind hxt hxo, hrecv, fun U hU hW => hx_pre hxt hXt hA hS hxo hxw hK hO hP hD U hU hW⟩ rfl (by rw [List.length_map]; exact hn) hl.1 rfl (lv_room hsum) hdg ⟨Nat.zero_le _, Nat.zero_le _⟩
                · obtain ⟨q, host, hq, w1, w2, w3, w4⟩ := hck1
                  obtain ⟨M', hM, hM21, hmet⟩ := hcall f _ _ _ _ hcl1 q hq
                  obtain ⟨m1, m2, m3, m4, m5, -⟩ := hmok f q M' hq hM
                  obtain ⟨kq, hkq, -⟩ := hP j _ hw
                  have hkn := hmci f ci q kq hci hq hkq
                  have hrecv := va_recv hK hP hkq hw
                  rw [hkn] at hrecv
                  refine hx_back (as := ((Value.ref j :: v2).map (fx_v ps)).toArray) hA hD hS ?_ kk2
                  exact va_runVN (C := q.1) (As := v2.map (fx_v ps)) hfix (hmet ps H.size) ⟨va_cnB n hts (rk_good hgw m4) rfl rfl rfl (hxw _ w1) (hts _ m5) ⟨m3.1, m3.2, w4⟩ ⟨hfr, by show 8 + (M'.2.1 + 11) + 40 * (d + 4) ≤ R.locals; omega⟩, hts _ w2, hts _ w3⟩ ⟨hx_blind hxt hxo, hrecv, fun U hU hW => hx_pre hxt hXt hA hS hxo hxw hK hO hP hD U hU hW⟩ rfl (by rw [List.length_map]; exact hn) hl.1 rfl (lv_room hsum) hdg ⟨Nat.zero_le _, Nat.zero_le _⟩
              · exact fx_nos h
          · exact fx_nos h
        · exact fx_nos h
    · exact fx_nos h
  case invokestatic idx =>
    change (match rk_lk M.2.2.1 idx with
      | some q => cond (Nat.beq q.1 7 || Nat.beq q.1 8) (fx_cs call (pc + 3) q.2.1 q.2.2 lc stk mem) (cond (Nat.beq q.1 12) (hx_cp (pc + 3) lc stk mem) (fx_mem gk_fty M pc (.invokestatic idx) lc stk mem))
      | none => none) = some zz at h
    split at h
    · next q9 hlk1 =>
      obtain ⟨kd, f, n⟩ := q9
      cases hkd : (Nat.beq kd 7 || Nat.beq kd 8) with
      | false =>
        rw [hkd] at h
        cases h12 : Nat.beq kd 12 with
        | false =>
          dsimp only [cond] at h
          rw [h12] at h
          exact hbase h
        | true =>
          dsimp only [cond] at h
          rw [h12] at h
          change hx_cp (pc + 3) lc stk mem = some zz at h
          simp [rk_len] at hlen; subst hlen
          obtain rfl := Nat.eq_of_beq_eq_true h12
          obtain ⟨w1, w2, w3, w4⟩ := hkk _ (rk_lk_mem hlk1) rfl
          have hnf : nativeFrameWords "java/lang/System" "arraycopy" 5 ≤ 20 := by decide +kernel
          unfold hx_cp at h
          split at h
          · next n9 dp j1 sp j0 r =>
            split at h
            · next n0 f9 n1 g9 hj0 hj1 =>
              obtain ⟨hc, rfl⟩ := fx_if_inv h
              rw [Bool.and_eq_true] at hc
              have hsum := Nat.le_of_ble_eq_true hc.1
              rw [← fx_sum_lm ps] at hsum
              obtain ⟨c1, c2, c3, c4, c5⟩ := hx_cc_ok hc.2
              obtain ⟨q0, a1, a2, a3, a4⟩ := hx_arr hF hO hj0
              obtain ⟨q1, b1, b2, b3, b4⟩ := hx_arr hF hO hj1
              have eset : fx_w ps (mem.set j1 (.inr (.int, n1, .inl (va_cpy f9 g9 sp.toNatClampNeg dp.toNatClampNeg n9.toNatClampNeg)))) = (fx_w ps mem).set j1 (q1.1, .inl (q1.2, n1, .inl (va_cpy f9 g9 sp.toNatClampNeg dp.toNatClampNeg n9.toNatClampNeg))) := fx_w_set ps mem j1 _ q1 b1
              show rk_KW p l e R s m args below meth c Q pc ls (.int n9 :: .int dp :: .ref (fx_ad ps j1) :: .int sp :: .ref (fx_ad ps j0) :: r.map (fx_v ps)) H locs 0 0
              rw [a2, b2]
              refine va_copyi (ty := .int) hx hb (by rw [hml]; exact hl.1.symm) hown (hts _ w1) (hts _ w2) (hts _ w3) (hts _ w4) (a4.app b4) hP hD hS j0 j1 0 1 a3 b3 rfl rfl rfl c1 c2 c3 c4 c5 (fun _ _ => rfl) (by omega) (by omega) hdg (fun H1 locs1 hP1 hD1 hS1 => ?_)
              exact kk H1 locs1 ls (hx_ok_arr hO hj1) (by rw [eset]; exact hP1) (by rw [eset]; exact hD1) hS1 hl
            · next n0 f9 n1 g9 hj0 hj1 =>
              obtain ⟨hc, rfl⟩ := fx_if_inv h
              rw [Bool.and_eq_true] at hc
              have hsum := Nat.le_of_ble_eq_true hc.1
              rw [← fx_sum_lm ps] at hsum
              obtain ⟨c1, c2, c3, c4, c5⟩ := hx_cc_ok hc.2
              obtain ⟨q0, a1, a2, a3, a4⟩ := hx_arr hF hO hj0
              obtain ⟨q1, b1, b2, b3, b4⟩ := hx_arr hF hO hj1
              have eset : fx_w ps (mem.set j1 (.inr (.long, n1, .inr (.inl (va_cpy f9 g9 sp.toNatClampNeg dp.toNatClampNeg n9.toNatClampNeg))))) = (fx_w ps mem).set j1 (q1.1, .inl (q1.2, n1, .inr (.inl (va_cpy f9 g9 sp.toNatClampNeg dp.toNatClampNeg n9.toNatClampNeg)))) := fx_w_set ps mem j1 _ q1 b1
              show rk_KW p l e R s m args below meth c Q pc ls (.int n9 :: .int dp :: .ref (fx_ad ps j1) :: .int sp :: .ref (fx_ad ps j0) :: r.map (fx_v ps)) H locs 0 0
              rw [a2, b2]
              refine va_copyl (ty := .long) hx hb (by rw [hml]; exact hl.1.symm) hown (hts _ w1) (hts _ w2) (hts _ w3) (hts _ w4) (a4.app b4) hP hD hS j0 j1 0 1 a3 b3 rfl rfl rfl c1 c2 c3 c4 c5 (fun _ _ => rfl) (by omega) (by omega) hdg (fun H1 locs1 hP1 hD1 hS1 => ?_)
              exact kk H1 locs1 ls (hx_ok_arr hO hj1) (by rw [eset]; exact hP1) (by rw [eset]; exact hD1) hS1 hl
            · exact fx_nos h
          · exact fx_nos h
      | true =>
        simp [rk_len] at hlen; subst hlen
        rw [hkd] at h
        change fx_cs call (pc + 3) f n lc stk mem = some zz at h
        have hkd2 : kd = 7 ∨ kd = 8 := by
          rw [Bool.or_eq_true] at hkd
          exact hkd.imp Nat.eq_of_beq_eq_true Nat.eq_of_beq_eq_true
        unfold fx_cs at h
        split at h
        · next as r hpop =>
          cases hcn : Nat.ble (fx_sum r) 8 with
          | false => rw [hcn] at h; exact fx_nos h
          | true =>
            rw [hcn] at h
            change fx_aft (pc + 3) lc r (call f as mem) = some zz at h
            have hsum := Nat.le_of_ble_eq_true hcn
            unfold fx_aft at h
            split at h
            · next x hcl1 =>
              obtain ⟨r9, mem9⟩ := x
              obtain rfl := Option.some.inj h
              obtain ⟨v2, rfl, rfl, hn⟩ := fx_pops_ok n hpop
              rw [List.append_nil] at hcl1
              have hck1 := hck _ (rk_lk_mem hlk1)
              rw [← fx_sum_lm ps] at hsum
              have hstk : ((v2.reverse ++ r).map (fx_v ps)) = (v2.map (fx_v ps)).reverse ++ r.map (fx_v ps) := by
                rw [List.map_append, List.map_reverse]
              rw [hstk]
              have kk2 : ∀ (H' : Heap) (locs' : List Loc), hx_ok s ps mem9 → va_P D gk_cl (fx_w ps mem9) H' → va_D Ad (fx_w ps mem9) → va_S Ad s.heap H' locs' → rk_KW p l e R s m args below meth c Q (pc + 3) ls ((r9.map (fx_v ps)).toList ++ r.map (fx_v ps)) H' locs' 0 0 := fun H' locs' g1 g2 g3 g4 => by
                have := kk H' locs' ls g1 g2 g3 g4 hl
                cases r9 with
                | none => exact this
                | some v9 => exact this
              rcases hkd2 with rfl | rfl
              · obtain ⟨q, hq, w1, w2, w4⟩ := hck1
                obtain ⟨M', hM, hM21, hmet⟩ := hcall f _ _ _ _ hcl1 q hq
                obtain ⟨m1, m2, m3, m4, m5, -⟩ := hmok f q M' hq hM
                refine hx_back (as := (v2.map (fx_v ps)).toArray) hA hD hS ?_ kk2
                exact va_runS (As := v2.map (fx_v ps)) hfix (hmet ps H.size) ⟨callB_of n hts (rk_good hgw m4) rfl rfl rfl (hts _ m5) (hts _ w1) ⟨m3.1, m3.2, w4⟩ ⟨hfr, by show 8 + (M'.2.1 + 11) + 40 * (d + 4) ≤ R.locals; omega⟩, hts _ w2⟩ ⟨hx_blind hxt hxo, fun U hU hW => hx_pre hxt hXt hA hS hxo hxw hK hO hP hD U hU hW⟩ rfl (by rw [List.length_map]; exact hn) hl.1 rfl (lv_room hsum) hdg ⟨Nat.zero_le _, Nat.zero_le _⟩
              · obtain ⟨q, host, hq, w1, w2, w4⟩ := hck1
                obtain ⟨M', hM, hM21, hmet⟩ := hcall f _ _ _ _ hcl1 q hq
                obtain ⟨m1, m2, m3, m4, m5, -⟩ := hmok f q M' hq hM
                refine hx_back (as := (v2.map (fx_v ps)).toArray) hA hD hS ?_ kk2
                exact va_runSN (As := v2.map (fx_v ps)) hfix (hmet ps H.size) ⟨va_cnB n hts (rk_good hgw m4) rfl rfl rfl (hxw _ w1) (hts _ m5) ⟨m3.1, m3.2, w4⟩ ⟨hfr, by show 8 + (M'.2.1 + 11) + 40 * (d + 4) ≤ R.locals; omega⟩, hts _ w2, trivial⟩ ⟨hx_blind hxt hxo, fun U hU hW => hx_pre hxt hXt hA hS hxo hxw hK hO hP hD U hU hW⟩ rfl (by rw [List.length_map]; exact hn) hl.1 rfl (lv_room hsum) hdg ⟨Nat.zero_le _, Nat.zero_le _⟩
            · exact fx_nos h
        · exact fx_nos h
    · exact fx_nos h
  case aaload =>
    simp [rk_len] at hlen; subst hlen
    change hx_aa (pc + 1) lc stk mem = some zz at h
    unfold hx_aa at h
    split at h
    · next i j r =>
      split at h
      · next ty n f hj =>
        obtain ⟨hc, rfl⟩ := fx_if_inv h
        rw [Bool.and_eq_true] at hc
        obtain ⟨q, h1, h2, h3, h4⟩ := hx_arr hF hO hj
        show rk_KW p l e R s m args below meth c Q pc ls (.int i :: .ref (fx_ad ps j) :: r.map (fx_v ps)) H locs 0 0
        rw [h2]
        have fin := kk H locs ls hO hP hD hS hl
        have fin : rk_KW p l e R s m args below meth c Q (pc + 1) ls (va_rf ((f i.toNatClampNeg).map (fx_ad ps)) :: r.map (fx_v ps)) H locs 0 0 := by rw [hx_rf]; exact fin
        cases ty
        case object C => exact va_aldq hx hb h4 hP j 0 h3 rfl (fx_in_ok hc.1) hdg fin
        case array t => exact va_alda hx hb h4 hP j 0 h3 rfl (fx_in_ok hc.1) hdg fin
        all_goals cases hc.2
      · exact fx_nos h
    · exact fx_nos h
  case arraylength =>
    simp [rk_len] at hlen; subst hlen
    change hx_al (pc + 1) lc stk mem = some zz at h
    unfold hx_al at h
    split at h
    · next j r =>
      split at h
      · next ty z hj =>
        obtain rfl := Option.some.inj h
        obtain ⟨q, h1, h2, h3, h4⟩ := hx_arr hF hO hj
        show rk_KW p l e R s m args below meth c Q pc ls (.ref (fx_ad ps j) :: r.map (fx_v ps)) H locs 0 0
        rw [h2]
        exact va_alen hx hb h4 hP j 0 h3 rfl (v := Int32.ofNat z.1) (by
          show Int32.ofNat (fx_z ps z).1 = _
          unfold fx_z
          split <;> rfl) hdg (kk H locs ls hO hP hD hS hl)
      · exact fx_nos h
    · exact fx_nos h
  all_goals exact hbase h
/-- a run that ends: so does the machine -/
theorem hx_run_ok (hxt : tk_xtok xt) {M : rk_M2} (hkk : ∀ r ∈ M.2.2.1, rk_kok gk_tbl own r) {ps : fx_P} (hXt : xt Ad s s.heap) (hok : rk_ok gk_tbl gk_xw gk_cl gk_fty gk_cln gk_MN gk_mci gk_P) (hx : p.tables.exec = Jvm.exec) (hb : c.code = cc) (hlocks : meth.locks = false) (hr : meth.sig.returnType = M.2.2.2.2.1) (hml : c.maxLocals = M.2.1) (hins : ∀ r ∈ M.1, decode cc r.1 = .ok r.2) (hF : rk_Fr s m args meth D gk_cl Ad gk_tbl gk_xw gk_fty gk_cln own M.2.2.1 M.2.2.2.1) (hck : ∀ r ∈ M.2.2.1, rk_cok gk_tbl gk_xw gk_MN gk_P own r) {d : Nat} {call : fx_Ca} (hcall : hx_SC l D xt d call) (hfr : d + 5 ≤ R.frames) (hlo : 40 * (d + 5) ≤ R.locals) {rr : Option Value} {memE : fx_M} : ∀ (n pc : Nat) (lc : fx_L) (stk : List Value) (mem : fx_M), hx_run call gk_fty gk_mci M n pc lc stk mem = some (rr, memE) → hx_ok s ps mem → ∀ (H : Heap) (locs : List Loc) (ls : Array Slot), va_P D gk_cl (fx_w ps mem) H → va_D Ad (fx_w ps mem) → va_S Ad s.heap H locs → lv_has ls M.2.1 (fx_lm ps lc) → rk_KW p l e R s m args below meth c (MQ below (hx_Post D ps memE rr Ad) args s R.cells R.slots Ad) pc ls (stk.map (fx_v ps)) H locs 0 0 := by
  intro n
  induction n with
  | zero => intro pc lc stk mem h; exact fx_nos h
  | succ n ih =>
    intro pc lc stk mem h hO H locs ls hP hD hS hl
    unfold hx_run at h
    split at h
    · exact fx_nos h
    · next q hat =>
      obtain ⟨hmem, hpc⟩ := tk_at_ok hat
      obtain ⟨pc9, ins, len⟩ := q
      dsimp only at hpc
      subst hpc
      cases hlen : rk_len ins len with
      | false => dsimp only at h; rw [hlen] at h; exact fx_nos h
      | true =>
        dsimp only at h
        rw [hlen] at h
        dsimp only [cond] at h
        have hdg : decode cc pc9 = .ok (ins, len) := hins (pc9, ins, len) hmem
        have hpost : ∀ (v : Option Value), v = rr → mem = memE → ∀ t : State, t.heap = H → s.WarmedH t.vm → hx_Post D ps memE rr Ad args s (.returned (v.map (fx_v ps))) t := fun v e1 e2 t ht hW => by
          subst e1 e2
          exact ⟨⟨rfl, hx_ok_moved hW.alike hO, by rw [ht]; exact hP, hD⟩, hS.F ht⟩
        split at h
        · next v hend =>
          cases h
          refine W.widen (k := R.cells) (n := R.slots) (Nat.zero_le _) (Nat.zero_le _) ?_
          unfold fx_end at hend
          split at hend
          · split at hend
            · next h1 h2 =>
              cases hend
              simp [rk_len] at hlen; subst hlen
              exact W.vret hx hb (by rw [hr]; exact h2) (hpost none rfl rfl) hS.2.2 hdg
            · cases hend
          · split at hend
            · next x ty h2 =>
              cases hvt : fx_vt ty (.int x) with
              | false => rw [hvt] at hend; cases hend
              | true =>
                rw [hvt] at hend
                cases hend
                simp [rk_len] at hlen; subst hlen
                obtain ⟨-, hnr, hfi⟩ := fx_vt_ok (ps := ps) hvt
                have hrt : meth.sig.returnType = some ty := by rw [hr]; exact h2
                cases ty
                case int => exact W.iret hx hb hrt (hpost (some (.int x)) rfl rfl) hS.2.2 hdg
                case boolean => exact W.zret (ty := .boolean) hx hb hrt hnr (hpost (some (.int x)) rfl rfl) hS.2.2 hdg
                all_goals cases hvt
            · cases hend
          · split at hend
            · next x h2 =>
              cases hend
              simp [rk_len] at hlen; subst hlen
              exact W.lret hx hb (by rw [hr]; exact h2) (hpost (some (.long x)) rfl rfl) hS.2.2 hdg
            · cases hend
          · cases hend
        · exact fx_nos h
        · split at h
          · next z hz =>
            exact hx_step_ok hxt hkk hXt hok hx hb hml hF hck hcall hfr hlo hdg hlen hz hO hP hD hS hl (fun H' locs' ls' g1 g2 g3 g4 g5 => ih _ _ _ _ h g1 H' locs' ls' g2 g3 g4 g5)
          · exact fx_nos h
end HFXB
section HFXC
variable {l : Launch} {D : va_G} {xt : tk_XT}
set_option maxHeartbeats 4000000 in
theorem hx_call_ok (hxt : tk_xtok xt) (hok : rk_ok gk_tbl gk_xw gk_cl gk_fty gk_cln gk_MN gk_mci gk_P) (N : Nat) : ∀ d : Nat, hx_SC l D xt d (hx_call gk_fty gk_mci gk_P N d) := by
  intro d
  induction d with
  | zero => intro f as mem mem' r h; exact fx_nos h
  | succ d ih =>
    intro f as mem mem' r h q hq
    unfold hx_call at h
    split at h
    · exact fx_nos h
    · next M hM =>
      cases hc : (Nat.ble M.2.1 21 && Nat.ble (fx_sum as) M.2.1) with
      | false => rw [hc] at h; exact fx_nos h
      | true =>
        rw [hc] at h
        dsimp only [cond] at h
        rw [Bool.and_eq_true] at hc
        have hc1 := Nat.le_of_ble_eq_true hc.1
        have hc2 := Nat.le_of_ble_eq_true hc.2
        refine ⟨M, hM, hc1, fun ps sz => ?_⟩
        obtain ⟨hgw, hxo, hcl, hac, hlenM, hmok, hmci⟩ := id hok
        obtain ⟨m1, m2, m3, m4, m5, m6, m7, m8, m9⟩ := hmok f q M hq hM
        refine Met.ofW (cc := q.2.2) (maxL := M.2.1) (ret := M.2.2.2.2.1) m1 rfl ?_
        intro p e s m args below meth c s₁ B hml hv
        obtain ⟨rfl, hsz, hP, hK, hD0, hO, hxw, hXt⟩ := hv
        have hts0 := atoms_spec (ws := Jvm.Cond.code q.2.1 q.2.2 M.2.1 M.2.2.2.2.1 :: gk_tbl) B.pre
        have hts : ∀ w ∈ gk_tbl, w.before (as.map (fx_v ps)).toArray s = true := fun w hw => hts0 w (List.mem_cons_of_mem _ hw)
        have hown : s.vm.findClass q.1 = some m.cls := by rw [← m2]; exact findClass_of_methodNamed B.named
        have hnm : meth.name = q.2.1.name := (name_of_methodNamed B.named B.method).1
        subst hsz
        have hF : rk_Fr s m (as.map (fx_v ps)).toArray meth D gk_cl (va_A (fx_w ps mem) s.heap.size) gk_tbl gk_xw gk_fty gk_cln q.1 M.2.2.1 M.2.2.2.1 := ⟨hts, hxw, hown, hK, fun z hz => Or.inr hz, hcl, fun r hr => (m7 r hr).1, fun hz => by rw [hnm]; exact m8 hz, hac, m9⟩
        have key := hx_run_ok hxt (fun r hr => (m7 r hr).2.2) hXt (l := l) (p := p) (e := e) (R := (headSpec (Jvm.Cond.code q.2.1 q.2.2 M.2.1 M.2.2.2.2.1 :: gk_tbl) { frames := d + 1 + 4, cells := 0, slots := 0, locals := 40 * (d + 1 + 4) }).room) (below := below) (ps := ps) (rr := r) (memE := mem') hok B.exec B.bytes B.notSynchronized B.returns hml m6 hF (fun r hr => (m7 r hr).2.1) ih (Nat.le_refl _) (Nat.le_refl _) N 0 (lv_args 0 as) [] mem h hO
        have hlen : (lg_sl (as.map (fx_v ps))).length ≤ M.2.1 := by
          rw [rk_lgsl, fx_sum_lm]
          exact hc2
        have hl := lv_entry (as.map (fx_v ps)) (n := M.2.1) hlen
        rw [lg_entry_eq]
        exact key s.heap [] _ hP hD0.self va_S.rf (by rw [fx_args_lm]; exact hl)
end HFXC
end MG17_1
section MG17_2
/-! ===== hx: single steps of a run, where something must be shown ===== -/
section HXS
variable {call : fx_Ca} {fty : rk_F} {mci : List Nat} {M : rk_M2}
theorem hx_one {n pc : Nat} {ins : Instr} {len : Nat} {lc : fx_L} {stk : List Value} {mem : fx_M} {z : Nat × fx_L × List Value × fx_M} (hat : tk_at M.1 pc = some (pc, ins, len)) (hl : rk_len ins len = true) (he : fx_end M.2.2.2.2.1 ins stk = none) (hs : hx_step call fty mci M pc ins lc stk mem = some z) : hx_run call fty mci M (n + 1) pc lc stk mem = hx_run call fty mci M n z.1 z.2.1 z.2.2.1 z.2.2.2 := by
  conv => lhs; unfold hx_run
  rw [hat]
  dsimp only
  rw [hl, he, hs]
  rfl
theorem hx_ldI {n pc : Nat} {i : Int32} {j len : Nat} {f : Nat → Int32} {lc : fx_L} {r : List Value} {mem : fx_M} (hat : tk_at M.1 pc = some (pc, .iaload, 1)) (hj : mem[j]? = some (.inr (.int, len, .inl f))) (hin : fx_in i len = true) : hx_run call fty mci M (n + 1) pc lc (.int i :: .ref j :: r) mem = hx_run call fty mci M n (pc + 1) lc (.int (f i.toNatClampNeg) :: r) mem :=
  hx_one (z := (pc + 1, lc, .int (f i.toNatClampNeg) :: r, mem)) hat rfl rfl (by
    show fx_ia (pc + 1) lc (.int i :: .ref j :: r) mem = _
    unfold fx_ia
    dsimp only
    rw [hj]
    dsimp only
    rw [hin]
    rfl)
theorem hx_ldB {n pc : Nat} {i : Int32} {j len : Nat} {f : Nat → Int32} {lc : fx_L} {r : List Value} {mem : fx_M} (hat : tk_at M.1 pc = some (pc, .baload, 1)) (hj : mem[j]? = some (.inr (.byte, len, .inl f))) (hin : fx_in i len = true) : hx_run call fty mci M (n + 1) pc lc (.int i :: .ref j :: r) mem = hx_run call fty mci M n (pc + 1) lc (.int (f i.toNatClampNeg) :: r) mem :=
  hx_one (z := (pc + 1, lc, .int (f i.toNatClampNeg) :: r, mem)) hat rfl rfl (by
    show fx_ba (pc + 1) lc (.int i :: .ref j :: r) mem = _
    unfold fx_ba
    dsimp only
    rw [hj]
    dsimp only
    rw [hin]
    rfl)
theorem hx_ldL {n pc : Nat} {i : Int32} {j len : Nat} {f : Nat → Int64} {lc : fx_L} {r : List Value} {mem : fx_M} (hat : tk_at M.1 pc = some (pc, .laload, 1)) (hj : mem[j]? = some (.inr (.long, len, .inr (.inl f)))) (hin : fx_in i len = true) : hx_run call fty mci M (n + 1) pc lc (.int i :: .ref j :: r) mem = hx_run call fty mci M n (pc + 1) lc (.long (f i.toNatClampNeg) :: r) mem :=
  hx_one (z := (pc + 1, lc, .long (f i.toNatClampNeg) :: r, mem)) hat rfl rfl (by
    show fx_la (pc + 1) lc (.int i :: .ref j :: r) mem = _
    unfold fx_la
    dsimp only
    rw [hj]
    dsimp only
    rw [hin]
    rfl)
theorem hx_stI {n pc : Nat} {i v : Int32} {j len : Nat} {f : Nat → Int32} {lc : fx_L} {r : List Value} {mem mem' : fx_M} (hat : tk_at M.1 pc = some (pc, .iastore, 1)) (hj : mem[j]? = some (.inr (.int, len, .inl f))) (hin : fx_in i len = true) (hm : mem.set j (.inr (.int, len, .inl (upd f i.toNatClampNeg v))) = mem') : hx_run call fty mci M (n + 1) pc lc (.int v :: .int i :: .ref j :: r) mem = hx_run call fty mci M n (pc + 1) lc r mem' :=
  hx_one (z := (pc + 1, lc, r, mem')) hat rfl rfl (by
    show fx_is (pc + 1) lc (.int v :: .int i :: .ref j :: r) mem = _
    unfold fx_is
    dsimp only
    rw [hj]
    dsimp only
    rw [hin, hm]
    rfl)
theorem hx_stB {n pc : Nat} {i v : Int32} {j len : Nat} {f : Nat → Int32} {lc : fx_L} {r : List Value} {mem mem' : fx_M} (hat : tk_at M.1 pc = some (pc, .bastore, 1)) (hj : mem[j]? = some (.inr (.byte, len, .inl f))) (hin : fx_in i len = true) (hm : mem.set j (.inr (.byte, len, .inl (upd f i.toNatClampNeg v.toInt8.toInt32))) = mem') : hx_run call fty mci M (n + 1) pc lc (.int v :: .int i :: .ref j :: r) mem = hx_run call fty mci M n (pc + 1) lc r mem' :=
  hx_one (z := (pc + 1, lc, r, mem')) hat rfl rfl (by
    show fx_bs (pc + 1) lc (.int v :: .int i :: .ref j :: r) mem = _
    unfold fx_bs
    dsimp only
    rw [hj]
    dsimp only
    rw [hin, hm]
    rfl)
theorem hx_stL {n pc : Nat} {i : Int32} {v : Int64} {j len : Nat} {f : Nat → Int64} {lc : fx_L} {r : List Value} {mem mem' : fx_M} (hat : tk_at M.1 pc = some (pc, .lastore, 1)) (hj : mem[j]? = some (.inr (.long, len, .inr (.inl f)))) (hin : fx_in i len = true) (hm : mem.set j (.inr (.long, len, .inr (.inl (vp_updL f i.toNatClampNeg v)))) = mem') : hx_run call fty mci M (n + 1) pc lc (.long v :: .int i :: .ref j :: r) mem = hx_run call fty mci M n (pc + 1) lc r mem' :=
  hx_one (z := (pc + 1, lc, r, mem')) hat rfl rfl (by
    show fx_ls (pc + 1) lc (.long v :: .int i :: .ref j :: r) mem = _
    unfold fx_ls
    dsimp only
    rw [hj]
    dsimp only
    rw [hin, hm]
    rfl)
theorem hx_ivV {n pc idx kd f k j : Nat} {o : Nat × List Value} {lc : fx_L} {stk as r : List Value} {v : Option Value} {mem mem' : fx_M} (hat : tk_at M.1 pc = some (pc, .invokevirtual idx, 3)) (hlk : rk_lk M.2.2.1 idx = some (kd, f, k)) (hkd : (Nat.beq kd 5 || Nat.beq kd 6) = true) (hpop : fx_pops k [] stk = some (as, .ref j :: r)) (hj : mem[j]? = some (.inl o)) (hsum : (Nat.ble (fx_sum r) 8 && decide (mci[f]? = some o.1)) = true) (hc : call f (.ref j :: as) mem = some (v, mem')) : hx_run call fty mci M (n + 1) pc lc stk mem = hx_run call fty mci M n (pc + 3) lc (v.toList ++ r) mem' :=
  hx_one (z := (pc + 3, lc, v.toList ++ r, mem')) hat rfl rfl (by
    show (match rk_lk M.2.2.1 idx with
      | some q => cond (Nat.beq q.1 5 || Nat.beq q.1 6) (hx_cv mci call (pc + 3) q.2.1 q.2.2 lc stk mem) none
      | none => none) = _
    rw [hlk]
    dsimp only
    rw [hkd]
    show hx_cv mci call (pc + 3) f k lc stk mem = _
    unfold hx_cv
    rw [hpop]
    dsimp only
    rw [hj]
    dsimp only
    rw [hsum, hc]
    rfl)
theorem hx_ivS {n pc idx kd f k : Nat} {lc : fx_L} {stk as r : List Value} {v : Option Value} {mem mem' : fx_M} (hat : tk_at M.1 pc = some (pc, .invokestatic idx, 3)) (hlk : rk_lk M.2.2.1 idx = some (kd, f, k)) (hkd : (Nat.beq kd 7 || Nat.beq kd 8) = true) (hpop : fx_pops k [] stk = some (as, r)) (hsum : Nat.ble (fx_sum r) 8 = true) (hc : call f as mem = some (v, mem')) : hx_run call fty mci M (n + 1) pc lc stk mem = hx_run call fty mci M n (pc + 3) lc (v.toList ++ r) mem' :=
  hx_one (z := (pc + 3, lc, v.toList ++ r, mem')) hat rfl rfl (by
    show (match rk_lk M.2.2.1 idx with
      | some q => cond (Nat.beq q.1 7 || Nat.beq q.1 8) (fx_cs call (pc + 3) q.2.1 q.2.2 lc stk mem) (cond (Nat.beq q.1 12) (hx_cp (pc + 3) lc stk mem) (fx_mem fty M pc (.invokestatic idx) lc stk mem))
      | none => none) = _
    rw [hlk]
    dsimp only
    rw [hkd]
    show fx_cs call (pc + 3) f k lc stk mem = _
    unfold fx_cs
    rw [hpop]
    dsimp only
    rw [hsum, hc]
    rfl)
theorem hx_ldA {n pc : Nat} {i : Int32} {j len : Nat} {ty : FieldType} {f : Nat → Option Nat} {lc : fx_L} {r : List Value} {mem : fx_M} (hat : tk_at M.1 pc = some (pc, .aaload, 1)) (hj : mem[j]? = some (.inr (ty, len, .inr (.inr (.inr (.inr f)))))) (hin : fx_in i len = true) (hro : hx_ro ty = true) : hx_run call fty mci M (n + 1) pc lc (.int i :: .ref j :: r) mem = hx_run call fty mci M n (pc + 1) lc (va_rf (f i.toNatClampNeg) :: r) mem :=
  hx_one (z := (pc + 1, lc, va_rf (f i.toNatClampNeg) :: r, mem)) hat rfl rfl (by
    show hx_aa (pc + 1) lc (.int i :: .ref j :: r) mem = _
    unfold hx_aa
    dsimp only
    rw [hj]
    dsimp only
    rw [hin, hro]
    rfl)
theorem hx_cpL {n pc idx a b : Nat} {x dp sp : Int32} {j0 j1 n0 n1 : Nat} {f g : Nat → Int64} {lc : fx_L} {r : List Value} {mem mem' : fx_M} (hat : tk_at M.1 pc = some (pc, .invokestatic idx, 3)) (hlk : rk_lk M.2.2.1 idx = some (12, a, b)) (h0 : mem[j0]? = some (.inr (.long, n0, .inr (.inl f)))) (h1 : mem[j1]? = some (.inr (.long, n1, .inr (.inl g)))) (hsum : Nat.ble (fx_sum r) 8 = true) (hc : hx_cc x dp sp n0 n1 = true) (hm : mem.set j1 (.inr (.long, n1, .inr (.inl (va_cpy f g sp.toNatClampNeg dp.toNatClampNeg x.toNatClampNeg)))) = mem') : hx_run call fty mci M (n + 1) pc lc (.int x :: .int dp :: .ref j1 :: .int sp :: .ref j0 :: r) mem = hx_run call fty mci M n (pc + 3) lc r mem' :=
  hx_one (z := (pc + 3, lc, r, mem')) hat rfl rfl (by
    show (match rk_lk M.2.2.1 idx with
      | some q => cond (Nat.beq q.1 7 || Nat.beq q.1 8) (fx_cs call (pc + 3) q.2.1 q.2.2 lc _ mem) (cond (Nat.beq q.1 12) (hx_cp (pc + 3) lc _ mem) (fx_mem fty M pc (.invokestatic idx) lc _ mem))
      | none => none) = _
    rw [hlk]
    dsimp only
    rw [show (Nat.beq 12 7 || Nat.beq 12 8) = false from rfl, show Nat.beq 12 12 = true from rfl]
    show hx_cp (pc + 3) lc (.int x :: .int dp :: .ref j1 :: .int sp :: .ref j0 :: r) mem = _
    unfold hx_cp
    dsimp only
    rw [h0, h1]
    dsimp only
    rw [hsum, hc, hm]
    rfl)
theorem hx_cpI {n pc idx a b : Nat} {x dp sp : Int32} {j0 j1 n0 n1 : Nat} {f g : Nat → Int32} {lc : fx_L} {r : List Value} {mem mem' : fx_M} (hat : tk_at M.1 pc = some (pc, .invokestatic idx, 3)) (hlk : rk_lk M.2.2.1 idx = some (12, a, b)) (h0 : mem[j0]? = some (.inr (.int, n0, .inl f))) (h1 : mem[j1]? = some (.inr (.int, n1, .inl g))) (hsum : Nat.ble (fx_sum r) 8 = true) (hc : hx_cc x dp sp n0 n1 = true) (hm : mem.set j1 (.inr (.int, n1, .inl (va_cpy f g sp.toNatClampNeg dp.toNatClampNeg x.toNatClampNeg))) = mem') : hx_run call fty mci M (n + 1) pc lc (.int x :: .int dp :: .ref j1 :: .int sp :: .ref j0 :: r) mem = hx_run call fty mci M n (pc + 3) lc r mem' :=
  hx_one (z := (pc + 3, lc, r, mem')) hat rfl rfl (by
    show (match rk_lk M.2.2.1 idx with
      | some q => cond (Nat.beq q.1 7 || Nat.beq q.1 8) (fx_cs call (pc + 3) q.2.1 q.2.2 lc _ mem) (cond (Nat.beq q.1 12) (hx_cp (pc + 3) lc _ mem) (fx_mem fty M pc (.invokestatic idx) lc _ mem))
      | none => none) = _
    rw [hlk]
    dsimp only
    rw [show (Nat.beq 12 7 || Nat.beq 12 8) = false from rfl, show Nat.beq 12 12 = true from rfl]
    show hx_cp (pc + 3) lc (.int x :: .int dp :: .ref j1 :: .int sp :: .ref j0 :: r) mem = _
    unfold hx_cp
    dsimp only
    rw [h0, h1]
    dsimp only
    rw [hsum, hc, hm]
    rfl)
end HXS
end MG17_2
section MG17_3
/-! ===== hx: fewer locals ===== -/
section HXW
variable {l l' : fx_L} {stk : List Value} {mem : fx_M}
theorem hx_p_aa (pc : Nat) : ∀ k z, hx_aa pc k stk mem = some z → z.2.1 = k ∧ ∀ k', hx_aa pc k' stk mem = some (z.1, k', z.2.2.1, z.2.2.2) := by
  intro k z h
  unfold hx_aa at h ⊢
  split at h
  · split at h
    · obtain ⟨hc, rfl⟩ := fx_if_inv h
      exact ⟨rfl, fun k' => by dsimp only; rw [hc]; rfl⟩
    · exact fx_nos h
  · exact fx_nos h
theorem hx_p_al (pc : Nat) : ∀ k z, hx_al pc k stk mem = some z → z.2.1 = k ∧ ∀ k', hx_al pc k' stk mem = some (z.1, k', z.2.2.1, z.2.2.2) := by
  intro k z h
  unfold hx_al at h ⊢
  split at h
  · split at h
    · cases h
      exact ⟨rfl, fun k' => rfl⟩
    · exact fx_nos h
  · exact fx_nos h
theorem hx_p_cp (pc : Nat) : ∀ k z, hx_cp pc k stk mem = some z → z.2.1 = k ∧ ∀ k', hx_cp pc k' stk mem = some (z.1, k', z.2.2.1, z.2.2.2) := by
  intro k z h
  unfold hx_cp at h ⊢
  split at h
  · split at h
    · obtain ⟨hc, rfl⟩ := fx_if_inv h
      exact ⟨rfl, fun k' => by dsimp only; rw [hc]; rfl⟩
    · obtain ⟨hc, rfl⟩ := fx_if_inv h
      exact ⟨rfl, fun k' => by dsimp only; rw [hc]; rfl⟩
    · exact fx_nos h
  · exact fx_nos h
theorem hx_w_step (h : fx_le l l') (call : fx_Ca) (fty : rk_F) (mci : List Nat) (M : rk_M2) (pc : Nat) (ins : Instr) : fx_sw4 (hx_step call fty mci M pc ins l stk mem) (hx_step call fty mci M pc ins l' stk mem) := by
  have hm := fx_w_mem (stk := stk) (mem := mem) h fty M pc ins
  cases ins
  case invokevirtual idx =>
    show fx_sw4 (match rk_lk M.2.2.1 idx with
      | some q => cond (Nat.beq q.1 5 || Nat.beq q.1 6) (hx_cv mci call (pc + 3) q.2.1 q.2.2 l stk mem) none
      | none => none) (match rk_lk M.2.2.1 idx with
      | some q => cond (Nat.beq q.1 5 || Nat.beq q.1 6) (hx_cv mci call (pc + 3) q.2.1 q.2.2 l' stk mem) none
      | none => none)
    cases rk_lk M.2.2.1 idx with
    | none => exact fun _ hz => nomatch hz
    | some q =>
      dsimp only
      cases (Nat.beq q.1 5 || Nat.beq q.1 6) with
      | false => exact fun _ hz => nomatch hz
      | true =>
        show fx_sw4 (hx_cv mci call (pc + 3) q.2.1 q.2.2 l stk mem) (hx_cv mci call (pc + 3) q.2.1 q.2.2 l' stk mem)
        unfold hx_cv
        split
        · next as j r hp =>
          split
          · next o hj =>
            cases (Nat.ble (fx_sum r) 8 && decide (mci[q.2.1]? = some o.1)) with
            | false => exact fun _ hz => nomatch hz
            | true => exact fx_w_aft h _ _ _
          · exact fun _ hz => nomatch hz
        · exact fun _ hz => nomatch hz
  case invokestatic idx =>
    show fx_sw4 (match rk_lk M.2.2.1 idx with
      | some q => cond (Nat.beq q.1 7 || Nat.beq q.1 8) (fx_cs call (pc + 3) q.2.1 q.2.2 l stk mem) (cond (Nat.beq q.1 12) (hx_cp (pc + 3) l stk mem) (fx_mem fty M pc (.invokestatic idx) l stk mem))
      | none => none) (match rk_lk M.2.2.1 idx with
      | some q => cond (Nat.beq q.1 7 || Nat.beq q.1 8) (fx_cs call (pc + 3) q.2.1 q.2.2 l' stk mem) (cond (Nat.beq q.1 12) (hx_cp (pc + 3) l' stk mem) (fx_mem fty M pc (.invokestatic idx) l' stk mem))
      | none => none)
    cases rk_lk M.2.2.1 idx with
    | none => exact fun _ hz => nomatch hz
    | some q =>
      dsimp only
      cases (Nat.beq q.1 7 || Nat.beq q.1 8) with
      | false =>
        dsimp only [cond]
        cases Nat.beq q.1 12 with
        | false => exact fx_w_mem h fty M pc (.invokestatic idx)
        | true => exact fx_w_of (f := hx_cp (pc + 3)) h (hx_p_cp _)
      | true =>
        show fx_sw4 (fx_cs call (pc + 3) q.2.1 q.2.2 l stk mem) (fx_cs call (pc + 3) q.2.1 q.2.2 l' stk mem)
        unfold fx_cs
        split
        · next as r hp =>
          cases Nat.ble (fx_sum r) 8 with
          | false => exact fun _ hz => nomatch hz
          | true => exact fx_w_aft h _ _ _
        · exact fun _ hz => nomatch hz
  case aaload => exact fx_w_of (f := hx_aa (pc + 1)) h (hx_p_aa _)
  case arraylength => exact fx_w_of (f := hx_al (pc + 1)) h (hx_p_al _)
  all_goals exact hm
end HXW
theorem hx_w_run (call : fx_Ca) (fty : rk_F) (mci : List Nat) (M : rk_M2) : ∀ (n pc : Nat) (l l' : fx_L) (stk : List Value) (mem : fx_M) (R : Option Value × fx_M), fx_le l l' → hx_run call fty mci M n pc l stk mem = some R → hx_run call fty mci M n pc l' stk mem = some R := by
  intro n
  induction n with
  | zero => intro pc l l' stk mem R _ h; exact fx_nos h
  | succ n ih =>
    intro pc l l' stk mem R hle h
    unfold hx_run at h ⊢
    split at h
    · exact fx_nos h
    · next q hat =>
      cases hlen : rk_len q.2.1 q.2.2 with
      | false => rw [hlen] at h; exact fx_nos h
      | true =>
        rw [hlen] at h
        dsimp only [cond] at h ⊢
        split at h
        · exact h
        · exact fx_nos h
        · split at h
          · next z hz =>
            obtain ⟨k', e1, e2⟩ := hx_w_step hle call fty mci M pc q.2.1 z hz
            rw [e1]
            exact ih _ _ _ _ _ _ e2 h
          · exact fx_nos h
end MG17_3
section MG17_4
abbrev hm_call (N d : Nat) : fx_Ca := hx_call gk_fty gk_mci gk_P N d
/-! ===== fr: runs and calls of the program, with fuel and depth as wanted ===== -/
def hr_R (k : Nat) (M : rk_M2) (pc : Nat) (lc : fx_L) (stk : List Value) (mem : fx_M) (R : Option Value × fx_M) : Prop := ∃ N0 n0 : Nat, ∀ N d n : Nat, hx_run (hm_call (N + N0 + 100) (d + k)) gk_fty gk_mci M (n + n0) pc lc stk mem = some R
def hr_T (k f : Nat) (as : List Value) (mem : fx_M) (r : Option Value) (mem' : fx_M) : Prop := ∃ N0 : Nat, ∀ N d : Nat, hm_call (N + N0 + 100) (d + k) f as mem = some (r, mem')
section HFR
variable {k pc : Nat} {M : rk_M2} {lc : fx_L} {stk r as : List Value} {mem : fx_M} {R : Option Value × fx_M}
/-- steps that are plain -/
theorem hr_s (j : Nat) {pc' : Nat} {lc' : fx_L} {stk' : List Value} {mem' : fx_M} (h : ∀ N d n : Nat, hx_run (hm_call (N + 100) (d + k)) gk_fty gk_mci M (n + j) pc lc stk mem = hx_run (hm_call (N + 100) (d + k)) gk_fty gk_mci M n pc' lc' stk' mem') (kk : hr_R k M pc' lc' stk' mem' R) : hr_R k M pc lc stk mem R := by
  obtain ⟨N0, n0, hk⟩ := kk
  refine ⟨N0, n0 + j, fun N d n => ?_⟩
  rw [← Nat.add_assoc, h (N + N0) d (n + n0)]
  exact hk N d n
theorem hr_ret {v : Option Value} {ins : Instr} {len : Nat} (hat : tk_at M.1 pc = some (pc, ins, len)) (hl : rk_len ins len = true) (he : fx_end M.2.2.2.2.1 ins stk = some (some v)) : hr_R k M pc lc stk mem (v, mem) := by
  refine ⟨0, 1, fun N d n => ?_⟩
  show hx_run _ _ _ _ (n + 1) _ _ _ _ = _
  unfold hx_run
  rw [hat]
  dsimp only
  rw [hl, he]
  rfl
theorem hr_1 {pc' : Nat} {lc' : fx_L} {stk' : List Value} {mem' : fx_M} (h : ∀ (call : fx_Ca) (n : Nat), hx_run call gk_fty gk_mci M (n + 1) pc lc stk mem = hx_run call gk_fty gk_mci M n pc' lc' stk' mem') (kk : hr_R k M pc' lc' stk' mem' R) : hr_R k M pc lc stk mem R := by
  obtain ⟨N0, n0, hk⟩ := kk
  refine ⟨N0, n0 + 1, fun N d n => ?_⟩
  rw [← Nat.add_assoc, h]
  exact hk N d n
theorem hr_ldI {i : Int32} {j len : Nat} {f : Nat → Int32} (hat : tk_at M.1 pc = some (pc, .iaload, 1)) (hj : mem[j]? = some (.inr (.int, len, .inl f))) (hin : fx_in i len = true) (kk : hr_R k M (pc + 1) lc (.int (f i.toNatClampNeg) :: r) mem R) : hr_R k M pc lc (.int i :: .ref j :: r) mem R := hr_1 (fun _ _ => hx_ldI hat hj hin) kk
theorem hr_ldB {i : Int32} {j len : Nat} {f : Nat → Int32} (hat : tk_at M.1 pc = some (pc, .baload, 1)) (hj : mem[j]? = some (.inr (.byte, len, .inl f))) (hin : fx_in i len = true) (kk : hr_R k M (pc + 1) lc (.int (f i.toNatClampNeg) :: r) mem R) : hr_R k M pc lc (.int i :: .ref j :: r) mem R := hr_1 (fun _ _ => hx_ldB hat hj hin) kk
theorem hr_ldL {i : Int32} {j len : Nat} {f : Nat → Int64} (hat : tk_at M.1 pc = some (pc, .laload, 1)) (hj : mem[j]? = some (.inr (.long, len, .inr (.inl f)))) (hin : fx_in i len = true) (kk : hr_R k M (pc + 1) lc (.long (f i.toNatClampNeg) :: r) mem R) : hr_R k M pc lc (.int i :: .ref j :: r) mem R := hr_1 (fun _ _ => hx_ldL hat hj hin) kk
theorem hr_stI {i v : Int32} {j len : Nat} {f : Nat → Int32} {mem' : fx_M} (hat : tk_at M.1 pc = some (pc, .iastore, 1)) (hj : mem[j]? = some (.inr (.int, len, .inl f))) (hin : fx_in i len = true) (hm : mem.set j (.inr (.int, len, .inl (upd f i.toNatClampNeg v))) = mem') (kk : hr_R k M (pc + 1) lc r mem' R) : hr_R k M pc lc (.int v :: .int i :: .ref j :: r) mem R := hr_1 (fun _ _ => hx_stI hat hj hin hm) kk
theorem hr_stL {i : Int32} {v : Int64} {j len : Nat} {f : Nat → Int64} {mem' : fx_M} (hat : tk_at M.1 pc = some (pc, .lastore, 1)) (hj : mem[j]? = some (.inr (.long, len, .inr (.inl f)))) (hin : fx_in i len = true) (hm : mem.set j (.inr (.long, len, .inr (.inl (vp_updL f i.toNatClampNeg v)))) = mem') (kk : hr_R k M (pc + 1) lc r mem' R) : hr_R k M pc lc (.long v :: .int i :: .ref j :: r) mem R := hr_1 (fun _ _ => hx_stL hat hj hin hm) kk
theorem hr_ivV {idx kd f na j k' : Nat} {o : Nat × List Value} {v : Option Value} {mem' : fx_M} (hc : hr_T k' f (.ref j :: as) mem v mem') (hk : k' ≤ k) (hat : tk_at M.1 pc = some (pc, .invokevirtual idx, 3)) (hlk : rk_lk M.2.2.1 idx = some (kd, f, na)) (hkd : (Nat.beq kd 5 || Nat.beq kd 6) = true) (hpop : fx_pops na [] stk = some (as, .ref j :: r)) (hj : mem[j]? = some (.inl o)) (hsum : (Nat.ble (fx_sum r) 8 && decide (gk_mci[f]? = some o.1)) = true) (kk : hr_R k M (pc + 3) lc (v.toList ++ r) mem' R) : hr_R k M pc lc stk mem R := by
  obtain ⟨N1, hc⟩ := hc
  obtain ⟨N0, n0, hk2⟩ := kk
  refine ⟨N0 + N1, n0 + 1, fun N d n => ?_⟩
  have e1 : N + (N0 + N1) + 100 = (N + N0) + N1 + 100 := by omega
  have e2 : N + (N0 + N1) + 100 = (N + N1) + N0 + 100 := by omega
  have hc2 := hc (N + N0) (d + (k - k'))
  rw [← e1, show d + (k - k') + k' = d + k by omega] at hc2
  rw [show n + (n0 + 1) = (n + n0) + 1 by omega, hx_ivV hat hlk hkd hpop hj hsum hc2, e2]
  exact hk2 (N + N1) d n
theorem hr_ivS {idx kd f na k' : Nat} {v : Option Value} {mem' : fx_M} (hc : hr_T k' f as mem v mem') (hk : k' ≤ k) (hat : tk_at M.1 pc = some (pc, .invokestatic idx, 3)) (hlk : rk_lk M.2.2.1 idx = some (kd, f, na)) (hkd : (Nat.beq kd 7 || Nat.beq kd 8) = true) (hpop : fx_pops na [] stk = some (as, r)) (hsum : Nat.ble (fx_sum r) 8 = true) (kk : hr_R k M (pc + 3) lc (v.toList ++ r) mem' R) : hr_R k M pc lc stk mem R := by
  obtain ⟨N1, hc⟩ := hc
  obtain ⟨N0, n0, hk2⟩ := kk
  refine ⟨N0 + N1, n0 + 1, fun N d n => ?_⟩
  have e1 : N + (N0 + N1) + 100 = (N + N0) + N1 + 100 := by omega
  have e2 : N + (N0 + N1) + 100 = (N + N1) + N0 + 100 := by omega
  have hc2 := hc (N + N0) (d + (k - k'))
  rw [← e1, show d + (k - k') + k' = d + k by omega] at hc2
  rw [show n + (n0 + 1) = (n + n0) + 1 by omega, hx_ivS hat hlk hkd hpop hsum hc2, e2]
  exact hk2 (N + N1) d n
theorem hr_meth {f : Nat} {v : Option Value} {mem' : fx_M} (hM : gk_P[f]? = some M) (hc : (Nat.ble M.2.1 21 && Nat.ble (fx_sum as) M.2.1) = true) (kk : hr_R k M 0 (lv_args 0 as) [] mem (v, mem')) : hr_T (k + 1) f as mem v mem' := by
  obtain ⟨N0, n0, hk⟩ := kk
  refine ⟨N0 + n0, fun N d => ?_⟩
  show hx_call gk_fty gk_mci gk_P (N + (N0 + n0) + 100) ((d + k) + 1) f as mem = _
  unfold hx_call
  rw [hM]
  dsimp only
  rw [hc]
  have h := hk (N + n0) d (N + N0 + 100)
  rw [show N + n0 + N0 + 100 = N + (N0 + n0) + 100 by omega, show N + N0 + 100 + n0 = N + (N0 + n0) + 100 by omega] at h
  exact h
theorem hr_ldA {i : Int32} {j len : Nat} {ty : FieldType} {f : Nat → Option Nat} (hat : tk_at M.1 pc = some (pc, .aaload, 1)) (hj : mem[j]? = some (.inr (ty, len, .inr (.inr (.inr (.inr f)))))) (hin : fx_in i len = true) (hro : hx_ro ty = true) (kk : hr_R k M (pc + 1) lc (va_rf (f i.toNatClampNeg) :: r) mem R) : hr_R k M pc lc (.int i :: .ref j :: r) mem R := hr_1 (fun call n => hx_ldA hat hj hin hro) kk
theorem hr_stB {i v : Int32} {j len : Nat} {f : Nat → Int32} {mem' : fx_M} (hat : tk_at M.1 pc = some (pc, .bastore, 1)) (hj : mem[j]? = some (.inr (.byte, len, .inl f))) (hin : fx_in i len = true) (hm : mem.set j (.inr (.byte, len, .inl (upd f i.toNatClampNeg v.toInt8.toInt32))) = mem') (kk : hr_R k M (pc + 1) lc r mem' R) : hr_R k M pc lc (.int v :: .int i :: .ref j :: r) mem R := hr_1 (fun call n => hx_stB hat hj hin hm) kk
theorem hr_len {j : Nat} {ty : FieldType} {z : vp_A} (hat : tk_at M.1 pc = some (pc, .arraylength, 1)) (hj : mem[j]? = some (.inr (ty, z))) (kk : hr_R k M (pc + 1) lc (.int (Int32.ofNat z.1) :: r) mem R) : hr_R k M pc lc (.ref j :: r) mem R := hr_1 (fun call n => hx_one (z := (pc + 1, lc, .int (Int32.ofNat z.1) :: r, mem)) hat rfl rfl (by
    show hx_al (pc + 1) lc (.ref j :: r) mem = _
    unfold hx_al
    dsimp only
    rw [hj])) kk
theorem hr_cpL {idx a b : Nat} {x dp sp : Int32} {j0 j1 n0 n1 : Nat} {f g : Nat → Int64} {mem' : fx_M} (hat : tk_at M.1 pc = some (pc, .invokestatic idx, 3)) (hlk : rk_lk M.2.2.1 idx = some (12, a, b)) (h0 : mem[j0]? = some (.inr (.long, n0, .inr (.inl f)))) (h1 : mem[j1]? = some (.inr (.long, n1, .inr (.inl g)))) (hsum : Nat.ble (fx_sum r) 8 = true) (hc : hx_cc x dp sp n0 n1 = true) (hm : mem.set j1 (.inr (.long, n1, .inr (.inl (va_cpy f g sp.toNatClampNeg dp.toNatClampNeg x.toNatClampNeg)))) = mem') (kk : hr_R k M (pc + 3) lc r mem' R) : hr_R k M pc lc (.int x :: .int dp :: .ref j1 :: .int sp :: .ref j0 :: r) mem R := hr_1 (fun call n => hx_cpL hat hlk h0 h1 hsum hc hm) kk
theorem hr_cpI {idx a b : Nat} {x dp sp : Int32} {j0 j1 n0 n1 : Nat} {f g : Nat → Int32} {mem' : fx_M} (hat : tk_at M.1 pc = some (pc, .invokestatic idx, 3)) (hlk : rk_lk M.2.2.1 idx = some (12, a, b)) (h0 : mem[j0]? = some (.inr (.int, n0, .inl f))) (h1 : mem[j1]? = some (.inr (.int, n1, .inl g))) (hsum : Nat.ble (fx_sum r) 8 = true) (hc : hx_cc x dp sp n0 n1 = true) (hm : mem.set j1 (.inr (.int, n1, .inl (va_cpy f g sp.toNatClampNeg dp.toNatClampNeg x.toNatClampNeg))) = mem') (kk : hr_R k M (pc + 3) lc r mem' R) : hr_R k M pc lc (.int x :: .int dp :: .ref j1 :: .int sp :: .ref j0 :: r) mem R := hr_1 (fun call n => hx_cpI hat hlk h0 h1 hsum hc hm) kk
theorem hr_retz {x : Int32} (hx : x = 0 ∨ x = 1) (hat : tk_at M.1 pc = some (pc, .ireturn, 1)) (hr : M.2.2.2.2.1 = some .boolean) : hr_R k M pc lc [.int x] mem (some (.int x), mem) := hr_ret hat rfl (by rw [hr]; rcases hx with rfl | rfl <;> rfl)
end HFR
end MG17_4
section MG17_5
/-! ===== fe: a run that ends in one of several ways ===== -/
def he_R (k : Nat) (M : rk_M2) (pc : Nat) (lc : fx_L) (stk : List Value) (mem : fx_M) (F : Option Value × fx_M → Prop) : Prop := ∃ R, F R ∧ hr_R k M pc lc stk mem R
section HFE
variable {k pc : Nat} {M : rk_M2} {lc : fx_L} {stk r as : List Value} {mem : fx_M} {F : Option Value × fx_M → Prop}
theorem he_of {k' pc' : Nat} {M' : rk_M2} {lc' : fx_L} {stk' : List Value} {mem' : fx_M} (h : ∀ R, hr_R k' M' pc' lc' stk' mem' R → hr_R k M pc lc stk mem R) (kk : he_R k' M' pc' lc' stk' mem' F) : he_R k M pc lc stk mem F := by
  obtain ⟨R, h1, h2⟩ := kk
  exact ⟨R, h1, h R h2⟩
theorem he_s (j : Nat) {pc' : Nat} {lc' : fx_L} {stk' : List Value} {mem' : fx_M} (h : ∀ N d n : Nat, hx_run (hm_call (N + 100) (d + k)) gk_fty gk_mci M (n + j) pc lc stk mem = hx_run (hm_call (N + 100) (d + k)) gk_fty gk_mci M n pc' lc' stk' mem') (kk : he_R k M pc' lc' stk' mem' F) : he_R k M pc lc stk mem F := he_of (fun _ z => hr_s j h z) kk
theorem he_ret {v : Option Value} {ins : Instr} {len : Nat} (hF : F (v, mem)) (hat : tk_at M.1 pc = some (pc, ins, len)) (hl : rk_len ins len = true) (he : fx_end M.2.2.2.2.1 ins stk = some (some v)) : he_R k M pc lc stk mem F := ⟨_, hF, hr_ret hat hl he⟩
theorem he_retz {x : Int32} (hF : F (some (.int x), mem)) (hx : x = 0 ∨ x = 1) (hat : tk_at M.1 pc = some (pc, .ireturn, 1)) (hr : M.2.2.2.2.1 = some .boolean) : he_R k M pc lc [.int x] mem F := ⟨_, hF, hr_retz hx hat hr⟩
theorem he_ldI {i : Int32} {j len : Nat} {f : Nat → Int32} (hat : tk_at M.1 pc = some (pc, .iaload, 1)) (hj : mem[j]? = some (.inr (.int, len, .inl f))) (hin : fx_in i len = true) (kk : he_R k M (pc + 1) lc (.int (f i.toNatClampNeg) :: r) mem F) : he_R k M pc lc (.int i :: .ref j :: r) mem F := he_of (fun _ z => hr_ldI hat hj hin z) kk
theorem he_ldB {i : Int32} {j len : Nat} {f : Nat → Int32} (hat : tk_at M.1 pc = some (pc, .baload, 1)) (hj : mem[j]? = some (.inr (.byte, len, .inl f))) (hin : fx_in i len = true) (kk : he_R k M (pc + 1) lc (.int (f i.toNatClampNeg) :: r) mem F) : he_R k M pc lc (.int i :: .ref j :: r) mem F := he_of (fun _ z => hr_ldB hat hj hin z) kk
theorem he_ldL {i : Int32} {j len : Nat} {f : Nat → Int64} (hat : tk_at M.1 pc = some (pc, .laload, 1)) (hj : mem[j]? = some (.inr (.long, len, .inr (.inl f)))) (hin : fx_in i len = true) (kk : he_R k M (pc + 1) lc (.long (f i.toNatClampNeg) :: r) mem F) : he_R k M pc lc (.int i :: .ref j :: r) mem F := he_of (fun _ z => hr_ldL hat hj hin z) kk
theorem he_stI {i v : Int32} {j len : Nat} {f : Nat → Int32} {mem' : fx_M} (hat : tk_at M.1 pc = some (pc, .iastore, 1)) (hj : mem[j]? = some (.inr (.int, len, .inl f))) (hin : fx_in i len = true) (hm : mem.set j (.inr (.int, len, .inl (upd f i.toNatClampNeg v))) = mem') (kk : he_R k M (pc + 1) lc r mem' F) : he_R k M pc lc (.int v :: .int i :: .ref j :: r) mem F := he_of (fun _ z => hr_stI hat hj hin hm z) kk
theorem he_stL {i : Int32} {v : Int64} {j len : Nat} {f : Nat → Int64} {mem' : fx_M} (hat : tk_at M.1 pc = some (pc, .lastore, 1)) (hj : mem[j]? = some (.inr (.long, len, .inr (.inl f)))) (hin : fx_in i len = true) (hm : mem.set j (.inr (.long, len, .inr (.inl (vp_updL f i.toNatClampNeg v)))) = mem') (kk : he_R k M (pc + 1) lc r mem' F) : he_R k M pc lc (.long v :: .int i :: .ref j :: r) mem F := he_of (fun _ z => hr_stL hat hj hin hm z) kk
theorem he_ivV {idx kd f na j k' : Nat} {o : Nat × List Value} {v : Option Value} {mem' : fx_M} (hc : hr_T k' f (.ref j :: as) mem v mem') (hk : k' ≤ k) (hat : tk_at M.1 pc = some (pc, .invokevirtual idx, 3)) (hlk : rk_lk M.2.2.1 idx = some (kd, f, na)) (hkd : (Nat.beq kd 5 || Nat.beq kd 6) = true) (hpop : fx_pops na [] stk = some (as, .ref j :: r)) (hj : mem[j]? = some (.inl o)) (hsum : (Nat.ble (fx_sum r) 8 && decide (gk_mci[f]? = some o.1)) = true) (kk : he_R k M (pc + 3) lc (v.toList ++ r) mem' F) : he_R k M pc lc stk mem F := he_of (fun _ z => hr_ivV hc hk hat hlk hkd hpop hj hsum z) kk
theorem he_ivS {idx kd f na k' : Nat} {v : Option Value} {mem' : fx_M} (hc : hr_T k' f as mem v mem') (hk : k' ≤ k) (hat : tk_at M.1 pc = some (pc, .invokestatic idx, 3)) (hlk : rk_lk M.2.2.1 idx = some (kd, f, na)) (hkd : (Nat.beq kd 7 || Nat.beq kd 8) = true) (hpop : fx_pops na [] stk = some (as, r)) (hsum : Nat.ble (fx_sum r) 8 = true) (kk : he_R k M (pc + 3) lc (v.toList ++ r) mem' F) : he_R k M pc lc stk mem F := he_of (fun _ z => hr_ivS hc hk hat hlk hkd hpop hsum z) kk
theorem he_meth {f : Nat} (hM : gk_P[f]? = some M) (hc : (Nat.ble M.2.1 21 && Nat.ble (fx_sum as) M.2.1) = true) (kk : he_R k M 0 (lv_args 0 as) [] mem F) : ∃ (v : Option Value) (mem' : fx_M), F (v, mem') ∧ hr_T (k + 1) f as mem v mem' := by
  obtain ⟨R, h1, h2⟩ := kk
  exact ⟨R.1, R.2, h1, hr_meth hM hc h2⟩
theorem he_ldA {i : Int32} {j len : Nat} {ty : FieldType} {f : Nat → Option Nat} (hat : tk_at M.1 pc = some (pc, .aaload, 1)) (hj : mem[j]? = some (.inr (ty, len, .inr (.inr (.inr (.inr f)))))) (hin : fx_in i len = true) (hro : hx_ro ty = true) (kk : he_R k M (pc + 1) lc (va_rf (f i.toNatClampNeg) :: r) mem F) : he_R k M pc lc (.int i :: .ref j :: r) mem F := he_of (fun _ z => hr_ldA hat hj hin hro z) kk
theorem he_stB {i v : Int32} {j len : Nat} {f : Nat → Int32} {mem' : fx_M} (hat : tk_at M.1 pc = some (pc, .bastore, 1)) (hj : mem[j]? = some (.inr (.byte, len, .inl f))) (hin : fx_in i len = true) (hm : mem.set j (.inr (.byte, len, .inl (upd f i.toNatClampNeg v.toInt8.toInt32))) = mem') (kk : he_R k M (pc + 1) lc r mem' F) : he_R k M pc lc (.int v :: .int i :: .ref j :: r) mem F := he_of (fun _ z => hr_stB hat hj hin hm z) kk
theorem he_len {j : Nat} {ty : FieldType} {z : vp_A} (hat : tk_at M.1 pc = some (pc, .arraylength, 1)) (hj : mem[j]? = some (.inr (ty, z))) (kk : he_R k M (pc + 1) lc (.int (Int32.ofNat z.1) :: r) mem F) : he_R k M pc lc (.ref j :: r) mem F := he_of (fun _ z => hr_len hat hj z) kk
theorem he_cpL {idx a b : Nat} {x dp sp : Int32} {j0 j1 n0 n1 : Nat} {f g : Nat → Int64} {mem' : fx_M} (hat : tk_at M.1 pc = some (pc, .invokestatic idx, 3)) (hlk : rk_lk M.2.2.1 idx = some (12, a, b)) (h0 : mem[j0]? = some (.inr (.long, n0, .inr (.inl f)))) (h1 : mem[j1]? = some (.inr (.long, n1, .inr (.inl g)))) (hsum : Nat.ble (fx_sum r) 8 = true) (hc : hx_cc x dp sp n0 n1 = true) (hm : mem.set j1 (.inr (.long, n1, .inr (.inl (va_cpy f g sp.toNatClampNeg dp.toNatClampNeg x.toNatClampNeg)))) = mem') (kk : he_R k M (pc + 3) lc r mem' F) : he_R k M pc lc (.int x :: .int dp :: .ref j1 :: .int sp :: .ref j0 :: r) mem F := he_of (fun _ z => hr_cpL hat hlk h0 h1 hsum hc hm z) kk
theorem hr_w {lc' : fx_L} {R : Option Value × fx_M} (hs : fx_sub lc' lc) (h1 : fx_nd lc') (h2 : fx_nd lc) (h : hr_R k M pc lc' stk mem R) : hr_R k M pc lc stk mem R := by
  obtain ⟨N0, n0, hk⟩ := h
  exact ⟨N0, n0, fun N d n => hx_w_run _ _ _ _ _ _ _ _ _ _ _ ⟨fx_sub_ok hs, h1, h2⟩ (hk N d n)⟩
/-- fewer locals, or in another order -/
theorem he_w {lc' : fx_L} (hs : fx_sub lc' lc) (h1 : fx_nd lc') (h2 : fx_nd lc) (kk : he_R k M pc lc' stk mem F) : he_R k M pc lc stk mem F := he_of (fun _ z => hr_w hs h1 h2 z) kk
end HFE
end MG17_5
section MG17_6
/-! ===== the class's world as a memory of hx ===== -/
theorem arrV_congr {cI : ClassId} {N : Nat} {f g : Nat → Value} (h : ∀ j, j < N → f j = g j) : arrV cI N f = arrV cI N g := by
  unfold arrV
  have e : (fun j : Fin N => f j.val) = (fun j : Fin N => g j.val) := funext (fun j => h j.val j.isLt)
  rw [e]
/-- the place of an address -/
def hc_ix : List Nat → Nat → Nat
  | [], _ => 0
  | a :: r, y => if a = y then 0 else hc_ix r y + 1
theorem hc_ix_ok {y : Nat} : ∀ {l : List Nat}, y ∈ l → l[hc_ix l y]? = some y := by
  intro l
  induction l with
  | nil => intro h; exact absurd h List.not_mem_nil
  | cons a r ih =>
    intro h
    unfold hc_ix
    by_cases e : a = y
    · rw [if_pos e, e]; rfl
    · rw [if_neg e]
      rcases List.mem_cons.mp h with h | h
      · exact absurd h.symm e
      · rw [List.getElem?_cons_succ]; exact ih h
theorem hc_ix_at {l : List Nat} {j y : Nat} (hd : ∀ i k : Nat, ∀ x, l[i]? = some x → l[k]? = some x → i = k) (h : l[j]? = some y) : hc_ix l y = j := hd _ _ y (hc_ix_ok (List.mem_of_getElem? h)) h
def hc_bk (ads : List Nat) (v : Value) : Value := match v with
  | .ref y => .ref (hc_ix ads y)
  | v => v
def hc_ad (ads : List Nat) (n : Nat) (f : Nat → Option Nat) : Nat → Option Nat := fun i => if i < n then (f i).map (hc_ix ads) else none
def hc_z (ads : List Nat) (z : vp_A) : vp_A := match z.2 with
  | .inr (.inr (.inr (.inr f))) => (z.1, .inr (.inr (.inr (.inr (hc_ad ads z.1 f)))))
  | _ => z
def hc_ft (t : Nat) : FieldType := match gc_ty[t]? with
  | some (.inr q) => q.1
  | _ => .int
def hc_e (ads : List Nat) (t : Nat) (e : va_E) : fx_E := match e with
  | .inr o => .inl (o.1, o.2.map (hc_bk ads))
  | .inl q => .inr (hc_ft t, hc_z ads q.2)
def hc_cl (e : va_E) : ClassId := match e with
  | .inl q => q.1
  | .inr _ => (0 : Nat)
def hc_mem (ads tw : List Nat) (ws : va_W) : fx_M := List.zipWith (fun t (q : Nat × va_E) => hc_e ads t q.2) tw ws
def hc_ps (ws : va_W) : fx_P := ws.map (fun q => (q.1, hc_cl q.2))
/-- the world out of its memory -/
def hc_w (ads tw : List Nat) (ws : va_W) : va_W := fx_w (hc_ps ws) (hc_mem ads tw ws)
section HCI
variable {ads tw : List Nat} {ws : va_W} {U : State}
theorem hc_ps_at {j : Nat} {q : Nat × va_E} (h : ws[j]? = some q) : (hc_ps ws)[j]? = some (q.1, hc_cl q.2) := by
  unfold hc_ps
  rw [List.getElem?_map, h]
  rfl
theorem hc_mem_at {j t : Nat} {q : Nat × va_E} (h : ws[j]? = some q) (ht : tw[j]? = some t) : (hc_mem ads tw ws)[j]? = some (hc_e ads t q.2) := by
  unfold hc_mem
  rw [List.getElem?_zipWith, h, ht]
theorem hc_mem_len (hl : ws.length = tw.length) : (hc_mem ads tw ws).length = ws.length := by
  unfold hc_mem
  rw [List.length_zipWith, hl, Nat.min_self]
theorem hc_ps_len : (hc_ps ws).length = ws.length := List.length_map ..
theorem hc_fad (h4 : ws.map Prod.fst = ads) {y : Nat} (h : y ∈ ads) : fx_ad (hc_ps ws) (hc_ix ads y) = y := by
  have h1 := hc_ix_ok h
  rw [← h4, List.getElem?_map] at h1
  obtain ⟨q, hq, e⟩ := Option.map_eq_some_iff.mp h1
  unfold fx_ad
  rw [h4] at hq
  rw [hc_ps_at hq]
  exact e
theorem tk_ty_mem {t y : Nat} (h : tk_ty ads tw t y) : y ∈ ads := by
  obtain ⟨j, h1, -⟩ := h
  exact List.mem_of_getElem? h1
theorem hc_fv (h4 : ws.map Prod.fst = ads) {reg : Nat → Nat → tk_I} {t i : Nat} {f : tk_F} {v : Value} (h : tk_fv lc_ro reg ads tw t i f v) : fx_v (hc_ps ws) (hc_bk ads v) = v := by
  unfold tk_fv at h
  split at h
  all_goals first
    | exact h.elim
    | (obtain ⟨x, rfl, -⟩ := h; rfl)
    | (obtain ⟨y, rfl, hy⟩ := h
       show Value.ref (fx_ad (hc_ps ws) (hc_ix ads y)) = _
       rw [hc_fad h4 (tk_ty_mem hy)])
/-- a cell out of its entry: the same, but for what stands behind a row's end -/
theorem hc_c (h4 : ws.map Prod.fst = ads) {t : Nat} {e : va_E} (hc : tk_cl gc_TY lc_ro ads tw U t e) (ht : t < gc_ty.length) : (∀ i, tk_pos (fx_c (hc_ps ws) (hc_cl e) (hc_e ads t e)) i = tk_pos e i) ∧ (∀ (D : va_G) (a : Nat) (H : Heap), va_at D gk_cl (a, e) H → va_at D gk_cl (a, fx_c (hc_ps ws) (hc_cl e) (hc_e ads t e)) H) ∧ tk_cl gc_TY lc_ro ads tw U t (fx_c (hc_ps ws) (hc_cl e) (hc_e ads t e)) ∧ ∀ (ty : FieldType) (z : vp_A), hc_e ads t e = .inr (ty, z) → ArrOfT U (hc_cl e) ty ∧ va_RA U (hc_cl e) ty := by
  unfold tk_cl at hc
  have hk : gc_TY.1[t]? = some gc_ty[t] := List.getElem?_eq_getElem ht
  have hk2 : gc_ty[t]? = some gc_ty[t] := hk
  rw [hk] at hc
  cases hT : gc_ty[t] with
  | inl o =>
    rw [hT] at hc hk hk2
    obtain ⟨vs, rfl, hl, hvs⟩ := hc
    have e1 : fx_c (hc_ps ws) (hc_cl (.inr (o.1, vs))) (hc_e ads t (.inr (o.1, vs))) = .inr (o.1, vs) := by
      show (Sum.inr (o.1, (vs.map (hc_bk ads)).map (fx_v (hc_ps ws))) : va_E) = .inr (o.1, vs)
      congr 2
      apply List.ext_getElem?
      intro i
      rw [List.getElem?_map, List.getElem?_map]
      cases hi : vs[i]? with
      | none => rfl
      | some v =>
        have hlt : i < o.2.length := by rw [← hl]; exact (List.getElem?_eq_some_iff.mp hi).1
        have := hvs i _ v (List.getElem?_eq_getElem hlt) hi
        show some (fx_v (hc_ps ws) (hc_bk ads v)) = some v
        rw [hc_fv h4 this]
    rw [e1]
    refine ⟨fun _ => rfl, fun _ _ _ h => h, ?_, fun ty z h => nomatch h⟩
    unfold tk_cl
    rw [hk]
    exact ⟨vs, rfl, hl, hvs⟩
  | inr q =>
    rw [hT] at hc hk hk2
    obtain ⟨cA, g1, g2, g3⟩ := hc
    have hft : hc_ft t = q.1 := by unfold hc_ft; rw [hk2]
    have fin : ∀ z : vp_A, e = .inl (cA, z) → ∀ (ty : FieldType) (z' : vp_A), hc_e ads t e = .inr (ty, z') → ArrOfT U (hc_cl e) ty ∧ va_RA U (hc_cl e) ty := by
      rintro z rfl ty z' h
      have h : (Sum.inr (hc_ft t, hc_z ads z) : fx_E) = .inr (ty, z') := h
      cases h
      rw [hft]
      exact ⟨g1, g2⟩
    have hq3 : ∀ n, q.1 = n → q.1 = n := fun _ h => h
    unfold tk_ar at g3
    have refs : ∀ f : Nat → Option Nat, e = .inl (cA, q.2.1, .inr (.inr (.inr (.inr f)))) → (∀ i, i < q.2.1 → tk_fv lc_ro gc_TY.2.1 ads tw t i q.2.2 (va_rf (f i))) → (∀ i, tk_pos (fx_c (hc_ps ws) (hc_cl e) (hc_e ads t e)) i = tk_pos e i) ∧ (∀ (D : va_G) (a : Nat) (H : Heap), va_at D gk_cl (a, e) H → va_at D gk_cl (a, fx_c (hc_ps ws) (hc_cl e) (hc_e ads t e)) H) ∧ fx_c (hc_ps ws) (hc_cl e) (hc_e ads t e) = .inl (cA, q.2.1, .inr (.inr (.inr (.inr (fun i => ((hc_ad ads q.2.1 f) i).map (fx_ad (hc_ps ws))))))) ∧ ∀ i, i < q.2.1 → va_rf (((hc_ad ads q.2.1 f) i).map (fx_ad (hc_ps ws))) = va_rf (f i) := by
      rintro f rfl hf
      have key : ∀ i, i < q.2.1 → va_rf (((hc_ad ads q.2.1 f) i).map (fx_ad (hc_ps ws))) = va_rf (f i) := fun i hi => by
        have h1 := hc_fv h4 (hf i hi)
        unfold hc_ad
        rw [if_pos hi]
        cases hfi : f i with
        | none => rfl
        | some y =>
          rw [hfi] at h1
          exact h1
      refine ⟨fun i => ?_, fun D a H h => ?_, rfl, key⟩
      · show (if i < q.2.1 then some (va_rf (((hc_ad ads q.2.1 f) i).map (fx_ad (hc_ps ws)))) else none) = (if i < q.2.1 then some (va_rf (f i)) else none)
        by_cases hi : i < q.2.1
        · rw [if_pos hi, if_pos hi, key i hi]
        · rw [if_neg hi, if_neg hi]
      · have h : H[a]? = some (arrV cA q.2.1 (fun j => va_rf (f j))) := h
        show H[a]? = some (arrV cA q.2.1 (fun j => va_rf (((hc_ad ads q.2.1 f) j).map (fx_ad (hc_ps ws)))))
        rw [h, arrV_congr key]
    split at g3
    · obtain ⟨f, rfl, hf⟩ := g3
      refine ⟨fun _ => rfl, fun _ _ _ h => h, ?_, fin _ rfl⟩
      show tk_cl gc_TY lc_ro ads tw U t (.inl (cA, q.2.1, .inl f))
      unfold tk_cl
      rw [hk]
      refine ⟨cA, g1, g2, ?_⟩
      unfold tk_ar
      rename_i e0
      rw [e0]
      exact ⟨f, rfl, hf⟩
    · obtain ⟨f, rfl, hf⟩ := g3
      refine ⟨fun _ => rfl, fun _ _ _ h => h, ?_, fin _ rfl⟩
      show tk_cl gc_TY lc_ro ads tw U t (.inl (cA, q.2.1, .inl f))
      unfold tk_cl
      rw [hk]
      refine ⟨cA, g1, g2, ?_⟩
      unfold tk_ar
      rename_i e0
      rw [e0]
      exact ⟨f, rfl, hf⟩
    · obtain ⟨f, rfl, hf⟩ := g3
      refine ⟨fun _ => rfl, fun _ _ _ h => h, ?_, fin _ rfl⟩
      show tk_cl gc_TY lc_ro ads tw U t (.inl (cA, q.2.1, .inr (.inl f)))
      unfold tk_cl
      rw [hk]
      refine ⟨cA, g1, g2, ?_⟩
      unfold tk_ar
      rename_i e0
      rw [e0]
      exact ⟨f, rfl, hf⟩
    · obtain ⟨f, e2, hf⟩ := g3
      obtain ⟨r1, r2, r3, r4⟩ := refs f e2 hf
      refine ⟨r1, r2, ?_, fin _ e2⟩
      rw [r3]
      unfold tk_cl
      rw [hk]
      refine ⟨cA, g1, g2, ?_⟩
      unfold tk_ar
      rename_i e0
      rw [e0]
      exact ⟨_, rfl, fun i hi => by rw [r4 i hi]; exact hf i hi⟩
    · obtain ⟨f, e2, hf⟩ := g3
      obtain ⟨r1, r2, r3, r4⟩ := refs f e2 hf
      refine ⟨r1, r2, ?_, fin _ e2⟩
      rw [r3]
      unfold tk_cl
      rw [hk]
      refine ⟨cA, g1, g2, ?_⟩
      unfold tk_ar
      rename_i e0
      rw [e0]
      exact ⟨_, rfl, fun i hi => by rw [r4 i hi]; exact hf i hi⟩
    · exact g3.elim
theorem hc_w_get (hl : ws.length = tw.length) {j : Nat} {q : Nat × va_E} (h : ws[j]? = some q) : ∃ t, tw[j]? = some t ∧ (hc_w ads tw ws)[j]? = some (q.1, fx_c (hc_ps ws) (hc_cl q.2) (hc_e ads t q.2)) := by
  have hlt : j < tw.length := by rw [← hl]; exact (List.getElem?_eq_some_iff.mp h).1
  have ht : tw[j]? = some tw[j] := List.getElem?_eq_getElem hlt
  refine ⟨_, ht, ?_⟩
  unfold hc_w fx_w
  rw [List.getElem?_zipWith, hc_ps_at h, hc_mem_at h ht]
theorem hc_w_len (hl : ws.length = tw.length) : (hc_w ads tw ws).length = ws.length := by
  unfold hc_w fx_w
  rw [List.length_zipWith, hc_ps_len, hc_mem_len hl, Nat.min_self]
theorem hc_w_inv (hl : ws.length = tw.length) {j : Nat} {q : Nat × va_E} (h : (hc_w ads tw ws)[j]? = some q) : ∃ (q0 : Nat × va_E) (t : Nat), ws[j]? = some q0 ∧ tw[j]? = some t ∧ q = (q0.1, fx_c (hc_ps ws) (hc_cl q0.2) (hc_e ads t q0.2)) := by
  have hlt : j < ws.length := by rw [← hc_w_len (ads := ads) hl]; exact (List.getElem?_eq_some_iff.mp h).1
  obtain ⟨t, ht, h2⟩ := hc_w_get (ads := ads) hl (List.getElem?_eq_getElem hlt)
  rw [h] at h2
  exact ⟨ws[j], t, List.getElem?_eq_getElem hlt, ht, Option.some.inj h2⟩
/-- a world with the same places -/
def hc_sm (ws ws' : va_W) : Prop := ∀ j : Nat, (∀ (y : Nat) (e : va_E), ws'[j]? = some (y, e) → ∃ e0, ws[j]? = some (y, e0) ∧ ∀ i, tk_pos e i = tk_pos e0 i)
theorem gc_X_sm {ws' : va_W} (h : hc_sm ws ws') (hX : gc_X tw ws) : gc_X tw ws' := by
  refine ⟨fun t to ta j jo ja y yo ya r e eo ea n x v h1 h2 h3 h4 h5 h6 h7 h8 h9 h10 h11 h12 h13 h14 h15 => ?_, fun t to ta j1 j2 y1 y2 yo k e1 e2 h1 h2 h3 h4 h5 h6 h7 h8 => ?_⟩
  · obtain ⟨f, k1, k2⟩ := h j y e h6
    obtain ⟨fo, k3, k4⟩ := h jo yo eo h7
    obtain ⟨fa, k5, k6⟩ := h ja ya ea h8
    rw [k2] at h9 h10 h11
    rw [k4] at h13
    rw [k6] at h14
    exact hX.1 t to ta j jo ja y yo ya r f fo fa n x v h1 h2 h3 h4 h5 k1 k3 k5 h9 h10 h11 h12 h13 h14 h15
  · obtain ⟨f1, k1, k2⟩ := h j1 y1 e1 h5
    obtain ⟨f2, k3, k4⟩ := h j2 y2 e2 h6
    rw [k2] at h7
    rw [k4] at h8
    exact hX.2 t to ta j1 j2 y1 y2 yo k f1 f2 h1 h2 h3 h4 k1 k3 h7 h8
end HCI
end MG17_6
section MG17_7
/-! ===== a call of the class by hx: what it gives, exactly ===== -/
/-- what a changed entry must be -/
def hc_chg (ads : List Nat) (t : Nat) (e e' : fx_E) : Prop := e' = e ∨ (∃ (kd : FieldType) (n : Nat) (f' : Nat → Int32) (fl : tk_F), (kd = .int ∨ kd = .byte) ∧ e' = .inr (kd, n, .inl f') ∧ gc_ty[t]? = some (.inr (kd, n, fl)) ∧ ∀ i : Nat, i < n → tk_fv lc_ro gc_reg ads lw_twC t i fl (.int (f' i))) ∨ (∃ (n : Nat) (f' : Nat → Int64) (fl : tk_F), e' = .inr (.long, n, .inr (.inl f')) ∧ gc_ty[t]? = some (.inr (.long, n, fl)) ∧ ∀ i : Nat, i < n → tk_fv lc_ro gc_reg ads lw_twC t i fl (.long (f' i))) ∨ (∃ (ci : Nat) (vs vs' : List Value), e = .inl (ci, vs) ∧ e' = .inl (ci, vs') ∧ vs'.length = vs.length ∧ ∀ (fs : List tk_F), gc_ty[t]? = some (.inl (ci, fs)) → ∀ (i : Nat) (f : tk_F), fs[i]? = some f → vs'[i]? = vs[i]? ∨ ∃ v, vs'[i]? = some v ∧ fx_kd v ≤ 1 ∧ tk_fv lc_ro gc_reg ads lw_twC t i f v)
theorem lw_twC_lt {j t : Nat} (h : lw_twC[j]? = some t) : t < gc_ty.length := by
  have hb : j < 270 := lw_ltC h
  have key : (List.range 270).all (fun j => match lw_twC[j]? with
    | some t => Nat.blt t gc_ty.length
    | none => true) = true := by decide +kernel
  have := List.all_eq_true.mp key j (List.mem_range.mpr hb)
  rw [h] at this
  exact Nat.le_of_ble_eq_true this
theorem hr_Met {l : Launch} {D : va_G} {xt : tk_XT} (hxt : tk_xtok xt) {k f : Nat} {as : List Value} {mem mem' : fx_M} {r : Option Value} (h : hr_T k f as mem r mem') : ∀ q : rk_N, gk_MN[f]? = some q → ∃ M, gk_P[f]? = some M ∧ M.2.1 ≤ 21 ∧ ∀ (ps : fx_P) (sz : Nat), Met l q.2.1 (Jvm.Cond.code q.2.1 q.2.2 M.2.1 M.2.2.2.2.1 :: gk_tbl) { frames := k + 4, cells := 0, slots := 0, locals := 40 * (k + 4) } (hx_Pre D xt ps mem sz as) (hx_Post D ps mem' r (va_A (fx_w ps mem) sz)) 0 0 (va_A (fx_w ps mem) sz) := by
  obtain ⟨N0, h⟩ := h
  have h1 := h 0 0
  rw [Nat.zero_add k] at h1
  exact hx_call_ok hxt gk_rok _ k f as mem mem' r h1
section HCS
variable {l : Launch} {D : va_G} {xt : tk_XT} {ads : List Nat} {X : va_W → Prop}
set_option maxHeartbeats 8000000 in
theorem hc_sem0 (hxt : tk_xtok xt) {k f : Nat} {kinds : List Nat} {envs : List tk_I} {Q : List Value → va_W → va_W → Value → Prop}
    (hex : ∀ (U : State) (ax : Nat) (rest : List Value) (ws : va_W), tk_ty ads lw_twC 0 ax → rk_A2 lq_av (kinds.zip envs) rest → rk_A2 (fun t (q : Nat × va_E) => tk_cl gc_TY lc_ro ads lw_twC U t q.2) lw_twC ws → ws.map Prod.fst = ads → va_D (fun _ => True) ws → X ws → ∃ (v : Value) (mem' : fx_M), fx_kd v ≤ 1 ∧ hr_T k f (.ref 0 :: rest) (hc_mem ads lw_twC ws) (some v) mem' ∧ mem'.length = ws.length ∧ (∀ (j t : Nat) (e e' : fx_E), lw_twC[j]? = some t → (hc_mem ads lw_twC ws)[j]? = some e → mem'[j]? = some e' → hc_chg ads t e e') ∧ X (fx_w (hc_ps ws) mem') ∧ Q rest ws (fx_w (hc_ps ws) mem') v) : lw_sem l D xt gc_TY X ads lw_twC (k + 4) f kinds envs Q := by
  intro qn hqn
  obtain ⟨M, hM, hM21⟩ := gk_row hqn
  refine ⟨M, hM, hM21, fun h0 ws rest sz hty hA2' h4 hob => rk_Met_case (fun aU U hP => ?_)⟩
  obtain ⟨p1, p2, p3, p4, p5, p6, p7, p8, p10⟩ := hP
  obtain ⟨v, mem', hvv, hfr, hlen, hchg, hX2, hQ⟩ := hex U h0 rest ws hty hA2' p6 h4 p5 p10
  obtain ⟨M2, hM2, -, hmet⟩ := hr_Met (l := l) (D := D) hxt hfr qn hqn
  obtain rfl : M = M2 := Option.some.inj (hM.symm.trans hM2)
  have hl : ws.length = lw_twC.length := p6.len.symm
  have hcell : ∀ {j t : Nat} {q : Nat × va_E}, ws[j]? = some q → lw_twC[j]? = some t → tk_cl gc_TY lc_ro ads lw_twC U t q.2 := fun {j t q} h1 h2 => by
    obtain ⟨q', h3, h5⟩ := p6.get h2
    rw [h1] at h3
    cases h3
    exact h5
  have hO : hx_ok U (hc_ps ws) (hc_mem ads lw_twC ws) := ⟨by rw [hc_mem_len hl, hc_ps_len]; exact Nat.le_refl _, fun j q ty z hq hm => by
    have hlt : j < ws.length := by rw [← hc_ps_len (ws := ws)]; exact (List.getElem?_eq_some_iff.mp hq).1
    have hw : ws[j]? = some ws[j] := List.getElem?_eq_getElem hlt
    have ht : lw_twC[j]? = some (lw_twC[j]'(by omega)) := List.getElem?_eq_getElem (by omega)
    rw [hc_ps_at hw] at hq
    rw [hc_mem_at hw ht] at hm
    cases hq
    exact (hc_c h4 (hcell hw ht) (lw_twC_lt ht)).2.2.2 ty z (Option.some.inj hm)⟩
  have hPw : va_P D gk_cl (hc_w ads lw_twC ws) U.heap := fun j q hq => by
    obtain ⟨q0, t, h1, h2, rfl⟩ := hc_w_inv hl hq
    exact (hc_c h4 (hcell h1 h2) (lw_twC_lt h2)).2.1 D q0.1 U.heap (p3 j q0 h1)
  have hDw : va_D (fun _ => True) (hc_w ads lw_twC ws) := ⟨fun i j a b hi hj e => by
    obtain ⟨a0, t1, h1, -, rfl⟩ := hc_w_inv hl hi
    obtain ⟨b0, t2, h2, -, rfl⟩ := hc_w_inv hl hj
    exact p5.1 i j a0 b0 h1 h2 e, fun _ _ _ => trivial⟩
  have hfree : ∀ q, va_A (fx_w (hc_ps ws) (hc_mem ads lw_twC ws)) sz q → va_A ws sz q := by
    rintro q (⟨k1, e1, hk1⟩ | hq)
    · obtain ⟨q0, t, h1, h2, h3⟩ := hc_w_inv hl (show (hc_w ads lw_twC ws)[k1]? = some (q, e1) from hk1)
      have e9 : q = q0.1 := congrArg Prod.fst h3
      rw [e9]
      exact Or.inl ⟨k1, q0.2, h1⟩
    · exact Or.inr hq
  have hrest : rest.map (fx_v (hc_ps ws)) = rest := by
    apply List.ext_getElem?
    intro i
    rw [List.getElem?_map]
    cases hi : rest[i]? with
    | none => rfl
    | some v =>
      obtain ⟨av0, hav, hg⟩ := hA2'.getR hi
      rcases hg with ⟨-, x, rfl, -⟩ | ⟨-, x, rfl, -⟩
      · rfl
      · rfl
  have hargs : (Value.ref 0 :: rest).map (fx_v (hc_ps ws)) = .ref h0 :: rest := by
    show fx_v (hc_ps ws) (.ref 0) :: rest.map (fx_v (hc_ps ws)) = _
    rw [hrest]
    obtain ⟨j, e, hw, hj, -⟩ := tk_cell h4 p6 hty
    have := lw_twC0 j hj
    subst this
    show Value.ref (fx_ad (hc_ps ws) 0) :: rest = _
    unfold fx_ad
    rw [hc_ps_at hw]
  refine ⟨hx_Pre D xt (hc_ps ws) (hc_mem ads lw_twC ws) sz (.ref 0 :: rest), hx_Post D (hc_ps ws) mem' (some v) (va_A (fx_w (hc_ps ws) (hc_mem ads lw_twC ws)) sz), rk_Met_imp (hmet _ sz) (fun _ _ z => z) (fun _ _ _ _ _ _ z => z) hfree, ⟨by rw [hargs]; exact p1, p2, hPw, p4, hDw, hO, p7, hxt.2.2 _ _ _ _ _ p8 (fun _ _ _ => rfl) hfree⟩, ?_⟩
  rintro oc t hW ⟨⟨e1, hOt, hPt, hDt⟩, hF⟩
  have hget : ∀ {j : Nat} {q : Nat × va_E}, (fx_w (hc_ps ws) mem')[j]? = some q → ∃ (q0 : Nat × va_E) (e' : fx_E), ws[j]? = some q0 ∧ mem'[j]? = some e' ∧ q = (q0.1, fx_c (hc_ps ws) (hc_cl q0.2) e') := fun {j q} hq => by
    have hlt : j < (fx_w (hc_ps ws) mem').length := (List.getElem?_eq_some_iff.mp hq).1
    unfold fx_w at hlt
    rw [List.length_zipWith, hc_ps_len, hlen, Nat.min_self] at hlt
    have hw : ws[j]? = some ws[j] := List.getElem?_eq_getElem hlt
    have hm : mem'[j]? = some (mem'[j]'(by omega)) := List.getElem?_eq_getElem (by omega)
    refine ⟨_, _, hw, hm, ?_⟩
    unfold fx_w at hq
    rw [List.getElem?_zipWith, hc_ps_at hw, hm] at hq
    exact (Option.some.inj hq).symm
  have hwl : (fx_w (hc_ps ws) mem').length = ws.length := by
    unfold fx_w
    rw [List.length_zipWith, hc_ps_len, hlen, Nat.min_self]
  have hmap : (fx_w (hc_ps ws) mem').map Prod.fst = ads := by
    rw [← h4]
    apply List.ext_getElem?
    intro i
    rw [List.getElem?_map, List.getElem?_map]
    cases hq : (fx_w (hc_ps ws) mem')[i]? with
    | none =>
      have := List.getElem?_eq_none_iff.mp hq
      rw [List.getElem?_eq_none (by omega)]
    | some q =>
      obtain ⟨q0, e', h1, h2, rfl⟩ := hget hq
      rw [h1]
      rfl
  have hcl' : ∀ (i tt : Nat) (q : Nat × va_E), lw_twC[i]? = some tt → (fx_w (hc_ps ws) mem')[i]? = some q → tk_cl gc_TY lc_ro ads lw_twC t tt q.2 := by
    intro i tt q htw hq
    obtain ⟨q0, e', h1, h2, rfl⟩ := hget hq
    have hm0 := hc_mem_at (ads := ads) h1 htw
    have hold := (hc_c h4 (hcell h1 htw) (lw_twC_lt htw)).2.2.1
    rcases hchg i tt _ e' htw hm0 h2 with rfl | ⟨kd, n, f2, fl, hkd, rfl, k3, k4⟩ | ⟨n, f2, fl, rfl, k3, k4⟩ | ⟨ci, vs, vs', he, rfl, k4, k5⟩
    · exact tk_cl_moved hW.alike hold
    · obtain ⟨m1, m2⟩ := hOt.2 i _ _ _ (hc_ps_at h1) h2
      show tk_cl gc_TY lc_ro ads lw_twC t tt (.inl (hc_cl q0.2, n, .inl f2))
      unfold tk_cl
      rw [show gc_TY.1[tt]? = _ from k3]
      rcases hkd with rfl | rfl
      · exact ⟨_, m1, m2, f2, rfl, k4⟩
      · exact ⟨_, m1, m2, f2, rfl, k4⟩
    · obtain ⟨m1, m2⟩ := hOt.2 i _ _ _ (hc_ps_at h1) h2
      show tk_cl gc_TY lc_ro ads lw_twC t tt (.inl (hc_cl q0.2, n, .inr (.inl f2)))
      unfold tk_cl
      rw [show gc_TY.1[tt]? = _ from k3]
      exact ⟨_, m1, m2, f2, rfl, k4⟩
    · rw [he] at hold
      have hold : tk_cl gc_TY lc_ro ads lw_twC U tt (.inr (ci, vs.map (fx_v (hc_ps ws)))) := hold
      show tk_cl gc_TY lc_ro ads lw_twC t tt (.inr (ci, vs'.map (fx_v (hc_ps ws))))
      have ht := lw_twC_lt htw
      have hk : gc_TY.1[tt]? = some gc_ty[tt] := List.getElem?_eq_getElem ht
      unfold tk_cl at hold ⊢
      rw [hk] at hold ⊢
      cases hT : gc_ty[tt] with
      | inr q9 =>
        rw [hT] at hold
        obtain ⟨cA, -, -, harr⟩ := hold
        unfold tk_ar at harr
        split at harr
        all_goals first
          | exact harr.elim
          | (obtain ⟨f, e9, -⟩ := harr; cases e9)
      | inl o =>
        rw [hT] at hold hk
        obtain ⟨vz, hvz, hvzl, hvzf⟩ := hold
        obtain ⟨o1, fs⟩ := o
        have e8 : ci = o1 := by injection hvz with h; injection h
        have e9 : vs.map (fx_v (hc_ps ws)) = vz := by injection hvz with h; injection h
        subst e8
        subst e9
        refine ⟨_, rfl, by rw [List.length_map, k4, ← hvzl, List.length_map], fun i2 f2 v2 hf2 hv2 => ?_⟩
        rw [List.getElem?_map] at hv2
        obtain ⟨v3, hv3, rfl⟩ := Option.map_eq_some_iff.mp hv2
        rcases k5 fs hk i2 f2 hf2 with h9 | ⟨v9, h9, h8, h7⟩
        · exact hvzf i2 f2 _ hf2 (by rw [List.getElem?_map, ← h9, hv3]; rfl)
        · rw [hv3] at h9
          cases h9
          rw [fx_v_id h8]
          exact h7
  refine ⟨⟨fx_w (hc_ps ws) mem', v, hmap, rk_A2_of (by rw [hwl, hl]) (fun i tt q h1 h2 => hcl' i tt q h1 h2), hPt, hDt.weaken (fun _ _ _ z => hfree _ z), hX2, hQ, ?_⟩, hF.1, fun q h9' hn9 => hF.2 q h9' (fun z => hn9 (hfree q z))⟩
  rw [e1]
  show Outcome.returned (some (fx_v (hc_ps ws) v)) = .returned (some v)
  rw [fx_v_id hvv]
end HCS
end MG17_7
