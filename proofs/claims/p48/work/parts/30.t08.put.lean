/-! ===== tk: putfield ===== -/
def tk_bt (env : List tk_I) (ty : FieldType) (v : tk_V) : Bool := match ty with
  | .int => v.1 == 0
  | .long => v.1 == 1
  | .boolean => v.1 == 0 && (match tk_iv env v with
    | some I => decide (0 ≤ I.1) && decide (I.2 ≤ 1)
    | none => false)
  | _ => false
theorem tk_bt_ok {env : List tk_I} {vals : List Int} {rads : List Nat} {ty : FieldType} {a : tk_V} {v : Value} (hE : tk_E env vals) (h : tk_g vals rads a v) (hf : tk_bt env ty a = true) : narrow ty v = v ∧ fits ty v = true := by
  unfold tk_bt at hf
  split at hf
  · rw [beq_iff_eq] at hf
    obtain ⟨x, rfl, -⟩ := tk_g0 h hf
    exact ⟨rfl, rfl⟩
  · rw [beq_iff_eq] at hf
    obtain ⟨x, rfl, -⟩ := tk_g1 h hf
    exact ⟨rfl, rfl⟩
  · rw [Bool.and_eq_true, beq_iff_eq] at hf
    obtain ⟨x, rfl, hx⟩ := tk_g0 h hf.1
    have h2 := hf.2
    split at h2
    · next I hI =>
      have b := tk_iv_ok hE hx hI
      rw [Bool.and_eq_true, decide_eq_true_eq, decide_eq_true_eq] at h2
      have hx : x.toInt = 0 ∨ x.toInt = 1 := by omega
      rcases hx with h0 | h0
      · have : x = 0 := Int32.toInt_inj.mp h0
        subst this
        exact ⟨rfl, rfl⟩
      · have : x = 1 := Int32.toInt_inj.mp h0
        subst this
        exact ⟨rfl, rfl⟩
    · cases h2
  · cases hf
def tk_f_put (mods : List (Nat × Nat)) (TY : tk_TT) (fty : rk_F) (pc kd ci k : Nat) : tk_Fn := fun st => match st.2.1 with
  | v :: a :: r => if a.1 = 2 ∧ kd ≤ 1 then (match st.2.2.2.1[a.2.1]? with
    | some t => (match TY.1[t]? with
      | some (.inl o) => if ci = o.1 then (match o.2[k]?, (fty[ci]?).bind (fun z => z[k]?) with
        | some f, some ft => if tk_fits st.2.2.1.1 f v = true ∧ tk_bt st.2.2.1.1 ft.1 v = true ∧ ft.2 = false ∧ tk_wok TY mods st t a.2.1 (tk_ky k) v = true then some [(pc, (st.1, r, st.2.2.1, st.2.2.2.1, (a.2.1, tk_ky k, v) :: st.2.2.2.2.filter (tk_kp st.2.2.1 st.2.2.2.1 t (tk_ky k))))] else none
        | _, _ => none) else none
      | _ => none)
    | none => none) else none
  | _ => none
section TKU
variable {p : Program} {l : Launch} {e : Env} {R : Room} {s : State} {m : MethodId} {args : Array Value} {below : List Frame} {meth : Method} {c : Code} {Q : State → Prop} {cc : ByteArray} {D : va_G} {cl : List vw_C} {Ad : Nat → Prop} {nL : Nat} {vals0 : List Int} {rads0 : List Nat}
variable {mods : List (Nat × Nat)} {ws0 : va_W} {tbl xw : List Jvm.Cond} {fty : rk_F} {cln : List String} {own : String} {lk : List (Nat × Nat × Nat × Nat)} {cs : List (Nat × Value)} {TY : tk_TT} {ro : Nat → Nat → Int → Prop} {X : va_W → Prop} {ads tw : List Nat}
set_option maxHeartbeats 4000000 in
theorem tk_put_ok (hx : p.tables.exec = Jvm.exec) (hb : c.code = cc) (hF : rk_Fr s m args meth D cl Ad tbl xw fty cln own lk cs) {pc idx kd ci k : Nat} {st : tk_S} {res : List (Nat × tk_S)} (hlk1 : rk_lk lk idx = some (kd, ci, k)) (hdg : decode cc pc = .ok (.putfield idx, 3)) (hXs : tk_xs TY X ads tw) (h : tk_f_put mods TY fty (pc + 3) kd ci k st = some res) (kk : ∀ q ∈ res, tk_St (rk_KW p l e R s m args below meth c Q) nL (tk_hr mods ws0 TY ro X ads tw s D cl Ad vals0 rads0) q.1 q.2) : tk_St (rk_KW p l e R s m args below meth c Q) nL (tk_hr mods ws0 TY ro X ads tw s D cl Ad vals0 rads0) pc st := by
  obtain ⟨hts, hxw, hown, hK, hA, hcl, hlk, hini, hac, hcs⟩ := hF
  obtain ⟨lo, sk, w, rf, fa⟩ := st
  intro vals rads H locs ls stk lc hH hR hl hL hS
  dsimp only at hH hR hL hS
  unfold tk_f_put at h
  split at h
  · next v0 a r e1 =>
    dsimp only at e1
    subst e1
    split at h
    · next hk =>
      split at h
      · next t ht =>
        split at h
        · next o hT =>
          split at h
          · next hci =>
            split at h
            · next f ft hf hft =>
              split at h
              · next hfit =>
                cases h
                dsimp only at ht
                obtain ⟨u, k0, rfl, gu, hS0⟩ := hS.cons
                obtain ⟨va, k1, rfl, hg, hS1⟩ := hS0.cons
                obtain ⟨x, hax, rfl⟩ := tk_g2 hg hk.1
                obtain ⟨hv0, hr0, h3, ws, h4, h5, h6, h7, h8, hun, h9⟩ := id hR
                obtain ⟨x', hax', hty⟩ := h3.get ht
                rw [hax] at hax'
                cases hax'
                obtain ⟨j, e1, hw, hj, hc1⟩ := tk_cell h4 h5 hty
                unfold tk_cl at hc1
                rw [hT] at hc1
                obtain ⟨vs, rfl, hvl, hvs⟩ := hc1
                have hkl : k < vs.length := by rw [hvl]; exact (List.getElem?_eq_some_iff.mp hf).1
                have hfv := tk_fits_ok (ro := ro) (reg := TY.2.1) (ads := ads) (tw := tw) t k hH.1 gu hfit.1
                obtain ⟨hn, hfi⟩ := tk_bt_ok hH.1 gu hfit.2.1
                have hpd : ∀ i, ¬ i = k → tk_pos (.inr (o.1, vs.set k u)) i = tk_pos (.inr (o.1, vs)) i := fun i hi => List.getElem?_set_ne (Ne.symm hi)
                have hlt : j < ws.length := (List.getElem?_eq_some_iff.mp hw).1
                have fin : ∀ (H1 : Heap) (locs1 : List Loc), va_P D cl (ws.set j (x, .inr (o.1, vs.set k u))) H1 → va_D Ad (ws.set j (x, .inr (o.1, vs.set k u))) → va_S Ad s.heap H1 locs1 → rk_KW p l e R s m args below meth c Q (pc + 3) ls k1 H1 locs1 0 0 := fun H1 locs1 hP1 hD1 hS1' => by
                  refine kk _ (List.mem_singleton.mpr rfl) vals rads H1 locs1 ls _ lc hH ⟨hv0, hr0, h3, _, by rw [rk_map_set hw]; exact h4, tk_A2_setR ?_ h5 hj, hP1, hD1, hS1', tk_ux_w hXs hun hH h3 h9 h7 h4 hax (ix := tk_ky k) (i := k) rfl hw hj gu (List.getElem?_set_self hkl) hpd hfit.2.2.2, fun z hz => ?_⟩ hl hL hS1
                  · show tk_cl TY ro ads tw s t _
                    unfold tk_cl
                    rw [hT]
                    refine ⟨_, rfl, by rw [List.length_set]; exact hvl, fun i f2 v2 hf2 hv2 => ?_⟩
                    by_cases ei : k = i
                    · subst ei
                      rw [List.getElem?_set_self hkl] at hv2
                      cases hv2
                      rw [hf] at hf2
                      cases hf2
                      exact hfv.1
                    · rw [List.getElem?_set_ne ei] at hv2
                      exact hvs i f2 v2 hf2 hv2
                  · rcases List.mem_cons.mp hz with rfl | hz
                    · exact ⟨x, j, k, _, u, hax, rfl, List.getElem?_set_self hlt, List.getElem?_set_self hkl, gu⟩
                    · obtain ⟨z1, z2⟩ := List.mem_filter.mp hz
                      exact tk_fk_set hH h3 h4 h7 hw hj (ix := tk_ky k) rfl hpd z2 (h9 z z1)
                subst hci
                have hr := hlk _ (rk_lk_mem hlk1)
                obtain ⟨tf, htf, htk⟩ := Option.bind_eq_some_iff.mp hft
                rcases (show kd = 0 ∨ kd = 1 by omega) with rfl | rfl
                · obtain ⟨q, hq, hkN, hm⟩ := hr
                  obtain ⟨c1, c2, -, tf', htf', hlenT, hT2⟩ := hcl _ _ hq
                  cases htf.symm.trans htf'
                  obtain ⟨t1, t2⟩ := hT2 k ft htk
                  exact va_put (C := q.1) (T := q.2.1) (N := q.2.2) hx hb hts c1 _ (rk_ty hlenT hT2) c2 hown hK h6 h7 h8 j hw hq k hkN (hts _ hm) (fun _ h9 => h9) (t2.trans hfit.2.2.1) t1 hn hfi hkl hdg fin
                · obtain ⟨q, host, hq, hkN, hm⟩ := hr
                  obtain ⟨c1, c2, -, tf', htf', hlenT, hT2⟩ := hcl _ _ hq
                  cases htf.symm.trans htf'
                  obtain ⟨t1, t2⟩ := hT2 k ft htk
                  exact va_putN (C := q.1) (T := q.2.1) (N := q.2.2) hx hb hts c1 _ (rk_ty hlenT hT2) c2 hown hK h6 h7 h8 j hw hq k hkN (va_Nw.use rfl (hxw _ hm)) (fun _ h9 => h9) (t2.trans hfit.2.2.1) t1 hn hfi hkl hdg fin
              · cases h
            · cases h
          · cases h
        · cases h
      · cases h
    · cases h
  · cases h
end TKU
