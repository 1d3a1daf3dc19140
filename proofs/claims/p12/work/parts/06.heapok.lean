/-! ===== rk: the steps that look at cells are sound ===== -/
theorem rk_fit_ok {env : List rk_T} {vals : List Value} {ads : List Nat} {ty : FieldType} {a : rk_V} {v : Value} (hE : rk_E env vals) (h : rk_g vals ads a v) (hf : rk_fit env ty a = true) : narrow ty v = v ∧ fits ty v = true := by
  unfold rk_fit at hf
  split at hf
  · obtain ⟨I, hI⟩ := Option.isSome_iff_exists.mp hf
    obtain ⟨x, rfl, -, -⟩ := rk_iv_ok hE h hI
    exact ⟨rfl, rfl⟩
  · obtain ⟨x, rfl⟩ := rk_isL_ok hE h hf
    exact ⟨rfl, rfl⟩
  · split at hf
    · next I hI =>
      obtain ⟨x, rfl, h1, h2⟩ := rk_iv_ok hE h hI
      simp only [Bool.and_eq_true, decide_eq_true_eq] at hf
      have hx : x.toInt = 0 ∨ x.toInt = 1 := by omega
      rcases hx with h0 | h0
      · have : x = 0 := Int32.toInt_inj.mp h0
        subst this
        exact ⟨rfl, rfl⟩
      · have : x = 1 := Int32.toInt_inj.mp h0
        subst this
        exact ⟨rfl, rfl⟩
    · cases hf
  · split at hf
    · obtain ⟨x, -, rfl⟩ := h
      exact ⟨rfl, rfl⟩
    · have h : v = .null := h
      subst h
      exact ⟨rfl, rfl⟩
    · cases hf
  · split at hf
    · obtain ⟨x, -, rfl⟩ := h
      exact ⟨rfl, rfl⟩
    · have h : v = .null := h
      subst h
      exact ⟨rfl, rfl⟩
    · cases hf
  · cases hf
theorem rk_map_set {ws : va_W} {j a : Nat} {e e' : va_E} (h : ws[j]? = some (a, e)) : (ws.set j (a, e')).map Prod.fst = ws.map Prod.fst := by
  apply List.ext_getElem?
  intro i
  rw [List.getElem?_map, List.getElem?_map, List.getElem?_set]
  split
  · next q =>
    subst q
    rw [h]
    simp [(List.getElem?_eq_some_iff.mp h).1]
  · rfl
section RKH
variable {s : State} {D : va_G} {cl : List vw_C} {Ad : Nat → Prop} {vals0 : List Value} {ads0 : List Nat} {vals : List Value} {ws : va_W} {H : Heap} {locs : List Loc} {env : List rk_T} {hp : List rk_H}
theorem rk_G.cell (hG : rk_G s D cl Ad vals0 ads0 vals ws H locs env hp) {j a : Nat} {c : rk_H} (hj : hp[j]? = some c) (ha : (ws.map Prod.fst)[j]? = some a) : ∃ e, ws[j]? = some (a, e) ∧ rk_c s vals (ws.map Prod.fst) c e := by
  obtain ⟨q, h1, h2⟩ := hG.2.1.get hj
  rw [List.getElem?_map, h1] at ha
  cases ha
  exact ⟨q.2, h1, h2⟩
theorem rk_G.setc (hG : rk_G s D cl Ad vals0 ads0 vals ws H locs env hp) {j a : Nat} {e e' : va_E} {c' : rk_H} {H1 : Heap} {locs1 : List Loc} (hj : ws[j]? = some (a, e)) (hP : va_P D cl (ws.set j (a, e')) H1) (hD : va_D Ad (ws.set j (a, e'))) (hS : va_S Ad s.heap H1 locs1) (hc : rk_c s vals (ws.map Prod.fst) c' e') : rk_G s D cl Ad vals0 ads0 vals (ws.set j (a, e')) H1 locs1 env (hp.set j c') := by
  obtain ⟨h1, h2, -, -, -, h6, h7⟩ := hG
  rw [← rk_map_set hj (e' := e')] at h2 h7 hc
  exact ⟨h1, rk_A2.set (R := fun (c : rk_H) (q : Nat × va_E) => rk_c s vals ((ws.set j (a, e')).map Prod.fst) c q.2) hc h2 j, hP, hD, hS, h6, h7⟩
theorem rk_G.newc (hG : rk_G s D cl Ad vals0 ads0 vals ws H locs env hp) {q : Nat} {e' : va_E} {c' : rk_H} {H1 : Heap} (hP : va_P D cl (ws ++ [(q, e')]) H1) (hD : va_D Ad (ws ++ [(q, e')])) (hS : va_S Ad s.heap H1 locs) (hc : rk_c s vals (ws.map Prod.fst) c' e') : rk_G s D cl Ad vals0 ads0 vals (ws ++ [(q, e')]) H1 locs env (hp ++ [c']) := by
  obtain ⟨h1, h2, -, -, -, h6, k0, h7⟩ := hG
  have hm : (ws ++ [(q, e')]).map Prod.fst = ws.map Prod.fst ++ [q] := by simp
  refine ⟨h1, ?_, hP, hD, hS, h6, k0 ++ [q], by rw [hm, h7, List.append_assoc]⟩
  rw [hm]
  exact rk_A2.push (h2.mono (fun _ _ h => h.grow ⟨[], by simp⟩ ⟨[q], rfl⟩)) (hc.grow ⟨[], by simp⟩ ⟨[q], rfl⟩)
end RKH
theorem rk_mapnew {ws : va_W} {q : Nat} {e' : va_E} : (ws ++ [(q, e')]).map Prod.fst = ws.map Prod.fst ++ [q] := by simp
theorem rk_K1 {D : va_G} {cl : List vw_C} {s : State} {cA : ClassId} {ty : FieldType} (hK : va_K D cl [] s) (h1 : ArrOfT s cA ty) (h2 : va_RA s cA ty) : va_K D cl [(cA, ty)] s := ⟨hK.1, fun k q h => by
  cases k with
  | zero => cases h; exact ⟨h1, h2⟩
  | succ k => simp at h⟩
theorem rk_look_upd {vals : List Value} {ads : List Nat} {d v : rk_V} {ov : List (Nat × rk_V)} {i : Nat} {f : Nat → Int32} {x : Int32} (h : ∀ j, rk_g vals ads (rk_look d ov j) (.int (f j))) (hv : rk_g vals ads v (.int x)) : ∀ j, rk_g vals ads (rk_look d (rk_put d ov i v) j) (.int (upd f i x j)) := by
  intro j
  unfold rk_put
  split
  · next q =>
    by_cases e : i = j
    · subst e
      rw [q, pk_us]
      exact hv
    · rw [pk_un (Ne.symm e)]
      exact h j
  · unfold rk_look
    dsimp only
    by_cases e : i = j
    · subst e
      rw [if_pos rfl, pk_us]
      exact hv
    · rw [if_neg e, pk_un (Ne.symm e)]
      exact h j
theorem rk_look_updL {vals : List Value} {ads : List Nat} {d v : rk_V} {ov : List (Nat × rk_V)} {i : Nat} {f : Nat → Int64} {x : Int64} (h : ∀ j, rk_g vals ads (rk_look d ov j) (.long (f j))) (hv : rk_g vals ads v (.long x)) : ∀ j, rk_g vals ads (rk_look d (rk_put d ov i v) j) (.long (vp_updL f i x j)) := by
  intro j
  unfold rk_put
  split
  · next q =>
    by_cases e : i = j
    · subst e
      rw [q, pk_uLs]
      exact hv
    · rw [pk_uLn (Ne.symm e)]
      exact h j
  · unfold rk_look
    dsimp only
    by_cases e : i = j
    · subst e
      rw [if_pos rfl, pk_uLs]
      exact hv
    · rw [if_neg e, pk_uLn (Ne.symm e)]
      exact h j
/-- what a link must be for the tables -/
def rk_lok (tbl xw : List Jvm.Cond) (cl : List vw_C) (own : String) (r : Nat × Nat × Nat × Nat) : Prop := match r.2.1 with
  | 0 => ∃ q, cl[r.2.2.1]? = some q ∧ r.2.2.2 < q.2.2 ∧ Jvm.Cond.fieldLink own r.1 (q.2.1 r.2.2.2).1 (q.2.1 r.2.2.2).2.1 (q.2.1 r.2.2.2).2.2.1 ∈ tbl
  | 1 => ∃ q host, cl[r.2.2.1]? = some q ∧ r.2.2.2 < q.2.2 ∧ Jvm.Cond.fieldLinkNest own r.1 (q.2.1 r.2.2.2).1 (q.2.1 r.2.2.2).2.1 (q.2.1 r.2.2.2).2.2.1 host ∈ xw
  | 2 => ∃ q, cl[r.2.2.1]? = some q ∧ r.2.2.2 < q.2.2 ∧ Jvm.Cond.fieldLink own r.1 (q.2.1 r.2.2.2).1 (q.2.1 r.2.2.2).2.1 (q.2.1 r.2.2.2).2.2.1 ∈ tbl ∧ (q.2.1 r.2.2.2).1 = own
  | 3 => ∃ q, cl[r.2.2.1]? = some q ∧ Jvm.Cond.classLink own r.1 q.1 ∈ tbl ∧ Jvm.Cond.instantiable q.1 q.2.2 ∈ tbl ∧ Jvm.Cond.initialized q.1 ∈ tbl
  | 4 => ∃ q, cl[r.2.2.1]? = some q ∧ Jvm.Cond.classLink own r.1 q.1 ∈ tbl ∧ Jvm.Cond.arrayOver (.object q.1) ∈ xw
  | 13 => Jvm.Cond.classLink own r.1 "[[J" ∈ tbl ∧ Jvm.Cond.arrayOver (.array .long) ∈ xw
  | 14 => Jvm.Cond.methodLink own r.1 Lib.Math.max.name ∈ tbl ∧ Jvm.Cond.static Lib.Math.max.name ∈ tbl ∧ Jvm.Cond.initialized "java/lang/Math" ∈ tbl ∧ Jvm.Cond.code Lib.Math.max.name Lib.Math.max.code 2 (some .int) ∈ tbl
  | 15 => Jvm.Cond.methodLink own r.1 Lib.Math.min.name ∈ tbl ∧ Jvm.Cond.static Lib.Math.min.name ∈ tbl ∧ Jvm.Cond.initialized "java/lang/Math" ∈ tbl ∧ Jvm.Cond.code Lib.Math.min.name Lib.Math.min.code 2 (some .int) ∈ tbl
  | 16 => Jvm.Cond.methodLink own r.1 Lib.MathLoose.max_long.x ∈ tbl ∧ Jvm.Cond.static Lib.MathLoose.max_long.x ∈ tbl ∧ Jvm.Cond.initialized "java/lang/Math" ∈ tbl ∧ Jvm.Cond.code Lib.MathLoose.max_long.x Lib.MathLoose.max_long.code 4 (some .long) ∈ tbl
  | 17 => Jvm.Cond.methodLink own r.1 Lib.Math.abs.name ∈ tbl ∧ Jvm.Cond.static Lib.Math.abs.name ∈ tbl ∧ Jvm.Cond.initialized "java/lang/Math" ∈ tbl ∧ Jvm.Cond.code Lib.Math.abs.name Lib.Math.abs.code 1 (some .int) ∈ tbl
  | _ => True
/-- what a class must be for the tables -/
def rk_clok (tbl : List Jvm.Cond) (cl : List vw_C) (fty : rk_F) (cln : List String) : Prop := ∀ (ci : Nat) (q : vw_C), cl[ci]? = some q → (∀ w ∈ u_ws q.1 q.2.1 q.2.2, w ∈ tbl) ∧ (∀ a, a < q.2.2 → ∀ b, b < q.2.2 → a ≠ b → (q.2.1 a).2.1 ≠ (q.2.1 b).2.1) ∧ cln[ci]? = some q.1 ∧ ∃ tf, fty[ci]? = some tf ∧ tf.length = q.2.2 ∧ ∀ (k : Nat) (t : FieldType × Bool), tf[k]? = some t → parseFieldDescriptor (q.2.1 k).2.2.1 = some t.1 ∧ (q.2.1 k).2.2.2 = t.2
theorem rk_ty {T : u_T} {tf : List (FieldType × Bool)} {N : Nat} (hN : tf.length = N) (h : ∀ (k : Nat) (t : FieldType × Bool), tf[k]? = some t → parseFieldDescriptor (T k).2.2.1 = some t.1 ∧ (T k).2.2.2 = t.2) : ∀ k, k < N → parseFieldDescriptor (T k).2.2.1 = some ((fun k => ((tf[k]?).map Prod.fst).getD .int) k) := by
  intro k hk
  have hk' : k < tf.length := by omega
  have e : tf[k]? = some tf[k] := List.getElem?_eq_getElem hk'
  rw [(h k _ e).1]
  dsimp only
  rw [e]
  rfl
theorem rk_defs {vals : List Value} {ads : List Nat} : ∀ (tf : List (FieldType × Bool)), rk_A2 (rk_g vals ads) (tf.map (fun t => (.inl (defaultValue t.1) : rk_V))) (tf.map (fun t => defaultValue t.1))
  | [] => trivial
  | _ :: tf => ⟨rfl, rk_defs tf⟩
section RKQ
variable {p : Program} {l : Launch} {e : Env} {R : Room} {s : State} {m : MethodId} {args : Array Value} {below : List Frame} {meth : Method} {c : Code} {Q : State → Prop} {cc : ByteArray} {D : va_G} {cl : List vw_C} {Ad : Nat → Prop} {nL : Nat} {vals0 : List Value} {ads0 : List Nat}
variable {tbl xw : List Jvm.Cond} {fty : rk_F} {cln : List String} {own : String} {lk : List (Nat × Nat × Nat × Nat)} {cs : List (Nat × Value)}
/-- what a frame knows of the tables -/
def rk_Fr (s : State) (m : MethodId) (args : Array Value) (meth : Method) (D : va_G) (cl : List vw_C) (Ad : Nat → Prop) (tbl xw : List Jvm.Cond) (fty : rk_F) (cln : List String) (own : String) (lk : List (Nat × Nat × Nat × Nat)) (cs : List (Nat × Value)) : Prop :=
  (∀ w ∈ tbl, w.before args s = true) ∧ (∀ w ∈ xw, va_Nw w s) ∧ s.vm.findClass own = some m.cls ∧ va_K D cl [] s ∧ (∀ q, s.heap.size ≤ q → Ad q) ∧ rk_clok tbl cl fty cln ∧ (∀ r ∈ lk, rk_lok tbl xw cl own r) ∧ ((∃ r ∈ lk, r.2.1 = 2) → meth.name = "<init>") ∧ (Jvm.Cond.arrayClass .int ∈ tbl ∧ Jvm.Cond.arrayClass .byte ∈ tbl ∧ Jvm.Cond.arrayClass .long ∈ tbl) ∧
  (∀ r ∈ cs, (∀ x, r.2 = .int x → Jvm.Cond.constant own r.1 x ∈ tbl) ∧ (∀ x, r.2 = .long x → Jvm.Cond.constantLong own r.1 x ∈ tbl))
theorem va_alda {a : Nat} {tys : List (ClassId × FieldType)} {ws : va_W} {H : Heap} {locs : List Loc} {cells slots pc : Nat} {ls : Array Slot} {rest : List Value} (hexec : p.tables.exec = Jvm.exec) (hb : c.code = cc) (hK : va_K D cl tys s) (hP : va_P D cl ws H) (q0 t0 : Nat) {cA : ClassId} {t : FieldType} {n : Nat} {f : Nat → Option Nat} (ha : ws[q0]? = some (a, .inl (cA, n, .inr (.inr (.inr (.inr f)))))) (ht : tys[t0]? = some (cA, .array t)) {i : Int32} (hin : vp_in i n) (hdg : decode cc pc = .ok (.aaload, 1))
    (kk : W p l e R s m args below meth c H locs cells slots Q (F0 m (pc + 1) ls (va_rf (f i.toNatClampNeg) :: rest))) : W p l e R s m args below meth c H locs cells slots Q (F0 m pc ls (.int i :: .ref a :: rest)) := by
  have hlt : i.toNatClampNeg < n := Nat.not_le.mp fun q => hin (Or.inr q)
  exact W.aald (v := va_rf (f i.toNatClampNeg)) (ty := .array t) hexec hb (hP q0 _ ha) ((hK.2 t0 _ ht).1 n (fun j => va_rf (f j))) rfl (fun q => by cases q) (by show ¬ (i < 0 ∨ (arrV _ _ _).slots.size ≤ _); rw [arrV_size]; exact hin) (by show (arrV _ _ _).slots[_]? = _; rw [arrV_read _ _ hlt]) rfl rfl hdg kk
theorem rk_A2.rep {α β γ : Type} {R : α → β → Prop} {c : α} {g : γ → β} (h : ∀ a, R c (g a)) : ∀ (l : List γ), rk_A2 R (List.replicate l.length c) (l.map g)
  | [] => trivial
  | a :: l => ⟨h a, rk_A2.rep h l⟩
set_option maxHeartbeats 4000000 in
theorem rk_heap_ok (hx : p.tables.exec = Jvm.exec) (hb : c.code = cc) (hF : rk_Fr s m args meth D cl Ad tbl xw fty cln own lk cs) {pc : Nat} {ins : Instr} {len : Nat} {st : rk_S} {res : List (Nat × rk_S)} (hdg : decode cc pc = .ok (ins, len)) (hlen : rk_len ins len = true) (h : rk_heap fty cln lk cs pc ins st = some res) (hroom : ∀ q ∈ res, q.2.2.2.2.2.1 ≤ R.cells ∧ q.2.2.2.2.2.2 ≤ R.slots) (kk : ∀ q ∈ res, rk_W (rk_KW p l e R s m args below meth c Q) s D cl Ad nL vals0 ads0 q.1 q.2) : rk_W (rk_KW p l e R s m args below meth c Q) s D cl Ad nL vals0 ads0 pc st := by
  obtain ⟨hts, hxw, hown, hK, hA, hcl, hlk, hini, hac, hcs⟩ := hF
  obtain ⟨lo, sk, env, hp, nc, ns⟩ := st
  intro vals ws H locs ls stk lc hG hl hL hS
  dsimp only at hG hL hS ⊢
  cases ins
  case getfield idx =>
    simp [rk_len] at hlen; subst hlen
    simp only [rk_heap] at h
    split at h
    · next j r =>
      split at h
      · next kd ci k o hlk1 hj =>
        split at h
        · next hc =>
          split at h
          · next a ha =>
            cases h
            obtain ⟨hkd, rfl⟩ := hc
            obtain ⟨va, k1, rfl, ⟨x, hjx, rfl⟩, hSn⟩ := hS.cons; clear hS; have hS := hSn; clear hSn
            obtain ⟨e1, hw, vs, rfl, hvs⟩ := hG.cell hj hjx
            obtain ⟨v, hv, hg⟩ := hvs.get ha
            have hr := hlk _ (rk_lk_mem hlk1)
            have fin : rk_KW p l e R s m args below meth c Q (pc + 3) ls (v :: k1) H locs nc ns := kk _ (List.mem_singleton.mpr rfl) vals ws H locs ls _ lc hG hl hL ⟨rk_norm_ok hG.1 hg, hS⟩
            rcases (show kd = 0 ∨ kd = 1 ∨ kd = 2 by omega) with rfl | rfl | rfl
            · obtain ⟨q, hq, hkN, hm⟩ := hr
              exact va_get (C := q.1) (T := q.2.1) (N := q.2.2) hx hb hts (hcl _ _ hq).1 hown hK hG.2.2.1 j hw hq k hkN (hts _ hm) (fun _ h9 => h9) hv hdg fin
            · obtain ⟨q, host, hq, hkN, hm⟩ := hr
              exact va_getN (C := q.1) (T := q.2.1) (N := q.2.2) hx hb hts (hcl _ _ hq).1 hown hK hG.2.2.1 j hw hq k hkN (va_Nw.use rfl (hxw _ hm)) (fun _ h9 => h9) hv hdg fin
            · obtain ⟨q, hq, hkN, hm, -⟩ := hr
              exact va_get (C := q.1) (T := q.2.1) (N := q.2.2) hx hb hts (hcl _ _ hq).1 hown hK hG.2.2.1 j hw hq k hkN (hts _ hm) (fun _ h9 => h9) hv hdg fin
          · cases h
        · cases h
      · cases h
    · cases h
  case putfield idx =>
    simp [rk_len] at hlen; subst hlen
    simp only [rk_heap] at h
    split at h
    · next v0 j r =>
      split at h
      · next kd ci k o hlk1 hj =>
        split at h
        · next hc =>
          split at h
          · next t ht =>
            split at h
            · next hfit =>
              cases h
              obtain ⟨hkd, rfl, hko⟩ := hc
              obtain ⟨v, k0, rfl, hgv, hSn⟩ := hS.cons; clear hS; have hS := hSn; clear hSn
              obtain ⟨va, k1, rfl, ⟨x, hjx, rfl⟩, hSn⟩ := hS.cons; clear hS; have hS := hSn; clear hSn
              obtain ⟨e1, hw, vs, rfl, hvs⟩ := hG.cell hj hjx
              obtain ⟨hn, hf⟩ := rk_fit_ok hG.1 hgv hfit.1
              have hr := hlk _ (rk_lk_mem hlk1)
              have hkl : k < vs.length := by rw [← hvs.len]; exact hko
              have fin : ∀ (H1 : Heap) (locs1 : List Loc), va_P D cl (ws.set j (x, .inr (o.1, vs.set k v))) H1 → va_D Ad (ws.set j (x, .inr (o.1, vs.set k v))) → va_S Ad s.heap H1 locs1 → rk_KW p l e R s m args below meth c Q (pc + 3) ls k1 H1 locs1 nc ns := fun H1 locs1 hP1 hD1 hS1 => by
                have hG1 := hG.setc (c' := .inl (o.1, o.2.set k v0)) hw hP1 hD1 hS1 ⟨vs.set k v, rfl, hvs.set hgv k⟩
                refine kk _ (List.mem_singleton.mpr rfl) vals _ H1 locs1 ls _ lc hG1 hl ?_ ?_
                · rw [rk_map_set hw]; exact hL
                · rw [rk_map_set hw]; exact hS
              obtain ⟨tf, htf, htk⟩ := Option.bind_eq_some_iff.mp ht
              rcases (show kd = 0 ∨ kd = 1 ∨ kd = 2 by omega) with rfl | rfl | rfl
              · obtain ⟨q, hq, hkN, hm⟩ := hr
                obtain ⟨c1, c2, -, tf', htf', hlenT, hT⟩ := hcl _ _ hq
                cases htf.symm.trans htf'
                obtain ⟨t1, t2⟩ := hT k t htk
                have hfin : (q.2.1 k).2.2.2 = false := by
                  rw [t2]
                  cases hb2 : t.2 with
                  | false => rfl
                  | true => exact absurd (hfit.2.mp hb2) (by decide)
                exact va_put (C := q.1) (T := q.2.1) (N := q.2.2) hx hb hts c1 _ (rk_ty hlenT hT) c2 hown hK hG.2.2.1 hG.2.2.2.1 hG.2.2.2.2.1 j hw hq k hkN (hts _ hm) (fun _ h9 => h9) hfin t1 hn hf hkl hdg fin
              · obtain ⟨q, host, hq, hkN, hm⟩ := hr
                obtain ⟨c1, c2, -, tf', htf', hlenT, hT⟩ := hcl _ _ hq
                cases htf.symm.trans htf'
                obtain ⟨t1, t2⟩ := hT k t htk
                have hfin : (q.2.1 k).2.2.2 = false := by
                  rw [t2]
                  cases hb2 : t.2 with
                  | false => rfl
                  | true => exact absurd (hfit.2.mp hb2) (by decide)
                exact va_putN (C := q.1) (T := q.2.1) (N := q.2.2) hx hb hts c1 _ (rk_ty hlenT hT) c2 hown hK hG.2.2.1 hG.2.2.2.1 hG.2.2.2.2.1 j hw hq k hkN (va_Nw.use rfl (hxw _ hm)) (fun _ h9 => h9) hfin t1 hn hf hkl hdg fin
              · obtain ⟨q, hq, hkN, hm, hdecl⟩ := hr
                obtain ⟨c1, c2, -, tf', htf', hlenT, hT⟩ := hcl _ _ hq
                cases htf.symm.trans htf'
                obtain ⟨t1, t2⟩ := hT k t htk
                have hfin : (q.2.1 k).2.2.2 = true := by rw [t2]; exact hfit.2.mpr rfl
                exact va_putF (C := q.1) (T := q.2.1) (N := q.2.2) hx hb hts c1 _ (rk_ty hlenT hT) c2 hown hK hG.2.2.1 hG.2.2.2.1 hG.2.2.2.2.1 j hw hq k hkN (hts _ hm) (fun _ h9 => h9) hfin (hini ⟨_, rk_lk_mem hlk1, rfl⟩) hdecl t1 hn hf hkl hdg fin
            · cases h
          · cases h
        · cases h
      · cases h
    · cases h
  case iaload =>
    simp [rk_len] at hlen; subst hlen
    simp only [rk_heap] at h
    split at h
    · next ix j r =>
      split at h
      · next n d ov hj =>
        split at h
        · next i hi =>
          cases h
          obtain ⟨vi, k0, rfl, hgi, hSn⟩ := hS.cons; clear hS; have hS := hSn; clear hSn
          obtain ⟨va, k1, rfl, ⟨x, hjx, rfl⟩, hSn⟩ := hS.cons; clear hS; have hS := hSn; clear hSn
          obtain ⟨e1, hw, cA, hA1, hA2, f, rfl, hf⟩ := hG.cell hj hjx
          obtain ⟨xi, rfl, hin, rfl⟩ := rk_ix_ok hG.1 hgi hi
          refine va_iald hx hb (rk_K1 hK hA1 hA2) hG.2.2.1 j 0 hw rfl hin hdg ?_
          exact kk _ (List.mem_singleton.mpr rfl) vals ws H locs ls _ lc hG hl hL ⟨rk_norm_ok hG.1 (hf _), hS⟩
        · cases h
      · cases h
    · cases h
  case baload =>
    simp [rk_len] at hlen; subst hlen
    simp only [rk_heap] at h
    split at h
    · next ix j r =>
      split at h
      · next n d ov hj =>
        split at h
        · next i hi =>
          cases h
          obtain ⟨vi, k0, rfl, hgi, hSn⟩ := hS.cons; clear hS; have hS := hSn; clear hSn
          obtain ⟨va, k1, rfl, ⟨x, hjx, rfl⟩, hSn⟩ := hS.cons; clear hS; have hS := hSn; clear hSn
          obtain ⟨e1, hw, cA, hA1, hA2, f, rfl, hf⟩ := hG.cell hj hjx
          obtain ⟨xi, rfl, hin, rfl⟩ := rk_ix_ok hG.1 hgi hi
          refine va_bald hx hb (rk_K1 hK hA1 hA2) hG.2.2.1 j 0 hw rfl hin hdg ?_
          exact kk _ (List.mem_singleton.mpr rfl) vals ws H locs ls _ lc hG hl hL ⟨rk_norm_ok hG.1 (hf _), hS⟩
        · cases h
      · cases h
    · cases h
  case laload =>
    simp [rk_len] at hlen; subst hlen
    simp only [rk_heap] at h
    split at h
    · next ix j r =>
      split at h
      · next n d ov hj =>
        split at h
        · next i hi =>
          cases h
          obtain ⟨vi, k0, rfl, hgi, hSn⟩ := hS.cons; clear hS; have hS := hSn; clear hSn
          obtain ⟨va, k1, rfl, ⟨x, hjx, rfl⟩, hSn⟩ := hS.cons; clear hS; have hS := hSn; clear hSn
          obtain ⟨e1, hw, cA, hA1, hA2, f, rfl, hf⟩ := hG.cell hj hjx
          obtain ⟨xi, rfl, hin, rfl⟩ := rk_ix_ok hG.1 hgi hi
          refine va_lald hx hb (rk_K1 hK hA1 hA2) hG.2.2.1 j 0 hw rfl hin hdg ?_
          exact kk _ (List.mem_singleton.mpr rfl) vals ws H locs ls _ lc hG hl hL ⟨hf _, hS⟩
        · cases h
      · cases h
    · cases h
  case aaload =>
    simp [rk_len] at hlen; subst hlen
    simp only [rk_heap] at h
    split at h
    · next ix j r =>
      split at h
      · next C n d ov hj =>
        split at h
        · next i hi =>
          cases h
          obtain ⟨vi, k0, rfl, hgi, hSn⟩ := hS.cons; clear hS; have hS := hSn; clear hSn
          obtain ⟨va, k1, rfl, ⟨x, hjx, rfl⟩, hSn⟩ := hS.cons; clear hS; have hS := hSn; clear hSn
          obtain ⟨e1, hw, cA, hA1, hA2, f, rfl, hf⟩ := hG.cell hj hjx
          obtain ⟨xi, rfl, hin, rfl⟩ := rk_ix_ok hG.1 hgi hi
          refine va_aldq hx hb (rk_K1 hK hA1 hA2) hG.2.2.1 j 0 hw rfl hin hdg ?_
          exact kk _ (List.mem_singleton.mpr rfl) vals ws H locs ls _ lc hG hl hL ⟨hf _, hS⟩
        · cases h
      · next t n d ov hj =>
        split at h
        · next i hi =>
          cases h
          obtain ⟨vi, k0, rfl, hgi, hSn⟩ := hS.cons; clear hS; have hS := hSn; clear hSn
          obtain ⟨va, k1, rfl, ⟨x, hjx, rfl⟩, hSn⟩ := hS.cons; clear hS; have hS := hSn; clear hSn
          obtain ⟨e1, hw, cA, hA1, hA2, f, rfl, hf⟩ := hG.cell hj hjx
          obtain ⟨xi, rfl, hin, rfl⟩ := rk_ix_ok hG.1 hgi hi
          refine va_alda hx hb (rk_K1 hK hA1 hA2) hG.2.2.1 j 0 hw rfl hin hdg ?_
          exact kk _ (List.mem_singleton.mpr rfl) vals ws H locs ls _ lc hG hl hL ⟨hf _, hS⟩
        · cases h
      · cases h
    · cases h
  case iastore =>
    simp [rk_len] at hlen; subst hlen
    simp only [rk_heap] at h
    split at h
    · next v0 ix j r =>
      split at h
      · next n d ov hj =>
        split at h
        · next i hi =>
          split at h
          · next hv =>
            cases h
            obtain ⟨v, kz, rfl, hgv, hSn⟩ := hS.cons; clear hS; have hS := hSn; clear hSn
            obtain ⟨vi, k0, rfl, hgi, hSn⟩ := hS.cons; clear hS; have hS := hSn; clear hSn
            obtain ⟨va, k1, rfl, ⟨x, hjx, rfl⟩, hSn⟩ := hS.cons; clear hS; have hS := hSn; clear hSn
            obtain ⟨e1, hw, cA, hA1, hA2, f, rfl, hf⟩ := hG.cell hj hjx
            obtain ⟨xi, rfl, hin, rfl⟩ := rk_ix_ok hG.1 hgi hi
            obtain ⟨I, hI⟩ := Option.isSome_iff_exists.mp hv
            obtain ⟨y, rfl, -, -⟩ := rk_iv_ok hG.1 hgv hI
            refine va_iast hx hb (rk_K1 hK hA1 hA2) hG.2.2.1 hG.2.2.2.1 hG.2.2.2.2.1 j 0 hw rfl hin hdg (fun H1 locs1 hP1 hD1 hS1 => ?_)
            have hG1 := hG.setc (c' := .inr (.int, n, d, rk_put d ov xi.toNatClampNeg v0)) hw hP1 hD1 hS1 ⟨cA, hA1, hA2, _, rfl, rk_look_upd hf hgv⟩
            refine kk _ (List.mem_singleton.mpr rfl) vals _ H1 locs1 ls _ lc hG1 hl ?_ ?_
            · rw [rk_map_set hw]; exact hL
            · rw [rk_map_set hw]; exact hS
          · cases h
        · cases h
      · cases h
    · cases h
  case lastore =>
    simp [rk_len] at hlen; subst hlen
    simp only [rk_heap] at h
    split at h
    · next v0 ix j r =>
      split at h
      · next n d ov hj =>
        split at h
        · next i hi =>
          split at h
          · next hv =>
            cases h
            obtain ⟨v, kz, rfl, hgv, hSn⟩ := hS.cons; clear hS; have hS := hSn; clear hSn
            obtain ⟨vi, k0, rfl, hgi, hSn⟩ := hS.cons; clear hS; have hS := hSn; clear hSn
            obtain ⟨va, k1, rfl, ⟨x, hjx, rfl⟩, hSn⟩ := hS.cons; clear hS; have hS := hSn; clear hSn
            obtain ⟨e1, hw, cA, hA1, hA2, f, rfl, hf⟩ := hG.cell hj hjx
            obtain ⟨xi, rfl, hin, rfl⟩ := rk_ix_ok hG.1 hgi hi
            obtain ⟨y, rfl⟩ := rk_isL_ok hG.1 hgv hv
            refine va_last hx hb (rk_K1 hK hA1 hA2) hG.2.2.1 hG.2.2.2.1 hG.2.2.2.2.1 j 0 hw rfl hin hdg (fun H1 locs1 hP1 hD1 hS1 => ?_)
            have hG1 := hG.setc (c' := .inr (.long, n, d, rk_put d ov xi.toNatClampNeg v0)) hw hP1 hD1 hS1 ⟨cA, hA1, hA2, _, rfl, rk_look_updL hf hgv⟩
            refine kk _ (List.mem_singleton.mpr rfl) vals _ H1 locs1 ls _ lc hG1 hl ?_ ?_
            · rw [rk_map_set hw]; exact hL
            · rw [rk_map_set hw]; exact hS
          · cases h
        · cases h
      · cases h
    · cases h
  case bastore =>
    simp [rk_len] at hlen; subst hlen
    simp only [rk_heap] at h
    split at h
    · next v0 ix j r =>
      split at h
      · next n d ov hj =>
        split at h
        · next i I hi hI =>
          split at h
          · next hv =>
            cases h
            obtain ⟨v, kz, rfl, hgv, hSn⟩ := hS.cons; clear hS; have hS := hSn; clear hSn
            obtain ⟨vi, k0, rfl, hgi, hSn⟩ := hS.cons; clear hS; have hS := hSn; clear hSn
            obtain ⟨va, k1, rfl, ⟨x, hjx, rfl⟩, hSn⟩ := hS.cons; clear hS; have hS := hSn; clear hSn
            obtain ⟨e1, hw, cA, hA1, hA2, f, rfl, hf⟩ := hG.cell hj hjx
            obtain ⟨xi, rfl, hin, rfl⟩ := rk_ix_ok hG.1 hgi hi
            obtain ⟨y, rfl, q1, q2⟩ := rk_iv_ok hG.1 hgv hI
            have hy : vp_nar .byte y = y := by
              rw [vp_nar_byte]
              apply Int32.toInt_inj.mp
              rw [Int8.toInt_toInt32, Int32.toInt_toInt8]
              exact Int.bmod_eq_of_le (by omega) (by omega)
            refine va_bast hx hb (rk_K1 hK hA1 hA2) hG.2.2.1 hG.2.2.2.1 hG.2.2.2.2.1 j 0 hw rfl hin hdg (fun H1 locs1 hP1 hD1 hS1 => ?_)
            rw [hy] at hP1 hD1
            have hG1 := hG.setc (c' := .inr (.byte, n, d, rk_put d ov xi.toNatClampNeg v0)) hw hP1 hD1 hS1 ⟨cA, hA1, hA2, _, rfl, rk_look_upd hf hgv⟩
            refine kk _ (List.mem_singleton.mpr rfl) vals _ H1 locs1 ls _ lc hG1 hl ?_ ?_
            · rw [rk_map_set hw]; exact hL
            · rw [rk_map_set hw]; exact hS
          · cases h
        · cases h
      · cases h
    · cases h
  case aastore =>
    simp [rk_len] at hlen; subst hlen
    simp only [rk_heap] at h
    split at h
    · next y ix j r =>
      split at h
      · next C n d ov o hj hy =>
        split at h
        · next i hi =>
          split at h
          · next hc =>
            cases h
            obtain ⟨v, kz, rfl, hgv, hSn⟩ := hS.cons; clear hS; have hS := hSn; clear hSn
            obtain ⟨xv, hyx, rfl⟩ := id hgv
            obtain ⟨vi, k0, rfl, hgi, hSn⟩ := hS.cons; clear hS; have hS := hSn; clear hSn
            obtain ⟨va, k1, rfl, ⟨x, hjx, rfl⟩, hSn⟩ := hS.cons; clear hS; have hS := hSn; clear hSn
            obtain ⟨e1, hw, cA, hA1, hA2, f, rfl, hf⟩ := hG.cell hj hjx
            obtain ⟨e2, hw2, vs, rfl, hvs⟩ := hG.cell hy hyx
            obtain ⟨xi, rfl, hin, rfl⟩ := rk_ix_ok hG.1 hgi hi
            obtain ⟨r2, hr2, -⟩ := hG.2.2.1 y _ hw2
            have hrc : r2.1 = C := Option.some.inj ((hcl _ _ hr2).2.2.1.symm.trans hc)
            subst hrc
            refine va_astq hx hb (rk_K1 hK hA1 hA2) hG.2.2.1 hG.2.2.2.1 hG.2.2.2.2.1 j 0 y o.1 hw rfl hw2 hr2 hin hdg (fun H1 locs1 hP1 hD1 hS1 => ?_)
            have hup : ∀ jj, rk_g vals (ws.map Prod.fst) (rk_look d ((xi.toNatClampNeg, .inr (.inl y)) :: ov) jj) (va_rf (va_up f xi.toNatClampNeg (some xv) jj)) := by
              intro jj
              unfold rk_look va_up
              dsimp only
              by_cases e : xi.toNatClampNeg = jj
              · rw [if_pos e, if_pos e.symm]
                exact hgv
              · rw [if_neg e, if_neg (Ne.symm e)]
                exact hf jj
            have hG1 := hG.setc (c' := .inr (.object r2.1, n, d, (xi.toNatClampNeg, .inr (.inl y)) :: ov)) hw hP1 hD1 hS1 ⟨cA, hA1, hA2, _, rfl, hup⟩
            refine kk _ (List.mem_singleton.mpr rfl) vals _ H1 locs1 ls _ lc hG1 hl ?_ ?_
            · rw [rk_map_set hw]; exact hL
            · rw [rk_map_set hw]; exact hS
          · cases h
        · cases h
      · cases h
    · cases h
  case arraylength =>
    simp [rk_len] at hlen; subst hlen
    simp only [rk_heap] at h
    split at h
    · next j r =>
      split at h
      · next q hj =>
        cases h
        obtain ⟨va, k1, rfl, ⟨x, hjx, rfl⟩, hSn⟩ := hS.cons; clear hS; have hS := hSn; clear hSn
        obtain ⟨e1, hw, cA, hA1, hA2, harr⟩ := hG.cell hj hjx
        have he : ∃ z : vp_A, e1 = .inl (cA, z) ∧ z.1 = q.2.1 := by
          unfold rk_arr at harr
          split at harr
          all_goals first
            | exact harr.elim
            | (obtain ⟨f, rfl, -⟩ := harr
               exact ⟨_, rfl, rfl⟩)
        obtain ⟨z, rfl, hz⟩ := he
        refine va_alen hx hb (rk_K1 hK hA1 hA2) hG.2.2.1 j 0 hw rfl (v := Int32.ofNat q.2.1) (by rw [hz]) hdg ?_
        exact kk _ (List.mem_singleton.mpr rfl) vals ws H locs ls _ lc hG hl hL ⟨rfl, hS⟩
      · cases h
    · cases h
  case newarray at_ =>
    simp [rk_len] at hlen; subst hlen
    simp only [rk_heap] at h
    split at h
    · next x r =>
      split at h
      · next hc =>
        obtain ⟨va, k1, rfl, hgx, hSn⟩ := hS.cons; clear hS; have hS := hSn; clear hSn
        cases hgx
        have hn : ¬ x < 0 := by rw [Int32.lt_iff_toInt_lt, Int32.toInt_zero]; omega
        have hsm : x.toNatClampNeg ≤ 100000 := by have : x.toNatClampNeg = x.toInt.toNat := rfl; omega
        split at h
        · cases h
          obtain ⟨hc1, hc2⟩ := hroom _ (List.mem_singleton.mpr rfl)
          refine va_newa (atype := .int) (ty := .int) (a0 := (x.toNatClampNeg, .inl (fun _ => 0))) hx hb (hts _ hac.1) rfl hK hG.2.2.1 hG.2.2.2.1 hG.2.2.2.2.1 hA (fun _ => rfl) hn rfl (by simp only [componentBytes]; omega) hc1 hc2 hdg (fun q cA H1 hK1 hP1 hD1 hS1 => ?_)
          have hk := hK1.2 0 (cA, .int) rfl
          have hG1 := hG.newc (c' := .inr (.int, x.toNatClampNeg, .inl (.int 0), [])) hP1 hD1 hS1 ⟨cA, hk.1, hk.2, _, rfl, fun _ => rfl⟩
          refine kk _ (List.mem_singleton.mpr rfl) vals _ H1 locs ls _ lc hG1 hl ?_ ?_
          · rw [rk_mapnew]; exact rk_A2.mono (fun _ _ h => ⟨h.1, h.2.grow ⟨[], by simp⟩ ⟨[q], rfl⟩⟩) hL
          · rw [rk_mapnew]; exact ⟨⟨q, by rw [hG.2.1.len]; simp, rfl⟩, rk_A2.mono (fun _ _ h => h.grow ⟨[], by simp⟩ ⟨[q], rfl⟩) hS⟩
        · cases h
          obtain ⟨hc1, hc2⟩ := hroom _ (List.mem_singleton.mpr rfl)
          refine va_newa (atype := .byte) (ty := .byte) (a0 := (x.toNatClampNeg, .inl (fun _ => 0))) hx hb (hts _ hac.2.1) rfl hK hG.2.2.1 hG.2.2.2.1 hG.2.2.2.2.1 hA (fun _ => rfl) hn rfl (by simp only [componentBytes]; omega) hc1 hc2 hdg (fun q cA H1 hK1 hP1 hD1 hS1 => ?_)
          have hk := hK1.2 0 (cA, .byte) rfl
          have hG1 := hG.newc (c' := .inr (.byte, x.toNatClampNeg, .inl (.int 0), [])) hP1 hD1 hS1 ⟨cA, hk.1, hk.2, _, rfl, fun _ => rfl⟩
          refine kk _ (List.mem_singleton.mpr rfl) vals _ H1 locs ls _ lc hG1 hl ?_ ?_
          · rw [rk_mapnew]; exact rk_A2.mono (fun _ _ h => ⟨h.1, h.2.grow ⟨[], by simp⟩ ⟨[q], rfl⟩⟩) hL
          · rw [rk_mapnew]; exact ⟨⟨q, by rw [hG.2.1.len]; simp, rfl⟩, rk_A2.mono (fun _ _ h => h.grow ⟨[], by simp⟩ ⟨[q], rfl⟩) hS⟩
        · cases h
          obtain ⟨hc1, hc2⟩ := hroom _ (List.mem_singleton.mpr rfl)
          refine va_newa (atype := .long) (ty := .long) (a0 := (x.toNatClampNeg, .inr (.inl (fun _ => 0)))) hx hb (hts _ hac.2.2) rfl hK hG.2.2.1 hG.2.2.2.1 hG.2.2.2.2.1 hA (fun _ => rfl) hn rfl (by simp only [componentBytes]; omega) hc1 hc2 hdg (fun q cA H1 hK1 hP1 hD1 hS1 => ?_)
          have hk := hK1.2 0 (cA, .long) rfl
          have hG1 := hG.newc (c' := .inr (.long, x.toNatClampNeg, .inl (.long 0), [])) hP1 hD1 hS1 ⟨cA, hk.1, hk.2, _, rfl, fun _ => rfl⟩
          refine kk _ (List.mem_singleton.mpr rfl) vals _ H1 locs ls _ lc hG1 hl ?_ ?_
          · rw [rk_mapnew]; exact rk_A2.mono (fun _ _ h => ⟨h.1, h.2.grow ⟨[], by simp⟩ ⟨[q], rfl⟩⟩) hL
          · rw [rk_mapnew]; exact ⟨⟨q, by rw [hG.2.1.len]; simp, rfl⟩, rk_A2.mono (fun _ _ h => h.grow ⟨[], by simp⟩ ⟨[q], rfl⟩) hS⟩
        · cases h
      · cases h
    · cases h
  case anewarray idx =>
    simp [rk_len] at hlen; subst hlen
    simp only [rk_heap] at h
    split at h
    · next x r =>
      split at h
      · next hc =>
        obtain ⟨va, k1, rfl, hgx, hSn⟩ := hS.cons; clear hS; have hS := hSn; clear hSn
        cases hgx
        have hn : ¬ x < 0 := by rw [Int32.lt_iff_toInt_lt, Int32.toInt_zero]; omega
        have hsm : x.toNatClampNeg ≤ 100000 := by have : x.toNatClampNeg = x.toInt.toNat := rfl; omega
        split at h
        · next ci z hlk1 =>
          split at h
          · next C hC =>
            cases h
            obtain ⟨q0, hq0, hm1, hm2⟩ := hlk _ (List.mem_filter.mp (rk_lk_mem hlk1)).1
            have hqc : q0.1 = C := Option.some.inj ((hcl _ _ hq0).2.2.1.symm.trans hC)
            subst hqc
            obtain ⟨hc1, hc2⟩ := hroom _ (List.mem_singleton.mpr rfl)
            refine va_newq hx hb hown (hts _ hm1) (hxw _ hm2) hK hG.2.2.1 hG.2.2.2.1 hG.2.2.2.2.1 hA hn rfl (by omega) hc1 hc2 hdg (fun q cA H1 hK1 hP1 hD1 hS1 => ?_)
            have hk := hK1.2 0 (cA, .object q0.1) rfl
            have hG1 := hG.newc (c' := .inr (.object q0.1, x.toNatClampNeg, .inl .null, [])) hP1 hD1 hS1 ⟨cA, hk.1, hk.2, _, rfl, fun _ => rfl⟩
            refine kk _ (List.mem_singleton.mpr rfl) vals _ H1 locs ls _ lc hG1 hl ?_ ?_
            · rw [rk_mapnew]; exact rk_A2.mono (fun _ _ h => ⟨h.1, h.2.grow ⟨[], by simp⟩ ⟨[q], rfl⟩⟩) hL
            · rw [rk_mapnew]; exact ⟨⟨q, by rw [hG.2.1.len]; simp, rfl⟩, rk_A2.mono (fun _ _ h => h.grow ⟨[], by simp⟩ ⟨[q], rfl⟩) hS⟩
          · cases h
        · cases h
      · cases h
    · cases h
  case multianewarray idx dims =>
    simp [rk_len] at hlen; subst hlen
    simp only [rk_heap] at h
    split at h
    · next y x r =>
      split at h
      · next hc =>
        obtain ⟨vy, k0, rfl, hgy, hSn⟩ := hS.cons; clear hS; have hS := hSn; clear hSn
        cases hgy
        obtain ⟨va, k1, rfl, hgx, hSn⟩ := hS.cons; clear hS; have hS := hSn; clear hSn
        cases hgx
        have hn : ¬ x < 0 := by rw [Int32.lt_iff_toInt_lt, Int32.toInt_zero]; omega
        have hk : ¬ y < 0 := by rw [Int32.lt_iff_toInt_lt, Int32.toInt_zero]; omega
        have hsm : x.toNatClampNeg ≤ 1000 := by have : x.toNatClampNeg = x.toInt.toNat := rfl; omega
        have hsk : y.toNatClampNeg ≤ 1000 := by have : y.toNatClampNeg = y.toInt.toNat := rfl; omega
        split at h
        · next z1 z2 hlk1 =>
          cases h
          obtain ⟨hm1, hm2⟩ := hlk _ (rk_lk_mem hlk1)
          have hc12 := hroom _ (List.mem_singleton.mpr rfl)
          dsimp only at hc12
          obtain ⟨hd2, -⟩ := hc
          subst hd2
          obtain ⟨cy, ky, comp, hfind, hkc, hkind⟩ := Cond.arrayClass_spec (hts _ hac.2.2)
          have hAy : ArrOfT s cy .long := fun n z => ⟨fun k h => (by cases h), ky, hkc, comp, hkind⟩
          have e0 : va_pl ([] : List Nat) (fun _ => (.inl (cy, 0, .inl (fun _ => 0)) : va_E)) = [] := rfl
          refine va_mna (X := ws) (L := []) (f := fun _ => .inl (cy, 0, .inl (fun _ => 0))) (ty := .long) (cy := cy) (tys := []) (z := (y.toNatClampNeg, .inr (.inl (fun _ => 0)))) hx hb hown (hts _ hm1) (hxw _ hm2) (hts _ hac.2.2) hfind hK (by rw [e0, List.append_nil]; exact hG.2.2.1) (by rw [e0, List.append_nil]; exact hG.2.2.2.1) hG.2.2.2.2.1 hA hn hk rfl rfl (by omega) (by simp only [componentBytes]; omega) (by omega) rfl rfl (by omega) (by omega) (fun cz => arrV_new cz _ _) hdg (fun q r0 cA H1 hinj hrL hK1 hP1 hD1 hS1 => ?_)
          have hk1 := hK1.2 0 (cA, .array .long) rfl
          rw [← vr_rows (L := []) (fun a _ h => by cases h), e0, List.nil_append] at hP1 hD1
          obtain ⟨lr, hlr⟩ : ∃ lr, lr = List.map r0 (List.range x.toNatClampNeg) := ⟨_, rfl⟩
          rw [← hlr] at hP1 hD1
          have hll : lr.length = x.toNatClampNeg := by rw [hlr]; simp
          have hads : ((ws ++ [(q, (.inl (cA, x.toNatClampNeg, .inr (.inr (.inr (.inr (fun i => if i < x.toNatClampNeg then some (r0 i) else none))))) : va_E))]) ++ lr.map (fun a => (a, (.inl (cy, (y.toNatClampNeg, .inr (.inl (fun _ => 0)))) : va_E)))).map Prod.fst = ws.map Prod.fst ++ (q :: lr) := by
            rw [List.map_append, List.map_append, List.map_map]
            simp [Function.comp_def]
          have hwl : hp.length = (ws.map Prod.fst).length := by rw [hG.2.1.len]; simp
          have hG1 : rk_G s D cl Ad vals0 ads0 vals ((ws ++ [(q, (.inl (cA, x.toNatClampNeg, .inr (.inr (.inr (.inr (fun i => if i < x.toNatClampNeg then some (r0 i) else none))))) : va_E))]) ++ lr.map (fun a => (a, (.inl (cy, (y.toNatClampNeg, .inr (.inl (fun _ => 0)))) : va_E)))) H1 locs env (hp ++ ([.inr (.array .long, x.toNatClampNeg, .inl .null, rk_rows (hp.length + 1) x.toNatClampNeg)] ++ List.replicate x.toNatClampNeg (.inr (.long, y.toNatClampNeg, .inl (.long 0), [])))) := by
            refine ⟨hG.1, ?_, hP1, hD1, hS1, hG.2.2.2.2.2.1, ?_⟩
            · rw [hads, List.append_assoc ws]
              have g1 : rk_A2 (fun (c : rk_H) (q' : Nat × va_E) => rk_c s vals (ws.map Prod.fst ++ (q :: lr)) c q'.2) (List.replicate x.toNatClampNeg (.inr (.long, y.toNatClampNeg, .inl (.long 0), []))) (lr.map (fun a => (a, (.inl (cy, (y.toNatClampNeg, .inr (.inl (fun _ => 0)))) : va_E)))) := by
                rw [← hll]
                exact rk_A2.rep (fun a => ⟨cy, hAy, hfind, _, rfl, fun _ => rfl⟩) lr
              have g2 : rk_c s vals (ws.map Prod.fst ++ (q :: lr)) (.inr (.array .long, x.toNatClampNeg, .inl .null, rk_rows (hp.length + 1) x.toNatClampNeg)) (.inl (cA, x.toNatClampNeg, .inr (.inr (.inr (.inr (fun i => if i < x.toNatClampNeg then some (r0 i) else none)))))) := by
                refine ⟨cA, hk1.1, hk1.2, _, rfl, fun j => ?_⟩
                show rk_g vals (ws.map Prod.fst ++ (q :: lr)) (rk_look (.inl .null) (rk_rows (hp.length + 1) x.toNatClampNeg) j) (va_rf (if j < x.toNatClampNeg then some (r0 j) else none))
                rw [rk_rows_look]
                by_cases hj : j < x.toNatClampNeg
                · rw [if_pos hj, if_pos hj]
                  refine ⟨r0 j, ?_, rfl⟩
                  rw [List.getElem?_append_right (by omega), show hp.length + 1 + j - (ws.map Prod.fst).length = j + 1 by omega, List.getElem?_cons_succ, hlr, List.getElem?_map, List.getElem?_range hj]
                  rfl
                · rw [if_neg hj, if_neg hj]
                  rfl
              have g3 : rk_A2 (fun (c : rk_H) (q' : Nat × va_E) => rk_c s vals (ws.map Prod.fst ++ (q :: lr)) c q'.2) hp ws := hG.2.1.mono (fun _ _ h => h.grow ⟨[], by simp⟩ ⟨q :: lr, rfl⟩)
              have g4 : rk_A2 (fun (c : rk_H) (q' : Nat × va_E) => rk_c s vals (ws.map Prod.fst ++ (q :: lr)) c q'.2) [.inr (.array .long, x.toNatClampNeg, .inl .null, rk_rows (hp.length + 1) x.toNatClampNeg)] [(q, (.inl (cA, x.toNatClampNeg, .inr (.inr (.inr (.inr (fun i => if i < x.toNatClampNeg then some (r0 i) else none))))) : va_E))] := ⟨g2, trivial⟩
              exact rk_A2.app (rk_A2.app g1 g4) g3
            · obtain ⟨k7, h7⟩ := hG.2.2.2.2.2.2
              exact ⟨k7 ++ (q :: lr), by rw [hads, h7, List.append_assoc]⟩
          refine kk _ (List.mem_singleton.mpr rfl) vals _ H1 locs ls _ lc hG1 hl ?_ ?_
          · rw [hads]; exact rk_A2.mono (fun _ _ h => ⟨h.1, h.2.grow ⟨[], by simp⟩ ⟨q :: lr, rfl⟩⟩) hL
          · rw [hads]; exact ⟨⟨q, by rw [hwl]; simp, rfl⟩, rk_A2.mono (fun _ _ h => h.grow ⟨[], by simp⟩ ⟨q :: lr, rfl⟩) hS⟩
        · cases h
      · cases h
    · cases h
  case new idx =>
    simp [rk_len] at hlen; subst hlen
    simp only [rk_heap] at h
    split at h
    · next ci z hlk1 =>
      split at h
      · next tf htf =>
        cases h
        obtain ⟨q0, hq0, hm1, hm2, hm3⟩ := hlk _ (rk_lk_mem hlk1)
        obtain ⟨c1, c2, -, tf', htf', hlenT, hT⟩ := hcl _ _ hq0
        cases htf.symm.trans htf'
        obtain ⟨hc1, hc2⟩ := hroom _ (List.mem_singleton.mpr rfl)
        dsimp only at hc1 hc2
        rw [hlenT] at hc2
        refine va_new (ci := ci) (C := q0.1) (T := q0.2.1) (N := q0.2.2) (fs := tf.map (fun t => defaultValue t.1)) hx hb hts c1 _ (rk_ty hlenT hT) hown (hts _ hm1) (hts _ hm2) (hts _ hm3) hK hG.2.2.1 hG.2.2.2.1 hG.2.2.2.2.1 hA hq0 ?_ hc1 hc2 hdg (fun q H1 hP1 hD1 hS1 => ?_)
        · intro j hj
          have hj' : j < tf.length := by omega
          have e : tf[j]? = some tf[j] := List.getElem?_eq_getElem hj'
          simp [vp_V, e]
        · have hG1 := hG.newc (c' := .inl (ci, tf.map (fun t => .inl (defaultValue t.1)))) hP1 hD1 hS1 ⟨_, rfl, rk_defs tf⟩
          rw [← hlenT]
          refine kk _ (List.mem_singleton.mpr rfl) vals _ H1 locs ls _ lc hG1 hl ?_ ?_
          · rw [rk_mapnew]; exact rk_A2.mono (fun _ _ h => ⟨h.1, h.2.grow ⟨[], by simp⟩ ⟨[q], rfl⟩⟩) hL
          · rw [rk_mapnew]; exact ⟨⟨q, by rw [hG.2.1.len]; simp, rfl⟩, rk_A2.mono (fun _ _ h => h.grow ⟨[], by simp⟩ ⟨[q], rfl⟩) hS⟩
      · cases h
    · cases h
  case ldc idx =>
    simp [rk_len] at hlen; subst hlen
    simp only [rk_heap] at h
    split at h
    · next x hx1 =>
      cases h
      exact lv_ldc hx hb hown (hts _ ((hcs _ (rk_cst_mem hx1)).1 x rfl)) hdg (kk _ (List.mem_singleton.mpr rfl) vals ws H locs ls _ lc hG hl hL ⟨rfl, hS⟩)
    · cases h
  case ldc_w idx =>
    simp [rk_len] at hlen; subst hlen
    simp only [rk_heap] at h
    split at h
    · next x hx1 =>
      cases h
      exact lv_ldcw hx hb hown (hts _ ((hcs _ (rk_cst_mem hx1)).1 x rfl)) hdg (kk _ (List.mem_singleton.mpr rfl) vals ws H locs ls _ lc hG hl hL ⟨rfl, hS⟩)
    · cases h
  case ldc2_w idx =>
    simp [rk_len] at hlen; subst hlen
    simp only [rk_heap] at h
    split at h
    · next x hx1 =>
      cases h
      exact lv_ldc2 hx hb hown (hts _ ((hcs _ (rk_cst_mem hx1)).2 x rfl)) hdg (kk _ (List.mem_singleton.mpr rfl) vals ws H locs ls _ lc hG hl hL ⟨rfl, hS⟩)
    · cases h
  all_goals (simp [rk_heap] at h)
end RKQ
