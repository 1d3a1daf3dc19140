/-! ===== the law: what a call gives, told by a relation of the worlds before and behind it ===== -/
def lw_Post (D : va_G) (TY : tk_TT) (X : va_W → Prop) (ads tw : List Nat) (Q : va_W → Value → Prop) (Ad : Nat → Prop) : Array Value → State → Outcome → State → Prop := fun _ st oc t =>
  (∃ (ws' : va_W) (v : Value), ws'.map Prod.fst = ads ∧ rk_A2 (fun b (q : Nat × va_E) => tk_cl TY lc_ro ads tw t b q.2) tw ws' ∧ va_P D gk_cl ws' t.heap ∧ va_D Ad ws' ∧ X ws' ∧ Q ws' v ∧ oc = .returned (some v)) ∧ va_F Ad st t
def lw_sem (l : Launch) (D : va_G) (xt : tk_XT) (TY : tk_TT) (X : va_W → Prop) (ads tw : List Nat) (d f : Nat) (kinds : List Nat) (envs : List tk_I) (Q : List Value → va_W → va_W → Value → Prop) : Prop :=
  ∀ q : rk_N, gk_MN[f]? = some q → ∃ M, gk_P[f]? = some M ∧ M.2.1 ≤ 21 ∧ ∀ (ax : Nat) (ws : va_W) (av : List Value) (sz : Nat), tk_ty ads tw 0 ax → rk_A2 lq_av (kinds.zip envs) av → ws.map Prod.fst = ads → tk_ob TY lc_ro ads tw ws →
    Met l q.2.1 (Jvm.Cond.code q.2.1 q.2.2 M.2.1 M.2.2.2.2.1 :: gk_tbl) { frames := d, cells := 0, slots := 0, locals := 40 * d } (tk_Pre D gk_cl gk_xw xt TY lc_ro X ads tw ws sz (.ref ax :: av)) (lw_Post D TY X ads tw (Q av ws) (va_A ws sz)) 0 0 (va_A ws sz)
/-- what stands at a place of a world -/
def lw_at (ws : va_W) (z : Nat × Nat) : Option Value := match ws[z.1]? with
  | some q => tk_pos q.2 z.2
  | none => none
/-- an int, a long -/
def lr_ty (k : Nat) (v : Value) : Prop := match k with
  | 0 => ∃ x : Int32, v = .int x
  | 1 => ∃ x : Int64, v = .long x
  | _ => False
theorem gk_row {f : Nat} {q : rk_N} (hqn : gk_MN[f]? = some q) : ∃ M, gk_P[f]? = some M ∧ M.2.1 ≤ 21 := by
  have hlen : gk_MN.length = gk_P.length := gk_rok.2.2.2.2.1
  have hlt : f < gk_P.length := by rw [← hlen]; exact (List.getElem?_eq_some_iff.mp hqn).1
  refine ⟨gk_P[f], List.getElem?_eq_getElem hlt, ?_⟩
  have hall : gk_P.all (fun M => Nat.ble M.2.1 21) = true := by decide +kernel
  exact Nat.le_of_ble_eq_true (List.all_eq_true.mp hall _ (List.getElem_mem hlt))
section LSM
variable {l : Launch} {D : va_G} {xt : tk_XT} {TY : tk_TT} {X : va_W → Prop} {ads tw : List Nat} {d f : Nat} {kinds : List Nat} {envs : List tk_I} {Q : List Value → va_W → va_W → Value → Prop}
theorem lw_sem_imp {Q' : List Value → va_W → va_W → Value → Prop} (h : lw_sem l D xt TY X ads tw d f kinds envs Q) (hQ : ∀ av ws ws' v, rk_A2 lq_av (kinds.zip envs) av → Q av ws ws' v → Q' av ws ws' v) : lw_sem l D xt TY X ads tw d f kinds envs Q' := by
  intro q hq
  obtain ⟨M, h1, h2, h3⟩ := h q hq
  refine ⟨M, h1, h2, fun ax ws av sz a1 a2 a3 a4 => rk_Met_imp (h3 ax ws av sz a1 a2 a3 a4) (fun _ _ z => z) ?_ (fun _ z => z)⟩
  rintro a st oc t - - ⟨⟨ws', v, b1, b2, b3, b4, b5, b6, b7⟩, hF⟩
  exact ⟨⟨ws', v, b1, b2, b3, b4, b5, hQ _ _ _ _ a2 b6, b7⟩, hF⟩
theorem lw_sem_up {d' : Nat} (hd : d ≤ d') (h : lw_sem l D xt TY X ads tw d f kinds envs Q) : lw_sem l D xt TY X ads tw d' f kinds envs Q := by
  intro q hq
  obtain ⟨M, hM, hM21, hmet⟩ := h q hq
  refine ⟨M, hM, hM21, fun ax ws av sz a1 a2 a3 a4 => ?_⟩
  have := hmet ax ws av sz a1 a2 a3 a4
  unfold Met at this ⊢
  exact MetFree.respec this (fun _ _ z => z) hd (by show 40 * d ≤ 40 * d'; omega) (Nat.le_refl _) (Nat.le_refl _)
/-- out of contracts by tk: which one, the world says -/
theorem lw_sem_K (h : ∀ (U : State) (ax : Nat) (ws : va_W) (av : List Value), tk_ty ads tw 0 ax → rk_A2 lq_av (kinds.zip envs) av → ws.map Prod.fst = ads → rk_A2 (fun b (q : Nat × va_E) => tk_cl TY lc_ro ads tw U b q.2) tw ws → va_D (fun _ => True) ws → X ws → ∃ (as : List tk_V) (w : tk_W) (rf rads : List Nat) (fa : tk_FA) (ys : List tk_X) (mods : List (Nat × Nat)) (vals : List Int), tk_KS l D gk_cl gk_tbl gk_xw xt gk_MN gk_P TY lc_ro X ads tw d (f, (2, 0, 0, 0) :: as, w, 0 :: rf, fa, ys, mods) ∧ tk_H w vals ∧ rk_A2 (fun t y => tk_ty ads tw t y) rf rads ∧ rk_A2 (tk_g vals (ax :: rads)) as av ∧ (∀ z ∈ fa, tk_fk vals (ax :: rads) ws z) ∧ ∀ y ∈ ys, ∀ (t : State) (vals' : List Int) (rads' : List Nat) (ws' : va_W) (oc : Outcome), (∃ k, vals' = vals ++ k) → (∃ k, rads' = (ax :: rads) ++ k) → tk_H y.2.1 vals' → (∀ q ∈ y.2.2.2, tk_fk vals' rads' ws' q) → ws'.map Prod.fst = ads → rk_A2 (fun b (q : Nat × va_E) => tk_cl TY lc_ro ads tw t b q.2) tw ws' → tk_un TY mods tw ws ws' → tk_ret y.1 vals' rads' oc → ∃ v, oc = .returned (some v) ∧ Q av ws ws' v) : lw_sem l D xt TY X ads tw d f kinds envs Q := by
  intro q hq
  obtain ⟨M, hM, hM21⟩ := gk_row hq
  refine ⟨M, hM, hM21, fun ax ws av sz a1 a2 a3 a4 => rk_Met_case (fun aU U hP => ?_)⟩
  obtain ⟨p1, p2, p3, p4, p5, p6, p7, p8, p10⟩ := id hP
  obtain ⟨as, w, rf, rads, fa, ys, mods, vals, hK, hH, hR, hG, hfa, hQ⟩ := h U ax ws av a1 a2 a3 p6 p5 p10
  obtain ⟨M2, hM2, -, hmet⟩ := hK q hq
  obtain rfl : M = M2 := Option.some.inj (hM.symm.trans hM2)
  refine ⟨_, _, hmet vals (ax :: rads) ws (.ref ax :: av) sz hH ⟨a1, hR⟩ ⟨⟨ax, rfl, rfl⟩, hG⟩ a3 hfa a4, hP, ?_⟩
  rintro oc t - ⟨⟨y, hy, vals', rads', ws', c1, c2, c3, c4, c5, c6, c7, c8, c9, c10, c11⟩, hF⟩
  obtain ⟨v, e, hq2⟩ := hQ y hy t vals' rads' ws' oc c1 c2 c3 c9 c5 c6 c10.1 c11
  exact ⟨⟨ws', v, c5, c6, c7, c8, c10.2, hq2, e⟩, hF⟩
/-- where a contract writes none of the places looked at -/
def lr_un (tw : List Nat) (TY : tk_TT) (mods : List (Nat × Nat)) (W : List (Nat × Nat)) : Bool := W.all (fun z => match tw[z.1]? with
  | some t => !(tk_in mods t (tk_rg TY t z.2))
  | none => false)
def lw_unQ (cat : Nat) (W : List (Nat × Nat)) : List Value → va_W → va_W → Value → Prop := fun _ ws ws' v => lr_ty cat v ∧ ∀ z ∈ W, lw_at ws' z = lw_at ws z
theorem lw_un_at {mods W : List (Nat × Nat)} {ws ws' : va_W} (hl : ws.length = tw.length) (hu : lr_un tw TY mods W = true) (h : tk_un TY mods tw ws ws') : ∀ z ∈ W, lw_at ws' z = lw_at ws z := by
  intro z hz
  have h1 := List.all_eq_true.mp hu z hz
  cases ht : tw[z.1]? with
  | none => rw [ht] at h1; cases h1
  | some t =>
    rw [ht] at h1
    have hlt : z.1 < ws.length := by rw [hl]; exact (List.getElem?_eq_some_iff.mp ht).1
    have hw : ws[z.1]? = some (ws[z.1].1, ws[z.1].2) := List.getElem?_eq_getElem hlt
    obtain ⟨e', g1, g2, -⟩ := h z.1 _ _ hw
    have h1 : (!(tk_in mods t (tk_rg TY t z.2))) = true := h1
    unfold lw_at
    rw [g1, hw]
    exact g2 z.2 t ht (fun hm => by rw [tk_in_ok.mpr hm] at h1; cases h1)
def lr_ry (cat : Nat) (y : tk_X) : Bool := match y.1 with
  | some a => Nat.beq a.1 cat && Nat.ble cat 1
  | none => false
theorem lr_ry_ok {cat : Nat} {y : tk_X} {vals : List Int} {rads : List Nat} {oc : Outcome} (h : lr_ry cat y = true) (hr : tk_ret y.1 vals rads oc) : ∃ v, oc = .returned (some v) ∧ lr_ty cat v ∧ ∃ a, y.1 = some a ∧ tk_g vals rads a v := by
  unfold lr_ry at h
  split at h
  · next a ha =>
    rw [ha] at hr
    obtain ⟨u, hg, eu⟩ := hr
    rw [Bool.and_eq_true] at h
    have h1 := Nat.eq_of_beq_eq_true h.1
    have h2 := Nat.le_of_ble_eq_true h.2
    refine ⟨u, eu, ?_, a, ha, hg⟩
    rcases (by omega : cat = 0 ∨ cat = 1) with rfl | rfl
    · obtain ⟨x, rfl, -⟩ := tk_g0 hg h1
      exact ⟨x, rfl⟩
    · obtain ⟨x, rfl, -⟩ := tk_g1 hg h1
      exact ⟨x, rfl⟩
  · cases h
theorem lw_len {ws : va_W} (h4 : ws.map Prod.fst = ads) (hl : ads.length = tw.length) : ws.length = tw.length := by rw [← hl, ← h4, List.length_map]
theorem lw_sem_un {cat : Nat} {W mods : List (Nat × Nat)} {ys : List tk_X} (hl : ads.length = tw.length) (hke : kinds.length = envs.length) (hK : tk_KS l D gk_cl gk_tbl gk_xw xt gk_MN gk_P TY lc_ro X ads tw d (f, (2, 0, 0, 0) :: lq_as 0 kinds, (envs, []), [0], [], ys, mods)) (hys : ys.all (lr_ry cat) = true) (hW : lr_un tw TY mods W = true) : lw_sem l D xt TY X ads tw d f kinds envs (lw_unQ cat W) := by
  refine lw_sem_K (fun U ax ws av a1 a2 a3 a4 a5 a6 => ?_)
  obtain ⟨vals, hE, hG⟩ := lq_as_ok (rads := [ax]) (kinds.zip envs) av [] a2
  rw [List.map_snd_zip (by omega)] at hE
  rw [List.map_fst_zip (by omega)] at hG
  refine ⟨_, (envs, []), [], [], [], ys, mods, vals, hK, ⟨hE, fun q hq => absurd hq List.not_mem_nil⟩, trivial, hG, fun z hz => absurd hz List.not_mem_nil, fun y hy t vals' rads' ws' oc k1 k2 k3 k4 k5 k6 k7 k8 => ?_⟩
  obtain ⟨v, e, h1, -⟩ := lr_ry_ok (List.all_eq_true.mp hys y hy) k8
  exact ⟨v, e, h1, lw_un_at (lw_len a3 hl) hW k7⟩
/-- a fact about a place of the world, from what stands there -/
theorem lw_fk {vals : List Int} {rads : List Nat} {ws : va_W} {r j i : Nat} {y : Nat} {e : va_E} {a : tk_V} {v : Value} (hr : rads[r]? = some y) (hw : ws[j]? = some (y, e)) (hv : lw_at ws (j, i) = some v) (hg : tk_g vals rads a v) : tk_fk vals rads ws (r, (0, 0, 0, (i : Int)), a) := by
  unfold lw_at at hv
  dsimp only at hv
  rw [hw] at hv
  exact ⟨y, j, i, e, v, hr, rfl, hw, hv, hg⟩
/-- and back -/
theorem lw_fk_at {vals : List Int} {rads : List Nat} {ws ws' : va_W} (hD : va_D (fun _ => True) ws) (hm : ws'.map Prod.fst = ws.map Prod.fst) {r j i : Nat} {y : Nat} {e : va_E} {a : tk_V} (hr : rads[r]? = some y) (hw : ws[j]? = some (y, e)) (h : tk_fk vals rads ws' (r, (0, 0, 0, (i : Int)), a)) : ∃ v, lw_at ws' (j, i) = some v ∧ tk_g vals rads a v := by
  obtain ⟨y2, j2, i2, e2, v, h1, h2, h3, h4, h5⟩ := h
  have h1 : rads[r]? = some y2 := h1
  rw [hr] at h1
  cases h1
  have h2 : some (i : Int) = some (i2 : Int) := h2
  have hi : i = i2 := Int.ofNat.inj (Option.some.inj h2)
  subst hi
  have h6 : (ws'.map Prod.fst)[j2]? = some y := by rw [List.getElem?_map, h3]; rfl
  rw [hm, List.getElem?_map] at h6
  obtain ⟨q, hq, e6⟩ := Option.map_eq_some_iff.mp h6
  have ej := hD.1 j2 j q _ hq hw e6
  subst ej
  refine ⟨v, ?_, h5⟩
  unfold lw_at
  dsimp only
  rw [h3]
  exact h4
theorem lw_rads {rads rads' : List Nat} {r y : Nat} (h : ∃ k, rads' = rads ++ k) (hr : rads[r]? = some y) : rads'[r]? = some y := by
  obtain ⟨k, rfl⟩ := h
  rw [List.getElem?_append_left (List.getElem?_eq_some_iff.mp hr).1]
  exact hr
theorem lw_vals {vals vals' : List Int} {r : Nat} {x : Int} (h : ∃ k, vals' = vals ++ k) (hr : vals[r]? = some x) : vals'[r]? = some x := by
  obtain ⟨k, rfl⟩ := h
  rw [List.getElem?_append_left (List.getElem?_eq_some_iff.mp hr).1]
  exact hr
end LSM
section LWC2
variable {p : Program} {l : Launch} {e : Env} {R : Room} {s : State} {m : MethodId} {args : Array Value} {below : List Frame} {meth : Method} {c : Code} {Q : State → Prop} {cc : ByteArray} {D : va_G} {Ad : Nat → Prop} {xt : tk_XT} {lk : List (Nat × Nat × Nat × Nat)} {cs : List (Nat × Value)} {own : String} {nL : Nat}
set_option maxHeartbeats 4000000 in
theorem lw_call2 {TY1 TY2 : tk_TT} {X1 X2 : va_W → Prop} {ads1 tw1 ads2 tw2 : List Nat} (hxt : tk_xtok xt) (hXt : xt Ad s s.heap) (hx : p.tables.exec = Jvm.exec) (hb : c.code = cc) (hml : c.maxLocals = nL) (hF : rk_Fr s m args meth D gk_cl Ad gk_tbl gk_xw gk_fty gk_cln own lk cs) (hck : ∀ r ∈ lk, rk_cok gk_tbl gk_xw gk_MN gk_P own r)
    (hdis : ∀ x ∈ ads2, ¬ x ∈ ads1) {d f : Nat} {kinds : List Nat} {envs : List tk_I} {QQ : List Value → va_W → va_W → Value → Prop} (hK : lw_sem l D xt TY1 X1 ads1 tw1 d f kinds envs QQ) (hfr : d + 1 ≤ R.frames) (hlo : 40 * (d + 1) ≤ R.locals) {o1 : Nat × List tk_F} (hT0 : TY1.1[0]? = some (.inl o1)) (hmc : gk_mci[f]? = some o1.1) {ax : Nat} (hax : tk_ty ads1 tw1 0 ax)
    {pc idx n : Nat} (hlk : rk_lk lk idx = some (5, f, n)) (hn : kinds.length = n) (hke : kinds.length = envs.length) {av rest : List Value} (hav : rk_A2 lq_av (kinds.zip envs) av) (hsum : (rest.map fun v => v.category).sum ≤ 8)
    (hdg : decode cc pc = .ok (.invokevirtual idx, 3)) {H : Heap} {locs : List Loc} {ls : Array Slot} {nc ns : Nat} (hnc : nc ≤ R.cells) (hns : ns ≤ R.slots) {lc : List (Nat × Value)} (hl : lv_has ls nL lc) {ws1 ws2 : va_W} (h1 : lw_T TY1 X1 ads1 tw1 s D Ad H ws1) (h2 : lw_T TY2 X2 ads2 tw2 s D Ad H ws2) (hS : va_S Ad s.heap H locs)
    (kk : ∀ (ws1' : va_W) (H' : Heap) (locs' : List Loc) (v : Value), QQ av ws1 ws1' v → lw_T TY1 X1 ads1 tw1 s D Ad H' ws1' → lw_T TY2 X2 ads2 tw2 s D Ad H' ws2 → va_S Ad s.heap H' locs' → W p l e R s m args below meth c H' locs' nc ns Q (F0 m (pc + 3) ls (v :: rest))) : W p l e R s m args below meth c H locs nc ns Q (F0 m pc ls (av.reverse ++ .ref ax :: rest)) := by
  obtain ⟨hgw, hxo, -, -, hlenM, hmok, hmci⟩ := gk_rok
  obtain ⟨hts, hxw, hown, hK0, hA, hcl, hlkk, hini, hac, hcs⟩ := hF
  have hfix : CallFix p m c cc nL s args gk_tbl own := ⟨hx, hb, hml, hown, hts⟩
  obtain ⟨a1, a2, a3, a4, a5⟩ := id h1
  obtain ⟨b1, b2, b3, b4, b5⟩ := id h2
  have hlen : av.length = n := by
    have := hav.len
    rw [List.length_zip] at this
    omega
  obtain ⟨j, e1, hw, hj, hc1⟩ := tk_cell a1 a2 hax
  unfold tk_cl at hc1
  rw [hT0] at hc1
  obtain ⟨vs, rfl, hvl, hvs⟩ := hc1
  have hck1 := hck _ (rk_lk_mem hlk)
  obtain ⟨q, hq, w1, w2, w3, w4⟩ := hck1
  obtain ⟨M, hM, hM21, hmet⟩ := hK q hq
  obtain ⟨m1, m2, m3, m4, m5, -⟩ := hmok f q M hq hM
  obtain ⟨kq, hkq, -⟩ := a3 j _ hw
  have hkn := hmci f o1.1 q kq hmc hq hkq
  have hrecv := va_recv hK0 a3 hkq hw
  rw [hkn] at hrecv
  have hs : tk_hs TY1 lc_ro X1 ads1 tw1 s D gk_cl Ad [] [ax] H locs [0] [] ws1 := ⟨⟨hax, trivial⟩, a1, a2, a3, a4, hS, fun q hq => absurd hq List.not_mem_nil⟩
  have hr : va_Run p l e R s m args below meth c H locs nc ns 0 0 (F0 m pc ls (av.reverse ++ .ref ax :: rest)) rest (lw_Post D TY1 X1 ads1 tw1 (QQ av ws1) (va_A ws1 H.size) (Value.ref ax :: av).toArray) (va_A ws1 H.size) :=
    va_runV (C := q.1) hfix (hmet ax ws1 av H.size hax hav a1 (tk_ob_of a1 a2)) ⟨callB_of n hts (rk_good hgw m4) rfl rfl rfl (hts _ m5) (hts _ w1) ⟨m3.1, m3.2, w4⟩ ⟨hfr, by show 8 + (M.2.1 + 11) + 40 * d ≤ R.locals; omega⟩, hts _ w2, hts _ w3⟩ ⟨tk_blind hxo hxt, hrecv, fun U hU hW => tk_pre hxo hxw hxt hXt hA hK0 hs a5 U hU hW⟩ rfl hlen hl.1 rfl (lv_room hsum) hdg ⟨hnc, hns⟩
  have hsub : ∀ q, va_A ws1 H.size q → Ad q := by
    rintro q (⟨k, e1, hk⟩ | hq)
    · exact a4.2 k _ hk
    · exact hA q (Nat.le_trans hS.1 hq)
  intro T hT X
  obtain ⟨v, st₀, t, T', L, h0, X', hLf, e1', e2, ⟨⟨ws1', v1, c5, c6, c7, c8, c9, c10, c11⟩, hFr⟩, go⟩ := hr T hT X
  have ev : v = some v1 := Outcome.returned.inj c11
  subst ev
  have hal : t.vm.Alike s.vm := by rw [← e2]; exact X'.warmed.alike.symm
  have hS1 : va_S Ad s.heap t.heap (locs ++ L) := by
    refine ⟨Nat.le_trans hS.1 (by rw [← h0]; exact hFr.1), fun q hq hn => ?_, fun z hz => ?_⟩
    · rw [hFr.2 q (by rw [h0]; exact Nat.lt_of_lt_of_le hq hS.1) (fun z => hn (hsub q z)), h0]
      exact hS.2.1 q hq hn
    · rcases List.mem_append.mp hz with z1 | z1
      · exact hS.2.2 z z1
      · exact hsub _ (hLf z z1)
  have hT1 : lw_T TY1 X1 ads1 tw1 s D Ad t.heap ws1' := ⟨c5, c6.mono (fun _ _ h => tk_cl_moved hal h), c7, c8.weaken (fun _ _ _ z => hsub _ z), c9⟩
  have hT2 : lw_T TY2 X2 ads2 tw2 s D Ad t.heap ws2 := ⟨b1, b2, fun i q hq => (b3 i q hq).kept (by
    rw [← h0]
    refine hFr.2 q.1 (by rw [h0]; exact (b3 i q hq).lt) ?_
    rintro (⟨k, e9, hk⟩ | hge)
    · exact hdis q.1 (by rw [← b1]; exact List.mem_map.mpr ⟨q, List.mem_of_getElem? hq, rfl⟩) (by rw [← a1]; exact List.mem_map.mpr ⟨_, List.mem_of_getElem? hk, rfl⟩)
    · have := (b3 i q hq).lt
      omega), b4, b5⟩
  obtain ⟨t2, d1, d2⟩ := kk ws1' t.heap (locs ++ L) v1 c10 hT1 hT2 hS1 T' e1' X'
  exact ⟨t2, go t2 d1, d2⟩
end LWC2
theorem gm_fmTy : fm_Ty gm_TY := ⟨rfl, rfl, rfl⟩
