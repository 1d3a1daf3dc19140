/-! ===== the law: two typed worlds; a call of the one leaves the other ===== -/
def lw_T (TY : tk_TT) (X : va_W → Prop) (ads tw : List Nat) (s : State) (D : va_G) (Ad : Nat → Prop) (H : Heap) (ws : va_W) : Prop := ws.map Prod.fst = ads ∧ rk_A2 (fun t (q : Nat × va_E) => tk_cl TY lc_ro ads tw s t q.2) tw ws ∧ va_P D gk_cl ws H ∧ va_D Ad ws ∧ X ws
/-- arguments by their kinds -/
def lq_as : Nat → List Nat → List tk_V
  | _, [] => []
  | j, k :: r => (k, j + 1, 1, 0) :: lq_as (j + 1) r
def lq_av (p : Nat × tk_I) (v : Value) : Prop := (p.1 = 0 ∧ ∃ x : Int32, v = .int x ∧ p.2.1 ≤ x.toInt ∧ x.toInt ≤ p.2.2) ∨ (p.1 = 1 ∧ ∃ x : Int64, v = .long x ∧ p.2.1 ≤ x.toInt ∧ x.toInt ≤ p.2.2)
theorem lq_num {pre vals : List Int} {x : Int} {k : Nat} : tk_num (pre ++ x :: vals) (k, pre.length + 1, 1, 0) = some x := by
  unfold tk_num
  dsimp only
  rw [List.getElem?_append_right (Nat.le_refl _), Nat.sub_self]
  show some (((1 : Nat) : Int) * x + 0) = _
  congr 1
  omega
theorem lq_as_ok {rads : List Nat} : ∀ (L : List (Nat × tk_I)) (av : List Value) (pre : List Int), rk_A2 lq_av L av → ∃ vals : List Int, tk_E (L.map Prod.snd) vals ∧ rk_A2 (tk_g (pre ++ vals) rads) (lq_as pre.length (L.map Prod.fst)) av := by
  intro L
  induction L with
  | nil =>
    intro av pre h
    rw [h.nil]
    exact ⟨[], trivial, trivial⟩
  | cons p L ih =>
    intro av pre h
    obtain ⟨v, k, rfl, g1, g2⟩ := h.cons
    rcases g1 with ⟨e, x, rfl, b1, b2⟩ | ⟨e, x, rfl, b1, b2⟩
    · obtain ⟨vals, h1, h2⟩ := ih k (pre ++ [x.toInt]) g2
      rw [List.append_assoc, List.length_append] at h2
      refine ⟨x.toInt :: vals, ⟨⟨b1, b2⟩, h1⟩, ⟨?_, h2⟩⟩
      show tk_g (pre ++ x.toInt :: vals) rads (p.1, pre.length + 1, 1, 0) (.int x)
      rw [e]
      exact ⟨x, rfl, lq_num⟩
    · obtain ⟨vals, h1, h2⟩ := ih k (pre ++ [x.toInt]) g2
      rw [List.append_assoc, List.length_append] at h2
      refine ⟨x.toInt :: vals, ⟨⟨b1, b2⟩, h1⟩, ⟨?_, h2⟩⟩
      show tk_g (pre ++ x.toInt :: vals) rads (p.1, pre.length + 1, 1, 0) (.long x)
      rw [e]
      exact ⟨x, rfl, lq_num⟩
section LWC
variable {p : Program} {l : Launch} {e : Env} {R : Room} {s : State} {m : MethodId} {args : Array Value} {below : List Frame} {meth : Method} {c : Code} {Q : State → Prop} {cc : ByteArray} {D : va_G} {Ad : Nat → Prop} {xt : tk_XT} {lk : List (Nat × Nat × Nat × Nat)} {cs : List (Nat × Value)} {own : String} {nL : Nat}
set_option maxHeartbeats 4000000 in
theorem lw_call {TY1 TY2 : tk_TT} {X1 X2 : va_W → Prop} {ads1 tw1 ads2 tw2 : List Nat} (hxt : tk_xtok xt) (hXt : xt Ad s s.heap) (hx : p.tables.exec = Jvm.exec) (hb : c.code = cc) (hml : c.maxLocals = nL) (hF : rk_Fr s m args meth D gk_cl Ad gk_tbl gk_xw gk_fty gk_cln own lk cs) (hck : ∀ r ∈ lk, rk_cok gk_tbl gk_xw gk_MN gk_P own r)
    (hdis : ∀ x ∈ ads2, ¬ x ∈ ads1) {d f : Nat} {kinds : List Nat} {envs : List tk_I} {ys : List tk_X} {mods : List (Nat × Nat)} (hK : tk_KS l D gk_cl gk_tbl gk_xw xt gk_MN gk_P TY1 lc_ro X1 ads1 tw1 d (f, (2, 0, 0, 0) :: lq_as 0 kinds, (envs, []), [0], [], ys, mods)) (hfr : d + 1 ≤ R.frames) (hlo : 40 * (d + 1) ≤ R.locals) {o1 : Nat × List tk_F} (hT0 : TY1.1[0]? = some (.inl o1)) (hmc : gk_mci[f]? = some o1.1) {ax : Nat} (hax : tk_ty ads1 tw1 0 ax)
    {pc idx n : Nat} (hlk : rk_lk lk idx = some (5, f, n)) (hn : kinds.length = n) (hke : kinds.length = envs.length) {av rest : List Value} (hav : rk_A2 lq_av (kinds.zip envs) av) (hsum : (rest.map fun v => v.category).sum ≤ 8)
    (hdg : decode cc pc = .ok (.invokevirtual idx, 3)) {H : Heap} {locs : List Loc} {ls : Array Slot} {nc ns : Nat} (hnc : nc ≤ R.cells) (hns : ns ≤ R.slots) {lc : List (Nat × Value)} (hl : lv_has ls nL lc) {ws1 ws2 : va_W} (h1 : lw_T TY1 X1 ads1 tw1 s D Ad H ws1) (h2 : lw_T TY2 X2 ads2 tw2 s D Ad H ws2) (hS : va_S Ad s.heap H locs)
    (kk : ∀ y ∈ ys, ∀ (vals' : List Int) (rads' : List Nat) (ws1' : va_W) (H' : Heap) (locs' : List Loc) (v : Option Value), tk_H y.2.1 vals' → lw_T TY1 X1 ads1 tw1 s D Ad H' ws1' → lw_T TY2 X2 ads2 tw2 s D Ad H' ws2 → va_S Ad s.heap H' locs' → tk_un TY1 mods tw1 ws1 ws1' → tk_ret y.1 vals' rads' (.returned v) → W p l e R s m args below meth c H' locs' nc ns Q (F0 m (pc + 3) ls (v.toList ++ rest))) : W p l e R s m args below meth c H locs nc ns Q (F0 m pc ls (av.reverse ++ .ref ax :: rest)) := by
  obtain ⟨hgw, hxo, -, -, hlenM, hmok, hmci⟩ := gk_rok
  obtain ⟨hts, hxw, hown, hK0, hA, hcl, hlkk, hini, hac, hcs⟩ := hF
  have hfix : CallFix p m c cc nL s args gk_tbl own := ⟨hx, hb, hml, hown, hts⟩
  obtain ⟨a1, a2, a3, a4, a5⟩ := id h1
  obtain ⟨b1, b2, b3, b4, b5⟩ := id h2
  obtain ⟨vals, hE, hG⟩ := lq_as_ok (rads := [ax]) (kinds.zip envs) av [] hav
  rw [List.map_snd_zip (by omega)] at hE
  rw [List.map_fst_zip (by omega)] at hG
  have hlen : av.length = n := by
    have := hav.len
    rw [List.length_zip] at this
    omega
  obtain ⟨j, e1, hw, hj, hc1⟩ := tk_cell a1 a2 hax
  unfold tk_cl at hc1
  rw [hT0] at hc1
  obtain ⟨vs, rfl, hvl, hvs⟩ := hc1
  have hck1 := hck _ (rk_lk_mem hlk)
  obtain ⟨q, hq, w1, w2, w3, w4⟩ := hck1
  obtain ⟨M, hM, hM21, hmet⟩ := hK q hq
  obtain ⟨m1, m2, m3, m4, m5, -⟩ := hmok f q M hq hM
  obtain ⟨kq, hkq, -⟩ := a3 j _ hw
  have hkn := hmci f o1.1 q kq hmc hq hkq
  have hrecv := va_recv hK0 a3 hkq hw
  rw [hkn] at hrecv
  have hs : tk_hs TY1 lc_ro X1 ads1 tw1 s D gk_cl Ad vals [ax] H locs [0] [] ws1 := ⟨⟨hax, trivial⟩, a1, a2, a3, a4, hS, fun q hq => absurd hq List.not_mem_nil⟩
  have hH : tk_H (envs, []) vals := ⟨hE, fun q hq => absurd hq List.not_mem_nil⟩
  have hr : va_Run p l e R s m args below meth c H locs nc ns 0 0 (F0 m pc ls (av.reverse ++ .ref ax :: rest)) rest (tk_Post D gk_cl TY1 lc_ro X1 ads1 tw1 (ys, mods) vals [ax] ws1 (va_A ws1 H.size) (Value.ref ax :: av).toArray) (va_A ws1 H.size) :=
    va_runV (C := q.1) hfix (hmet vals [ax] ws1 (.ref ax :: av) H.size hH ⟨hax, trivial⟩ ⟨⟨ax, rfl, rfl⟩, hG⟩ a1 (fun q hq => absurd hq List.not_mem_nil) (tk_ob_of a1 a2)) ⟨callB_of n hts (rk_good hgw m4) rfl rfl rfl (hts _ m5) (hts _ w1) ⟨m3.1, m3.2, w4⟩ ⟨hfr, by show 8 + (M.2.1 + 11) + 40 * d ≤ R.locals; omega⟩, hts _ w2, hts _ w3⟩ ⟨tk_blind hxo hxt, hrecv, fun U hU hW => tk_pre hxo hxw hxt hXt hA hK0 hs a5 U hU hW⟩ rfl hlen hl.1 rfl (lv_room hsum) hdg ⟨hnc, hns⟩
  have hsub : ∀ q, va_A ws1 H.size q → Ad q := by
    rintro q (⟨k, e1, hk⟩ | hq)
    · exact a4.2 k _ hk
    · exact hA q (Nat.le_trans hS.1 hq)
  intro T hT X
  obtain ⟨v, st₀, t, T', L, h0, X', hLf, e1', e2, ⟨⟨y, hym, vals', rads', ws1', c1, c2, c3, c4, c5, c6, c7, c8, c9, c10, c11⟩, hFr⟩, go⟩ := hr T hT X
  have hal : t.vm.Alike s.vm := by rw [← e2]; exact X'.warmed.alike.symm
  have hS1 : va_S Ad s.heap t.heap (locs ++ L) := by
    refine ⟨Nat.le_trans hS.1 (by rw [← h0]; exact hFr.1), fun q hq hn => ?_, fun z hz => ?_⟩
    · rw [hFr.2 q (by rw [h0]; exact Nat.lt_of_lt_of_le hq hS.1) (fun z => hn (hsub q z)), h0]
      exact hS.2.1 q hq hn
    · rcases List.mem_append.mp hz with z1 | z1
      · exact hS.2.2 z z1
      · exact hsub _ (hLf z z1)
  have hT1 : lw_T TY1 X1 ads1 tw1 s D Ad t.heap ws1' := ⟨c5, c6.mono (fun _ _ h => tk_cl_moved hal h), c7, c8.weaken (fun _ _ _ z => hsub _ z), c10.2⟩
  have hT2 : lw_T TY2 X2 ads2 tw2 s D Ad t.heap ws2 := ⟨b1, b2, fun i q hq => (b3 i q hq).kept (by
    rw [← h0]
    refine hFr.2 q.1 (by rw [h0]; exact (b3 i q hq).lt) ?_
    rintro (⟨k, e9, hk⟩ | hge)
    · exact hdis q.1 (by rw [← b1]; exact List.mem_map.mpr ⟨q, List.mem_of_getElem? hq, rfl⟩) (by rw [← a1]; exact List.mem_map.mpr ⟨_, List.mem_of_getElem? hk, rfl⟩)
    · have := (b3 i q hq).lt
      omega), b4, b5⟩
  obtain ⟨t2, d1, d2⟩ := kk y hym vals' rads' ws1' t.heap (locs ++ L) v c3 hT1 hT2 hS1 c10.1 c11 T' e1' X'
  exact ⟨t2, go t2 d1, d2⟩
end LWC
