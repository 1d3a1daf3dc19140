section RKL
variable {p : Program} {l : Launch} {e : Env} {R : Room} {s : State} {m : MethodId} {args : Array Value} {below : List Frame} {meth : Method} {c : Code} {Q : State → Prop} {cc : ByteArray} {D : va_G} {cl : List vw_C} {Ad : Nat → Prop} {nL : Nat} {vals0 : List Value} {ads0 : List Nat}
variable {xt : rk_XT} {tbl xw : List Jvm.Cond} {fty : rk_F} {cln : List String} {MN : List rk_N} {mci : List Nat} {P : List rk_M2} {own : String} {lk : List (Nat × Nat × Nat × Nat)} {cs : List (Nat × Value)}
/-- the calls are sound, d frames deep -/
def rk_SC (l : Launch) (D : va_G) (cl : List vw_C) (tbl xw : List Jvm.Cond) (xt : rk_XT) (MN : List rk_N) (P : List rk_M2) (d : Nat) (call : Nat → List rk_V → List rk_T → List rk_H → Option rk_O) : Prop :=
  ∀ (f : Nat) (as : List rk_V) (env : List rk_T) (hp : List rk_H) (o : rk_O), call f as env hp = some o → ∀ (q : rk_N), MN[f]? = some q → ∃ M, P[f]? = some M ∧ M.2.1 ≤ 21 ∧ ∀ (vals : List Value) (ws : va_W) (av : List Value) (sz : Nat), rk_E env vals → rk_A2 (rk_g vals (ws.map Prod.fst)) as av →
    Met l q.2.1 (Jvm.Cond.code q.2.1 q.2.2 M.2.1 M.2.2.2.2.1 :: tbl) { frames := d, cells := o.1, slots := o.2.1, locals := 40 * d } (rk_Pre D cl xw xt vals ws hp sz av) (rk_Post D cl o.2.2 vals (ws.map Prod.fst) (va_A ws sz)) o.1 o.2.1 (va_A ws sz)
theorem rk_good {y : MethodName} {b : ByteArray} {n : Nat} {ret : Option FieldType} (hg : ∀ w ∈ tbl, goodWord w = true) (hc : Jvm.Cond.code y b n ret ∈ tbl) : GoodIn tbl (Jvm.Cond.code y b n ret :: tbl) := by
  intro w hw
  rcases List.mem_cons.mp hw with rfl | hw
  · exact ⟨hc, good_of_word (hg _ hc)⟩
  · exact ⟨hw, good_of_word (hg _ hw)⟩
theorem rk_pre {vals : List Value} {ws : va_W} {H : Heap} {locs : List Loc} {env : List rk_T} {hp : List rk_H} {av : List Value} (hxo : rk_xok xw) (hxw : ∀ w ∈ xw, va_Nw w s) (hxt : rk_xtok xt) (hXt : xt vals0 Ad s s.heap) (hA : ∀ q, s.heap.size ≤ q → Ad q) (hK : va_K D cl [] s) (hG : rk_G s D cl Ad vals0 ads0 vals ws H locs env hp) (U : State) (hU : U.heap = H) (hW : s.WarmedH U.vm) : rk_Pre D cl xw xt vals ws hp H.size av av.toArray U :=
  ⟨rfl, by rw [hU], by rw [hU]; exact hG.2.2.1, va_K.moved hW.alike hK, hG.2.2.2.1.weaken (fun _ _ _ _ => trivial), hG.2.1.mono (fun _ _ h => h.moved hW.alike), rk_xw_warm hxo hW hxw, by
    obtain ⟨x1, x2, x3, x4⟩ := hxt
    obtain ⟨k, hk⟩ := hG.2.2.2.2.2.1
    rw [hU, hk]
    refine x3 _ _ _ _ _ hW (x1 _ _ _ _ _ (x4 _ _ _ _ _ _ hXt (fun a ha hn => hG.2.2.2.2.1.2.1 a ha hn) ?_))
    rintro q (⟨k, e1, hk⟩ | hq)
    · exact hG.2.2.2.1.2 k _ hk
    · exact hA q (Nat.le_trans hG.2.2.2.2.1.1 hq)⟩
theorem rk_after_ne {o : rk_O} {pc : Nat} {lo : List (Nat × rk_V)} {r : List rk_V} {nc ns : Nat} {res : List (Nat × rk_S)} (h : rk_after (some o) pc lo r nc ns = some res) : ∃ q ∈ res, q.2.2.2.2.2.1 = nc + o.1 ∧ q.2.2.2.2.2.2 = ns + o.2.1 := by
  unfold rk_after at h
  dsimp only at h
  split at h
  · cases h
  · next hne =>
    cases h
    cases hl : o.2.2 with
    | nil => rw [hl] at hne; exact absurd rfl hne
    | cons x r => exact ⟨_, List.mem_cons_self, rfl, rfl⟩
set_option maxHeartbeats 4000000 in
theorem rk_call_ok (hxt : rk_xtok xt) (hXt : xt vals0 Ad s s.heap) (hok : rk_ok tbl xw cl fty cln MN mci P) (hx : p.tables.exec = Jvm.exec) (hb : c.code = cc) (hml : c.maxLocals = nL) (hF : rk_Fr s m args meth D cl Ad tbl xw fty cln own lk cs) (hck : ∀ r ∈ lk, rk_cok tbl xw MN P own r) {d : Nat} {call : Nat → List rk_V → List rk_T → List rk_H → Option rk_O} (hcall : rk_SC l D cl tbl xw xt MN P d call) (hfr : d + 1 ≤ R.frames) (hlo : 40 * (d + 1) ≤ R.locals) {pc : Nat} {ins : Instr} {len : Nat} {st : rk_S} {res : List (Nat × rk_S)} (hdg : decode cc pc = .ok (ins, len)) (hlen : rk_len ins len = true) (h : rk_call mci call lk pc ins st = some res) (hroom : ∀ q ∈ res, q.2.2.2.2.2.1 ≤ R.cells ∧ q.2.2.2.2.2.2 ≤ R.slots) (kk : ∀ q ∈ res, rk_W (rk_KW p l e R s m args below meth c Q) s D cl Ad nL vals0 ads0 q.1 q.2) : rk_W (rk_KW p l e R s m args below meth c Q) s D cl Ad nL vals0 ads0 pc st := by
  obtain ⟨hgw, hxo, -, -, hlenM, hmok, hmci⟩ := hok
  obtain ⟨hts, hxw, hown, hK, hA, hcl, hlk, hini, hac, hcs⟩ := hF
  obtain ⟨lo, sk, env, hp, nc, ns⟩ := st
  intro vals ws H locs ls stk lc hG hl hL hS
  dsimp only at hG hL hS ⊢
  have hfix : CallFix p m c cc nL s args tbl own := ⟨hx, hb, hml, hown, hts⟩
  cases ins
  case invokevirtual idx =>
    simp [rk_len] at hlen; subst hlen
    simp only [rk_call] at h
    split at h
    · next kd f n hlk1 =>
      split at h
      · next hkd =>
        split at h
        · next as j r hpop =>
          split at h
          · next o1 hj =>
            split at h
            · next hcnd =>
              cases hcl1 : call f (.inr (.inl j) :: as) env hp with
              | none => rw [hcl1] at h; cases h
              | some o =>
                rw [hcl1] at h
                obtain ⟨v2, r2, ha1, hr1, rfl, hn⟩ := rk_pop_ok n hpop (show rk_A2 (rk_g vals (ws.map Prod.fst)) [] [] from trivial) hS
                rw [List.append_nil] at ha1
                obtain ⟨vr, rest, rfl, hgr, hS1⟩ := hr1.cons
                obtain ⟨x, hjx, rfl⟩ := id hgr
                obtain ⟨e1, hw, vs, rfl, hvs⟩ := hG.cell hj hjx
                have hck1 := hck _ (rk_lk_mem hlk1)
                obtain ⟨qr, hqr, hr1, hr2⟩ := rk_after_ne h
                have hrm := hroom qr hqr
                rw [hr1, hr2] at hrm
                have hsum := hcnd.2
                rw [rk_sum_ok hG.1 hS1] at hsum
                rcases hkd with rfl | rfl
                · obtain ⟨q, hq, w1, w2, w3, w4⟩ := hck1
                  obtain ⟨M, hM, hM21, hmet⟩ := hcall f _ _ _ _ hcl1 q hq
                  obtain ⟨m1, m2, m3, m4, m5, -⟩ := hmok f q M hq hM
                  obtain ⟨kq, hkq, -⟩ := hG.2.2.1 j _ hw
                  have hkn := hmci f o1.1 q kq hcnd.1 hq hkq
                  have hrecv := va_recv hK hG.2.2.1 hkq hw
                  rw [hkn] at hrecv
                  refine rk_back (as := (Value.ref x :: v2).toArray) hA hG hl hL hS1 ?_ h kk
                  exact va_runV (C := q.1) hfix (hmet vals ws (.ref x :: v2) H.size hG.1 ⟨hgr, ha1⟩) ⟨callB_of n hts (rk_good hgw m4) rfl rfl rfl (hts _ m5) (hts _ w1) ⟨m3.1, m3.2, w4⟩ ⟨hfr, by show 8 + (M.2.1 + 11) + 40 * d ≤ R.locals; omega⟩, hts _ w2, hts _ w3⟩ ⟨rk_blind hxo hxt, hrecv, fun U hU hW => rk_pre hxo hxw hxt hXt hA hK hG U hU hW⟩ rfl hn hl.1 rfl (lv_room hsum) hdg hrm
                · obtain ⟨q, host, hq, w1, w2, w3, w4⟩ := hck1
                  obtain ⟨M, hM, hM21, hmet⟩ := hcall f _ _ _ _ hcl1 q hq
                  obtain ⟨m1, m2, m3, m4, m5, -⟩ := hmok f q M hq hM
                  obtain ⟨kq, hkq, -⟩ := hG.2.2.1 j _ hw
                  have hkn := hmci f o1.1 q kq hcnd.1 hq hkq
                  have hrecv := va_recv hK hG.2.2.1 hkq hw
                  rw [hkn] at hrecv
                  refine rk_back (as := (Value.ref x :: v2).toArray) hA hG hl hL hS1 ?_ h kk
                  exact va_runVN (C := q.1) hfix (hmet vals ws (.ref x :: v2) H.size hG.1 ⟨hgr, ha1⟩) ⟨va_cnB n hts (rk_good hgw m4) rfl rfl rfl (hxw _ w1) (hts _ m5) ⟨m3.1, m3.2, w4⟩ ⟨hfr, by show 8 + (M.2.1 + 11) + 40 * d ≤ R.locals; omega⟩, hts _ w2, hts _ w3⟩ ⟨rk_blind hxo hxt, hrecv, fun U hU hW => rk_pre hxo hxw hxt hXt hA hK hG U hU hW⟩ rfl hn hl.1 rfl (lv_room hsum) hdg hrm
            · cases h
          · cases h
        · cases h
      · cases h
    · cases h
  case invokestatic idx =>
    simp [rk_len] at hlen; subst hlen
    simp only [rk_call] at h
    split at h
    · next kd f n hlk1 =>
      split at h
      · next hkd =>
        split at h
        · next as r hpop =>
          split at h
          · next hcnd =>
            cases hcl1 : call f as env hp with
            | none => rw [hcl1] at h; cases h
            | some o =>
              rw [hcl1] at h
              obtain ⟨v2, rest, ha1, hS1, rfl, hn⟩ := rk_pop_ok n hpop (show rk_A2 (rk_g vals (ws.map Prod.fst)) [] [] from trivial) hS
              rw [List.append_nil] at ha1
              have hck1 := hck _ (rk_lk_mem hlk1)
              obtain ⟨qr, hqr, hr1, hr2⟩ := rk_after_ne h
              have hrm := hroom qr hqr
              rw [hr1, hr2] at hrm
              have hsum := hcnd
              rw [rk_sum_ok hG.1 hS1] at hsum
              rcases hkd with rfl | rfl
              · obtain ⟨q, hq, w1, w2, w4⟩ := hck1
                obtain ⟨M, hM, hM21, hmet⟩ := hcall f _ _ _ _ hcl1 q hq
                obtain ⟨m1, m2, m3, m4, m5, -⟩ := hmok f q M hq hM
                refine rk_back (as := v2.toArray) hA hG hl hL hS1 ?_ h kk
                exact va_runS hfix (hmet vals ws v2 H.size hG.1 ha1) ⟨callB_of n hts (rk_good hgw m4) rfl rfl rfl (hts _ m5) (hts _ w1) ⟨m3.1, m3.2, w4⟩ ⟨hfr, by show 8 + (M.2.1 + 11) + 40 * d ≤ R.locals; omega⟩, hts _ w2⟩ ⟨rk_blind hxo hxt, fun U hU hW => rk_pre hxo hxw hxt hXt hA hK hG U hU hW⟩ rfl hn hl.1 rfl (lv_room hsum) hdg hrm
              · obtain ⟨q, host, hq, w1, w2, w4⟩ := hck1
                obtain ⟨M, hM, hM21, hmet⟩ := hcall f _ _ _ _ hcl1 q hq
                obtain ⟨m1, m2, m3, m4, m5, -⟩ := hmok f q M hq hM
                refine rk_back (as := v2.toArray) hA hG hl hL hS1 ?_ h kk
                exact va_runSN hfix (hmet vals ws v2 H.size hG.1 ha1) ⟨va_cnB n hts (rk_good hgw m4) rfl rfl rfl (hxw _ w1) (hts _ m5) ⟨m3.1, m3.2, w4⟩ ⟨hfr, by show 8 + (M.2.1 + 11) + 40 * d ≤ R.locals; omega⟩, hts _ w2, trivial⟩ ⟨rk_blind hxo hxt, fun U hU hW => rk_pre hxo hxw hxt hXt hA hK hG U hU hW⟩ rfl hn hl.1 rfl (lv_room hsum) hdg hrm
          · cases h
        · cases h
      · cases h
    · cases h
  case invokespecial idx =>
    simp [rk_len] at hlen; subst hlen
    simp only [rk_call] at h
    split at h
    · next kd f n hlk1 =>
      split at h
      · next hkd =>
        split at h
        · next as j r hpop =>
          split at h
          · next hcnd =>
            cases hcl1 : call f (.inr (.inl j) :: as) env hp with
            | none => rw [hcl1] at h; cases h
            | some o =>
              rw [hcl1] at h
              obtain ⟨v2, r2, ha1, hr1, rfl, hn⟩ := rk_pop_ok n hpop (show rk_A2 (rk_g vals (ws.map Prod.fst)) [] [] from trivial) hS
              rw [List.append_nil] at ha1
              obtain ⟨vr, rest, rfl, hgr, hS1⟩ := hr1.cons
              obtain ⟨x, hjx, rfl⟩ := id hgr
              have hck1 := hck _ (rk_lk_mem hlk1)
              obtain ⟨qr, hqr, hr1, hr2⟩ := rk_after_ne h
              have hrm := hroom qr hqr
              rw [hr1, hr2] at hrm
              have hsum := hcnd
              rw [rk_sum_ok hG.1 hS1] at hsum
              rcases hkd with rfl | rfl
              · obtain ⟨q, hq, w0, w1, w2, w3, w4⟩ := hck1
                obtain ⟨M, hM, hM21, hmet⟩ := hcall f _ _ _ _ hcl1 q hq
                obtain ⟨m1, m2, m3, m4, m5, -⟩ := hmok f q M hq hM
                refine rk_back (as := (Value.ref x :: v2).toArray) hA hG hl hL hS1 ?_ h kk
                have hret : M.2.2.2.2.1 = none := w0 M hM
                rw [hret] at hmet m4
                exact va_runI hfix (hmet vals ws (.ref x :: v2) H.size hG.1 ⟨hgr, ha1⟩) ⟨callB_of n hts (rk_good hgw m4) rfl rfl rfl (hts _ m5) (hts _ w1) ⟨m3.1, m3.2, w4⟩ ⟨hfr, by show 8 + (M.2.1 + 11) + 40 * d ≤ R.locals; omega⟩, w3, hts _ w2⟩ ⟨rk_blind hxo hxt, fun U hU hW => rk_pre hxo hxw hxt hXt hA hK hG U hU hW⟩ rfl hn hl.1 rfl (lv_room hsum) hdg hrm
              · obtain ⟨q, host, hq, w0, w1, w2, w3, w4⟩ := hck1
                obtain ⟨M, hM, hM21, hmet⟩ := hcall f _ _ _ _ hcl1 q hq
                obtain ⟨m1, m2, m3, m4, m5, -⟩ := hmok f q M hq hM
                refine rk_back (as := (Value.ref x :: v2).toArray) hA hG hl hL hS1 ?_ h kk
                have hret : M.2.2.2.2.1 = none := w0 M hM
                rw [hret] at hmet m4
                exact va_runIN hfix (hmet vals ws (.ref x :: v2) H.size hG.1 ⟨hgr, ha1⟩) ⟨va_cnB n hts (rk_good hgw m4) rfl rfl rfl (hxw _ w1) (hts _ m5) ⟨m3.1, m3.2, w4⟩ ⟨hfr, by show 8 + (M.2.1 + 11) + 40 * d ≤ R.locals; omega⟩, w3, hts _ w2⟩ ⟨rk_blind hxo hxt, fun U hU hW => rk_pre hxo hxw hxt hXt hA hK hG U hU hW⟩ rfl hn hl.1 rfl (lv_room hsum) hdg hrm
          · cases h
        · cases h
      · split at h
        · next hkd =>
          subst hkd
          split at h
          · next j r =>
            split at h
            · next hcnd =>
              cases h
              obtain ⟨va, k1, rfl, ⟨x, hjx, rfl⟩, hSn⟩ := hS.cons; clear hS; have hS := hSn; clear hSn
              obtain ⟨w1, w2, w3⟩ := hck _ (rk_lk_mem hlk1)
              have hsum := hcnd
              rw [rk_sum_ok hG.1 hS] at hsum
              have hlr := lv_room (m := m) (pc := pc) (ls := ls) (rest := .ref x :: k1) hsum
              refine W.objInit hx hb hown (hts _ w1) (hts _ w2) (hts _ w3) rfl (by rw [hml]; exact hl.1) rfl hdg (by omega) (by omega) ?_
              exact kk _ (List.mem_singleton.mpr rfl) vals ws H locs ls _ lc hG hl hL hS
            · cases h
          · cases h
        · cases h
    · cases h
  all_goals (simp [rk_call] at h)
end RKL
