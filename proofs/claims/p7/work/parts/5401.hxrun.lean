/-! ===== hx: calls, runs, and what they say of the machine ===== -/
def hx_cv (mci : List Nat) (call : fx_Ca) (pc f n : Nat) (lc : fx_L) (stk : List Value) (mem : fx_M) : fx_R4 := match fx_pops n [] stk with
  | some (as, .ref j :: r) => (match mem[j]? with
    | some (.inl o) => cond (Nat.ble (fx_sum r) 8 && decide (mci[f]? = some o.1)) (fx_aft pc lc r (call f (.ref j :: as) mem)) none
    | _ => none)
  | _ => none
def hx_step (call : fx_Ca) (fty : rk_F) (mci : List Nat) (M : rk_M2) (pc : Nat) (ins : Instr) (lc : fx_L) (stk : List Value) (mem : fx_M) : fx_R4 := match ins with
  | .invokevirtual idx => (match rk_lk M.2.2.1 idx with
    | some q => cond (Nat.beq q.1 5 || Nat.beq q.1 6) (hx_cv mci call (pc + 3) q.2.1 q.2.2 lc stk mem) none
    | none => none)
  | .invokestatic idx => (match rk_lk M.2.2.1 idx with
    | some q => cond (Nat.beq q.1 7 || Nat.beq q.1 8) (fx_cs call (pc + 3) q.2.1 q.2.2 lc stk mem) (cond (Nat.beq q.1 12) (hx_cp (pc + 3) lc stk mem) (fx_mem fty M pc (.invokestatic idx) lc stk mem))
    | none => none)
  | .aaload => hx_aa (pc + 1) lc stk mem
  | .arraylength => hx_al (pc + 1) lc stk mem
  | ins => fx_mem fty M pc ins lc stk mem
def hx_run (call : fx_Ca) (fty : rk_F) (mci : List Nat) (M : rk_M2) : Nat → Nat → fx_L → List Value → fx_M → Option (Option Value × fx_M)
  | 0, _, _, _, _ => none
  | n + 1, pc, lc, stk, mem => match tk_at M.1 pc with
    | none => none
    | some q => cond (rk_len q.2.1 q.2.2) (match fx_end M.2.2.2.2.1 q.2.1 stk with
      | some (some v) => some (v, mem)
      | some none => none
      | none => (match hx_step call fty mci M pc q.2.1 lc stk mem with
        | some z => hx_run call fty mci M n z.1 z.2.1 z.2.2.1 z.2.2.2
        | none => none)) none
def hx_call (fty : rk_F) (mci : List Nat) (P : List rk_M2) (N : Nat) : Nat → fx_Ca
  | 0 => fun _ _ _ => none
  | d + 1 => fun f as mem => match P[f]? with
    | none => none
    | some M => cond (Nat.ble M.2.1 21 && Nat.ble (fx_sum as) M.2.1) (hx_run (hx_call fty mci P N d) fty mci M N 0 (lv_args 0 as) [] mem) none
section HFXR
variable {l : Launch} {D : va_G} {xt : tk_XT}
def hx_Pre (D : va_G) (xt : tk_XT) (ps : fx_P) (mem : fx_M) (sz : Nat) (as : List Value) : Array Value → State → Prop := fun v U => v = (as.map (fx_v ps)).toArray ∧ U.heap.size = sz ∧ va_P D gk_cl (fx_w ps mem) U.heap ∧ va_K D gk_cl [] U ∧ va_D (fun _ => True) (fx_w ps mem) ∧ hx_ok U ps mem ∧ (∀ w ∈ gk_xw, va_Nw w U) ∧ xt (va_A (fx_w ps mem) sz) U U.heap
def hx_Post (D : va_G) (ps : fx_P) (mem : fx_M) (r : Option Value) (Ad : Nat → Prop) : Array Value → State → Outcome → State → Prop := fun _ st oc t => (oc = .returned (r.map (fx_v ps)) ∧ hx_ok t ps mem ∧ va_P D gk_cl (fx_w ps mem) t.heap ∧ va_D Ad (fx_w ps mem)) ∧ va_F Ad st t
theorem hx_ok_moved {u U : State} (hvm : u.vm.Alike U.vm) {ps : fx_P} {mem : fx_M} (h : hx_ok u ps mem) : hx_ok U ps mem := ⟨h.1, fun j q ty z h1 h2 => by
  obtain ⟨g1, g2⟩ := h.2 j q ty z h1 h2
  exact ⟨arrOfT_moved hvm g1, g2.moved hvm⟩⟩
theorem hx_blind {xt : tk_XT} {D : va_G} (hxt : tk_xtok xt) {ps : fx_P} {mem : fx_M} {sz : Nat} {as : List Value} (hxo : rk_xok gk_xw) : FrameBlind (hx_Pre D xt ps mem sz as) := by
  intro a U g mk q
  obtain ⟨h1, h2, h3, h4, h5, h6, h7, h8⟩ := q
  exact ⟨h1, h2, h3, va_K.moved (u := U) (U := U.calling g mk a) (Vm.Alike.refl U.vm) h4, h5, hx_ok_moved (u := U) (U := U.calling g mk a) (Vm.Alike.refl U.vm) h6, rk_xw_same hxo (s := U) (U := U.calling g mk a) rfl h7, hxt.1 _ U (U.calling g mk a) _ rfl h8⟩
def hx_SC (l : Launch) (D : va_G) (xt : tk_XT) (d : Nat) (call : fx_Ca) : Prop := ∀ (f : Nat) (as : List Value) (mem mem' : fx_M) (r : Option Value), call f as mem = some (r, mem') → ∀ q : rk_N, gk_MN[f]? = some q → ∃ M, gk_P[f]? = some M ∧ M.2.1 ≤ 21 ∧ ∀ (ps : fx_P) (sz : Nat), Met l q.2.1 (Jvm.Cond.code q.2.1 q.2.2 M.2.1 M.2.2.2.2.1 :: gk_tbl) { frames := d + 4, cells := 0, slots := 0, locals := 40 * (d + 4) } (hx_Pre D xt ps mem sz as) (hx_Post D ps mem' r (va_A (fx_w ps mem) sz)) 0 0 (va_A (fx_w ps mem) sz)
end HFXR
section HFXB
variable {p : Program} {l : Launch} {e : Env} {R : Room} {s : State} {m : MethodId} {args : Array Value} {below : List Frame} {meth : Method} {c : Code} {Q : State → Prop} {cc : ByteArray} {D : va_G} {Ad : Nat → Prop} {xt : tk_XT} {own : String}
theorem hx_back {ps : fx_P} {mem mem' : fx_M} {r : Option Value} {H : Heap} {locs : List Loc} {ls : Array Slot} {st0 rest : List Value} {pc : Nat} {as : Array Value} (hA : ∀ q, s.heap.size ≤ q → Ad q) (hD : va_D Ad (fx_w ps mem)) (hS : va_S Ad s.heap H locs)
    (hr : va_Run p l e R s m args below meth c H locs 0 0 0 0 (F0 m pc ls st0) rest (hx_Post D ps mem' r (va_A (fx_w ps mem) H.size) as) (va_A (fx_w ps mem) H.size))
    (kk : ∀ (H' : Heap) (locs' : List Loc), hx_ok s ps mem' → va_P D gk_cl (fx_w ps mem') H' → va_D Ad (fx_w ps mem') → va_S Ad s.heap H' locs' → rk_KW p l e R s m args below meth c Q (pc + 3) ls ((r.map (fx_v ps)).toList ++ rest) H' locs' 0 0) : rk_KW p l e R s m args below meth c Q pc ls st0 H locs 0 0 := by
  have hsub : ∀ q, va_A (fx_w ps mem) H.size q → Ad q := by
    rintro q (⟨k, e1, hk⟩ | hq)
    · exact hD.2 k _ hk
    · exact hA q (Nat.le_trans hS.1 hq)
  intro T hT X
  obtain ⟨v, st₀, t, T', L, h0, X', hLf, e1, e2, ⟨⟨b1, b2, b3, b4⟩, hF⟩, go⟩ := hr T hT X
  have hal : t.vm.Alike s.vm := by rw [← e2]; exact X'.warmed.alike.symm
  have hS1 : va_S Ad s.heap t.heap (locs ++ L) := by
    refine ⟨Nat.le_trans hS.1 (by rw [← h0]; exact hF.1), fun q hq hn => ?_, fun z hz => ?_⟩
    · rw [hF.2 q (by rw [h0]; exact Nat.lt_of_lt_of_le hq hS.1) (fun z => hn (hsub q z)), h0]
      exact hS.2.1 q hq hn
    · rcases List.mem_append.mp hz with z1 | z1
      · exact hS.2.2 z z1
      · exact hsub _ (hLf z z1)
  have hv : v = r.map (fx_v ps) := Outcome.returned.inj b1
  subst hv
  obtain ⟨t2, c1, c2⟩ := kk t.heap (locs ++ L) (hx_ok_moved hal b2) b3 (b4.weaken (fun _ _ _ z => hsub _ z)) hS1 T' e1 X'
  exact ⟨t2, go t2 c1, c2⟩
theorem hx_pre (hxt : tk_xtok xt) {ps : fx_P} {mem : fx_M} {H : Heap} {locs : List Loc} {as : List Value} (hXt : xt Ad s s.heap) (hA : ∀ q, s.heap.size ≤ q → Ad q) (hS : va_S Ad s.heap H locs) (hxo : rk_xok gk_xw) (hxw : ∀ w ∈ gk_xw, va_Nw w s) (hK : va_K D gk_cl [] s) (hO : hx_ok s ps mem) (hP : va_P D gk_cl (fx_w ps mem) H) (hD : va_D Ad (fx_w ps mem)) (U : State) (hU : U.heap = H) (hW : s.WarmedH U.vm) : hx_Pre D xt ps mem H.size as (as.map (fx_v ps)).toArray U :=
  ⟨rfl, by rw [hU], by rw [hU]; exact hP, va_K.moved hW.alike hK, hD.weaken (fun _ _ _ _ => trivial), hx_ok_moved hW.alike hO, rk_xw_warm hxo hW hxw, by
    rw [hU]
    refine hxt.2.1 _ _ _ _ hW (hxt.2.2 _ _ _ _ _ hXt (fun a ha hn => hS.2.1 a ha hn) ?_)
    rintro q (⟨k, e1, hk⟩ | hq)
    · exact hD.2 k _ hk
    · exact hA q (Nat.le_trans hS.1 hq)⟩
set_option maxHeartbeats 8000000 in
theorem hx_step_ok (hxt : tk_xtok xt) {M : rk_M2} (hkk : ∀ r ∈ M.2.2.1, rk_kok gk_tbl own r) {ps : fx_P} (hXt : xt Ad s s.heap) (hok : rk_ok gk_tbl gk_xw gk_cl gk_fty gk_cln gk_MN gk_mci gk_P) (hx : p.tables.exec = Jvm.exec) (hb : c.code = cc) (hml : c.maxLocals = M.2.1) (hF : rk_Fr s m args meth D gk_cl Ad gk_tbl gk_xw gk_fty gk_cln own M.2.2.1 M.2.2.2.1) (hck : ∀ r ∈ M.2.2.1, rk_cok gk_tbl gk_xw gk_MN gk_P own r) {d : Nat} {call : fx_Ca} (hcall : hx_SC l D xt d call) (hfr : d + 5 ≤ R.frames) (hlo : 40 * (d + 5) ≤ R.locals) {pc : Nat} {ins : Instr} {len : Nat} (hdg : decode cc pc = .ok (ins, len)) (hlen : rk_len ins len = true) {lc : fx_L} {stk : List Value} {mem : fx_M} {zz : Nat × fx_L × List Value × fx_M} (h : hx_step call gk_fty gk_mci M pc ins lc stk mem = some zz) (hO : hx_ok s ps mem) {H : Heap} {locs : List Loc} {ls : Array Slot} (hP : va_P D gk_cl (fx_w ps mem) H) (hD : va_D Ad (fx_w ps mem)) (hS : va_S Ad s.heap H locs) (hl : lv_has ls M.2.1 (fx_lm ps lc)) (kk : ∀ (H' : Heap) (locs' : List Loc) (ls' : Array Slot), hx_ok s ps zz.2.2.2 → va_P D gk_cl (fx_w ps zz.2.2.2) H' → va_D Ad (fx_w ps zz.2.2.2) → va_S Ad s.heap H' locs' → lv_has ls' M.2.1 (fx_lm ps zz.2.1) → rk_KW p l e R s m args below meth c Q zz.1 ls' (zz.2.2.1.map (fx_v ps)) H' locs' 0 0) : rk_KW p l e R s m args below meth c Q pc ls (stk.map (fx_v ps)) H locs 0 0 := by
  have hbase : fx_mem gk_fty M pc ins lc stk mem = some zz → rk_KW p l e R s m args below meth c Q pc ls (stk.map (fx_v ps)) H locs 0 0 := fun h2 => hx_mem_ok hx hb hml hF (by omega) (by omega) hdg hlen h2 hO hP hD hS hl kk
  obtain ⟨hgw, hxo, -, -, hlenM, hmok, hmci⟩ := hok
  have hF0 := hF
  obtain ⟨hts, hxw, hown, hK, hA, hcl, hlk, hini, hac, hcs⟩ := hF0
  have hfix : CallFix p m c cc M.2.1 s args gk_tbl own := ⟨hx, hb, hml, hown, hts⟩
  cases ins
  case invokevirtual idx =>
    simp [rk_len] at hlen; subst hlen
    change (match rk_lk M.2.2.1 idx with
      | some q => cond (Nat.beq q.1 5 || Nat.beq q.1 6) (hx_cv gk_mci call (pc + 3) q.2.1 q.2.2 lc stk mem) none
      | none => none) = some zz at h
    split at h
    · next q9 hlk1 =>
      obtain ⟨kd, f, n⟩ := q9
      cases hkd : (Nat.beq kd 5 || Nat.beq kd 6) with
      | false => rw [hkd] at h; exact fx_nos h
      | true =>
        rw [hkd] at h
        change hx_cv gk_mci call (pc + 3) f n lc stk mem = some zz at h
        have hkd2 : kd = 5 ∨ kd = 6 := by
          rw [Bool.or_eq_true] at hkd
          exact hkd.imp Nat.eq_of_beq_eq_true Nat.eq_of_beq_eq_true
        unfold hx_cv at h
        split at h
        · next as j r hpop =>
          split at h
          · next o hj =>
            cases hcn : (Nat.ble (fx_sum r) 8 && decide (gk_mci[f]? = some o.1)) with
            | false => rw [hcn] at h; exact fx_nos h
            | true =>
              rw [hcn] at h
              change fx_aft (pc + 3) lc r (call f (.ref j :: as) mem) = some zz at h
              rw [Bool.and_eq_true] at hcn
              have hsum := Nat.le_of_ble_eq_true hcn.1
              have hci := of_decide_eq_true hcn.2
              unfold fx_aft at h
              split at h
              · next x hcl1 =>
                obtain ⟨r9, mem9⟩ := x
                obtain rfl := Option.some.inj h
                obtain ⟨v2, rfl, rfl, hn⟩ := fx_pops_ok n hpop
                rw [List.append_nil] at hcl1
                obtain ⟨q, h1, h2, h3⟩ := hx_w_get hO hj
                obtain ⟨ci, vs⟩ := o
                have hw : (fx_w ps mem)[j]? = some (fx_ad ps j, .inr (ci, vs.map (fx_v ps))) := by rw [h2]; exact h3
                have hck1 := hck _ (rk_lk_mem hlk1)
                rw [← fx_sum_lm ps] at hsum
                have hstk : ((v2.reverse ++ .ref j :: r).map (fx_v ps)) = (v2.map (fx_v ps)).reverse ++ (.ref (fx_ad ps j) :: r.map (fx_v ps)) := by
                  rw [List.map_append, List.map_reverse]
                  rfl
                rw [hstk]
                have kk2 : ∀ (H' : Heap) (locs' : List Loc), hx_ok s ps mem9 → va_P D gk_cl (fx_w ps mem9) H' → va_D Ad (fx_w ps mem9) → va_S Ad s.heap H' locs' → rk_KW p l e R s m args below meth c Q (pc + 3) ls ((r9.map (fx_v ps)).toList ++ r.map (fx_v ps)) H' locs' 0 0 := fun H' locs' g1 g2 g3 g4 => by
                  have := kk H' locs' ls g1 g2 g3 g4 hl
                  cases r9 with
                  | none => exact this
                  | some v9 => exact this
                rcases hkd2 with rfl | rfl
                · obtain ⟨q, hq, w1, w2, w3, w4⟩ := hck1
                  obtain ⟨M', hM, hM21, hmet⟩ := hcall f _ _ _ _ hcl1 q hq
                  obtain ⟨m1, m2, m3, m4, m5, -⟩ := hmok f q M' hq hM
                  obtain ⟨kq, hkq, -⟩ := hP j _ hw
                  have hkn := hmci f ci q kq hci hq hkq
                  have hrecv := va_recv hK hP hkq hw
                  rw [hkn] at hrecv
                  refine hx_back (as := ((Value.ref j :: v2).map (fx_v ps)).toArray) hA hD hS ?_ kk2
                  exact va_runV (C := q.1) (As := v2.map (fx_v ps)) hfix (hmet ps H.size) ⟨callB_of n hts (rk_good hgw m4) rfl rfl rfl (hts _ m5) (hts _ w1) ⟨m3.1, m3.2, w4⟩ ⟨hfr, by show 8 + (M'.2.1 + 11) + 40 * (d + 4) ≤ R.locals; omega⟩, hts _ w2, hts _ w3⟩ ⟨hx_blind hxt hxo, hrecv, fun U hU hW => hx_pre hxt hXt hA hS hxo hxw hK hO hP hD U hU hW⟩ rfl (by rw [List.length_map]; exact hn) hl.1 rfl (lv_room hsum) hdg ⟨Nat.zero_le _, Nat.zero_le _⟩
                · obtain ⟨q, host, hq, w1, w2, w3, w4⟩ := hck1
                  obtain ⟨M', hM, hM21, hmet⟩ := hcall f _ _ _ _ hcl1 q hq
                  obtain ⟨m1, m2, m3, m4, m5, -⟩ := hmok f q M' hq hM
                  obtain ⟨kq, hkq, -⟩ := hP j _ hw
                  have hkn := hmci f ci q kq hci hq hkq
                  have hrecv := va_recv hK hP hkq hw
                  rw [hkn] at hrecv
                  refine hx_back (as := ((Value.ref j :: v2).map (fx_v ps)).toArray) hA hD hS ?_ kk2
                  exact va_runVN (C := q.1) (As := v2.map (fx_v ps)) hfix (hmet ps H.size) ⟨va_cnB n hts (rk_good hgw m4) rfl rfl rfl (hxw _ w1) (hts _ m5) ⟨m3.1, m3.2, w4⟩ ⟨hfr, by show 8 + (M'.2.1 + 11) + 40 * (d + 4) ≤ R.locals; omega⟩, hts _ w2, hts _ w3⟩ ⟨hx_blind hxt hxo, hrecv, fun U hU hW => hx_pre hxt hXt hA hS hxo hxw hK hO hP hD U hU hW⟩ rfl (by rw [List.length_map]; exact hn) hl.1 rfl (lv_room hsum) hdg ⟨Nat.zero_le _, Nat.zero_le _⟩
              · exact fx_nos h
          · exact fx_nos h
        · exact fx_nos h
    · exact fx_nos h
  case invokestatic idx =>
    change (match rk_lk M.2.2.1 idx with
      | some q => cond (Nat.beq q.1 7 || Nat.beq q.1 8) (fx_cs call (pc + 3) q.2.1 q.2.2 lc stk mem) (cond (Nat.beq q.1 12) (hx_cp (pc + 3) lc stk mem) (fx_mem gk_fty M pc (.invokestatic idx) lc stk mem))
      | none => none) = some zz at h
    split at h
    · next q9 hlk1 =>
      obtain ⟨kd, f, n⟩ := q9
      cases hkd : (Nat.beq kd 7 || Nat.beq kd 8) with
      | false =>
        rw [hkd] at h
        cases h12 : Nat.beq kd 12 with
        | false =>
          dsimp only [cond] at h
          rw [h12] at h
          exact hbase h
        | true =>
          dsimp only [cond] at h
          rw [h12] at h
          change hx_cp (pc + 3) lc stk mem = some zz at h
          simp [rk_len] at hlen; subst hlen
          obtain rfl := Nat.eq_of_beq_eq_true h12
          obtain ⟨w1, w2, w3, w4⟩ := hkk _ (rk_lk_mem hlk1) rfl
          have hnf : nativeFrameWords "java/lang/System" "arraycopy" 5 ≤ 20 := by decide +kernel
          unfold hx_cp at h
          split at h
          · next n9 dp j1 sp j0 r =>
            split at h
            · next n0 f9 n1 g9 hj0 hj1 =>
              obtain ⟨hc, rfl⟩ := fx_if_inv h
              rw [Bool.and_eq_true] at hc
              have hsum := Nat.le_of_ble_eq_true hc.1
              rw [← fx_sum_lm ps] at hsum
              obtain ⟨c1, c2, c3, c4, c5⟩ := hx_cc_ok hc.2
              obtain ⟨q0, a1, a2, a3, a4⟩ := hx_arr hF hO hj0
              obtain ⟨q1, b1, b2, b3, b4⟩ := hx_arr hF hO hj1
              have eset : fx_w ps (mem.set j1 (.inr (.int, n1, .inl (va_cpy f9 g9 sp.toNatClampNeg dp.toNatClampNeg n9.toNatClampNeg)))) = (fx_w ps mem).set j1 (q1.1, .inl (q1.2, n1, .inl (va_cpy f9 g9 sp.toNatClampNeg dp.toNatClampNeg n9.toNatClampNeg))) := fx_w_set ps mem j1 _ q1 b1
              show rk_KW p l e R s m args below meth c Q pc ls (.int n9 :: .int dp :: .ref (fx_ad ps j1) :: .int sp :: .ref (fx_ad ps j0) :: r.map (fx_v ps)) H locs 0 0
              rw [a2, b2]
              refine va_copyi (ty := .int) hx hb (by rw [hml]; exact hl.1.symm) hown (hts _ w1) (hts _ w2) (hts _ w3) (hts _ w4) (a4.app b4) hP hD hS j0 j1 0 1 a3 b3 rfl rfl rfl c1 c2 c3 c4 c5 (fun _ _ => rfl) (by omega) (by omega) hdg (fun H1 locs1 hP1 hD1 hS1 => ?_)
              exact kk H1 locs1 ls (hx_ok_arr hO hj1) (by rw [eset]; exact hP1) (by rw [eset]; exact hD1) hS1 hl
            · next n0 f9 n1 g9 hj0 hj1 =>
              obtain ⟨hc, rfl⟩ := fx_if_inv h
              rw [Bool.and_eq_true] at hc
              have hsum := Nat.le_of_ble_eq_true hc.1
              rw [← fx_sum_lm ps] at hsum
              obtain ⟨c1, c2, c3, c4, c5⟩ := hx_cc_ok hc.2
              obtain ⟨q0, a1, a2, a3, a4⟩ := hx_arr hF hO hj0
              obtain ⟨q1, b1, b2, b3, b4⟩ := hx_arr hF hO hj1
              have eset : fx_w ps (mem.set j1 (.inr (.long, n1, .inr (.inl (va_cpy f9 g9 sp.toNatClampNeg dp.toNatClampNeg n9.toNatClampNeg))))) = (fx_w ps mem).set j1 (q1.1, .inl (q1.2, n1, .inr (.inl (va_cpy f9 g9 sp.toNatClampNeg dp.toNatClampNeg n9.toNatClampNeg)))) := fx_w_set ps mem j1 _ q1 b1
              show rk_KW p l e R s m args below meth c Q pc ls (.int n9 :: .int dp :: .ref (fx_ad ps j1) :: .int sp :: .ref (fx_ad ps j0) :: r.map (fx_v ps)) H locs 0 0
              rw [a2, b2]
              refine va_copyl (ty := .long) hx hb (by rw [hml]; exact hl.1.symm) hown (hts _ w1) (hts _ w2) (hts _ w3) (hts _ w4) (a4.app b4) hP hD hS j0 j1 0 1 a3 b3 rfl rfl rfl c1 c2 c3 c4 c5 (fun _ _ => rfl) (by omega) (by omega) hdg (fun H1 locs1 hP1 hD1 hS1 => ?_)
              exact kk H1 locs1 ls (hx_ok_arr hO hj1) (by rw [eset]; exact hP1) (by rw [eset]; exact hD1) hS1 hl
            · exact fx_nos h
          · exact fx_nos h
      | true =>
        simp [rk_len] at hlen; subst hlen
        rw [hkd] at h
        change fx_cs call (pc + 3) f n lc stk mem = some zz at h
        have hkd2 : kd = 7 ∨ kd = 8 := by
          rw [Bool.or_eq_true] at hkd
          exact hkd.imp Nat.eq_of_beq_eq_true Nat.eq_of_beq_eq_true
        unfold fx_cs at h
        split at h
        · next as r hpop =>
          cases hcn : Nat.ble (fx_sum r) 8 with
          | false => rw [hcn] at h; exact fx_nos h
          | true =>
            rw [hcn] at h
            change fx_aft (pc + 3) lc r (call f as mem) = some zz at h
            have hsum := Nat.le_of_ble_eq_true hcn
            unfold fx_aft at h
            split at h
            · next x hcl1 =>
              obtain ⟨r9, mem9⟩ := x
              obtain rfl := Option.some.inj h
              obtain ⟨v2, rfl, rfl, hn⟩ := fx_pops_ok n hpop
              rw [List.append_nil] at hcl1
              have hck1 := hck _ (rk_lk_mem hlk1)
              rw [← fx_sum_lm ps] at hsum
              have hstk : ((v2.reverse ++ r).map (fx_v ps)) = (v2.map (fx_v ps)).reverse ++ r.map (fx_v ps) := by
                rw [List.map_append, List.map_reverse]
              rw [hstk]
              have kk2 : ∀ (H' : Heap) (locs' : List Loc), hx_ok s ps mem9 → va_P D gk_cl (fx_w ps mem9) H' → va_D Ad (fx_w ps mem9) → va_S Ad s.heap H' locs' → rk_KW p l e R s m args below meth c Q (pc + 3) ls ((r9.map (fx_v ps)).toList ++ r.map (fx_v ps)) H' locs' 0 0 := fun H' locs' g1 g2 g3 g4 => by
                have := kk H' locs' ls g1 g2 g3 g4 hl
                cases r9 with
                | none => exact this
                | some v9 => exact this
              rcases hkd2 with rfl | rfl
              · obtain ⟨q, hq, w1, w2, w4⟩ := hck1
                obtain ⟨M', hM, hM21, hmet⟩ := hcall f _ _ _ _ hcl1 q hq
                obtain ⟨m1, m2, m3, m4, m5, -⟩ := hmok f q M' hq hM
                refine hx_back (as := (v2.map (fx_v ps)).toArray) hA hD hS ?_ kk2
                exact va_runS (As := v2.map (fx_v ps)) hfix (hmet ps H.size) ⟨callB_of n hts (rk_good hgw m4) rfl rfl rfl (hts _ m5) (hts _ w1) ⟨m3.1, m3.2, w4⟩ ⟨hfr, by show 8 + (M'.2.1 + 11) + 40 * (d + 4) ≤ R.locals; omega⟩, hts _ w2⟩ ⟨hx_blind hxt hxo, fun U hU hW => hx_pre hxt hXt hA hS hxo hxw hK hO hP hD U hU hW⟩ rfl (by rw [List.length_map]; exact hn) hl.1 rfl (lv_room hsum) hdg ⟨Nat.zero_le _, Nat.zero_le _⟩
              · obtain ⟨q, host, hq, w1, w2, w4⟩ := hck1
                obtain ⟨M', hM, hM21, hmet⟩ := hcall f _ _ _ _ hcl1 q hq
                obtain ⟨m1, m2, m3, m4, m5, -⟩ := hmok f q M' hq hM
                refine hx_back (as := (v2.map (fx_v ps)).toArray) hA hD hS ?_ kk2
                exact va_runSN (As := v2.map (fx_v ps)) hfix (hmet ps H.size) ⟨va_cnB n hts (rk_good hgw m4) rfl rfl rfl (hxw _ w1) (hts _ m5) ⟨m3.1, m3.2, w4⟩ ⟨hfr, by show 8 + (M'.2.1 + 11) + 40 * (d + 4) ≤ R.locals; omega⟩, hts _ w2, trivial⟩ ⟨hx_blind hxt hxo, fun U hU hW => hx_pre hxt hXt hA hS hxo hxw hK hO hP hD U hU hW⟩ rfl (by rw [List.length_map]; exact hn) hl.1 rfl (lv_room hsum) hdg ⟨Nat.zero_le _, Nat.zero_le _⟩
            · exact fx_nos h
        · exact fx_nos h
    · exact fx_nos h
  case aaload =>
    simp [rk_len] at hlen; subst hlen
    change hx_aa (pc + 1) lc stk mem = some zz at h
    unfold hx_aa at h
    split at h
    · next i j r =>
      split at h
      · next ty n f hj =>
        obtain ⟨hc, rfl⟩ := fx_if_inv h
        rw [Bool.and_eq_true] at hc
        obtain ⟨q, h1, h2, h3, h4⟩ := hx_arr hF hO hj
        show rk_KW p l e R s m args below meth c Q pc ls (.int i :: .ref (fx_ad ps j) :: r.map (fx_v ps)) H locs 0 0
        rw [h2]
        have fin := kk H locs ls hO hP hD hS hl
        have fin : rk_KW p l e R s m args below meth c Q (pc + 1) ls (va_rf ((f i.toNatClampNeg).map (fx_ad ps)) :: r.map (fx_v ps)) H locs 0 0 := by rw [hx_rf]; exact fin
        cases ty
        case object C => exact va_aldq hx hb h4 hP j 0 h3 rfl (fx_in_ok hc.1) hdg fin
        case array t => exact va_alda hx hb h4 hP j 0 h3 rfl (fx_in_ok hc.1) hdg fin
        all_goals cases hc.2
      · exact fx_nos h
    · exact fx_nos h
  case arraylength =>
    simp [rk_len] at hlen; subst hlen
    change hx_al (pc + 1) lc stk mem = some zz at h
    unfold hx_al at h
    split at h
    · next j r =>
      split at h
      · next ty z hj =>
        obtain rfl := Option.some.inj h
        obtain ⟨q, h1, h2, h3, h4⟩ := hx_arr hF hO hj
        show rk_KW p l e R s m args below meth c Q pc ls (.ref (fx_ad ps j) :: r.map (fx_v ps)) H locs 0 0
        rw [h2]
        exact va_alen hx hb h4 hP j 0 h3 rfl (v := Int32.ofNat z.1) (by
          show Int32.ofNat (fx_z ps z).1 = _
          unfold fx_z
          split <;> rfl) hdg (kk H locs ls hO hP hD hS hl)
      · exact fx_nos h
    · exact fx_nos h
  all_goals exact hbase h
/-- a run that ends: so does the machine -/
theorem hx_run_ok (hxt : tk_xtok xt) {M : rk_M2} (hkk : ∀ r ∈ M.2.2.1, rk_kok gk_tbl own r) {ps : fx_P} (hXt : xt Ad s s.heap) (hok : rk_ok gk_tbl gk_xw gk_cl gk_fty gk_cln gk_MN gk_mci gk_P) (hx : p.tables.exec = Jvm.exec) (hb : c.code = cc) (hlocks : meth.locks = false) (hr : meth.sig.returnType = M.2.2.2.2.1) (hml : c.maxLocals = M.2.1) (hins : ∀ r ∈ M.1, decode cc r.1 = .ok r.2) (hF : rk_Fr s m args meth D gk_cl Ad gk_tbl gk_xw gk_fty gk_cln own M.2.2.1 M.2.2.2.1) (hck : ∀ r ∈ M.2.2.1, rk_cok gk_tbl gk_xw gk_MN gk_P own r) {d : Nat} {call : fx_Ca} (hcall : hx_SC l D xt d call) (hfr : d + 5 ≤ R.frames) (hlo : 40 * (d + 5) ≤ R.locals) {rr : Option Value} {memE : fx_M} : ∀ (n pc : Nat) (lc : fx_L) (stk : List Value) (mem : fx_M), hx_run call gk_fty gk_mci M n pc lc stk mem = some (rr, memE) → hx_ok s ps mem → ∀ (H : Heap) (locs : List Loc) (ls : Array Slot), va_P D gk_cl (fx_w ps mem) H → va_D Ad (fx_w ps mem) → va_S Ad s.heap H locs → lv_has ls M.2.1 (fx_lm ps lc) → rk_KW p l e R s m args below meth c (MQ below (hx_Post D ps memE rr Ad) args s R.cells R.slots Ad) pc ls (stk.map (fx_v ps)) H locs 0 0 := by
  intro n
  induction n with
  | zero => intro pc lc stk mem h; exact fx_nos h
  | succ n ih =>
    intro pc lc stk mem h hO H locs ls hP hD hS hl
    unfold hx_run at h
    split at h
    · exact fx_nos h
    · next q hat =>
      obtain ⟨hmem, hpc⟩ := tk_at_ok hat
      obtain ⟨pc9, ins, len⟩ := q
      dsimp only at hpc
      subst hpc
      cases hlen : rk_len ins len with
      | false => dsimp only at h; rw [hlen] at h; exact fx_nos h
      | true =>
        dsimp only at h
        rw [hlen] at h
        dsimp only [cond] at h
        have hdg : decode cc pc9 = .ok (ins, len) := hins (pc9, ins, len) hmem
        have hpost : ∀ (v : Option Value), v = rr → mem = memE → ∀ t : State, t.heap = H → s.WarmedH t.vm → hx_Post D ps memE rr Ad args s (.returned (v.map (fx_v ps))) t := fun v e1 e2 t ht hW => by
          subst e1 e2
          exact ⟨⟨rfl, hx_ok_moved hW.alike hO, by rw [ht]; exact hP, hD⟩, hS.F ht⟩
        split at h
        · next v hend =>
          cases h
          refine W.widen (k := R.cells) (n := R.slots) (Nat.zero_le _) (Nat.zero_le _) ?_
          unfold fx_end at hend
          split at hend
          · split at hend
            · next h1 h2 =>
              cases hend
              simp [rk_len] at hlen; subst hlen
              exact W.vret hx hb (by rw [hr]; exact h2) (hpost none rfl rfl) hS.2.2 hdg
            · cases hend
          · split at hend
            · next x ty h2 =>
              cases hvt : fx_vt ty (.int x) with
              | false => rw [hvt] at hend; cases hend
              | true =>
                rw [hvt] at hend
                cases hend
                simp [rk_len] at hlen; subst hlen
                obtain ⟨-, hnr, hfi⟩ := fx_vt_ok (ps := ps) hvt
                have hrt : meth.sig.returnType = some ty := by rw [hr]; exact h2
                cases ty
                case int => exact W.iret hx hb hrt (hpost (some (.int x)) rfl rfl) hS.2.2 hdg
                case boolean => exact W.zret (ty := .boolean) hx hb hrt hnr (hpost (some (.int x)) rfl rfl) hS.2.2 hdg
                all_goals cases hvt
            · cases hend
          · split at hend
            · next x h2 =>
              cases hend
              simp [rk_len] at hlen; subst hlen
              exact W.lret hx hb (by rw [hr]; exact h2) (hpost (some (.long x)) rfl rfl) hS.2.2 hdg
            · cases hend
          · cases hend
        · exact fx_nos h
        · split at h
          · next z hz =>
            exact hx_step_ok hxt hkk hXt hok hx hb hml hF hck hcall hfr hlo hdg hlen hz hO hP hD hS hl (fun H' locs' ls' g1 g2 g3 g4 g5 => ih _ _ _ _ h g1 H' locs' ls' g2 g3 g4 g5)
          · exact fx_nos h
end HFXB
section HFXC
variable {l : Launch} {D : va_G} {xt : tk_XT}
set_option maxHeartbeats 4000000 in
theorem hx_call_ok (hxt : tk_xtok xt) (hok : rk_ok gk_tbl gk_xw gk_cl gk_fty gk_cln gk_MN gk_mci gk_P) (N : Nat) : ∀ d : Nat, hx_SC l D xt d (hx_call gk_fty gk_mci gk_P N d) := by
  intro d
  induction d with
  | zero => intro f as mem mem' r h; exact fx_nos h
  | succ d ih =>
    intro f as mem mem' r h q hq
    unfold hx_call at h
    split at h
    · exact fx_nos h
    · next M hM =>
      cases hc : (Nat.ble M.2.1 21 && Nat.ble (fx_sum as) M.2.1) with
      | false => rw [hc] at h; exact fx_nos h
      | true =>
        rw [hc] at h
        dsimp only [cond] at h
        rw [Bool.and_eq_true] at hc
        have hc1 := Nat.le_of_ble_eq_true hc.1
        have hc2 := Nat.le_of_ble_eq_true hc.2
        refine ⟨M, hM, hc1, fun ps sz => ?_⟩
        obtain ⟨hgw, hxo, hcl, hac, hlenM, hmok, hmci⟩ := id hok
        obtain ⟨m1, m2, m3, m4, m5, m6, m7, m8, m9⟩ := hmok f q M hq hM
        refine Met.ofW (cc := q.2.2) (maxL := M.2.1) (ret := M.2.2.2.2.1) m1 rfl ?_
        intro p e s m args below meth c s₁ B hml hv
        obtain ⟨rfl, hsz, hP, hK, hD0, hO, hxw, hXt⟩ := hv
        have hts0 := atoms_spec (ws := Jvm.Cond.code q.2.1 q.2.2 M.2.1 M.2.2.2.2.1 :: gk_tbl) B.pre
        have hts : ∀ w ∈ gk_tbl, w.before (as.map (fx_v ps)).toArray s = true := fun w hw => hts0 w (List.mem_cons_of_mem _ hw)
        have hown : s.vm.findClass q.1 = some m.cls := by rw [← m2]; exact findClass_of_methodNamed B.named
        have hnm : meth.name = q.2.1.name := (name_of_methodNamed B.named B.method).1
        subst hsz
        have hF : rk_Fr s m (as.map (fx_v ps)).toArray meth D gk_cl (va_A (fx_w ps mem) s.heap.size) gk_tbl gk_xw gk_fty gk_cln q.1 M.2.2.1 M.2.2.2.1 := ⟨hts, hxw, hown, hK, fun z hz => Or.inr hz, hcl, fun r hr => (m7 r hr).1, fun hz => by rw [hnm]; exact m8 hz, hac, m9⟩
        have key := hx_run_ok hxt (fun r hr => (m7 r hr).2.2) hXt (l := l) (p := p) (e := e) (R := (headSpec (Jvm.Cond.code q.2.1 q.2.2 M.2.1 M.2.2.2.2.1 :: gk_tbl) { frames := d + 1 + 4, cells := 0, slots := 0, locals := 40 * (d + 1 + 4) }).room) (below := below) (ps := ps) (rr := r) (memE := mem') hok B.exec B.bytes B.notSynchronized B.returns hml m6 hF (fun r hr => (m7 r hr).2.1) ih (Nat.le_refl _) (Nat.le_refl _) N 0 (lv_args 0 as) [] mem h hO
        have hlen : (lg_sl (as.map (fx_v ps))).length ≤ M.2.1 := by
          rw [rk_lgsl, fx_sum_lm]
          exact hc2
        have hl := lv_entry (as.map (fx_v ps)) (n := M.2.1) hlen
        rw [lg_entry_eq]
        exact key s.heap [] _ hP hD0.self va_S.rf (by rw [fx_args_lm]; exact hl)
end HFXC
