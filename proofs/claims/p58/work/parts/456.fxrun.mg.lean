section MH39_0
/-! ===== fx: calls, runs, and what they say of the machine ===== -/
abbrev fx_Ca : Type := Nat → List Value → fx_M → Option (Option Value × fx_M)
def fx_pops : Nat → List Value → List Value → Option (List Value × List Value)
  | 0, acc, sk => some (acc, sk)
  | n + 1, acc, a :: sk => fx_pops n (a :: acc) sk
  | _ + 1, _, [] => none
theorem fx_pops_ok : ∀ (n : Nat) {acc sk as r : List Value}, fx_pops n acc sk = some (as, r) → ∃ v2 : List Value, as = v2 ++ acc ∧ sk = v2.reverse ++ r ∧ v2.length = n := by
  intro n
  induction n with
  | zero => intro acc sk as r h; cases h; exact ⟨[], rfl, rfl, rfl⟩
  | succ n ih =>
    intro acc sk as r h
    cases sk with
    | nil => cases h
    | cons a sk =>
      obtain ⟨v2, h1, h2, h3⟩ := ih (show fx_pops n (a :: acc) sk = some (as, r) from h)
      exact ⟨v2 ++ [a], by rw [h1]; simp, by rw [h2]; simp, by simp [h3]⟩
def fx_aft (pc : Nat) (lc : fx_L) (r : List Value) (x : Option (Option Value × fx_M)) : fx_R4 := match x with
  | some q => some (pc, lc, q.1.toList ++ r, q.2)
  | none => none
def fx_sc (f : Nat) (as : List Value) : Option Value := match as with
  | [] => cond (Nat.beq f 377) (some (.int (Int32.ofNat sk_n))) none
  | [.int x] => cond (Nat.beq f 378 && fx_in x sk_n) (some (.int (sk_b.getD x.toNatClampNeg 0))) none
  | _ => none
def fx_sv (pc f j : Nat) (as r : List Value) (lc : fx_L) (mem : fx_M) : fx_R4 := match fx_sc f as with
  | some v => cond (Nat.ble (fx_sum r) 8 && Nat.beq j mem.length) (some (pc, lc, v :: r, mem)) none
  | none => none
def fx_cv (mci : List Nat) (call : fx_Ca) (pc f n : Nat) (lc : fx_L) (stk : List Value) (mem : fx_M) : fx_R4 := match fx_pops n [] stk with
  | some (as, .ref j :: r) => (match mem[j]? with
    | some (.inl o) => cond (Nat.ble (fx_sum r) 8 && decide (mci[f]? = some o.1)) (fx_aft pc lc r (call f (.ref j :: as) mem)) none
    | none => fx_sv pc f j as r lc mem
    | _ => none)
  | _ => none
def fx_cs (call : fx_Ca) (pc f n : Nat) (lc : fx_L) (stk : List Value) (mem : fx_M) : fx_R4 := match fx_pops n [] stk with
  | some (as, r) => cond (Nat.ble (fx_sum r) 8) (fx_aft pc lc r (call f as mem)) none
  | none => none
def fx_lds (fty : rk_F) (M : rk_M2) (pc idx : Nat) (lc : fx_L) (stk : List Value) (mem : fx_M) : fx_R4 := match rk_cst M.2.2.2.1 idx with
  | none => cond (Nat.beq idx 189 && Nat.beq M.2.2.2.2.2 12) (some (pc + 2, lc, .ref mem.length :: stk, mem)) none
  | some _ => fx_mem fty M pc (.ldc idx) lc stk mem
def fx_step (call : fx_Ca) (fty : rk_F) (mci : List Nat) (M : rk_M2) (pc : Nat) (ins : Instr) (lc : fx_L) (stk : List Value) (mem : fx_M) : fx_R4 := match ins with
  | .invokevirtual idx => (match rk_lk M.2.2.1 idx with
    | some q => cond (Nat.beq q.1 5 || Nat.beq q.1 6) (fx_cv mci call (pc + 3) q.2.1 q.2.2 lc stk mem) none
    | none => none)
  | .invokestatic idx => (match rk_lk M.2.2.1 idx with
    | some q => cond (Nat.beq q.1 7 || Nat.beq q.1 8) (fx_cs call (pc + 3) q.2.1 q.2.2 lc stk mem) (fx_mem fty M pc (.invokestatic idx) lc stk mem)
    | none => none)
  | .ldc idx => fx_lds fty M pc idx lc stk mem
  | ins => fx_mem fty M pc ins lc stk mem
def fx_end (ret : Option FieldType) (ins : Instr) (stk : List Value) : Option (Option (Option Value)) := match ins with
  | .return_ => (match stk, ret with
    | [], none => some (some none)
    | _, _ => some none)
  | .ireturn => (match stk, ret with
    | [.int x], some ty => cond (fx_vt ty (.int x)) (some (some (some (.int x)))) (some none)
    | _, _ => some none)
  | .lreturn => (match stk, ret with
    | [.long x], some .long => some (some (some (.long x)))
    | _, _ => some none)
  | _ => none
def fx_run (call : fx_Ca) (fty : rk_F) (mci : List Nat) (M : rk_M2) : Nat → Nat → fx_L → List Value → fx_M → Option (Option Value × fx_M)
  | 0, _, _, _, _ => none
  | n + 1, pc, lc, stk, mem => match tk_at M.1 pc with
    | none => none
    | some q => cond (rk_len q.2.1 q.2.2) (match fx_end M.2.2.2.2.1 q.2.1 stk with
      | some (some v) => some (v, mem)
      | some none => none
      | none => (match fx_step call fty mci M pc q.2.1 lc stk mem with
        | some z => fx_run call fty mci M n z.1 z.2.1 z.2.2.1 z.2.2.2
        | none => none)) none
def fx_call (fty : rk_F) (mci : List Nat) (P : List rk_M2) (N : Nat) : Nat → fx_Ca
  | 0 => fun _ _ _ => none
  | d + 1 => fun f as mem => match P[f]? with
    | none => none
    | some M => cond (Nat.ble M.2.1 21 && Nat.ble (fx_sum as) M.2.1) (fx_run (fx_call fty mci P N d) fty mci M N 0 (lv_args 0 as) [] mem) none
theorem fx_args_lm (ps : fx_P) : ∀ (av : List Value) (i : Nat), fx_lm ps (lv_args i av) = lv_args i (av.map (fx_v ps)) := by
  intro av
  induction av with
  | nil => intro i; rfl
  | cons v av ih =>
    intro i
    show (i, fx_v ps v) :: fx_lm ps (lv_args _ av) = (i, fx_v ps v) :: lv_args _ (av.map (fx_v ps))
    rw [ih, fx_v_cat]
theorem fx_sum_lm (ps : fx_P) (r : List Value) : ((r.map (fx_v ps)).map fun v => v.category).sum = fx_sum r := by
  rw [List.map_map]
  have e9 : ((fun v : Value => v.category) ∘ fx_v ps) = (fun v : Value => v.category) := funext (fun v => fx_v_cat ps v)
  rw [e9]
  rfl
section FXR
variable {l : Launch} {D : va_G}
/-- what is known of the text -/
def fx_xt (ps : fx_P) : tk_XT := fun Ad U H => ∃ v tx, sk_X (fx_ad ps (ps.length - 1)) v Ad U H ∧ vk_R "GooseIceModel" 189 tx (fx_ad ps (ps.length - 1)) U
theorem fx_xtok (ps : fx_P) : tk_xtok (fx_xt ps) := by
  refine ⟨?_, ?_, ?_⟩
  · rintro Ad s U H hv ⟨v, tx, h1, h2⟩
    exact ⟨v, tx, h1.moved (by rw [hv]; exact Vm.Alike.refl _), vk_R.same hv.symm h2⟩
  · rintro Ad s U H hW ⟨v, tx, h1, h2⟩
    exact ⟨v, tx, h1.moved hW.alike, vk_R.warm hW h2⟩
  · rintro Ad B U H H1 ⟨v, tx, h1, h2⟩ hq hAB
    exact ⟨v, tx, (h1.kept hq).narrow hAB, h2⟩
theorem fx_tx {f : Nat} {M : rk_M2} {q : rk_N} (hM : gk_P[f]? = some M) (hq : gk_MN[f]? = some q) : M.2.2.2.2.2 = 12 → q.1 = "GooseIceModel" := by
  intro h
  have key : ((gk_P.zip gk_MN).all (fun z => !(Nat.beq z.1.2.2.2.2.2 12) || z.2.1 == "GooseIceModel")) = true := by decide +kernel
  have hz : (M, q) ∈ gk_P.zip gk_MN := List.mem_of_getElem? (i := f) (by rw [List.getElem?_zip_eq_some]; exact ⟨hM, hq⟩)
  have := List.all_eq_true.mp key _ hz
  dsimp only at this
  rw [h] at this
  simpa using this
theorem fx_nn {own host : String} {idx : Nat} {n : MethodName} (h : Jvm.Cond.methodLinkNest own idx n host ∈ gk_xw) : n.cls ≠ "java/lang/String" := by
  have key : (gk_xw.all (fun w => match w with
    | .methodLinkNest _ _ n _ => !(n.cls == "java/lang/String")
    | _ => true)) = true := by decide +kernel
  have := List.all_eq_true.mp key _ h
  simpa using this
def fx_Pre (D : va_G) (ps : fx_P) (mem : fx_M) (sz : Nat) (as : List Value) : Array Value → State → Prop := fun v U => v = (as.map (fx_v ps)).toArray ∧ U.heap.size = sz ∧ va_P D gk_cl (fx_w ps mem) U.heap ∧ va_K D gk_cl [] U ∧ va_D (fun _ => True) (fx_w ps mem) ∧ fx_ok U ps mem ∧ (∀ w ∈ gk_xw, va_Nw w U) ∧ fx_xt ps (va_A (fx_w ps mem) sz) U U.heap
def fx_Post (D : va_G) (ps : fx_P) (mem : fx_M) (r : Option Value) (Ad : Nat → Prop) : Array Value → State → Outcome → State → Prop := fun _ st oc t => (oc = .returned (r.map (fx_v ps)) ∧ fx_ok t ps mem ∧ va_P D gk_cl (fx_w ps mem) t.heap ∧ va_D Ad (fx_w ps mem)) ∧ va_F Ad st t
theorem fx_ok_moved {u U : State} (hvm : u.vm.Alike U.vm) {ps : fx_P} {mem : fx_M} (h : fx_ok u ps mem) : fx_ok U ps mem := ⟨h.1, fun j q ty z h1 h2 => by
  obtain ⟨g1, g2⟩ := h.2 j q ty z h1 h2
  exact ⟨arrOfT_moved hvm g1, g2.moved hvm⟩⟩
theorem fx_blind {ps : fx_P} {mem : fx_M} {sz : Nat} {as : List Value} (hxo : rk_xok gk_xw) : FrameBlind (fx_Pre D ps mem sz as) := by
  intro a U g mk q
  obtain ⟨h1, h2, h3, h4, h5, h6, h7, h8⟩ := q
  exact ⟨h1, h2, h3, va_K.moved (u := U) (U := U.calling g mk a) (Vm.Alike.refl U.vm) h4, h5, fx_ok_moved (u := U) (U := U.calling g mk a) (Vm.Alike.refl U.vm) h6, rk_xw_same hxo (s := U) (U := U.calling g mk a) rfl h7, (fx_xtok ps).1 _ U (U.calling g mk a) _ rfl h8⟩
def fx_SC (l : Launch) (D : va_G) (d : Nat) (call : fx_Ca) : Prop := ∀ (f : Nat) (as : List Value) (mem mem' : fx_M) (r : Option Value), call f as mem = some (r, mem') → ∀ q : rk_N, gk_MN[f]? = some q → ∃ M, gk_P[f]? = some M ∧ M.2.1 ≤ 21 ∧ ∀ (ps : fx_P) (sz : Nat), Met l q.2.1 (Jvm.Cond.code q.2.1 q.2.2 M.2.1 M.2.2.2.2.1 :: gk_tbl) { frames := d + 4, cells := 0, slots := 0, locals := 40 * (d + 4) } (fx_Pre D ps mem sz as) (fx_Post D ps mem' r (va_A (fx_w ps mem) sz)) 0 0 (va_A (fx_w ps mem) sz)
end FXR
theorem fx_in_nI {x : Int32} {n : Nat} (h : fx_in x n = true) : ∃ k, k < n ∧ x = nI k := by
  simp only [fx_in, Bool.and_eq_true, decide_eq_true_eq] at h
  obtain ⟨j, hj, rfl⟩ := nI_of (x := x) (fun z => by have := Int32.lt_iff_toInt_lt.mp z; have e : (0 : Int32).toInt = 0 := rfl; omega)
  rw [nI_toInt hj] at h
  exact ⟨j, by omega, rfl⟩
section FXB
variable {p : Program} {l : Launch} {e : Env} {R : Room} {s : State} {m : MethodId} {args : Array Value} {below : List Frame} {meth : Method} {c : Code} {Q : State → Prop} {cc : ByteArray} {D : va_G} {Ad : Nat → Prop} {own : String}
theorem fx_back {ps : fx_P} {mem mem' : fx_M} {r : Option Value} {H : Heap} {locs : List Loc} {ls : Array Slot} {st0 rest : List Value} {pc : Nat} {as : Array Value} (hA : ∀ q, s.heap.size ≤ q → Ad q) (hD : va_D Ad (fx_w ps mem)) (hS : va_S Ad s.heap H locs)
    (hr : va_Run p l e R s m args below meth c H locs 0 0 0 0 (F0 m pc ls st0) rest (fx_Post D ps mem' r (va_A (fx_w ps mem) H.size) as) (va_A (fx_w ps mem) H.size))
    (kk : ∀ (H' : Heap) (locs' : List Loc), fx_ok s ps mem' → va_P D gk_cl (fx_w ps mem') H' → va_D Ad (fx_w ps mem') → va_S Ad s.heap H' locs' → rk_KW p l e R s m args below meth c Q (pc + 3) ls ((r.map (fx_v ps)).toList ++ rest) H' locs' 0 0) : rk_KW p l e R s m args below meth c Q pc ls st0 H locs 0 0 := by
  have hsub : ∀ q, va_A (fx_w ps mem) H.size q → Ad q := by
    rintro q (⟨k, e1, hk⟩ | hq)
    · exact hD.2 k _ hk
    · exact hA q (Nat.le_trans hS.1 hq)
  intro T hT X
  obtain ⟨v, st₀, t, T', L, h0, X', hLf, e1, e2, ⟨⟨b1, b2, b3, b4⟩, hF⟩, go⟩ := hr T hT X
  have hal : t.vm.Alike s.vm := by rw [← e2]; exact X'.warmed.alike.symm
  have hS1 : va_S Ad s.heap t.heap (locs ++ L) := by
    refine ⟨Nat.le_trans hS.1 (by rw [← h0]; exact hF.1), fun q hq hn => ?_, fun z hz => ?_⟩
    · rw [hF.2 q (by rw [h0]; exact Nat.lt_of_lt_of_le hq hS.1) (fun z => hn (hsub q z)), h0]
      exact hS.2.1 q hq hn
    · rcases List.mem_append.mp hz with z1 | z1
      · exact hS.2.2 z z1
      · exact hsub _ (hLf z z1)
  have hv : v = r.map (fx_v ps) := Outcome.returned.inj b1
  subst hv
  obtain ⟨t2, c1, c2⟩ := kk t.heap (locs ++ L) (fx_ok_moved hal b2) b3 (b4.weaken (fun _ _ _ z => hsub _ z)) hS1 T' e1 X'
  exact ⟨t2, go t2 c1, c2⟩
theorem fx_pre {ps : fx_P} {mem : fx_M} {H : Heap} {locs : List Loc} {as : List Value} (hXt : fx_xt ps Ad s s.heap) (hA : ∀ q, s.heap.size ≤ q → Ad q) (hS : va_S Ad s.heap H locs) (hxo : rk_xok gk_xw) (hxw : ∀ w ∈ gk_xw, va_Nw w s) (hK : va_K D gk_cl [] s) (hO : fx_ok s ps mem) (hP : va_P D gk_cl (fx_w ps mem) H) (hD : va_D Ad (fx_w ps mem)) (U : State) (hU : U.heap = H) (hW : s.WarmedH U.vm) : fx_Pre D ps mem H.size as (as.map (fx_v ps)).toArray U :=
  ⟨rfl, by rw [hU], by rw [hU]; exact hP, va_K.moved hW.alike hK, hD.weaken (fun _ _ _ _ => trivial), fx_ok_moved hW.alike hO, rk_xw_warm hxo hW hxw, by
    rw [hU]
    refine (fx_xtok ps).2.1 _ _ _ _ hW ((fx_xtok ps).2.2 _ _ _ _ _ hXt (fun a ha hn => hS.2.1 a ha hn) ?_)
    rintro q (⟨k, e1, hk⟩ | hq)
    · exact hD.2 k _ hk
    · exact hA q (Nat.le_trans hS.1 hq)⟩
set_option maxHeartbeats 8000000 in
theorem fx_step_ok {ps : fx_P} (hXt : fx_xt ps Ad s s.heap) (hok : rk_ok gk_tbl gk_xw gk_cl gk_fty gk_cln gk_MN gk_mci gk_P) {M : rk_M2} (htx : M.2.2.2.2.2 = 12 → own = "GooseIceModel") (hx : p.tables.exec = Jvm.exec) (hb : c.code = cc) (hml : c.maxLocals = M.2.1) (hF : rk_Fr s m args meth D gk_cl Ad gk_tbl gk_xw gk_fty gk_cln own M.2.2.1 M.2.2.2.1) (hck : ∀ r ∈ M.2.2.1, rk_cok gk_tbl gk_xw gk_MN gk_P own r) {d : Nat} {call : fx_Ca} (hcall : fx_SC l D d call) (hfr : d + 5 ≤ R.frames) (hlo : 40 * (d + 5) ≤ R.locals) {pc : Nat} {ins : Instr} {len : Nat} (hdg : decode cc pc = .ok (ins, len)) (hlen : rk_len ins len = true) {lc : fx_L} {stk : List Value} {mem : fx_M} {zz : Nat × fx_L × List Value × fx_M} (h : fx_step call gk_fty gk_mci M pc ins lc stk mem = some zz) (hO : fx_ok s ps mem) {H : Heap} {locs : List Loc} {ls : Array Slot} (hP : va_P D gk_cl (fx_w ps mem) H) (hD : va_D Ad (fx_w ps mem)) (hS : va_S Ad s.heap H locs) (hl : lv_has ls M.2.1 (fx_lm ps lc)) (kk : ∀ (H' : Heap) (locs' : List Loc) (ls' : Array Slot), fx_ok s ps zz.2.2.2 → va_P D gk_cl (fx_w ps zz.2.2.2) H' → va_D Ad (fx_w ps zz.2.2.2) → va_S Ad s.heap H' locs' → lv_has ls' M.2.1 (fx_lm ps zz.2.1) → rk_KW p l e R s m args below meth c Q zz.1 ls' (zz.2.2.1.map (fx_v ps)) H' locs' 0 0) : rk_KW p l e R s m args below meth c Q pc ls (stk.map (fx_v ps)) H locs 0 0 := by
  have hbase : fx_mem gk_fty M pc ins lc stk mem = some zz → rk_KW p l e R s m args below meth c Q pc ls (stk.map (fx_v ps)) H locs 0 0 := fun h2 => fx_mem_ok hx hb hml hF (by omega) (by omega) hdg hlen h2 hO hP hD hS hl kk
  obtain ⟨hgw, hxo, -, -, hlenM, hmok, hmci⟩ := hok
  have hF0 := hF
  obtain ⟨hts, hxw, hown, hK, hA, hcl, hlk, hini, hac, hcs⟩ := hF0
  have hfix : CallFix p m c cc M.2.1 s args gk_tbl own := ⟨hx, hb, hml, hown, hts⟩
  cases ins
  case invokevirtual idx =>
    simp [rk_len] at hlen; subst hlen
    change (match rk_lk M.2.2.1 idx with
      | some q => cond (Nat.beq q.1 5 || Nat.beq q.1 6) (fx_cv gk_mci call (pc + 3) q.2.1 q.2.2 lc stk mem) none
      | none => none) = some zz at h
    split at h
    · next q9 hlk1 =>
      obtain ⟨kd, f, n⟩ := q9
      cases hkd : (Nat.beq kd 5 || Nat.beq kd 6) with
      | false => rw [hkd] at h; exact fx_nos h
      | true =>
        rw [hkd] at h
        change fx_cv gk_mci call (pc + 3) f n lc stk mem = some zz at h
        have hkd2 : kd = 5 ∨ kd = 6 := by
          rw [Bool.or_eq_true] at hkd
          exact hkd.imp Nat.eq_of_beq_eq_true Nat.eq_of_beq_eq_true
        unfold fx_cv at h
        split at h
        · next as j r hpop =>
          split at h
          · next o hj =>
            cases hcn : (Nat.ble (fx_sum r) 8 && decide (gk_mci[f]? = some o.1)) with
            | false => rw [hcn] at h; exact fx_nos h
            | true =>
              rw [hcn] at h
              change fx_aft (pc + 3) lc r (call f (.ref j :: as) mem) = some zz at h
              rw [Bool.and_eq_true] at hcn
              have hsum := Nat.le_of_ble_eq_true hcn.1
              have hci := of_decide_eq_true hcn.2
              unfold fx_aft at h
              split at h
              · next x hcl1 =>
                obtain ⟨r9, mem9⟩ := x
                obtain rfl := Option.some.inj h
                obtain ⟨v2, rfl, rfl, hn⟩ := fx_pops_ok n hpop
                rw [List.append_nil] at hcl1
                obtain ⟨q, h1, h2, h3⟩ := fx_w_get hO hj
                obtain ⟨ci, vs⟩ := o
                have hw : (fx_w ps mem)[j]? = some (fx_ad ps j, .inr (ci, vs.map (fx_v ps))) := by rw [h2]; exact h3
                have hck1 := hck _ (rk_lk_mem hlk1)
                rw [← fx_sum_lm ps] at hsum
                have hstk : ((v2.reverse ++ .ref j :: r).map (fx_v ps)) = (v2.map (fx_v ps)).reverse ++ (.ref (fx_ad ps j) :: r.map (fx_v ps)) := by
                  rw [List.map_append, List.map_reverse]
                  rfl
                rw [hstk]
                have kk2 : ∀ (H' : Heap) (locs' : List Loc), fx_ok s ps mem9 → va_P D gk_cl (fx_w ps mem9) H' → va_D Ad (fx_w ps mem9) → va_S Ad s.heap H' locs' → rk_KW p l e R s m args below meth c Q (pc + 3) ls ((r9.map (fx_v ps)).toList ++ r.map (fx_v ps)) H' locs' 0 0 := fun H' locs' g1 g2 g3 g4 => by
                  have := kk H' locs' ls g1 g2 g3 g4 hl
                  cases r9 with
                  | none => exact this
                  | some v9 => exact this
                rcases hkd2 with rfl | rfl
                · obtain ⟨q, hq, w1, w2, w3, w4⟩ := hck1
                  obtain ⟨M', hM, hM21, hmet⟩ := hcall f _ _ _ _ hcl1 q hq
                  obtain ⟨m1, m2, m3, m4, m5, -⟩ := hmok f q M' hq hM
                  obtain ⟨kq, hkq, -⟩ := hP j _ hw
                  have hkn := hmci f ci q kq hci hq hkq
                  have hrecv := va_recv hK hP hkq hw
                  rw [hkn] at hrecv
                  refine fx_back (as := ((Value.ref j :: v2).map (fx_v ps)).toArray) hA hD hS ?_ kk2
                  exact va_runV (C := q.1) (As := v2.map (fx_v ps)) hfix (hmet ps H.size) ⟨callB_of n hts (rk_good hgw m4) rfl rfl rfl (hts _ m5) (hts _ w1) ⟨m3.1, m3.2, w4⟩ ⟨hfr, by show 8 + (M'.2.1 + 11) + 40 * (d + 4) ≤ R.locals; omega⟩, hts _ w2, hts _ w3⟩ ⟨fx_blind hxo, hrecv, fun U hU hW => fx_pre hXt hA hS hxo hxw hK hO hP hD U hU hW⟩ rfl (by rw [List.length_map]; exact hn) hl.1 rfl (lv_room hsum) hdg ⟨Nat.zero_le _, Nat.zero_le _⟩
                · obtain ⟨q, host, hq, w1, w2, w3, w4⟩ := hck1
                  obtain ⟨M', hM, hM21, hmet⟩ := hcall f _ _ _ _ hcl1 q hq
                  obtain ⟨m1, m2, m3, m4, m5, -⟩ := hmok f q M' hq hM
                  obtain ⟨kq, hkq, -⟩ := hP j _ hw
                  have hkn := hmci f ci q kq hci hq hkq
                  have hrecv := va_recv hK hP hkq hw
                  rw [hkn] at hrecv
                  refine fx_back (as := ((Value.ref j :: v2).map (fx_v ps)).toArray) hA hD hS ?_ kk2
                  exact va_runVN (C := q.1) (As := v2.map (fx_v ps)) hfix (hmet ps H.size) ⟨va_cnB n hts (rk_good hgw m4) rfl rfl rfl (hxw _ w1) (hts _ m5) ⟨m3.1, m3.2, w4⟩ ⟨hfr, by show 8 + (M'.2.1 + 11) + 40 * (d + 4) ≤ R.locals; omega⟩, hts _ w2, hts _ w3⟩ ⟨fx_blind hxo, hrecv, fun U hU hW => fx_pre hXt hA hS hxo hxw hK hO hP hD U hU hW⟩ rfl (by rw [List.length_map]; exact hn) hl.1 rfl (lv_room hsum) hdg ⟨Nat.zero_le _, Nat.zero_le _⟩
              · exact fx_nos h
          · next hj =>
            unfold fx_sv at h
            split at h
            · next v0 hv0 =>
              cases hcn : (Nat.ble (fx_sum r) 8 && Nat.beq j mem.length) with
              | false => rw [hcn] at h; exact fx_nos h
              | true =>
                rw [hcn] at h
                obtain rfl := Option.some.inj h
                rw [Bool.and_eq_true] at hcn
                have hsum := Nat.le_of_ble_eq_true hcn.1
                have hjm := Nat.eq_of_beq_eq_true hcn.2
                have hlast : j = ps.length - 1 := by rw [hO.1, hjm]; rfl
                subst hlast
                obtain ⟨v2, rfl, rfl, hn⟩ := fx_pops_ok n hpop
                rw [List.append_nil] at hv0
                have hck1 := hck _ (rk_lk_mem hlk1)
                rw [← fx_sum_lm ps] at hsum
                obtain ⟨v, tx, hX, -⟩ := hXt
                have hstk : ((v2.reverse ++ .ref (ps.length - 1) :: r).map (fx_v ps)) = (v2.map (fx_v ps)).reverse ++ (.ref (fx_ad ps (ps.length - 1)) :: r.map (fx_v ps)) := by
                  rw [List.map_append, List.map_reverse]
                  rfl
                rw [hstk]
                have hrec : ∃ cell : Cell, H[(fx_ad ps (ps.length - 1))]? = some cell ∧ cell.vm.isStatics = false ∧ s.vm.findClass "java/lang/String" = some cell.cls := by
                  obtain ⟨cell, h1, h2, h3, -⟩ := hX.1.kept hS.2.1
                  exact ⟨cell, h1, h2, h3⟩
                have hend : ∀ (H1 : Heap) (locs1 : List Loc), (∀ q : Nat, q < H.size → ¬ H.size ≤ q → H1[q]? = H[q]?) → va_S Ad s.heap H1 locs1 → rk_KW p l e R s m args below meth c Q (pc + 3) ls ((v0 :: r).map (fx_v ps)) H1 locs1 0 0 := fun H1 locs1 hk1 hS1 => kk H1 locs1 ls hO (hP.kept (fun k9 x9 hx9 => hk1 _ (hP k9 x9 hx9).lt (by have := (hP k9 x9 hx9).lt; omega))) hD hS1 hl
                unfold fx_sc at hv0
                split at hv0
                · cases hf : Nat.beq f 377 with
                  | false => rw [hf] at hv0; cases hv0
                  | true =>
                    rw [hf] at hv0
                    cases hv0
                    obtain rfl := Nat.eq_of_beq_eq_true hf
                    have hn0 : n = 0 := by rw [← hn]; rfl
                    subst hn0
                    rcases hkd2 with rfl | rfl
                    · obtain ⟨q, hq, w1, w2, w3, w4⟩ := hck1
                      obtain rfl : gk_N377 = q := Option.some.inj ((show gk_MN[377]? = some gk_N377 from rfl).symm.trans hq)
                      obtain ⟨m1, m2, m3, m4, m5, -⟩ := hmok 377 gk_N377 gk_m377 rfl rfl
                      refine va_calli (va_runV (C := "java/lang/String") (As := []) hfix (sk_length l (fx_ad ps (ps.length - 1)) v H.size) ⟨callB_of 0 hts (rk_good hgw m4) rfl rfl rfl (hts _ m5) (hts _ w1) ⟨m3.1, m3.2, w4⟩ ⟨by show 2 + 1 ≤ R.frames; omega, by show 8 + (1 + 11) + 80 ≤ R.locals; omega⟩, hts _ w2, hts _ w3⟩ ⟨sk_blind _ _ _ _, hrec, fun U hU hW => ⟨rfl, by rw [hU], sk_pre hX hS hA hU hW⟩⟩ rfl rfl hl.1 rfl (lv_room hsum) hdg ⟨Nat.zero_le _, Nat.zero_le _⟩) hS (fun q h1 h2 => absurd h2 (by omega)) (fun q h => hA q (Nat.le_trans hS.1 h)) (fun r0 u t H1 locs1 ht hvm hw hB hz1 hk1 hS1 => ?_)
                      subst hw
                      exact hend H1 locs1 hk1 hS1
                    · obtain ⟨q, host, hq, w1, -⟩ := hck1
                      obtain rfl : gk_N377 = q := Option.some.inj ((show gk_MN[377]? = some gk_N377 from rfl).symm.trans hq)
                      exact absurd rfl (fx_nn w1)
                · next x =>
                  cases hf : (Nat.beq f 378 && fx_in x sk_n) with
                  | false => rw [hf] at hv0; cases hv0
                  | true =>
                    rw [hf] at hv0
                    cases hv0
                    rw [Bool.and_eq_true] at hf
                    obtain rfl := Nat.eq_of_beq_eq_true hf.1
                    have hxi := fx_in_ok hf.2
                    have hn0 : n = 1 := by rw [← hn]; rfl
                    subst hn0
                    obtain ⟨k, hk, rfl⟩ := fx_in_nI hf.2
                    rcases hkd2 with rfl | rfl
                    · obtain ⟨q, hq, w1, w2, w3, w4⟩ := hck1
                      obtain rfl : gk_N378 = q := Option.some.inj ((show gk_MN[378]? = some gk_N378 from rfl).symm.trans hq)
                      obtain ⟨m1, m2, m3, m4, m5, -⟩ := hmok 378 gk_N378 gk_m378 rfl rfl
                      refine va_calli (va_runV (C := "java/lang/String") (As := [.int (nI k)]) hfix (sk_charAt l (fx_ad ps (ps.length - 1)) v H.size k hk) ⟨callB_of 1 hts (rk_good hgw m4) rfl rfl rfl (hts _ m5) (hts _ w1) ⟨m3.1, m3.2, w4⟩ ⟨by show 4 + 1 ≤ R.frames; omega, by show 8 + (2 + 11) + 160 ≤ R.locals; omega⟩, hts _ w2, hts _ w3⟩ ⟨sk_blind _ _ _ _, hrec, fun U hU hW => ⟨rfl, by rw [hU], sk_pre hX hS hA hU hW⟩⟩ rfl rfl hl.1 rfl (lv_room hsum) hdg ⟨Nat.zero_le _, Nat.zero_le _⟩) hS (fun q h1 h2 => absurd h2 (by omega)) (fun q h => hA q (Nat.le_trans hS.1 h)) (fun r0 u t H1 locs1 ht hvm hw hB hz1 hk1 hS1 => ?_)
                      subst hw
                      have h9 := hend H1 locs1 hk1 hS1
                      rw [nI_clamp (by have : sk_n = 117 := rfl; omega)] at h9
                      exact h9
                    · obtain ⟨q, host, hq, w1, -⟩ := hck1
                      obtain rfl : gk_N378 = q := Option.some.inj ((show gk_MN[378]? = some gk_N378 from rfl).symm.trans hq)
                      exact absurd rfl (fx_nn w1)
                · cases hv0
            · exact fx_nos h
          · exact fx_nos h
        · exact fx_nos h
    · exact fx_nos h
  case ldc idx =>
    simp [rk_len] at hlen; subst hlen
    change fx_lds gk_fty M pc idx lc stk mem = some zz at h
    unfold fx_lds at h
    split at h
    · next hc0 =>
      cases hf : (Nat.beq idx 189 && Nat.beq M.2.2.2.2.2 12) with
      | false => rw [hf] at h; exact fx_nos h
      | true =>
        rw [hf] at h
        obtain rfl := Option.some.inj h
        rw [Bool.and_eq_true] at hf
        obtain rfl := Nat.eq_of_beq_eq_true hf.1
        obtain rfl := htx (Nat.eq_of_beq_eq_true hf.2)
        obtain ⟨v, tx, -, hR9⟩ := hXt
        refine va_ldcS hx hb hown hR9 hdg ?_
        have h9 := kk H locs ls hO hP hD hS hl
        have hlast : mem.length = ps.length - 1 := by rw [hO.1]; rfl
        rw [List.map_cons, hlast] at h9
        exact h9
    · exact hbase h
  case invokestatic idx =>
    change (match rk_lk M.2.2.1 idx with
      | some q => cond (Nat.beq q.1 7 || Nat.beq q.1 8) (fx_cs call (pc + 3) q.2.1 q.2.2 lc stk mem) (fx_mem gk_fty M pc (.invokestatic idx) lc stk mem)
      | none => none) = some zz at h
    split at h
    · next q9 hlk1 =>
      obtain ⟨kd, f, n⟩ := q9
      cases hkd : (Nat.beq kd 7 || Nat.beq kd 8) with
      | false => rw [hkd] at h; exact hbase h
      | true =>
        simp [rk_len] at hlen; subst hlen
        rw [hkd] at h
        change fx_cs call (pc + 3) f n lc stk mem = some zz at h
        have hkd2 : kd = 7 ∨ kd = 8 := by
          rw [Bool.or_eq_true] at hkd
          exact hkd.imp Nat.eq_of_beq_eq_true Nat.eq_of_beq_eq_true
        unfold fx_cs at h
        split at h
        · next as r hpop =>
          cases hcn : Nat.ble (fx_sum r) 8 with
          | false => rw [hcn] at h; exact fx_nos h
          | true =>
            rw [hcn] at h
            change fx_aft (pc + 3) lc r (call f as mem) = some zz at h
            have hsum := Nat.le_of_ble_eq_true hcn
            unfold fx_aft at h
            split at h
            · next x hcl1 =>
              obtain ⟨r9, mem9⟩ := x
              obtain rfl := Option.some.inj h
              obtain ⟨v2, rfl, rfl, hn⟩ := fx_pops_ok n hpop
              rw [List.append_nil] at hcl1
              have hck1 := hck _ (rk_lk_mem hlk1)
              rw [← fx_sum_lm ps] at hsum
              have hstk : ((v2.reverse ++ r).map (fx_v ps)) = (v2.map (fx_v ps)).reverse ++ r.map (fx_v ps) := by
                rw [List.map_append, List.map_reverse]
              rw [hstk]
              have kk2 : ∀ (H' : Heap) (locs' : List Loc), fx_ok s ps mem9 → va_P D gk_cl (fx_w ps mem9) H' → va_D Ad (fx_w ps mem9) → va_S Ad s.heap H' locs' → rk_KW p l e R s m args below meth c Q (pc + 3) ls ((r9.map (fx_v ps)).toList ++ r.map (fx_v ps)) H' locs' 0 0 := fun H' locs' g1 g2 g3 g4 => by
                have := kk H' locs' ls g1 g2 g3 g4 hl
                cases r9 with
                | none => exact this
                | some v9 => exact this
              rcases hkd2 with rfl | rfl
              · obtain ⟨q, hq, w1, w2, w4⟩ := hck1
                obtain ⟨M', hM, hM21, hmet⟩ := hcall f _ _ _ _ hcl1 q hq
                obtain ⟨m1, m2, m3, m4, m5, -⟩ := hmok f q M' hq hM
                refine fx_back (as := (v2.map (fx_v ps)).toArray) hA hD hS ?_ kk2
                exact va_runS (As := v2.map (fx_v ps)) hfix (hmet ps H.size) ⟨callB_of n hts (rk_good hgw m4) rfl rfl rfl (hts _ m5) (hts _ w1) ⟨m3.1, m3.2, w4⟩ ⟨hfr, by show 8 + (M'.2.1 + 11) + 40 * (d + 4) ≤ R.locals; omega⟩, hts _ w2⟩ ⟨fx_blind hxo, fun U hU hW => fx_pre hXt hA hS hxo hxw hK hO hP hD U hU hW⟩ rfl (by rw [List.length_map]; exact hn) hl.1 rfl (lv_room hsum) hdg ⟨Nat.zero_le _, Nat.zero_le _⟩
              · obtain ⟨q, host, hq, w1, w2, w4⟩ := hck1
                obtain ⟨M', hM, hM21, hmet⟩ := hcall f _ _ _ _ hcl1 q hq
                obtain ⟨m1, m2, m3, m4, m5, -⟩ := hmok f q M' hq hM
                refine fx_back (as := (v2.map (fx_v ps)).toArray) hA hD hS ?_ kk2
                exact va_runSN (As := v2.map (fx_v ps)) hfix (hmet ps H.size) ⟨va_cnB n hts (rk_good hgw m4) rfl rfl rfl (hxw _ w1) (hts _ m5) ⟨m3.1, m3.2, w4⟩ ⟨hfr, by show 8 + (M'.2.1 + 11) + 40 * (d + 4) ≤ R.locals; omega⟩, hts _ w2, trivial⟩ ⟨fx_blind hxo, fun U hU hW => fx_pre hXt hA hS hxo hxw hK hO hP hD U hU hW⟩ rfl (by rw [List.length_map]; exact hn) hl.1 rfl (lv_room hsum) hdg ⟨Nat.zero_le _, Nat.zero_le _⟩
            · exact fx_nos h
        · exact fx_nos h
    · exact fx_nos h
  all_goals exact hbase h
/-- a run that ends: so does the machine -/
theorem fx_run_ok {ps : fx_P} (hXt : fx_xt ps Ad s s.heap) (hok : rk_ok gk_tbl gk_xw gk_cl gk_fty gk_cln gk_MN gk_mci gk_P) {M : rk_M2} (htx : M.2.2.2.2.2 = 12 → own = "GooseIceModel") (hx : p.tables.exec = Jvm.exec) (hb : c.code = cc) (hlocks : meth.locks = false) (hr : meth.sig.returnType = M.2.2.2.2.1) (hml : c.maxLocals = M.2.1) (hins : ∀ r ∈ M.1, decode cc r.1 = .ok r.2) (hF : rk_Fr s m args meth D gk_cl Ad gk_tbl gk_xw gk_fty gk_cln own M.2.2.1 M.2.2.2.1) (hck : ∀ r ∈ M.2.2.1, rk_cok gk_tbl gk_xw gk_MN gk_P own r) {d : Nat} {call : fx_Ca} (hcall : fx_SC l D d call) (hfr : d + 5 ≤ R.frames) (hlo : 40 * (d + 5) ≤ R.locals) {rr : Option Value} {memE : fx_M} : ∀ (n pc : Nat) (lc : fx_L) (stk : List Value) (mem : fx_M), fx_run call gk_fty gk_mci M n pc lc stk mem = some (rr, memE) → fx_ok s ps mem → ∀ (H : Heap) (locs : List Loc) (ls : Array Slot), va_P D gk_cl (fx_w ps mem) H → va_D Ad (fx_w ps mem) → va_S Ad s.heap H locs → lv_has ls M.2.1 (fx_lm ps lc) → rk_KW p l e R s m args below meth c (MQ below (fx_Post D ps memE rr Ad) args s R.cells R.slots Ad) pc ls (stk.map (fx_v ps)) H locs 0 0 := by
  intro n
  induction n with
  | zero => intro pc lc stk mem h; exact fx_nos h
  | succ n ih =>
    intro pc lc stk mem h hO H locs ls hP hD hS hl
    unfold fx_run at h
    split at h
    · exact fx_nos h
    · next q hat =>
      obtain ⟨hmem, hpc⟩ := tk_at_ok hat
      obtain ⟨pc9, ins, len⟩ := q
      dsimp only at hpc
      subst hpc
      cases hlen : rk_len ins len with
      | false => dsimp only at h; rw [hlen] at h; exact fx_nos h
      | true =>
        dsimp only at h
        rw [hlen] at h
        dsimp only [cond] at h
        have hdg : decode cc pc9 = .ok (ins, len) := hins (pc9, ins, len) hmem
        have hpost : ∀ (v : Option Value), v = rr → mem = memE → ∀ t : State, t.heap = H → s.WarmedH t.vm → fx_Post D ps memE rr Ad args s (.returned (v.map (fx_v ps))) t := fun v e1 e2 t ht hW => by
          subst e1 e2
          exact ⟨⟨rfl, fx_ok_moved hW.alike hO, by rw [ht]; exact hP, hD⟩, hS.F ht⟩
        split at h
        · next v hend =>
          cases h
          refine W.widen (k := R.cells) (n := R.slots) (Nat.zero_le _) (Nat.zero_le _) ?_
          unfold fx_end at hend
          split at hend
          · split at hend
            · next h1 h2 =>
              cases hend
              simp [rk_len] at hlen; subst hlen
              exact W.vret hx hb (by rw [hr]; exact h2) (hpost none rfl rfl) hS.2.2 hdg
            · cases hend
          · split at hend
            · next x ty h2 =>
              cases hvt : fx_vt ty (.int x) with
              | false => rw [hvt] at hend; cases hend
              | true =>
                rw [hvt] at hend
                cases hend
                simp [rk_len] at hlen; subst hlen
                obtain ⟨-, hnr, hfi⟩ := fx_vt_ok (ps := ps) hvt
                have hrt : meth.sig.returnType = some ty := by rw [hr]; exact h2
                cases ty
                case int => exact W.iret hx hb hrt (hpost (some (.int x)) rfl rfl) hS.2.2 hdg
                case boolean => exact W.zret (ty := .boolean) hx hb hrt hnr (hpost (some (.int x)) rfl rfl) hS.2.2 hdg
                all_goals cases hvt
            · cases hend
          · split at hend
            · next x h2 =>
              cases hend
              simp [rk_len] at hlen; subst hlen
              exact W.lret hx hb (by rw [hr]; exact h2) (hpost (some (.long x)) rfl rfl) hS.2.2 hdg
            · cases hend
          · cases hend
        · exact fx_nos h
        · split at h
          · next z hz =>
            exact fx_step_ok hXt hok htx hx hb hml hF hck hcall hfr hlo hdg hlen hz hO hP hD hS hl (fun H' locs' ls' g1 g2 g3 g4 g5 => ih _ _ _ _ h g1 H' locs' ls' g2 g3 g4 g5)
          · exact fx_nos h
end FXB
section FXC
variable {l : Launch} {D : va_G}
set_option maxHeartbeats 4000000 in
theorem fx_call_ok (hok : rk_ok gk_tbl gk_xw gk_cl gk_fty gk_cln gk_MN gk_mci gk_P) (N : Nat) : ∀ d : Nat, fx_SC l D d (fx_call gk_fty gk_mci gk_P N d) := by
  intro d
  induction d with
  | zero => intro f as mem mem' r h; exact fx_nos h
  | succ d ih =>
    intro f as mem mem' r h q hq
    unfold fx_call at h
    split at h
    · exact fx_nos h
    · next M hM =>
      cases hc : (Nat.ble M.2.1 21 && Nat.ble (fx_sum as) M.2.1) with
      | false => rw [hc] at h; exact fx_nos h
      | true =>
        rw [hc] at h
        dsimp only [cond] at h
        rw [Bool.and_eq_true] at hc
        have hc1 := Nat.le_of_ble_eq_true hc.1
        have hc2 := Nat.le_of_ble_eq_true hc.2
        refine ⟨M, hM, hc1, fun ps sz => ?_⟩
        obtain ⟨hgw, hxo, hcl, hac, hlenM, hmok, hmci⟩ := id hok
        obtain ⟨m1, m2, m3, m4, m5, m6, m7, m8, m9⟩ := hmok f q M hq hM
        refine Met.ofW (cc := q.2.2) (maxL := M.2.1) (ret := M.2.2.2.2.1) m1 rfl ?_
        intro p e s m args below meth c s₁ B hml hv
        obtain ⟨rfl, hsz, hP, hK, hD0, hO, hxw, hXt⟩ := hv
        have hts0 := atoms_spec (ws := Jvm.Cond.code q.2.1 q.2.2 M.2.1 M.2.2.2.2.1 :: gk_tbl) B.pre
        have hts : ∀ w ∈ gk_tbl, w.before (as.map (fx_v ps)).toArray s = true := fun w hw => hts0 w (List.mem_cons_of_mem _ hw)
        have hown : s.vm.findClass q.1 = some m.cls := by rw [← m2]; exact findClass_of_methodNamed B.named
        have hnm : meth.name = q.2.1.name := (name_of_methodNamed B.named B.method).1
        subst hsz
        have hF : rk_Fr s m (as.map (fx_v ps)).toArray meth D gk_cl (va_A (fx_w ps mem) s.heap.size) gk_tbl gk_xw gk_fty gk_cln q.1 M.2.2.1 M.2.2.2.1 := ⟨hts, hxw, hown, hK, fun z hz => Or.inr hz, hcl, fun r hr => (m7 r hr).1, fun hz => by rw [hnm]; exact m8 hz, hac, m9⟩
        have key := fx_run_ok hXt (l := l) (p := p) (e := e) (R := (headSpec (Jvm.Cond.code q.2.1 q.2.2 M.2.1 M.2.2.2.2.1 :: gk_tbl) { frames := d + 1 + 4, cells := 0, slots := 0, locals := 40 * (d + 1 + 4) }).room) (below := below) (ps := ps) (rr := r) (memE := mem') hok (fx_tx hM hq) B.exec B.bytes B.notSynchronized B.returns hml m6 hF (fun r hr => (m7 r hr).2.1) ih (Nat.le_refl _) (Nat.le_refl _) N 0 (lv_args 0 as) [] mem h hO
        have hlen : (lg_sl (as.map (fx_v ps))).length ≤ M.2.1 := by
          rw [rk_lgsl, fx_sum_lm]
          exact hc2
        have hl := lv_entry (as.map (fx_v ps)) (n := M.2.1) hlen
        rw [lg_entry_eq]
        exact key s.heap [] _ hP hD0.self va_S.rf (by rw [fx_args_lm]; exact hl)
end FXC
end MH39_0
section MH39_1
/-! ===== fx: single steps of a run, where something must be shown ===== -/
section FXS
variable {call : fx_Ca} {fty : rk_F} {mci : List Nat} {M : rk_M2}
theorem fx_one {n pc : Nat} {ins : Instr} {len : Nat} {lc : fx_L} {stk : List Value} {mem : fx_M} {z : Nat × fx_L × List Value × fx_M} (hat : tk_at M.1 pc = some (pc, ins, len)) (hl : rk_len ins len = true) (he : fx_end M.2.2.2.2.1 ins stk = none) (hs : fx_step call fty mci M pc ins lc stk mem = some z) : fx_run call fty mci M (n + 1) pc lc stk mem = fx_run call fty mci M n z.1 z.2.1 z.2.2.1 z.2.2.2 := by
  conv => lhs; unfold fx_run
  rw [hat]
  dsimp only
  rw [hl, he, hs]
  rfl
theorem fx_ldI {n pc : Nat} {i : Int32} {j len : Nat} {f : Nat → Int32} {lc : fx_L} {r : List Value} {mem : fx_M} (hat : tk_at M.1 pc = some (pc, .iaload, 1)) (hj : mem[j]? = some (.inr (.int, len, .inl f))) (hin : fx_in i len = true) : fx_run call fty mci M (n + 1) pc lc (.int i :: .ref j :: r) mem = fx_run call fty mci M n (pc + 1) lc (.int (f i.toNatClampNeg) :: r) mem :=
  fx_one (z := (pc + 1, lc, .int (f i.toNatClampNeg) :: r, mem)) hat rfl rfl (by
    show fx_ia (pc + 1) lc (.int i :: .ref j :: r) mem = _
    unfold fx_ia
    dsimp only
    rw [hj]
    dsimp only
    rw [hin]
    rfl)
theorem fx_ldB {n pc : Nat} {i : Int32} {j len : Nat} {f : Nat → Int32} {lc : fx_L} {r : List Value} {mem : fx_M} (hat : tk_at M.1 pc = some (pc, .baload, 1)) (hj : mem[j]? = some (.inr (.byte, len, .inl f))) (hin : fx_in i len = true) : fx_run call fty mci M (n + 1) pc lc (.int i :: .ref j :: r) mem = fx_run call fty mci M n (pc + 1) lc (.int (f i.toNatClampNeg) :: r) mem :=
  fx_one (z := (pc + 1, lc, .int (f i.toNatClampNeg) :: r, mem)) hat rfl rfl (by
    show fx_ba (pc + 1) lc (.int i :: .ref j :: r) mem = _
    unfold fx_ba
    dsimp only
    rw [hj]
    dsimp only
    rw [hin]
    rfl)
theorem fx_ldL {n pc : Nat} {i : Int32} {j len : Nat} {f : Nat → Int64} {lc : fx_L} {r : List Value} {mem : fx_M} (hat : tk_at M.1 pc = some (pc, .laload, 1)) (hj : mem[j]? = some (.inr (.long, len, .inr (.inl f)))) (hin : fx_in i len = true) : fx_run call fty mci M (n + 1) pc lc (.int i :: .ref j :: r) mem = fx_run call fty mci M n (pc + 1) lc (.long (f i.toNatClampNeg) :: r) mem :=
  fx_one (z := (pc + 1, lc, .long (f i.toNatClampNeg) :: r, mem)) hat rfl rfl (by
    show fx_la (pc + 1) lc (.int i :: .ref j :: r) mem = _
    unfold fx_la
    dsimp only
    rw [hj]
    dsimp only
    rw [hin]
    rfl)
theorem fx_stI {n pc : Nat} {i v : Int32} {j len : Nat} {f : Nat → Int32} {lc : fx_L} {r : List Value} {mem mem' : fx_M} (hat : tk_at M.1 pc = some (pc, .iastore, 1)) (hj : mem[j]? = some (.inr (.int, len, .inl f))) (hin : fx_in i len = true) (hm : mem.set j (.inr (.int, len, .inl (upd f i.toNatClampNeg v))) = mem') : fx_run call fty mci M (n + 1) pc lc (.int v :: .int i :: .ref j :: r) mem = fx_run call fty mci M n (pc + 1) lc r mem' :=
  fx_one (z := (pc + 1, lc, r, mem')) hat rfl rfl (by
    show fx_is (pc + 1) lc (.int v :: .int i :: .ref j :: r) mem = _
    unfold fx_is
    dsimp only
    rw [hj]
    dsimp only
    rw [hin, hm]
    rfl)
theorem fx_stB {n pc : Nat} {i v : Int32} {j len : Nat} {f : Nat → Int32} {lc : fx_L} {r : List Value} {mem mem' : fx_M} (hat : tk_at M.1 pc = some (pc, .bastore, 1)) (hj : mem[j]? = some (.inr (.byte, len, .inl f))) (hin : fx_in i len = true) (hm : mem.set j (.inr (.byte, len, .inl (upd f i.toNatClampNeg v.toInt8.toInt32))) = mem') : fx_run call fty mci M (n + 1) pc lc (.int v :: .int i :: .ref j :: r) mem = fx_run call fty mci M n (pc + 1) lc r mem' :=
  fx_one (z := (pc + 1, lc, r, mem')) hat rfl rfl (by
    show fx_bs (pc + 1) lc (.int v :: .int i :: .ref j :: r) mem = _
    unfold fx_bs
    dsimp only
    rw [hj]
    dsimp only
    rw [hin, hm]
    rfl)
theorem fx_stL {n pc : Nat} {i : Int32} {v : Int64} {j len : Nat} {f : Nat → Int64} {lc : fx_L} {r : List Value} {mem mem' : fx_M} (hat : tk_at M.1 pc = some (pc, .lastore, 1)) (hj : mem[j]? = some (.inr (.long, len, .inr (.inl f)))) (hin : fx_in i len = true) (hm : mem.set j (.inr (.long, len, .inr (.inl (vp_updL f i.toNatClampNeg v)))) = mem') : fx_run call fty mci M (n + 1) pc lc (.long v :: .int i :: .ref j :: r) mem = fx_run call fty mci M n (pc + 1) lc r mem' :=
  fx_one (z := (pc + 1, lc, r, mem')) hat rfl rfl (by
    show fx_ls (pc + 1) lc (.long v :: .int i :: .ref j :: r) mem = _
    unfold fx_ls
    dsimp only
    rw [hj]
    dsimp only
    rw [hin, hm]
    rfl)
theorem fx_ivV {n pc idx kd f k j : Nat} {o : Nat × List Value} {lc : fx_L} {stk as r : List Value} {v : Option Value} {mem mem' : fx_M} (hat : tk_at M.1 pc = some (pc, .invokevirtual idx, 3)) (hlk : rk_lk M.2.2.1 idx = some (kd, f, k)) (hkd : (Nat.beq kd 5 || Nat.beq kd 6) = true) (hpop : fx_pops k [] stk = some (as, .ref j :: r)) (hj : mem[j]? = some (.inl o)) (hsum : (Nat.ble (fx_sum r) 8 && decide (mci[f]? = some o.1)) = true) (hc : call f (.ref j :: as) mem = some (v, mem')) : fx_run call fty mci M (n + 1) pc lc stk mem = fx_run call fty mci M n (pc + 3) lc (v.toList ++ r) mem' :=
  fx_one (z := (pc + 3, lc, v.toList ++ r, mem')) hat rfl rfl (by
    show (match rk_lk M.2.2.1 idx with
      | some q => cond (Nat.beq q.1 5 || Nat.beq q.1 6) (fx_cv mci call (pc + 3) q.2.1 q.2.2 lc stk mem) none
      | none => none) = _
    rw [hlk]
    dsimp only
    rw [hkd]
    show fx_cv mci call (pc + 3) f k lc stk mem = _
    unfold fx_cv
    rw [hpop]
    dsimp only
    rw [hj]
    dsimp only
    rw [hsum, hc]
    rfl)
theorem fx_ivS {n pc idx kd f k : Nat} {lc : fx_L} {stk as r : List Value} {v : Option Value} {mem mem' : fx_M} (hat : tk_at M.1 pc = some (pc, .invokestatic idx, 3)) (hlk : rk_lk M.2.2.1 idx = some (kd, f, k)) (hkd : (Nat.beq kd 7 || Nat.beq kd 8) = true) (hpop : fx_pops k [] stk = some (as, r)) (hsum : Nat.ble (fx_sum r) 8 = true) (hc : call f as mem = some (v, mem')) : fx_run call fty mci M (n + 1) pc lc stk mem = fx_run call fty mci M n (pc + 3) lc (v.toList ++ r) mem' :=
  fx_one (z := (pc + 3, lc, v.toList ++ r, mem')) hat rfl rfl (by
    show (match rk_lk M.2.2.1 idx with
      | some q => cond (Nat.beq q.1 7 || Nat.beq q.1 8) (fx_cs call (pc + 3) q.2.1 q.2.2 lc stk mem) (fx_mem fty M pc (.invokestatic idx) lc stk mem)
      | none => none) = _
    rw [hlk]
    dsimp only
    rw [hkd]
    show fx_cs call (pc + 3) f k lc stk mem = _
    unfold fx_cs
    rw [hpop]
    dsimp only
    rw [hsum, hc]
    rfl)
end FXS
theorem fx_in_of {i : Int32} {n : Nat} (h1 : 0 ≤ i.toInt) (h2 : i.toInt < (n : Int)) : fx_in i n = true := by
  unfold fx_in
  rw [decide_eq_true h1, decide_eq_true h2]
  rfl
theorem fx_inN {i n : Nat} (h : i < n) (hn : n < 2 ^ 31) : fx_in (nI i) n = true := fx_in_of (by rw [nI_toInt (by omega)]; omega) (by rw [nI_toInt (by omega)]; omega)
end MH39_1
section MH39_2
/-! ===== fx: locals that are not looked at ===== -/
def fx_sub : fx_L → fx_L → Prop
  | [], _ => True
  | q :: r, l => fx_get l q.1 = some q.2 ∧ fx_sub r l
def fx_nd (l : fx_L) : Prop := (l.map Prod.fst).Nodup
def fx_le (l l' : fx_L) : Prop := (∀ i v, fx_get l i = some v → fx_get l' i = some v) ∧ fx_nd l ∧ fx_nd l'
theorem fx_sub_ok {l' : fx_L} : ∀ {l : fx_L}, fx_sub l l' → ∀ i v, fx_get l i = some v → fx_get l' i = some v := by
  intro l
  induction l with
  | nil => intro _ i v h; cases h
  | cons q r ih =>
    intro hs i v h
    unfold fx_get at h
    cases hb : Nat.beq q.1 i with
    | true =>
      rw [hb] at h
      obtain rfl := Option.some.inj (show some q.2 = some v from h)
      rw [← Nat.eq_of_beq_eq_true hb]
      exact hs.1
    | false =>
      rw [hb] at h
      exact ih hs.2 i v h
theorem fx_get_mem {i : Nat} {v : Value} : ∀ {l : fx_L}, fx_get l i = some v → (i, v) ∈ l := by
  intro l
  induction l with
  | nil => intro h; cases h
  | cons q r ih =>
    intro h
    unfold fx_get at h
    cases hb : Nat.beq q.1 i with
    | true =>
      rw [hb] at h
      obtain rfl := Option.some.inj (show some q.2 = some v from h)
      rw [← Nat.eq_of_beq_eq_true hb]
      exact List.mem_cons_self
    | false =>
      rw [hb] at h
      exact List.mem_cons_of_mem _ (ih h)
theorem fx_get_nd {i : Nat} {v : Value} : ∀ {l : fx_L}, fx_nd l → (i, v) ∈ l → fx_get l i = some v := by
  intro l
  induction l with
  | nil => intro _ h; cases h
  | cons q r ih =>
    intro hn h
    have hn2 := List.nodup_cons.mp (show (q.1 :: r.map Prod.fst).Nodup from hn)
    unfold fx_get
    rcases List.mem_cons.mp h with rfl | h
    · rw [show Nat.beq i i = true from Nat.beq_refl i]
      rfl
    · have hne : Nat.beq q.1 i = false := by
        cases hb : Nat.beq q.1 i with
        | false => rfl
        | true =>
          exfalso
          apply hn2.1
          rw [Nat.eq_of_beq_eq_true hb]
          exact List.mem_map.mpr ⟨(i, v), h, rfl⟩
      rw [hne]
      exact ih hn2.2 h
theorem fx_nd_filter {p : Nat × Value → Bool} {l : fx_L} (h : fx_nd l) : fx_nd (l.filter p) := by
  unfold fx_nd at h ⊢
  exact (List.filter_sublist.map Prod.fst).nodup h
theorem fx_le_put {l l' : fx_L} (h : fx_le l l') (i : Nat) (v : Value) (p : Nat × Value → Bool) (hp : ∀ q, p q = true → ¬ q.1 = i) : fx_le ((i, v) :: l.filter p) ((i, v) :: l'.filter p) := by
  obtain ⟨h1, h2, h3⟩ := h
  have hnd : ∀ k : fx_L, fx_nd k → fx_nd ((i, v) :: k.filter p) := fun k hk => by
    show (i :: (k.filter p).map Prod.fst).Nodup
    refine List.nodup_cons.mpr ⟨fun hm => ?_, fx_nd_filter hk⟩
    obtain ⟨q, hq, e⟩ := List.mem_map.mp hm
    exact hp q (List.mem_filter.mp hq).2 e
  refine ⟨fun j w hj => ?_, hnd l h2, hnd l' h3⟩
  rcases List.mem_cons.mp (fx_get_mem hj) with e | hm
  · exact fx_get_nd (hnd l' h3) (by rw [e]; exact List.mem_cons_self)
  · obtain ⟨m1, m2⟩ := List.mem_filter.mp hm
    exact fx_get_nd (hnd l' h3) (List.mem_cons_of_mem _ (List.mem_filter.mpr ⟨fx_get_mem (h1 j w (fx_get_nd h2 m1)), m2⟩))
theorem fx_le_st1 {l l' : fx_L} (h : fx_le l l') (i : Nat) (v : Value) : fx_le (fx_st1 l i v) (fx_st1 l' i v) := fx_le_put h i v _ (fun q hq e => by
  rw [Bool.and_eq_true, Bool.not_eq_true', beq_eq_false_iff_ne] at hq
  exact hq.1 e)
theorem fx_le_st2 {l l' : fx_L} (h : fx_le l l') (i : Nat) (v : Value) : fx_le (fx_st2 l i v) (fx_st2 l' i v) := fx_le_put h i v _ (fun q hq e => by
  rw [Bool.and_eq_true, Bool.not_eq_true', beq_eq_false_iff_ne] at hq
  exact hq.1 e)
/-- the step of one, a step of the other -/
def fx_sw (x y : fx_R) : Prop := ∀ z, x = some z → ∃ l', y = some (z.1, l', z.2.2) ∧ fx_le z.2.1 l'
def fx_sw4 (x y : fx_R4) : Prop := ∀ z, x = some z → ∃ l', y = some (z.1, l', z.2.2.1, z.2.2.2) ∧ fx_le z.2.1 l'
section FXW
variable {l l' : fx_L} {stk : List Value} {mem : fx_M}
theorem fx_w_ld (h : fx_le l l') (pc k kd : Nat) : fx_sw (fx_f_ld pc k kd l stk) (fx_f_ld pc k kd l' stk) := by
  intro z hz
  unfold fx_f_ld at hz
  split at hz
  · next v hv =>
    obtain ⟨hk, rfl⟩ := fx_if_inv hz
    refine ⟨l', ?_, h⟩
    unfold fx_f_ld
    rw [h.1 _ _ hv]
    dsimp only
    rw [hk]
    rfl
  · cases hz
theorem fx_w_st (h : fx_le l l') (nL pc k kd : Nat) : fx_sw (fx_f_st nL pc k kd l stk) (fx_f_st nL pc k kd l' stk) := by
  intro z hz
  unfold fx_f_st at hz
  split at hz
  · next v r =>
    obtain ⟨hk, rfl⟩ := fx_if_inv hz
    refine ⟨fx_st1 l' k v, ?_, fx_le_st1 h k v⟩
    show cond _ _ _ = _
    rw [hk]
    rfl
  · cases hz
theorem fx_w_st2 (h : fx_le l l') (nL pc k : Nat) : fx_sw (fx_f_st2 nL pc k l stk) (fx_f_st2 nL pc k l' stk) := by
  intro z hz
  unfold fx_f_st2 at hz
  split at hz
  · next v r =>
    obtain ⟨hk, rfl⟩ := fx_if_inv hz
    refine ⟨fx_st2 l' k v, ?_, fx_le_st2 h k v⟩
    show cond _ _ _ = _
    rw [hk]
    rfl
  · cases hz
theorem fx_w_inc (h : fx_le l l') (nL pc i : Nat) (n : Int) : fx_sw (fx_f_inc nL pc i n l stk) (fx_f_inc nL pc i n l' stk) := by
  intro z hz
  unfold fx_f_inc at hz
  split at hz
  · next x hv =>
    obtain ⟨hk, rfl⟩ := fx_if_inv hz
    refine ⟨_, ?_, fx_le_st1 h i _⟩
    unfold fx_f_inc
    rw [h.1 _ _ hv]
    dsimp only
    rw [hk]
    rfl
  · cases hz
theorem fx_w_fx_bi (h : fx_le l l') (f : Int32 → Int32 → Int32) (pc : Nat) : fx_sw (fx_bi f pc l stk) (fx_bi f pc l' stk) := by
  intro z hz
  unfold fx_bi at hz
  split at hz
  · cases hz
    exact ⟨l', rfl, h⟩
  · cases hz
theorem fx_w_fx_bl (h : fx_le l l') (f : Int64 → Int64 → Int64) (pc : Nat) : fx_sw (fx_bl f pc l stk) (fx_bl f pc l' stk) := by
  intro z hz
  unfold fx_bl at hz
  split at hz
  · cases hz
    exact ⟨l', rfl, h⟩
  · cases hz
theorem fx_w_fx_sh (h : fx_le l l') (f : Int64 → Int32 → Int64) (pc : Nat) : fx_sw (fx_sh f pc l stk) (fx_sh f pc l' stk) := by
  intro z hz
  unfold fx_sh at hz
  split at hz
  · cases hz
    exact ⟨l', rfl, h⟩
  · cases hz
theorem fx_w_fx_ui (h : fx_le l l') (f : Int32 → Value) (pc : Nat) : fx_sw (fx_ui f pc l stk) (fx_ui f pc l' stk) := by
  intro z hz
  unfold fx_ui at hz
  split at hz
  · cases hz
    exact ⟨l', rfl, h⟩
  · cases hz
theorem fx_w_fx_ul (h : fx_le l l') (f : Int64 → Value) (pc : Nat) : fx_sw (fx_ul f pc l stk) (fx_ul f pc l' stk) := by
  intro z hz
  unfold fx_ul at hz
  split at hz
  · cases hz
    exact ⟨l', rfl, h⟩
  · cases hz
theorem fx_w_fx_lcmp (h : fx_le l l') (pc : Nat) : fx_sw (fx_lcmp pc l stk) (fx_lcmp pc l' stk) := by
  intro z hz
  unfold fx_lcmp at hz
  split at hz
  · cases hz
    exact ⟨l', rfl, h⟩
  · cases hz
theorem fx_w_fx_bz (h : fx_le l l') (f : Int32 → Int32 → Int32) (pc : Nat) : fx_sw (fx_bz f pc l stk) (fx_bz f pc l' stk) := by
  intro z hz
  unfold fx_bz at hz
  split at hz
  · split at hz
    · cases hz
    · next hne =>
      cases hz
      refine ⟨l', ?_, h⟩
      show (if _ then _ else _) = _
      rw [if_neg hne]
  · cases hz
theorem fx_w_fx_blz (h : fx_le l l') (f : Int64 → Int64 → Int64) (pc : Nat) : fx_sw (fx_blz f pc l stk) (fx_blz f pc l' stk) := by
  intro z hz
  unfold fx_blz at hz
  split at hz
  · split at hz
    · cases hz
    · next hne =>
      cases hz
      refine ⟨l', ?_, h⟩
      show (if _ then _ else _) = _
      rw [if_neg hne]
  · cases hz
theorem fx_w_fx_dup (h : fx_le l l') (pc : Nat) : fx_sw (fx_dup pc l stk) (fx_dup pc l' stk) := by
  intro z hz
  unfold fx_dup at hz
  split at hz
  · obtain ⟨hk, rfl⟩ := fx_if_inv hz
    refine ⟨l', ?_, h⟩
    show cond _ _ _ = _
    rw [hk]
    rfl
  · cases hz
theorem fx_w_fx_pop (h : fx_le l l') (pc k : Nat) : fx_sw (fx_pop pc k l stk) (fx_pop pc k l' stk) := by
  intro z hz
  unfold fx_pop at hz
  split at hz
  · obtain ⟨hk, rfl⟩ := fx_if_inv hz
    refine ⟨l', ?_, h⟩
    show cond _ _ _ = _
    rw [hk]
    rfl
  · cases hz
theorem fx_w_fx_if (h : fx_le l l') (c : ClassFile.Cond) (pc : Nat) (off : Int) : fx_sw (fx_if c pc off l stk) (fx_if c pc off l' stk) := by
  intro z hz
  unfold fx_if at hz
  split at hz
  · obtain ⟨hk, rfl⟩ := fx_if_inv hz
    refine ⟨l', ?_, h⟩
    show cond _ _ _ = _
    rw [hk]
    rfl
  · cases hz
theorem fx_w_fx_if0 (h : fx_le l l') (c : ClassFile.Cond) (pc : Nat) (off : Int) : fx_sw (fx_if0 c pc off l stk) (fx_if0 c pc off l' stk) := by
  intro z hz
  unfold fx_if0 at hz
  split at hz
  · obtain ⟨hk, rfl⟩ := fx_if_inv hz
    refine ⟨l', ?_, h⟩
    show cond _ _ _ = _
    rw [hk]
    rfl
  · cases hz
theorem fx_w_goto (h : fx_le l l') (pc : Nat) (off : Int) : fx_sw (fx_goto pc off l stk) (fx_goto pc off l' stk) := by
  intro z hz
  obtain ⟨hk, rfl⟩ := fx_if_inv hz
  refine ⟨l', ?_, h⟩
  show cond _ _ _ = _
  rw [hk]
  rfl
theorem fx_w_push (h : fx_le l l') (pc : Nat) (v : Value) : fx_sw (fx_push pc v l stk) (fx_push pc v l' stk) := by
  intro z hz
  cases hz
  exact ⟨l', rfl, h⟩
theorem fx_w_dup2 (h : fx_le l l') (pc : Nat) : fx_sw (fx_dup2 pc l stk) (fx_dup2 pc l' stk) := by
  intro z hz
  unfold fx_dup2 at hz
  split at hz
  · next a b r =>
    cases hb : (Nat.beq a.category 1 && Nat.beq b.category 1) with
    | true =>
      rw [hb] at hz
      cases hz
      refine ⟨l', ?_, h⟩
      show cond _ _ _ = _
      rw [hb]
      rfl
    | false =>
      rw [hb] at hz
      obtain ⟨hk, rfl⟩ := fx_if_inv (show cond (Nat.beq a.category 2) (some _) none = some z from hz)
      refine ⟨l', ?_, h⟩
      show cond _ _ (cond _ _ _) = _
      rw [hb, hk]
      rfl
  · cases hz
theorem fx_w_pure (h : fx_le l l') (nL pc : Nat) (ins : Instr) : fx_sw (fx_pure nL pc ins l stk) (fx_pure nL pc ins l' stk) := by
  cases ins
  all_goals first
    | exact fx_w_push h _ _
    | exact fx_w_ld h _ _ _
    | exact fx_w_st h _ _ _ _
    | exact fx_w_st2 h _ _ _
    | exact fx_w_inc h _ _ _ _
    | exact fx_w_fx_bi h _ _
    | exact fx_w_fx_bl h _ _
    | exact fx_w_fx_bz h _ _
    | exact fx_w_fx_blz h _ _
    | exact fx_w_fx_sh h _ _
    | exact fx_w_fx_ui h _ _
    | exact fx_w_fx_ul h _ _
    | exact fx_w_fx_lcmp h _
    | exact fx_w_fx_dup h _
    | exact fx_w_dup2 h _
    | exact fx_w_fx_pop h _ _
    | exact fx_w_fx_if h _ _ _
    | exact fx_w_fx_if0 h _ _ _
    | exact fx_w_goto h _ _
    | exact (fun z hz => nomatch hz)
theorem fx_w_pass {x y : fx_R4} {f : fx_L → fx_R4} (hx : f l = x) (hy : f l' = y) (h : fx_le l l') (hf : ∀ k z, f k = some z → z.2.1 = k ∧ ∀ k', f k' = some (z.1, k', z.2.2.1, z.2.2.2)) : fx_sw4 x y := by
  intro z hz
  subst hx hy
  obtain ⟨e1, e2⟩ := hf l z hz
  exact ⟨l', e2 l', by rw [e1]; exact h⟩
theorem fx_p_fx_ia (pc : Nat) (k : fx_L) (z : Nat × fx_L × List Value × fx_M) (hz : fx_ia pc k stk mem = some z) : z.2.1 = k ∧ ∀ k', fx_ia pc k' stk mem = some (z.1, k', z.2.2.1, z.2.2.2) := by
  unfold fx_ia at hz ⊢
  split at hz
  · next i j r =>
    split at hz
    · next n f hj =>
      obtain ⟨hc, rfl⟩ := fx_if_inv hz
      refine ⟨rfl, fun k' => ?_⟩
      dsimp only
      rw [hc]
      rfl
    · cases hz
  · cases hz
theorem fx_p_fx_ba (pc : Nat) (k : fx_L) (z : Nat × fx_L × List Value × fx_M) (hz : fx_ba pc k stk mem = some z) : z.2.1 = k ∧ ∀ k', fx_ba pc k' stk mem = some (z.1, k', z.2.2.1, z.2.2.2) := by
  unfold fx_ba at hz ⊢
  split at hz
  · next i j r =>
    split at hz
    · next n f hj =>
      obtain ⟨hc, rfl⟩ := fx_if_inv hz
      refine ⟨rfl, fun k' => ?_⟩
      dsimp only
      rw [hc]
      rfl
    · cases hz
  · cases hz
theorem fx_p_fx_la (pc : Nat) (k : fx_L) (z : Nat × fx_L × List Value × fx_M) (hz : fx_la pc k stk mem = some z) : z.2.1 = k ∧ ∀ k', fx_la pc k' stk mem = some (z.1, k', z.2.2.1, z.2.2.2) := by
  unfold fx_la at hz ⊢
  split at hz
  · next i j r =>
    split at hz
    · next n f hj =>
      obtain ⟨hc, rfl⟩ := fx_if_inv hz
      refine ⟨rfl, fun k' => ?_⟩
      dsimp only
      rw [hc]
      rfl
    · cases hz
  · cases hz
theorem fx_p_fx_is (pc : Nat) (k : fx_L) (z : Nat × fx_L × List Value × fx_M) (hz : fx_is pc k stk mem = some z) : z.2.1 = k ∧ ∀ k', fx_is pc k' stk mem = some (z.1, k', z.2.2.1, z.2.2.2) := by
  unfold fx_is at hz ⊢
  split at hz
  · next v i j r =>
    split at hz
    · next n f hj =>
      obtain ⟨hc, rfl⟩ := fx_if_inv hz
      refine ⟨rfl, fun k' => ?_⟩
      dsimp only
      rw [hc]
      rfl
    · cases hz
  · cases hz
theorem fx_p_fx_bs (pc : Nat) (k : fx_L) (z : Nat × fx_L × List Value × fx_M) (hz : fx_bs pc k stk mem = some z) : z.2.1 = k ∧ ∀ k', fx_bs pc k' stk mem = some (z.1, k', z.2.2.1, z.2.2.2) := by
  unfold fx_bs at hz ⊢
  split at hz
  · next v i j r =>
    split at hz
    · next n f hj =>
      obtain ⟨hc, rfl⟩ := fx_if_inv hz
      refine ⟨rfl, fun k' => ?_⟩
      dsimp only
      rw [hc]
      rfl
    · cases hz
  · cases hz
theorem fx_p_fx_ls (pc : Nat) (k : fx_L) (z : Nat × fx_L × List Value × fx_M) (hz : fx_ls pc k stk mem = some z) : z.2.1 = k ∧ ∀ k', fx_ls pc k' stk mem = some (z.1, k', z.2.2.1, z.2.2.2) := by
  unfold fx_ls at hz ⊢
  split at hz
  · next v i j r =>
    split at hz
    · next n f hj =>
      obtain ⟨hc, rfl⟩ := fx_if_inv hz
      refine ⟨rfl, fun k' => ?_⟩
      dsimp only
      rw [hc]
      rfl
    · cases hz
  · cases hz
theorem fx_p_fx_gf (pc kd ci kk : Nat) (k : fx_L) (z : Nat × fx_L × List Value × fx_M) (hz : fx_gf pc kd ci kk k stk mem = some z) : z.2.1 = k ∧ ∀ k', fx_gf pc kd ci kk k' stk mem = some (z.1, k', z.2.2.1, z.2.2.2) := by
  unfold fx_gf at hz ⊢
  split at hz
  · next j r =>
    split at hz
    · next o hj =>
      cases hc : (Nat.ble kd 2 && Nat.beq o.1 ci) with
      | false => rw [hc] at hz; cases hz
      | true =>
        rw [hc] at hz
        dsimp only [cond] at hz
        split at hz
        · next v hv =>
          cases hz
          refine ⟨rfl, fun k' => ?_⟩
          rfl
        · cases hz
    · cases hz
  · cases hz
theorem fx_p_fx_pf (fty : rk_F) (pc kd ci kk : Nat) (k : fx_L) (z : Nat × fx_L × List Value × fx_M) (hz : fx_pf fty pc kd ci kk k stk mem = some z) : z.2.1 = k ∧ ∀ k', fx_pf fty pc kd ci kk k' stk mem = some (z.1, k', z.2.2.1, z.2.2.2) := by
  unfold fx_pf at hz ⊢
  split at hz
  · next v j r =>
    split at hz
    · next o ft hj hft =>
      obtain ⟨hc, rfl⟩ := fx_if_inv hz
      refine ⟨rfl, fun k' => ?_⟩
      dsimp only
      rw [hc]
      rfl
    · cases hz
  · cases hz
theorem fx_p_fx_ct (pc : Nat) (v : Option Value) (k : fx_L) (z : Nat × fx_L × List Value × fx_M) (hz : fx_ct pc v k stk mem = some z) : z.2.1 = k ∧ ∀ k', fx_ct pc v k' stk mem = some (z.1, k', z.2.2.1, z.2.2.2) := by
  unfold fx_ct at hz ⊢
  split at hz
  · cases hz
    exact ⟨rfl, fun k' => rfl⟩
  · cases hz
theorem fx_p_fx_mx (f : Int32 → Int32 → Int32) (pc : Nat) (k : fx_L) (z : Nat × fx_L × List Value × fx_M) (hz : fx_mx f pc k stk mem = some z) : z.2.1 = k ∧ ∀ k', fx_mx f pc k' stk mem = some (z.1, k', z.2.2.1, z.2.2.2) := by
  unfold fx_mx at hz ⊢
  split at hz
  · obtain ⟨hc, rfl⟩ := fx_if_inv hz
    refine ⟨rfl, fun k' => ?_⟩
    dsimp only
    rw [hc]
    rfl
  · cases hz
theorem fx_p_fx_ab (pc : Nat) (k : fx_L) (z : Nat × fx_L × List Value × fx_M) (hz : fx_ab pc k stk mem = some z) : z.2.1 = k ∧ ∀ k', fx_ab pc k' stk mem = some (z.1, k', z.2.2.1, z.2.2.2) := by
  unfold fx_ab at hz ⊢
  split at hz
  · obtain ⟨hc, rfl⟩ := fx_if_inv hz
    refine ⟨rfl, fun k' => ?_⟩
    dsimp only
    rw [hc]
    rfl
  · cases hz
theorem fx_p_fx_tb (pc : Nat) (d lo hi : Int) (offs : List Int) (k : fx_L) (z : Nat × fx_L × List Value × fx_M) (hz : fx_tb pc d lo hi offs k stk mem = some z) : z.2.1 = k ∧ ∀ k', fx_tb pc d lo hi offs k' stk mem = some (z.1, k', z.2.2.1, z.2.2.2) := by
  unfold fx_tb at hz ⊢
  split at hz
  · obtain ⟨hc, rfl⟩ := fx_if_inv hz
    refine ⟨rfl, fun k' => ?_⟩
    dsimp only
    rw [hc]
    rfl
  · cases hz
theorem fx_p_fx_lk (pc : Nat) (d : Int) (ps : List (Int × Int)) (k : fx_L) (z : Nat × fx_L × List Value × fx_M) (hz : fx_lk pc d ps k stk mem = some z) : z.2.1 = k ∧ ∀ k', fx_lk pc d ps k' stk mem = some (z.1, k', z.2.2.1, z.2.2.2) := by
  unfold fx_lk at hz ⊢
  split at hz
  · obtain ⟨hc, rfl⟩ := fx_if_inv hz
    refine ⟨rfl, fun k' => ?_⟩
    dsimp only
    rw [hc]
    rfl
  · cases hz
theorem fx_p_st (kd f pc : Nat) (k : fx_L) (z : Nat × fx_L × List Value × fx_M) (hz : fx_st kd f pc k stk mem = some z) : z.2.1 = k ∧ ∀ k', fx_st kd f pc k' stk mem = some (z.1, k', z.2.2.1, z.2.2.2) := by
  have e : fx_st kd f pc = fx_mx (fun x y => if x < y then y else x) pc ∨ fx_st kd f pc = fx_mx (fun x y => if y < x then y else x) pc ∨ fx_st kd f pc = fx_ab pc ∨ fx_st kd f pc = fx_none := by
    unfold fx_st
    cases Nat.beq kd 14 with
    | true => exact Or.inl rfl
    | false =>
      cases Nat.beq kd 15 with
      | true => exact Or.inr (Or.inl rfl)
      | false =>
        cases Nat.beq kd 17 with
        | true => exact Or.inr (Or.inr (Or.inl rfl))
        | false => exact Or.inr (Or.inr (Or.inr rfl))
  rcases e with e | e | e | e <;> rw [e] at hz ⊢
  · exact fx_p_fx_mx _ pc k z hz
  · exact fx_p_fx_mx _ pc k z hz
  · exact fx_p_fx_ab pc k z hz
  · exact fx_nos (show (none : fx_R4) = some z from hz)
theorem fx_w_pl (h : fx_le l l') (nL pc : Nat) (ins : Instr) : fx_sw4 (fx_pl nL pc ins l stk mem) (fx_pl nL pc ins l' stk mem) := by
  intro z hz
  unfold fx_pl at hz
  split at hz
  · next z9 hz9 =>
    cases hz
    obtain ⟨k', e1, e2⟩ := fx_w_pure h nL pc ins z9 hz9
    refine ⟨k', ?_, e2⟩
    unfold fx_pl
    rw [e1]
  · cases hz
theorem fx_w_of {f : fx_L → List Value → fx_M → fx_R4} (h : fx_le l l') (hf : ∀ k z, f k stk mem = some z → z.2.1 = k ∧ ∀ k', f k' stk mem = some (z.1, k', z.2.2.1, z.2.2.2)) : fx_sw4 (f l stk mem) (f l' stk mem) := fx_w_pass (f := fun k => f k stk mem) rfl rfl h hf
theorem fx_w_none : fx_sw4 (fx_none l stk mem) (fx_none l' stk mem) := fun _ hz => nomatch hz
def fx_isp (ins : Instr) : Bool := match ins with
  | .getfield _ => true
  | .putfield _ => true
  | .iaload => true
  | .baload => true
  | .laload => true
  | .iastore => true
  | .bastore => true
  | .lastore => true
  | .ldc _ => true
  | .ldc_w _ => true
  | .ldc2_w _ => true
  | .tableswitch _ _ _ _ => true
  | .lookupswitch _ _ => true
  | .invokestatic _ => true
  | _ => false
theorem fx_mem_pl {fty : rk_F} {M : rk_M2} {pc : Nat} {ins : Instr} (h : fx_isp ins = false) : fx_mem fty M pc ins = fx_pl M.2.1 pc ins := by
  cases ins <;> first
    | rfl
    | cases h
theorem fx_w_mem (h : fx_le l l') (fty : rk_F) (M : rk_M2) (pc : Nat) (ins : Instr) : fx_sw4 (fx_mem fty M pc ins l stk mem) (fx_mem fty M pc ins l' stk mem) := by
  cases hb : fx_isp ins with
  | false =>
    rw [fx_mem_pl hb]
    exact fx_w_pl h M.2.1 pc ins
  | true =>
    cases ins
    case getfield idx =>
      show fx_sw4 ((match rk_lk M.2.2.1 idx with
        | some q => fx_gf (pc + 3) q.1 q.2.1 q.2.2
        | none => fx_none) l stk mem) ((match rk_lk M.2.2.1 idx with
        | some q => fx_gf (pc + 3) q.1 q.2.1 q.2.2
        | none => fx_none) l' stk mem)
      cases rk_lk M.2.2.1 idx with
      | none => exact fx_w_none
      | some q => exact fx_w_of h (fx_p_fx_gf _ _ _ _)
    case putfield idx =>
      show fx_sw4 ((match rk_lk M.2.2.1 idx with
        | some q => fx_pf fty (pc + 3) q.1 q.2.1 q.2.2
        | none => fx_none) l stk mem) ((match rk_lk M.2.2.1 idx with
        | some q => fx_pf fty (pc + 3) q.1 q.2.1 q.2.2
        | none => fx_none) l' stk mem)
      cases rk_lk M.2.2.1 idx with
      | none => exact fx_w_none
      | some q => exact fx_w_of h (fx_p_fx_pf _ _ _ _ _)
    case invokestatic idx =>
      show fx_sw4 ((match rk_lk M.2.2.1 idx with
        | some q => fx_st q.1 q.2.1 (pc + 3)
        | none => fx_none) l stk mem) ((match rk_lk M.2.2.1 idx with
        | some q => fx_st q.1 q.2.1 (pc + 3)
        | none => fx_none) l' stk mem)
      cases rk_lk M.2.2.1 idx with
      | none => exact fx_w_none
      | some q => exact fx_w_of h (fx_p_st _ _ _)
    case iaload => exact fx_w_of (f := fx_ia (pc + 1)) h (fx_p_fx_ia _)
    case baload => exact fx_w_of (f := fx_ba (pc + 1)) h (fx_p_fx_ba _)
    case laload => exact fx_w_of (f := fx_la (pc + 1)) h (fx_p_fx_la _)
    case iastore => exact fx_w_of (f := fx_is (pc + 1)) h (fx_p_fx_is _)
    case bastore => exact fx_w_of (f := fx_bs (pc + 1)) h (fx_p_fx_bs _)
    case lastore => exact fx_w_of (f := fx_ls (pc + 1)) h (fx_p_fx_ls _)
    case ldc idx => exact fx_w_of (f := fx_ct (pc + 2) (tk_csti (rk_cst M.2.2.2.1 idx))) h (fx_p_fx_ct _ _)
    case ldc_w idx => exact fx_w_of (f := fx_ct (pc + 3) (tk_csti (rk_cst M.2.2.2.1 idx))) h (fx_p_fx_ct _ _)
    case ldc2_w idx => exact fx_w_of (f := fx_ct (pc + 3) (tk_cstl (rk_cst M.2.2.2.1 idx))) h (fx_p_fx_ct _ _)
    case tableswitch d lo hi offs => exact fx_w_of (f := fx_tb pc d lo hi offs.toList) h (fx_p_fx_tb _ _ _ _ _)
    case lookupswitch d ps => exact fx_w_of (f := fx_lk pc d ps.toList) h (fx_p_fx_lk _ _ _)
    all_goals cases hb
theorem fx_w_aft (h : fx_le l l') (pc : Nat) (r : List Value) (x : Option (Option Value × fx_M)) : fx_sw4 (fx_aft pc l r x) (fx_aft pc l' r x) := by
  intro z hz
  unfold fx_aft at hz
  split at hz
  · cases hz
    exact ⟨l', rfl, h⟩
  · cases hz
theorem fx_w_step (h : fx_le l l') (call : fx_Ca) (fty : rk_F) (mci : List Nat) (M : rk_M2) (pc : Nat) (ins : Instr) : fx_sw4 (fx_step call fty mci M pc ins l stk mem) (fx_step call fty mci M pc ins l' stk mem) := by
  have hm := fx_w_mem (stk := stk) (mem := mem) h fty M pc ins
  cases ins
  case invokevirtual idx =>
    show fx_sw4 (match rk_lk M.2.2.1 idx with
      | some q => cond (Nat.beq q.1 5 || Nat.beq q.1 6) (fx_cv mci call (pc + 3) q.2.1 q.2.2 l stk mem) none
      | none => none) (match rk_lk M.2.2.1 idx with
      | some q => cond (Nat.beq q.1 5 || Nat.beq q.1 6) (fx_cv mci call (pc + 3) q.2.1 q.2.2 l' stk mem) none
      | none => none)
    cases rk_lk M.2.2.1 idx with
    | none => exact fun _ hz => nomatch hz
    | some q =>
      dsimp only
      cases (Nat.beq q.1 5 || Nat.beq q.1 6) with
      | false => exact fun _ hz => nomatch hz
      | true =>
        show fx_sw4 (fx_cv mci call (pc + 3) q.2.1 q.2.2 l stk mem) (fx_cv mci call (pc + 3) q.2.1 q.2.2 l' stk mem)
        unfold fx_cv
        split
        · next as j r hp =>
          split
          · next o hj =>
            cases (Nat.ble (fx_sum r) 8 && decide (mci[q.2.1]? = some o.1)) with
            | false => exact fun _ hz => nomatch hz
            | true => exact fx_w_aft h _ _ _
          · unfold fx_sv
            split
            · cases (Nat.ble (fx_sum r) 8 && Nat.beq j mem.length) with
              | false => exact fun _ hz => nomatch hz
              | true =>
                intro z hz
                cases hz
                exact ⟨l', rfl, h⟩
            · exact fun _ hz => nomatch hz
          · exact fun _ hz => nomatch hz
        · exact fun _ hz => nomatch hz
  case ldc idx =>
    show fx_sw4 (fx_lds fty M pc idx l stk mem) (fx_lds fty M pc idx l' stk mem)
    unfold fx_lds
    split
    · cases (Nat.beq idx 189 && Nat.beq M.2.2.2.2.2 12) with
      | false => exact fun _ hz => nomatch hz
      | true =>
        intro z hz
        cases hz
        exact ⟨l', rfl, h⟩
    · exact hm
  case invokestatic idx =>
    show fx_sw4 (match rk_lk M.2.2.1 idx with
      | some q => cond (Nat.beq q.1 7 || Nat.beq q.1 8) (fx_cs call (pc + 3) q.2.1 q.2.2 l stk mem) (fx_mem fty M pc (.invokestatic idx) l stk mem)
      | none => none) (match rk_lk M.2.2.1 idx with
      | some q => cond (Nat.beq q.1 7 || Nat.beq q.1 8) (fx_cs call (pc + 3) q.2.1 q.2.2 l' stk mem) (fx_mem fty M pc (.invokestatic idx) l' stk mem)
      | none => none)
    cases rk_lk M.2.2.1 idx with
    | none => exact fun _ hz => nomatch hz
    | some q =>
      dsimp only
      cases (Nat.beq q.1 7 || Nat.beq q.1 8) with
      | false => exact fx_w_mem h fty M pc (.invokestatic idx)
      | true =>
        show fx_sw4 (fx_cs call (pc + 3) q.2.1 q.2.2 l stk mem) (fx_cs call (pc + 3) q.2.1 q.2.2 l' stk mem)
        unfold fx_cs
        split
        · next as r hp =>
          cases Nat.ble (fx_sum r) 8 with
          | false => exact fun _ hz => nomatch hz
          | true => exact fx_w_aft h _ _ _
        · exact fun _ hz => nomatch hz
  all_goals exact hm
end FXW
theorem fx_w_run (call : fx_Ca) (fty : rk_F) (mci : List Nat) (M : rk_M2) : ∀ (n pc : Nat) (l l' : fx_L) (stk : List Value) (mem : fx_M) (R : Option Value × fx_M), fx_le l l' → fx_run call fty mci M n pc l stk mem = some R → fx_run call fty mci M n pc l' stk mem = some R := by
  intro n
  induction n with
  | zero => intro pc l l' stk mem R _ h; exact fx_nos h
  | succ n ih =>
    intro pc l l' stk mem R hle h
    unfold fx_run at h ⊢
    split at h
    · exact fx_nos h
    · next q hat =>
      cases hlen : rk_len q.2.1 q.2.2 with
      | false => rw [hlen] at h; exact fx_nos h
      | true =>
        rw [hlen] at h
        dsimp only [cond] at h ⊢
        split at h
        · exact h
        · exact fx_nos h
        · split at h
          · next z hz =>
            obtain ⟨k', e1, e2⟩ := fx_w_step hle call fty mci M pc q.2.1 z hz
            rw [e1]
            exact ih _ _ _ _ _ _ e2 h
          · exact fx_nos h
end MH39_2
section MH39_3
/-! ===== the model: types by role; the numbers of at[] by place ===== -/
def gm_ty : List tk_TY := [.inl (12, [(2, 1, 0), (2, 2, 0), (0, 0, 9), (1, (-9223372036854775808), 9223372036854775807), (1, (-9223372036854775808), 9223372036854775807), (2, 3, 0), (2, 4, 0), (2, 5, 0), (2, 6, 0), (2, 7, 0), (0, 0, 900), (0, 0, 900), (0, 0, 4), (0, 0, 900), (0, 0, 900), (0, (-2147483648), 1000000), (0, (-1), 7), (0, (-1), 900), (0, 0, 7), (0, 0, 0), (0, (-2147483648), 2147483647), (2, 8, 0), (0, 0, 3), (0, 0, 30), (2, 9, 0), (0, (-2147483648), 2147483647), (2, 10, 0), (2, 11, 0), (2, 12, 0), (2, 13, 0), (0, 0, 4), (2, 14, 0), (2, 15, 0), (2, 16, 0), (2, 17, 0), (2, 18, 0), (0, (-2147483648), 2147483647), (0, 0, 300), (2, 19, 0), (2, 20, 0), (2, 21, 0), (0, 0, 1), (0, 0, 3)]), .inr (.int, 5894, (3, 1, 0)), .inr (.long, 108, (1, (-9223372036854775808), 9223372036854775807)), .inr (.int, 4, (0, 0, 3)), .inr (.int, 4, (0, (-1), 60)), .inr (.long, 240, (6, (-9223372036854775808), 9223372036854775807)), .inr (.byte, 900, (0, (-128), 127)), .inr (.byte, 900, (0, (-128), 127)), .inr (.int, 3, (0, 0, 59)), .inr (.int, 10, (3, 9, 0)), .inr (.int, 4, (0, (-2147483648), 2147483647)), .inr (.int, 4, (0, (-2147483648), 2147483647)), .inr (.int, 4, (0, (-2147483648), 2147483647)), .inr (.int, 4, (0, (-2147483648), 2147483647)), .inr (.int, 256, (0, 0, 1000000)), .inr (.int, 427, (0, 0, 1000000)), .inr (.int, 10, (0, (-2147483648), 2147483647)), .inr (.long, 21, (6, (-9223372036854775808), 9223372036854775807)), .inr (.long, 21, (6, (-9223372036854775808), 9223372036854775807)), .inr (.int, 80, (0, (-2147483648), 2147483647)), .inr (.int, 5, (0, (-2147483648), 2147483647)), .inr (.int, 5, (0, (-2147483648), 2147483647))]
def gm_ob : List Bool := [true, false, false, false, false, false, false, false, false, false, false, false, false, false, false, false, false, false, false, false, false, false]
def gm_rgl : List (Nat × Int × Int) := [(9, 0, 1000000)]
/-- the region of a place of a slot -/
def gm_cl (o : Nat) : Nat := cond (Nat.blt o 8) o (cond (Nat.blt o 68) (8 + (o - 8) % 6) (cond (Nat.blt o 278) 14 (cond (Nat.blt o 318) (15 + (o - 278) % 5) (cond (Nat.blt o 478) 20 (cond (Nat.blt o 838) (21 + (o - 478) % 6) 27)))))
def gm_rg (i : Nat) : Nat := (i / 842) * 32 + gm_cl (i % 842)
def gm_tab : List (List tk_I) := [[(0, 10), (0, 8), (0, 20), (0, 20), (0, 20), (0, 9999), ((-1), 60), (0, 0), (0, 1), ((-2147483648), 2147483647), (0, 1023), (0, 1023), (0, 1), ((-2147483648), 2147483647), ((-2147483648), 2147483647), ((-2147483648), 2147483647), (0, 9), (0, 1), (0, 20), ((-2147483648), 2147483647), (0, 9), (0, 1922), ((-1), 99), ((-1), 999), (0, 0), (0, 59), ((-2147483648), 2147483647), ((-1), 9)], [(0, 10), (0, 8), (0, 20), (0, 20), (0, 20), (0, 9999), ((-1), 60), (0, 0), (0, 1), ((-2147483648), 2147483647), (0, 1023), (0, 1023), (0, 1), ((-2147483648), 2147483647), ((-2147483648), 2147483647), ((-2147483648), 2147483647), (0, 9), (0, 1), (0, 20), ((-2147483648), 2147483647), (0, 9), (0, 1922), ((-1), 99), ((-1), 999), (0, 0), (0, 59), ((-2147483648), 2147483647), ((-1), 9)], [(0, 10), (0, 8), (0, 20), (0, 20), (0, 20), (0, 9999), ((-1), 60), (0, 0), (0, 1), ((-2147483648), 2147483647), (0, 1023), (0, 1023), (0, 1), ((-2147483648), 2147483647), ((-2147483648), 2147483647), ((-2147483648), 2147483647), (0, 9), (0, 1), (0, 20), ((-2147483648), 2147483647), (0, 9), (0, 1922), ((-1), 99), ((-1), 999), (0, 0), (0, 59), ((-2147483648), 2147483647), ((-1), 9)], [(0, 10), (0, 8), (0, 20), (0, 20), (0, 20), (0, 9999), ((-1), 60), (0, 0), (0, 1), ((-2147483648), 2147483647), (0, 1023), (0, 1023), (0, 1), ((-2147483648), 2147483647), ((-2147483648), 2147483647), ((-2147483648), 2147483647), (0, 9), (0, 1), (0, 20), ((-2147483648), 2147483647), (0, 9), (0, 1922), ((-1), 99), ((-1), 999), (0, 0), (0, 59), ((-2147483648), 2147483647), ((-1), 9)], [(0, 10), (0, 8), (0, 20), (0, 20), (0, 20), (0, 0), ((-1), 60), (0, 0), (0, 1), ((-2147483648), 2147483647), (0, 1023), (0, 1023), (0, 1), ((-2147483648), 2147483647), ((-2147483648), 2147483647), ((-2147483648), 2147483647), ((-1), 9), (0, 1), (0, 20), ((-2147483648), 2147483647), (0, 9), (0, 1922), ((-1), 99), ((-1), 999), (0, 0), (0, 59), ((-2147483648), 2147483647), ((-1), 9)], [(0, 10), (0, 8), (0, 20), (0, 20), (0, 20), (0, 9999), ((-1), 60), (0, 0), (0, 1), ((-2147483648), 2147483647), (0, 1023), (0, 1023), (0, 1), ((-2147483648), 2147483647), ((-2147483648), 2147483647), ((-2147483648), 2147483647), (0, 9), (0, 1), (0, 20), ((-2147483648), 2147483647), (0, 9), (0, 1922), ((-1), 99), ((-1), 999), (0, 0), (0, 59), ((-2147483648), 2147483647), ((-1), 9)], [(0, 10), (0, 8), (0, 20), (0, 20), (0, 20), (0, 9999), ((-1), 60), (0, 0), (0, 1), ((-2147483648), 2147483647), (0, 1023), (0, 1023), (0, 1), ((-2147483648), 2147483647), ((-2147483648), 2147483647), ((-2147483648), 2147483647), (0, 9), (0, 1), (0, 20), ((-2147483648), 2147483647), (0, 9), (0, 1922), ((-1), 99), ((-1), 999), (0, 0), (0, 59), ((-2147483648), 2147483647), ((-1), 9)]]
def gm_at (i : Nat) : tk_I := match gm_tab[i / 842]? with
  | some r => (match r[gm_cl (i % 842)]? with
    | some q => q
    | none => (0, 0))
  | none => (0, 0)
def gm_reg : Nat → Nat → tk_I := fun t i => cond (Nat.beq t 1) (gm_at i) (match gm_rgl.find? (fun q => Nat.beq q.1 t) with
  | some q => q.2
  | none => (0, 0))
def gm_id : Nat → Nat := fun i => i
def gm_rgn : Nat → Option (Nat → Nat) := fun t => match gm_ob[t]? with
  | some true => some gm_id
  | _ => cond (Nat.beq t 1) (some gm_rg) none
def gm_TY : tk_TT := (gm_ty, gm_reg, gm_rgn, [], fun _ _ _ _ _ => false)
def gm_X (_ : List Nat) (_ : va_W) : Prop := True
def gm_U (_ : List Nat) : Prop := True
theorem gm_xs {ads tw : List Nat} (_ : gm_U tw) : tk_xs gm_TY (gm_X tw) ads tw := ⟨fun _ _ _ _ _ _ _ => True.intro, fun _ _ _ _ _ _ _ _ _ _ _ _ _ _ _ h => nomatch h⟩
end MH39_3
section MH39_4
/-! ===== fx: the model's memory ===== -/
def fm_o (g : Nat → Int32) (tp bt : Int64) : List Value := [.ref 1, .ref 2, .int (g 2), .long tp, .long bt, .ref 3, .ref 4, .ref 5, .ref 6, .ref 7, .int (g 10), .int (g 11), .int (g 12), .int (g 13), .int (g 14), .int (g 15), .int (g 16), .int (g 17), .int (g 18), .int (g 19), .int (g 20), .ref 8, .int (g 22), .int (g 23), .ref 9, .int (g 25), .ref 10, .ref 11, .ref 12, .ref 13, .int (g 30), .ref 14, .ref 15, .ref 16, .ref 17, .ref 18, .int (g 36), .int (g 37), .ref 19, .ref 20, .ref 21, .int (g 41), .int (g 42)]
def fm (g : Nat → Int32) (tp bt : Int64) (a : Nat → Nat → Int32) (b : Nat → Nat → Int64) : fx_M := [.inl (12, fm_o g tp bt), .inr (.int, 5894, .inl (a 1)), .inr (.long, 108, .inr (.inl (b 2))), .inr (.int, 4, .inl (a 3)), .inr (.int, 4, .inl (a 4)), .inr (.long, 240, .inr (.inl (b 5))), .inr (.byte, 900, .inl (a 6)), .inr (.byte, 900, .inl (a 7)), .inr (.int, 3, .inl (a 8)), .inr (.int, 10, .inl (a 9)), .inr (.int, 4, .inl (a 10)), .inr (.int, 4, .inl (a 11)), .inr (.int, 4, .inl (a 12)), .inr (.int, 4, .inl (a 13)), .inr (.int, 256, .inl (a 14)), .inr (.int, 427, .inl (a 15)), .inr (.int, 10, .inl (a 16)), .inr (.long, 21, .inr (.inl (b 17))), .inr (.long, 21, .inr (.inl (b 18))), .inr (.int, 80, .inl (a 19)), .inr (.int, 5, .inl (a 20)), .inr (.int, 5, .inl (a 21))]
def fm_u (a : Nat → Nat → Int32) (t i : Nat) (v : Int32) : Nat → Nat → Int32 := fun t2 => if t2 = t then upd (a t) i v else a t2
abbrev fm_call (N d : Nat) : fx_Ca := fx_call gk_fty gk_mci gk_P N d
/-- a bit -/
def fm_b (x k : Int32) : Int32 := if (x >>> (k &&& 31)) &&& 1 = 1 then 1 else 0
theorem fm_isIn (N d : Nat) (s k : Int32) (mem : fx_M) : fm_call (N + 12) (d + 1) 260 [.ref 0, .int s, .int k] mem = some (some (.int (fm_b s k)), mem) := by
  show fx_run (fm_call (N + 12) d) gk_fty gk_mci gk_m260 (N + 12) 0 [(0, .ref 0), (1, .int s), (2, .int k)] [] mem = _
  have e1 : fx_run (fm_call (N + 12) d) gk_fty gk_mci gk_m260 (N + 12) 0 [(0, .ref 0), (1, .int s), (2, .int k)] [] mem = fx_run (fm_call (N + 12) d) gk_fty gk_mci gk_m260 (N + 5) (cond (!decide ((s >>> (k &&& 31)) &&& 1 = 1)) 13 9) [(0, .ref 0), (1, .int s), (2, .int k)] [] mem := rfl
  rw [e1]
  unfold fm_b
  by_cases h : (s >>> (k &&& 31)) &&& 1 = 1
  · rw [if_pos h, decide_eq_true h]
    rfl
  · rw [if_neg h, decide_eq_false h]
    rfl
theorem fm_cellRow (N d : Nat) (c : Int32) (mem : fx_M) : fm_call (N + 6) (d + 1) 253 [.int c] mem = some (some (.int (8 + 6 * c)), mem) := rfl
theorem fm_walkerRow (N d : Nat) (c : Int32) (mem : fx_M) : fm_call (N + 6) (d + 1) 254 [.int c] mem = some (some (.int (278 + 5 * c)), mem) := rfl
/-! ===== what a store leaves ===== -/
theorem fm_si1 {g : Nat → Int32} {tp bt : Int64} {a : Nat → Nat → Int32} {b : Nat → Nat → Int64} {i : Nat} {v : Int32} : (fm g tp bt a b).set 1 (.inr (.int, 5894, .inl (upd (a 1) i v))) = fm g tp bt (fm_u a 1 i v) b := rfl
theorem fm_si3 {g : Nat → Int32} {tp bt : Int64} {a : Nat → Nat → Int32} {b : Nat → Nat → Int64} {i : Nat} {v : Int32} : (fm g tp bt a b).set 3 (.inr (.int, 4, .inl (upd (a 3) i v))) = fm g tp bt (fm_u a 3 i v) b := rfl
theorem fm_si4 {g : Nat → Int32} {tp bt : Int64} {a : Nat → Nat → Int32} {b : Nat → Nat → Int64} {i : Nat} {v : Int32} : (fm g tp bt a b).set 4 (.inr (.int, 4, .inl (upd (a 4) i v))) = fm g tp bt (fm_u a 4 i v) b := rfl
theorem fm_sb6 {g : Nat → Int32} {tp bt : Int64} {a : Nat → Nat → Int32} {b : Nat → Nat → Int64} {i : Nat} {v : Int32} : (fm g tp bt a b).set 6 (.inr (.byte, 900, .inl (upd (a 6) i v))) = fm g tp bt (fm_u a 6 i v) b := rfl
theorem fm_sb7 {g : Nat → Int32} {tp bt : Int64} {a : Nat → Nat → Int32} {b : Nat → Nat → Int64} {i : Nat} {v : Int32} : (fm g tp bt a b).set 7 (.inr (.byte, 900, .inl (upd (a 7) i v))) = fm g tp bt (fm_u a 7 i v) b := rfl
theorem fm_si8 {g : Nat → Int32} {tp bt : Int64} {a : Nat → Nat → Int32} {b : Nat → Nat → Int64} {i : Nat} {v : Int32} : (fm g tp bt a b).set 8 (.inr (.int, 3, .inl (upd (a 8) i v))) = fm g tp bt (fm_u a 8 i v) b := rfl
theorem fm_si9 {g : Nat → Int32} {tp bt : Int64} {a : Nat → Nat → Int32} {b : Nat → Nat → Int64} {i : Nat} {v : Int32} : (fm g tp bt a b).set 9 (.inr (.int, 10, .inl (upd (a 9) i v))) = fm g tp bt (fm_u a 9 i v) b := rfl
theorem fm_si10 {g : Nat → Int32} {tp bt : Int64} {a : Nat → Nat → Int32} {b : Nat → Nat → Int64} {i : Nat} {v : Int32} : (fm g tp bt a b).set 10 (.inr (.int, 4, .inl (upd (a 10) i v))) = fm g tp bt (fm_u a 10 i v) b := rfl
theorem fm_si11 {g : Nat → Int32} {tp bt : Int64} {a : Nat → Nat → Int32} {b : Nat → Nat → Int64} {i : Nat} {v : Int32} : (fm g tp bt a b).set 11 (.inr (.int, 4, .inl (upd (a 11) i v))) = fm g tp bt (fm_u a 11 i v) b := rfl
theorem fm_si12 {g : Nat → Int32} {tp bt : Int64} {a : Nat → Nat → Int32} {b : Nat → Nat → Int64} {i : Nat} {v : Int32} : (fm g tp bt a b).set 12 (.inr (.int, 4, .inl (upd (a 12) i v))) = fm g tp bt (fm_u a 12 i v) b := rfl
theorem fm_si13 {g : Nat → Int32} {tp bt : Int64} {a : Nat → Nat → Int32} {b : Nat → Nat → Int64} {i : Nat} {v : Int32} : (fm g tp bt a b).set 13 (.inr (.int, 4, .inl (upd (a 13) i v))) = fm g tp bt (fm_u a 13 i v) b := rfl
theorem fm_si14 {g : Nat → Int32} {tp bt : Int64} {a : Nat → Nat → Int32} {b : Nat → Nat → Int64} {i : Nat} {v : Int32} : (fm g tp bt a b).set 14 (.inr (.int, 256, .inl (upd (a 14) i v))) = fm g tp bt (fm_u a 14 i v) b := rfl
theorem fm_si15 {g : Nat → Int32} {tp bt : Int64} {a : Nat → Nat → Int32} {b : Nat → Nat → Int64} {i : Nat} {v : Int32} : (fm g tp bt a b).set 15 (.inr (.int, 427, .inl (upd (a 15) i v))) = fm g tp bt (fm_u a 15 i v) b := rfl
theorem fm_si16 {g : Nat → Int32} {tp bt : Int64} {a : Nat → Nat → Int32} {b : Nat → Nat → Int64} {i : Nat} {v : Int32} : (fm g tp bt a b).set 16 (.inr (.int, 10, .inl (upd (a 16) i v))) = fm g tp bt (fm_u a 16 i v) b := rfl
theorem fm_si19 {g : Nat → Int32} {tp bt : Int64} {a : Nat → Nat → Int32} {b : Nat → Nat → Int64} {i : Nat} {v : Int32} : (fm g tp bt a b).set 19 (.inr (.int, 80, .inl (upd (a 19) i v))) = fm g tp bt (fm_u a 19 i v) b := rfl
theorem fm_si20 {g : Nat → Int32} {tp bt : Int64} {a : Nat → Nat → Int32} {b : Nat → Nat → Int64} {i : Nat} {v : Int32} : (fm g tp bt a b).set 20 (.inr (.int, 5, .inl (upd (a 20) i v))) = fm g tp bt (fm_u a 20 i v) b := rfl
theorem fm_si21 {g : Nat → Int32} {tp bt : Int64} {a : Nat → Nat → Int32} {b : Nat → Nat → Int64} {i : Nat} {v : Int32} : (fm g tp bt a b).set 21 (.inr (.int, 5, .inl (upd (a 21) i v))) = fm g tp bt (fm_u a 21 i v) b := rfl
end MH39_4
section MH39_5
/-! ===== fr: runs and calls of the program, with fuel and depth as wanted ===== -/
def fr_R (k : Nat) (M : rk_M2) (pc : Nat) (lc : fx_L) (stk : List Value) (mem : fx_M) (R : Option Value × fx_M) : Prop := ∃ N0 n0 : Nat, ∀ N d n : Nat, fx_run (fm_call (N + N0 + 100) (d + k)) gk_fty gk_mci M (n + n0) pc lc stk mem = some R
def fr_T (k f : Nat) (as : List Value) (mem : fx_M) (r : Option Value) (mem' : fx_M) : Prop := ∃ N0 : Nat, ∀ N d : Nat, fm_call (N + N0 + 100) (d + k) f as mem = some (r, mem')
section FR
variable {k pc : Nat} {M : rk_M2} {lc : fx_L} {stk r as : List Value} {mem : fx_M} {R : Option Value × fx_M}
/-- steps that are plain -/
theorem fr_s (j : Nat) {pc' : Nat} {lc' : fx_L} {stk' : List Value} {mem' : fx_M} (h : ∀ N d n : Nat, fx_run (fm_call (N + 100) (d + k)) gk_fty gk_mci M (n + j) pc lc stk mem = fx_run (fm_call (N + 100) (d + k)) gk_fty gk_mci M n pc' lc' stk' mem') (kk : fr_R k M pc' lc' stk' mem' R) : fr_R k M pc lc stk mem R := by
  obtain ⟨N0, n0, hk⟩ := kk
  refine ⟨N0, n0 + j, fun N d n => ?_⟩
  rw [← Nat.add_assoc, h (N + N0) d (n + n0)]
  exact hk N d n
theorem fr_ret {v : Option Value} {ins : Instr} {len : Nat} (hat : tk_at M.1 pc = some (pc, ins, len)) (hl : rk_len ins len = true) (he : fx_end M.2.2.2.2.1 ins stk = some (some v)) : fr_R k M pc lc stk mem (v, mem) := by
  refine ⟨0, 1, fun N d n => ?_⟩
  show fx_run _ _ _ _ (n + 1) _ _ _ _ = _
  unfold fx_run
  rw [hat]
  dsimp only
  rw [hl, he]
  rfl
theorem fr_1 {pc' : Nat} {lc' : fx_L} {stk' : List Value} {mem' : fx_M} (h : ∀ (call : fx_Ca) (n : Nat), fx_run call gk_fty gk_mci M (n + 1) pc lc stk mem = fx_run call gk_fty gk_mci M n pc' lc' stk' mem') (kk : fr_R k M pc' lc' stk' mem' R) : fr_R k M pc lc stk mem R := by
  obtain ⟨N0, n0, hk⟩ := kk
  refine ⟨N0, n0 + 1, fun N d n => ?_⟩
  rw [← Nat.add_assoc, h]
  exact hk N d n
theorem fr_ldI {i : Int32} {j len : Nat} {f : Nat → Int32} (hat : tk_at M.1 pc = some (pc, .iaload, 1)) (hj : mem[j]? = some (.inr (.int, len, .inl f))) (hin : fx_in i len = true) (kk : fr_R k M (pc + 1) lc (.int (f i.toNatClampNeg) :: r) mem R) : fr_R k M pc lc (.int i :: .ref j :: r) mem R := fr_1 (fun _ _ => fx_ldI hat hj hin) kk
theorem fr_ldB {i : Int32} {j len : Nat} {f : Nat → Int32} (hat : tk_at M.1 pc = some (pc, .baload, 1)) (hj : mem[j]? = some (.inr (.byte, len, .inl f))) (hin : fx_in i len = true) (kk : fr_R k M (pc + 1) lc (.int (f i.toNatClampNeg) :: r) mem R) : fr_R k M pc lc (.int i :: .ref j :: r) mem R := fr_1 (fun _ _ => fx_ldB hat hj hin) kk
theorem fr_ldL {i : Int32} {j len : Nat} {f : Nat → Int64} (hat : tk_at M.1 pc = some (pc, .laload, 1)) (hj : mem[j]? = some (.inr (.long, len, .inr (.inl f)))) (hin : fx_in i len = true) (kk : fr_R k M (pc + 1) lc (.long (f i.toNatClampNeg) :: r) mem R) : fr_R k M pc lc (.int i :: .ref j :: r) mem R := fr_1 (fun _ _ => fx_ldL hat hj hin) kk
theorem fr_stI {i v : Int32} {j len : Nat} {f : Nat → Int32} {mem' : fx_M} (hat : tk_at M.1 pc = some (pc, .iastore, 1)) (hj : mem[j]? = some (.inr (.int, len, .inl f))) (hin : fx_in i len = true) (hm : mem.set j (.inr (.int, len, .inl (upd f i.toNatClampNeg v))) = mem') (kk : fr_R k M (pc + 1) lc r mem' R) : fr_R k M pc lc (.int v :: .int i :: .ref j :: r) mem R := fr_1 (fun _ _ => fx_stI hat hj hin hm) kk
theorem fr_stL {i : Int32} {v : Int64} {j len : Nat} {f : Nat → Int64} {mem' : fx_M} (hat : tk_at M.1 pc = some (pc, .lastore, 1)) (hj : mem[j]? = some (.inr (.long, len, .inr (.inl f)))) (hin : fx_in i len = true) (hm : mem.set j (.inr (.long, len, .inr (.inl (vp_updL f i.toNatClampNeg v)))) = mem') (kk : fr_R k M (pc + 1) lc r mem' R) : fr_R k M pc lc (.long v :: .int i :: .ref j :: r) mem R := fr_1 (fun _ _ => fx_stL hat hj hin hm) kk
theorem fr_ivV {idx kd f na j k' : Nat} {o : Nat × List Value} {v : Option Value} {mem' : fx_M} (hc : fr_T k' f (.ref j :: as) mem v mem') (hk : k' ≤ k) (hat : tk_at M.1 pc = some (pc, .invokevirtual idx, 3)) (hlk : rk_lk M.2.2.1 idx = some (kd, f, na)) (hkd : (Nat.beq kd 5 || Nat.beq kd 6) = true) (hpop : fx_pops na [] stk = some (as, .ref j :: r)) (hj : mem[j]? = some (.inl o)) (hsum : (Nat.ble (fx_sum r) 8 && decide (gk_mci[f]? = some o.1)) = true) (kk : fr_R k M (pc + 3) lc (v.toList ++ r) mem' R) : fr_R k M pc lc stk mem R := by
  obtain ⟨N1, hc⟩ := hc
  obtain ⟨N0, n0, hk2⟩ := kk
  refine ⟨N0 + N1, n0 + 1, fun N d n => ?_⟩
  have e1 : N + (N0 + N1) + 100 = (N + N0) + N1 + 100 := by omega
  have e2 : N + (N0 + N1) + 100 = (N + N1) + N0 + 100 := by omega
  have hc2 := hc (N + N0) (d + (k - k'))
  rw [← e1, show d + (k - k') + k' = d + k by omega] at hc2
  rw [show n + (n0 + 1) = (n + n0) + 1 by omega, fx_ivV hat hlk hkd hpop hj hsum hc2, e2]
  exact hk2 (N + N1) d n
theorem fr_ivS {idx kd f na k' : Nat} {v : Option Value} {mem' : fx_M} (hc : fr_T k' f as mem v mem') (hk : k' ≤ k) (hat : tk_at M.1 pc = some (pc, .invokestatic idx, 3)) (hlk : rk_lk M.2.2.1 idx = some (kd, f, na)) (hkd : (Nat.beq kd 7 || Nat.beq kd 8) = true) (hpop : fx_pops na [] stk = some (as, r)) (hsum : Nat.ble (fx_sum r) 8 = true) (kk : fr_R k M (pc + 3) lc (v.toList ++ r) mem' R) : fr_R k M pc lc stk mem R := by
  obtain ⟨N1, hc⟩ := hc
  obtain ⟨N0, n0, hk2⟩ := kk
  refine ⟨N0 + N1, n0 + 1, fun N d n => ?_⟩
  have e1 : N + (N0 + N1) + 100 = (N + N0) + N1 + 100 := by omega
  have e2 : N + (N0 + N1) + 100 = (N + N1) + N0 + 100 := by omega
  have hc2 := hc (N + N0) (d + (k - k'))
  rw [← e1, show d + (k - k') + k' = d + k by omega] at hc2
  rw [show n + (n0 + 1) = (n + n0) + 1 by omega, fx_ivS hat hlk hkd hpop hsum hc2, e2]
  exact hk2 (N + N1) d n
theorem fr_meth {f : Nat} {v : Option Value} {mem' : fx_M} (hM : gk_P[f]? = some M) (hc : (Nat.ble M.2.1 21 && Nat.ble (fx_sum as) M.2.1) = true) (kk : fr_R k M 0 (lv_args 0 as) [] mem (v, mem')) : fr_T (k + 1) f as mem v mem' := by
  obtain ⟨N0, n0, hk⟩ := kk
  refine ⟨N0 + n0, fun N d => ?_⟩
  show fx_call gk_fty gk_mci gk_P (N + (N0 + n0) + 100) ((d + k) + 1) f as mem = _
  unfold fx_call
  rw [hM]
  dsimp only
  rw [hc]
  have h := hk (N + n0) d (N + N0 + 100)
  rw [show N + n0 + N0 + 100 = N + (N0 + n0) + 100 by omega, show N + N0 + 100 + n0 = N + (N0 + n0) + 100 by omega] at h
  exact h
end FR
/-- the contract of a method by its call -/
theorem fr_Met {l : Launch} {D : va_G} {k f : Nat} {as : List Value} {mem mem' : fx_M} {r : Option Value} (h : fr_T k f as mem r mem') : ∀ q : rk_N, gk_MN[f]? = some q → ∃ M, gk_P[f]? = some M ∧ M.2.1 ≤ 21 ∧ ∀ (ps : fx_P) (sz : Nat), Met l q.2.1 (Jvm.Cond.code q.2.1 q.2.2 M.2.1 M.2.2.2.2.1 :: gk_tbl) { frames := k + 4, cells := 0, slots := 0, locals := 40 * (k + 4) } (fx_Pre D ps mem sz as) (fx_Post D ps mem' r (va_A (fx_w ps mem) sz)) 0 0 (va_A (fx_w ps mem) sz) := by
  obtain ⟨N0, h⟩ := h
  have h1 := h 0 0
  rw [Nat.zero_add k] at h1
  exact fx_call_ok gk_rok _ k f as mem mem' r h1
end MH39_5
