/-! ===== tk: a contract with loops, checked ===== -/
theorem tk_num_some {env : List tk_I} {vals : List Int} {a : tk_V} (hE : tk_E env vals) (h : (tk_iv env a).isSome = true) : ∃ x, tk_num vals a = some x := by
  unfold tk_iv at h
  unfold tk_num
  split at h
  · next e => exact ⟨_, rfl⟩
  · next k e =>
    split at h
    · next I hI =>
      obtain ⟨x, hx, -⟩ := hE.get hI
      rw [hx]
      exact ⟨_, rfl⟩
    · cases h
def tk_run0 (hk : Nat → tk_S → Option (List tk_S)) (TY : tk_TT) (fty : rk_F) (mci : List Nat) (call : tk_Ca) (fuel : Nat) (K : tk_K) (Hs : List tk_Hd) (M : rk_M2) : Bool := match tk_loop (tk_go1H hk (tk_fun K.2.2.2.2.2.2 TY fty mci call M) M.2.2.2.2.1 M.1) (tk_cutH TY (tk_id K.2.2.1 K.2.2.2.1) none Hs) fuel [(0, (tk_args 0 K.2.1, [], K.2.2.1, K.2.2.2.1, K.2.2.2.2.1))] [] with
  | some xs => tk_cov TY (tk_id K.2.2.1 K.2.2.2.1) xs K.2.2.2.2.2.1
  | none => false
/-- where a head stands at the method's first place, its first step isn't cut -/
def tk_run00 (hk : Nat → tk_S → Option (List tk_S)) (TY : tk_TT) (fty : rk_F) (mci : List Nat) (call : tk_Ca) (fuel : Nat) (K : tk_K) (Hs : List tk_Hd) (M : rk_M2) : Bool := match tk_go1H hk (tk_fun K.2.2.2.2.2.2 TY fty mci call M) M.2.2.2.2.1 M.1 (0, (tk_args 0 K.2.1, [], K.2.2.1, K.2.2.2.1, K.2.2.2.2.1)) with
  | some (.inr l) => (match tk_loop (tk_go1H hk (tk_fun K.2.2.2.2.2.2 TY fty mci call M) M.2.2.2.2.1 M.1) (tk_cutH TY (tk_id K.2.2.1 K.2.2.2.1) none Hs) fuel l [] with
    | some xs => tk_cov TY (tk_id K.2.2.1 K.2.2.2.1) xs K.2.2.2.2.2.1
    | none => false)
  | _ => false
def tk_run1 (hk : Nat → tk_S → Option (List tk_S)) (TY : tk_TT) (fty : rk_F) (mci : List Nat) (call : tk_Ca) (fuel : Nat) (K : tk_K) (Hs : List tk_Hd) (M : rk_M2) (h : tk_Hd) : Bool := match tk_go1H hk (tk_fun K.2.2.2.2.2.2 TY fty mci call M) M.2.2.2.2.1 M.1 (h.1, tk_hst h) with
  | some (.inr l) => (match tk_loop (tk_go1H hk (tk_fun K.2.2.2.2.2.2 TY fty mci call M) M.2.2.2.2.1 M.1) (tk_cutH TY (tk_id K.2.2.1 K.2.2.2.1) (some h.2.2.2.2.2) Hs) fuel l [] with
    | some xs => tk_cov TY (tk_id K.2.2.1 K.2.2.2.1) xs K.2.2.2.2.2.1
    | none => false)
  | _ => false
def tk_hok (n : Nat) (h : tk_Hd) : Bool := Nat.beq h.2.2.2.2.2.length n && h.2.2.2.2.2.all (fun a => (tk_iv h.2.2.1.1 a.2.2).isSome)
def tk_methL (hk : Nat → tk_S → Option (List tk_S)) (TY : tk_TT) (fty : rk_F) (mci : List Nat) (P : List rk_M2) (call : tk_Ca) (fuel n : Nat) (K : tk_K) (Hs : List tk_Hd) : Bool := match P[K.1]? with
  | some M => (Nat.ble M.2.1 21 && Nat.ble (tk_sum K.2.1) M.2.1) && (cond (Hs.any (fun h => Nat.beq h.1 0)) (tk_run00 hk TY fty mci call fuel K Hs M) (tk_run0 hk TY fty mci call fuel K Hs M) && Hs.all (fun h => tk_hok n h && tk_run1 hk TY fty mci call fuel K Hs M h))
  | none => false
section TKLM
variable {l : Launch} {D : va_G} {cl : List vw_C} {tbl xw : List Jvm.Cond} {fty : rk_F} {cln : List String} {MN : List rk_N} {mci : List Nat} {P : List rk_M2} {xt : tk_XT} {TY : tk_TT} {ro : Nat → Nat → Int → Prop} {X : va_W → Prop} {ads tw : List Nat}
theorem tk_methL_ok {hk : Nat → tk_S → Option (List tk_S)} (hhk : tk_hkok TY ro X ads tw hk) (hXs : tk_xs TY X ads tw) (hxt : tk_xtok xt) (hok : rk_ok tbl xw cl fty cln MN mci P) {fuel n d : Nat} {call : tk_Ca} (hcall : tk_SC l D cl tbl xw xt MN P TY ro X ads tw d call) {K : tk_K} {Hs : List tk_Hd} (h : tk_methL hk TY fty mci P call fuel n K Hs = true) : tk_KS l D cl tbl xw xt MN P TY ro X ads tw (d + 1) K := by
  obtain ⟨f, as, w, rf, fa, ys, mods⟩ := K
  unfold tk_methL at h
  dsimp only at h
  split at h
  · next M hM =>
    rw [Bool.and_eq_true, Bool.and_eq_true, Bool.and_eq_true] at h
    obtain ⟨⟨hc1, hc2⟩, hrun, hall⟩ := h
    have hc1 := Nat.le_of_ble_eq_true hc1
    have hc2 := Nat.le_of_ble_eq_true hc2
    intro q hq
    refine ⟨M, hM, hc1, fun vals rads ws av sz hH h3 hA2 h4 h9 _ => ?_⟩
    obtain ⟨hgw, hxo, hcl, hac, hlenM, hmok, hmci⟩ := id hok
    obtain ⟨m1, m2, m3, m4, m5, m6, m7, m8, m9⟩ := hmok f q M hq hM
    refine Met.ofW (cc := q.2.2) (maxL := M.2.1) (ret := M.2.2.2.2.1) m1 rfl ?_
    intro p e s m args below meth c s₁ B hml hv
    obtain ⟨rfl, hsz, hP, hK, hD0, hC, hxw, hXt, hXw⟩ := hv
    have hts0 := atoms_spec (ws := Jvm.Cond.code q.2.1 q.2.2 M.2.1 M.2.2.2.2.1 :: tbl) B.pre
    have hts : ∀ w ∈ tbl, w.before av.toArray s = true := fun w hw => hts0 w (List.mem_cons_of_mem _ hw)
    have hown : s.vm.findClass q.1 = some m.cls := by rw [← m2]; exact findClass_of_methodNamed B.named
    have hnm : meth.name = q.2.1.name := (name_of_methodNamed B.named B.method).1
    subst hsz
    have hF : rk_Fr s m av.toArray meth D cl (va_A ws s.heap.size) tbl xw fty cln q.1 M.2.2.1 M.2.2.2.1 := ⟨hts, hxw, hown, hK, fun z hz => Or.inr hz, hcl, fun r hr => (m7 r hr).1, fun hz => by rw [hnm]; exact m8 hz, hac, m9⟩
    have hins : ∀ r ∈ M.1, decode q.2.2 r.1 = .ok r.2 := m6
    have hck : ∀ r ∈ M.2.2.1, rk_cok tbl xw MN P q.1 r := fun r hr => (m7 r hr).2.1
    have hkk : ∀ r ∈ M.2.2.1, rk_kok tbl q.1 r := fun r hr => (m7 r hr).2.2
    have heads : ∀ μ : List Nat, μ.length = n → ∀ h ∈ Hs, ∀ (vals1 : List Int) (rads1 : List Nat) (H : Heap) (locs : List Loc) (ls : Array Slot) (stk : List Value) (lc : List (Nat × Value)), h.2.2.2.2.2.map (fun b => (tk_mz vals1 b).toNat) = μ → tk_H h.2.2.1 vals1 → tk_hr mods ws TY ro X ads tw s D cl (va_A ws s.heap.size) vals rads vals1 rads1 H locs h.2.2.2.1 h.2.2.2.2.1 → lv_has ls M.2.1 lc → tk_Lo vals1 rads1 h.2.1 lc → rk_A2 (tk_g vals1 rads1) [] stk → rk_KW p l e (headSpec (Jvm.Cond.code q.2.1 q.2.2 M.2.1 M.2.2.2.2.1 :: tbl) { frames := d + 1, cells := 0, slots := 0, locals := 40 * (d + 1) }).room s m av.toArray below meth c (MQ below (tk_Post D cl TY ro X ads tw (ys, mods) vals rads ws (va_A ws s.heap.size)) av.toArray s (headSpec (Jvm.Cond.code q.2.1 q.2.2 M.2.1 M.2.2.2.2.1 :: tbl) { frames := d + 1, cells := 0, slots := 0, locals := 40 * (d + 1) }).room.cells (headSpec (Jvm.Cond.code q.2.1 q.2.2 M.2.1 M.2.2.2.2.1 :: tbl) { frames := d + 1, cells := 0, slots := 0, locals := 40 * (d + 1) }).room.slots (va_A ws s.heap.size)) h.1 ls stk H locs 0 0 := by
      refine tk_lx_ind n (fun μ hμ ih h hh vals1 rads1 H locs ls stk lc hms hH1 hR1 hl1 hL1 hS1 => ?_)
      have hh2 := List.all_eq_true.mp hall h hh
      rw [Bool.and_eq_true] at hh2
      obtain ⟨hhm, hrun1⟩ := hh2
      unfold tk_hok at hhm
      rw [Bool.and_eq_true] at hhm
      have hnum : ∀ a ∈ h.2.2.2.2.2, ∃ x, tk_num vals1 a.2.2 = some x := fun a ha => tk_num_some hH1.1 (List.all_eq_true.mp hhm.2 a ha)
      unfold tk_run1 at hrun1
      split at hrun1
      · next li hgo =>
        split at hrun1
        · next xs hxs =>
          obtain ⟨⟨l1, rfl⟩, ⟨r1, rfl⟩, hrest⟩ := hR1
          have hcut : ∀ pc st, tk_cutH TY (tk_id w rf) (some h.2.2.2.2.2) Hs pc st = some true → tk_St (rk_KW p l e (headSpec (Jvm.Cond.code q.2.1 q.2.2 M.2.1 M.2.2.2.2.1 :: tbl) { frames := d + 1, cells := 0, slots := 0, locals := 40 * (d + 1) }).room s m av.toArray below meth c (MQ below (tk_Post D cl TY ro X ads tw (ys, mods) vals rads ws (va_A ws s.heap.size)) av.toArray s (headSpec (Jvm.Cond.code q.2.1 q.2.2 M.2.1 M.2.2.2.2.1 :: tbl) { frames := d + 1, cells := 0, slots := 0, locals := 40 * (d + 1) }).room.cells (headSpec (Jvm.Cond.code q.2.1 q.2.2 M.2.1 M.2.2.2.2.1 :: tbl) { frames := d + 1, cells := 0, slots := 0, locals := 40 * (d + 1) }).room.slots (va_A ws s.heap.size))) M.2.1 (tk_hr mods ws TY ro X ads tw s D cl (va_A ws s.heap.size) (vals ++ l1) (rads ++ r1)) pc st := by
            intro pc st hc
            unfold tk_cutH at hc
            cases hb1 : Hs.any (fun h => Nat.beq h.1 pc) with
            | false => rw [hb1] at hc; cases hc
            | true =>
              rw [hb1] at hc
              obtain ⟨h', hh', hc2⟩ := List.any_eq_true.mp (Option.some.inj (show some (Hs.any (fun h' => Nat.beq h'.1 pc && tk_hit TY (tk_id w rf) (some h.2.2.2.2.2) h' st)) = some true from hc))
              rw [Bool.and_eq_true] at hc2
              obtain ⟨hpc, hhit⟩ := hc2
              have hpc := Nat.eq_of_beq_eq_true hpc
              subst hpc
              refine tk_hit_ok hH h3 hhit (fun ms hms2 => by cases hms2; exact hnum) (fun vals2 rads2 H2 locs2 ls2 stk2 lc2 hlx hH2 hR2 hl2 hL2 hS2 => ?_)
              have hlx2 := hlx _ rfl
              rw [hms] at hlx2
              have hh3 := List.all_eq_true.mp hall h' hh'
              rw [Bool.and_eq_true] at hh3
              have hk3 := hh3.1
              unfold tk_hok at hk3
              rw [Bool.and_eq_true] at hk3
              exact ih _ (by rw [List.length_map]; exact Nat.eq_of_beq_eq_true hk3.1) hlx2 h' hh' vals2 rads2 H2 locs2 ls2 stk2 lc2 rfl hH2 hR2 hl2 hL2 hS2
          have hW := tk_runC (mods := mods) hhk hXs hxt hXt hok B.exec B.bytes B.notSynchronized B.returns hml hins hF hck hkk hcall (Nat.le_refl _) (Nat.le_refl _) hH h3 (l1 := l1) (r1 := r1) hcut hxs hrun1
          have hSt := tk_stepC hhk hXs hxt hXt hok B.exec B.bytes hml hins hF hck hkk hcall (Nat.le_refl _) (Nat.le_refl _) hgo hW
          exact hSt (vals ++ l1) (rads ++ r1) H locs ls stk lc hH1 ⟨⟨[], by rw [List.append_nil]⟩, ⟨[], by rw [List.append_nil]⟩, hrest⟩ hl1 hL1 hS1
        · cases hrun1
      · cases hrun1
    have hlen : (lg_sl av).length ≤ M.2.1 := by
      rw [rk_lgsl, ← tk_sum_ok hA2]
      exact hc2
    have hl := lv_entry av (n := M.2.1) hlen
    rw [lg_entry_eq]
    have hcut0 : ∀ pc st, tk_cutH TY (tk_id w rf) none Hs pc st = some true → tk_St (rk_KW p l e (headSpec (Jvm.Cond.code q.2.1 q.2.2 M.2.1 M.2.2.2.2.1 :: tbl) { frames := d + 1, cells := 0, slots := 0, locals := 40 * (d + 1) }).room s m av.toArray below meth c (MQ below (tk_Post D cl TY ro X ads tw (ys, mods) vals rads ws (va_A ws s.heap.size)) av.toArray s (headSpec (Jvm.Cond.code q.2.1 q.2.2 M.2.1 M.2.2.2.2.1 :: tbl) { frames := d + 1, cells := 0, slots := 0, locals := 40 * (d + 1) }).room.cells (headSpec (Jvm.Cond.code q.2.1 q.2.2 M.2.1 M.2.2.2.2.1 :: tbl) { frames := d + 1, cells := 0, slots := 0, locals := 40 * (d + 1) }).room.slots (va_A ws s.heap.size))) M.2.1 (tk_hr mods ws TY ro X ads tw s D cl (va_A ws s.heap.size) (vals ++ []) (rads ++ [])) pc st := by
      intro pc st hc
      unfold tk_cutH at hc
      cases hb1 : Hs.any (fun h => Nat.beq h.1 pc) with
      | false => rw [hb1] at hc; cases hc
      | true =>
        rw [hb1] at hc
        obtain ⟨h', hh', hc2⟩ := List.any_eq_true.mp (Option.some.inj (show some (Hs.any (fun h' => Nat.beq h'.1 pc && tk_hit TY (tk_id w rf) none h' st)) = some true from hc))
        rw [Bool.and_eq_true] at hc2
        obtain ⟨hpc, hhit⟩ := hc2
        have hpc := Nat.eq_of_beq_eq_true hpc
        subst hpc
        refine tk_hit_ok hH h3 hhit (fun ms hms2 => by cases hms2) (fun vals2 rads2 H2 locs2 ls2 stk2 lc2 _ hH2 hR2 hl2 hL2 hS2 => ?_)
        have hh3 := List.all_eq_true.mp hall h' hh'
        rw [Bool.and_eq_true] at hh3
        have hk3 := hh3.1
        unfold tk_hok at hk3
        rw [Bool.and_eq_true] at hk3
        exact heads _ (by rw [List.length_map]; exact Nat.eq_of_beq_eq_true hk3.1) h' hh' vals2 rads2 H2 locs2 ls2 stk2 lc2 rfl hH2 hR2 hl2 hL2 hS2
    cases hb0 : Hs.any (fun h => Nat.beq h.1 0) with
    | true =>
      rw [hb0] at hrun
      unfold tk_run00 at hrun
      dsimp only [cond] at hrun
      split at hrun
      · next li hgo =>
        split at hrun
        · next xs hxs =>
          have hW := tk_runC (mods := mods) hhk hXs hxt hXt hok B.exec B.bytes B.notSynchronized B.returns hml hins hF hck hkk hcall (Nat.le_refl _) (Nat.le_refl _) hH h3 (l1 := []) (r1 := []) hcut0 hxs hrun
          have key := tk_stepC hhk hXs hxt hXt hok B.exec B.bytes hml hins hF hck hkk hcall (Nat.le_refl _) (Nat.le_refl _) hgo hW
          exact key vals rads s.heap [] _ [] _ hH ⟨⟨[], by simp⟩, ⟨[], by simp⟩, h3, ws, h4, hC, hP, hD0.self, va_S.rf, ⟨tk_un_rf _ _ _ _, hXw⟩, h9⟩ hl (tk_args_ok 0 hA2) trivial
        · cases hrun
      · cases hrun
    | false =>
      rw [hb0] at hrun
      unfold tk_run0 at hrun
      dsimp only [cond] at hrun
      split at hrun
      · next xs hxs =>
        have key := tk_runC (mods := mods) hhk hXs hxt hXt hok B.exec B.bytes B.notSynchronized B.returns hml hins hF hck hkk hcall (Nat.le_refl _) (Nat.le_refl _) hH h3 (l1 := []) (r1 := []) hcut0 hxs hrun _ (List.mem_singleton.mpr rfl)
        exact key vals rads s.heap [] _ [] _ hH ⟨⟨[], by simp⟩, ⟨[], by simp⟩, h3, ws, h4, hC, hP, hD0.self, va_S.rf, ⟨tk_un_rf _ _ _ _, hXw⟩, h9⟩ hl (tk_args_ok 0 hA2) trivial
      · cases hrun
  · cases h
/-- a contract holds where more frames are granted -/
theorem tk_KS_up {K : tk_K} {d d' : Nat} (hd : d ≤ d') (h : tk_KS l D cl tbl xw xt MN P TY ro X ads tw d K) : tk_KS l D cl tbl xw xt MN P TY ro X ads tw d' K := by
  intro q hq
  obtain ⟨M, hM, hM21, hmet⟩ := h q hq
  refine ⟨M, hM, hM21, fun vals rads ws av sz a1 a2 a3 a4 a5 a6 => ?_⟩
  have := hmet vals rads ws av sz a1 a2 a3 a4 a5 a6
  unfold Met at this ⊢
  exact MetFree.respec this (fun _ _ z => z) hd (by show 40 * d ≤ 40 * d'; omega) (Nat.le_refl _) (Nat.le_refl _)
end TKLM
