section MH31_0
/-! ===== the model's plain(slot): its loop ===== -/
theorem pl_d2 : decode gk_N202.2.2 2 = .ok (.iload_n 2, 1) := by decide +kernel
theorem pl_d3 : decode gk_N202.2.2 3 = .ok (.sipush 842, 3) := by decide +kernel
theorem pl_d6 : decode gk_N202.2.2 6 = .ok (.if_icmp .ge 18, 3) := by decide +kernel
theorem pl_d9 : decode gk_N202.2.2 9 = .ok (.aload_n 0, 1) := by decide +kernel
theorem pl_d10 : decode gk_N202.2.2 10 = .ok (.getfield 7, 3) := by decide +kernel
theorem pl_d13 : decode gk_N202.2.2 13 = .ok (.iload_n 1, 1) := by decide +kernel
theorem pl_d14 : decode gk_N202.2.2 14 = .ok (.iload_n 2, 1) := by decide +kernel
theorem pl_d15 : decode gk_N202.2.2 15 = .ok (.iadd, 1) := by decide +kernel
theorem pl_d16 : decode gk_N202.2.2 16 = .ok (.iconst 0, 1) := by decide +kernel
theorem pl_d17 : decode gk_N202.2.2 17 = .ok (.iastore, 1) := by decide +kernel
theorem pl_d18 : decode gk_N202.2.2 18 = .ok (.iinc 2 1, 3) := by decide +kernel
theorem pl_d21 : decode gk_N202.2.2 21 = .ok (.goto (-19), 3) := by decide +kernel
theorem rk_look_filter (d : rk_V) (p : Nat → Bool) (j : Nat) : ∀ ov : List (Nat × rk_V), rk_look d (ov.filter (fun z => p z.1)) j = if p j = true then rk_look d ov j else d
  | [] => by
    show d = _
    split <;> rfl
  | q :: r => by
    by_cases hq : p q.1 = true
    · rw [List.filter_cons_of_pos (p := fun z : Nat × rk_V => p z.1) hq]
      show (if q.1 = j then q.2 else rk_look d (r.filter (fun z => p z.1)) j) = if p j = true then (if q.1 = j then q.2 else rk_look d r j) else d
      by_cases e : q.1 = j
      · rw [if_pos e, if_pos e, if_pos (e ▸ hq)]
      · rw [if_neg e, if_neg e]
        exact rk_look_filter d p j r
    · rw [List.filter_cons_of_neg (p := fun z : Nat × rk_V => p z.1) hq, rk_look_filter d p j r]
      show (if p j = true then rk_look d r j else d) = if p j = true then (if q.1 = j then q.2 else rk_look d r j) else d
      by_cases hj : p j = true
      · rw [if_pos hj, if_pos hj, if_neg (show ¬ q.1 = j from fun e => hq (by rw [e]; exact hj))]
      · rw [if_neg hj, if_neg hj]
section PLB
variable {p : Program} {l : Launch} {e : Env} {R : Room} {s : State} {m : MethodId} {args : Array Value} {below : List Frame} {meth : Method} {c : Code} {Q : State → Prop} {D : va_G} {Ad : Nat → Prop}
set_option maxHeartbeats 4000000 in
theorem pl_body (hx : p.tables.exec = Jvm.exec) (hb : c.code = gk_N202.2.2) (hts : ∀ w ∈ gk_tbl, w.before args s = true) (hown : s.vm.findClass "GooseIceModel" = some m.cls) {cA : ClassId} (hK : va_K D gk_cl [(cA, .int)] s) {ws : va_W} {j kk h0 a S nc ns : Nat} {vs : List Value} {f0 : Nat → Int32} (hj : ws[j]? = some (h0, .inr (12, vs))) (hv : vs[0]? = some (.ref a)) (hk : ws[kk]? = some (a, .inl (cA, 5894, .inl f0))) (hS842 : S + 842 ≤ 5894) {H : Heap} {locs : List Loc} {ls : Array Slot} (hP : va_P D gk_cl ws H) (hD : va_D Ad ws) (hS : va_S Ad s.heap H locs) (hl : lv_has ls 3 [(0, .ref h0), (1, .int (nI S)), (2, .int (nI 0))])
    (kend : ∀ (H : Heap) (locs : List Loc) (ls : Array Slot) (f : Nat → Int32), va_P D gk_cl (ws.set kk (a, .inl (cA, 5894, .inl f))) H → va_D Ad (ws.set kk (a, .inl (cA, 5894, .inl f))) → va_S Ad s.heap H locs → (∀ i, f i = if S ≤ i ∧ i < S + 842 then 0 else f0 i) → lv_has ls 3 [(0, .ref h0), (1, .int (nI S))] → W p l e R s m args below meth c H locs nc ns Q (F0 m 24 ls [])) :
    W p l e R s m args below meth c H locs nc ns Q (F0 m 2 ls []) := by
  have hjk : kk ≠ j := by rintro rfl; rw [hj] at hk; cases hk
  have hkl : kk < ws.length := (List.getElem?_eq_some_iff.mp hk).1
  obtain ⟨Z, hZ⟩ : ∃ Z : (Nat → Int32) → va_W, ∀ f, Z f = ws.set kk (a, .inl (cA, 5894, .inl f)) := ⟨_, fun _ => rfl⟩
  have hZj : ∀ f, (Z f)[j]? = some (h0, .inr (12, vs)) := fun f => by rw [hZ, List.getElem?_set_ne hjk]; exact hj
  have hZk : ∀ f, (Z f)[kk]? = some (a, .inl (cA, 5894, .inl f)) := fun f => by rw [hZ, List.getElem?_set_self hkl]
  have hZs : ∀ f g, (Z f).set kk (a, .inl (cA, 5894, .inl g)) = Z g := fun f g => by rw [hZ, hZ, List.set_set]
  have hZ0 : Z f0 = ws := by
    rw [hZ]
    apply List.ext_getElem?
    intro i
    rw [List.getElem?_set]
    split
    · next z => subst z; first | exact hk.symm | (rw [if_pos hkl]; exact hk.symm)
    · rfl
  have loop : ∀ (r k : Nat), k + r = 842 → ∀ (H : Heap) (locs : List Loc) (ls : Array Slot) (f : Nat → Int32), (va_P D gk_cl (Z f) H ∧ va_D Ad (Z f) ∧ va_S Ad s.heap H locs) → (∀ i, f i = if S ≤ i ∧ i < S + k then 0 else f0 i) → lv_has ls 3 [(0, .ref h0), (1, .int (nI S)), (2, .int (nI k))] → W p l e R s m args below meth c H locs nc ns Q (F0 m 2 ls []) := by
    intro r
    induction r with
    | zero =>
      intro k hkr H locs ls f hI hf hl
      refine lv_iload_n hx hb pl_d2 rfl (lv_at hl 2 rfl) ?_
      refine lv_sipush (v := nI 842) hx hb pl_d3 (by decide +kernel) ?_
      refine lv_icmp_ge (tgt := 24) hx hb pl_d6 rfl (fun _ => ?_) (fun h => absurd (nI_le (by omega) (by omega)) h)
      rw [hZ] at hI
      exact kend H locs ls f hI.1 hI.2.1 hI.2.2 (fun i => by rw [hf i, show k = 842 by omega]) (lv_sub hl [0, 1] rfl)
    | succ r ih =>
      intro k hkr H locs ls f hI hf hl
      refine lv_iload_n hx hb pl_d2 rfl (lv_at hl 2 rfl) ?_
      refine lv_sipush (v := nI 842) hx hb pl_d3 (by decide +kernel) ?_
      refine lv_icmp_ge (tgt := 24) hx hb pl_d6 rfl (fun h => absurd h (nI_ge (by omega) (by omega))) (fun _ => ?_)
      refine lv_aload_n hx hb pl_d9 rfl (lv_at hl 0 rfl) ?_
      refine va_get (D := D) (ci := 12) (v := .ref a) (own := "GooseIceModel") (ref := "GooseIceModel") (index := 7) (C := gk_R12) (T := gk_T12) (N := 43) hx hb hts gk_u12 hown hK hI.1 j (hZj _) rfl 0 (by decide) (hts _ (rk_mt 1659 (by decide +kernel) rfl)) (fun _ h9 => h9) hv pl_d10 ?_
      refine lv_iload_n hx hb pl_d13 rfl (lv_at hl 1 rfl) ?_
      refine lv_iload_n hx hb pl_d14 rfl (lv_at hl 2 rfl) ?_
      refine lv_iadd hx hb pl_d15 ?_
      rw [nI_add]
      refine lv_iconst (v := 0) hx hb pl_d16 (by decide +kernel) ?_
      refine va_iast hx hb hK hI.1 hI.2.1 hI.2.2 kk 0 (hZk f) rfl (nI_in (show S + k < 5894 by omega) (by decide)) pl_d17 (fun H2 locs2 hP2 hD2 hS2 => ?_)
      rw [hZs, nI_clamp (by omega)] at hP2 hD2
      refine lv_iinc (v := nI (k + 1)) hx hb pl_d18 hl (k := 2) rfl (by rw [nI_succ k]; first | done | rfl) (by decide) rfl (fun ls2 hl2 => ?_)
      refine lv_goto (tgt := 2) hx hb pl_d21 rfl ?_
      refine ih (k + 1) (by omega) H2 locs2 ls2 _ ⟨hP2, hD2, hS2⟩ (fun i => ?_) (lv_sub hl2 [1, 2, 0] rfl)
      by_cases hi : i = S + k
      · subst hi
        rw [pk_us, if_pos (by omega)]
      · rw [pk_un hi, hf i]
        by_cases h9 : S ≤ i ∧ i < S + k
        · rw [if_pos h9, if_pos (by omega)]
        · rw [if_neg h9, if_neg (by omega)]
  exact loop 842 0 (by omega) H locs ls f0 (by rw [hZ0]; exact ⟨hP, hD, hS⟩) (fun i => by rw [if_neg (by omega)]) hl
end PLB
end MH31_0
section MH31_1
/-! ===== what else a frame knows: the class's one text; sums for the executor ===== -/
def sg_t : String := "ice bears shore way beside walker weighs at worse hour better send to step frost thaw any when in wet loop end stop"
def gk_xt : rk_XT := fun vals Ad U H => ∃ a v, vals[8]? = some (.ref a) ∧ sg_X a v Ad U H ∧ vk_R "GooseIce$Reader" 26 sg_t a U
theorem gk_xtok : rk_xtok gk_xt := by
  refine ⟨?_, ?_, ?_, ?_⟩
  · rintro vals k Ad U H ⟨a, v, h1, h2, h3⟩
    exact ⟨a, v, by rw [List.getElem?_append_left (List.getElem?_eq_some_iff.mp h1).1]; exact h1, h2, h3⟩
  · rintro vals Ad s U H hv ⟨a, v, h1, h2, h3⟩
    exact ⟨a, v, h1, h2.moved (by rw [hv]; exact Vm.Alike.refl _), vk_R.same hv.symm h3⟩
  · rintro vals Ad s U H hW ⟨a, v, h1, h2, h3⟩
    exact ⟨a, v, h1, h2.moved hW.alike, vk_R.warm hW h3⟩
  · rintro vals Ad B U H H1 ⟨a, v, h1, h2, h3⟩ hk hAB
    exact ⟨a, v, h1, (h2.kept hk).narrow hAB, h3⟩
theorem rk_look_app (d : rk_V) (ov : List (Nat × rk_V)) (j : Nat) : ∀ l : List (Nat × rk_V), (∃ v, (j, v) ∈ l ∧ rk_look d (l ++ ov) j = v) ∨ ((∀ v, (j, v) ∉ l) ∧ rk_look d (l ++ ov) j = rk_look d ov j) := by
  intro l
  induction l with
  | nil => exact Or.inr ⟨fun v h => (by cases h), rfl⟩
  | cons q l ih =>
    by_cases e : q.1 = j
    · refine Or.inl ⟨q.2, by rw [← e]; exact List.mem_cons_self, ?_⟩
      show (if q.1 = j then q.2 else rk_look d (l ++ ov) j) = q.2
      rw [if_pos e]
    · have e2 : rk_look d (q :: l ++ ov) j = rk_look d (l ++ ov) j := by
        show (if q.1 = j then q.2 else rk_look d (l ++ ov) j) = _
        rw [if_neg e]
      rw [e2]
      rcases ih with ⟨v, h1, h2⟩ | ⟨h1, h2⟩
      · exact Or.inl ⟨v, List.mem_cons_of_mem _ h1, h2⟩
      · refine Or.inr ⟨fun v hv => ?_, h2⟩
        rcases List.mem_cons.mp hv with h | h
        · exact e (by rw [← h])
        · exact h1 v h
section RKZ
variable {p : Program} {l : Launch} {e : Env} {R : Room} {s : State} {m : MethodId} {args : Array Value} {below : List Frame} {meth : Method} {c : Code} {Q : State → Prop} {cc : ByteArray} {D : va_G} {Ad : Nat → Prop} {nL : Nat} {vals0 : List Value} {ads0 : List Nat} {lk : List (Nat × Nat × Nat × Nat)} {cs : List (Nat × Value)}
theorem rd_115 : (rd 115).2 = rd_lits := by decide +kernel
theorem rd_look (j : Nat) : rk_look (.inl (.long 0)) rd_ov j = .inl (.long ((rd 115).2.getD j 0)) := by
  rw [rd_115]
  by_cases h : j < 23
  · exact of_decide_eq_true (List.all_eq_true.mp (show (List.range 23).all (fun j => decide (rk_look (.inl (.long 0)) rd_ov j = .inl (.long (rd_lits.getD j 0)))) = true from by decide +kernel) j (List.mem_range.mpr h))
  · have hall : rd_ov.all (fun z => decide (z.1 < 23)) = true := by decide +kernel
    have e1 : rd_lits.getD j 0 = 0 := by
      rw [List.getD_eq_getElem?_getD, List.getElem?_eq_none (by show 23 ≤ j; omega)]
      rfl
    rw [e1]
    rcases rk_look_app (.inl (.long 0)) [] j rd_ov with ⟨v, hm, -⟩ | ⟨-, e⟩
    · exact absurd (of_decide_eq_true (List.all_eq_true.mp hall _ hm)) h
    · rw [List.append_nil] at e
      exact e
set_option maxHeartbeats 4000000 in
theorem rk_rdx_ok (hx : p.tables.exec = Jvm.exec) (hb : c.code = gk_N99.2.2) (hml : c.maxLocals = 4) (hF : rk_Fr s m args meth D gk_cl Ad gk_tbl gk_xw gk_fty gk_cln "GooseIce$Reader" lk cs) (hXt : gk_xt vals0 Ad s s.heap) (hfr : 5 ≤ R.frames) (hlo : 200 ≤ R.locals) (pc : Nat) (ins : Instr) (st : rk_S) (res : List (Nat × rk_S)) (h : rk_rdx pc ins st = some res) (hroom : ∀ q ∈ res, q.2.2.2.2.2.1 ≤ R.cells ∧ q.2.2.2.2.2.2 ≤ R.slots) (kk : ∀ q ∈ res, rk_W (rk_KW p l e R s m args below meth c Q) s D gk_cl Ad 4 vals0 ads0 q.1 q.2) : rk_W (rk_KW p l e R s m args below meth c Q) s D gk_cl Ad 4 vals0 ads0 pc st := by
  obtain ⟨lo, sk, env, hp, nc, ns⟩ := st
  obtain ⟨hts, hxw, hown, hK, hA, -⟩ := hF
  obtain ⟨a, v, e8, hX, hR⟩ := hXt
  intro vals ws H locs ls stk lc hG hl hL hS
  dsimp only at hG hL hS ⊢
  unfold rk_rdx at h
  dsimp only at h
  split at h
  · next hpc =>
    subst hpc
    split at h
    · next x2 x1 j =>
      split at h
      · next hx12 =>
        split at h
        · next ob hj =>
          split at h
          · next h8 =>
            split at h
            · next k hk1 =>
              split at h
              · next nn dd ov hk =>
                split at h
                · next hc =>
                  cases h
                  obtain ⟨rfl, hov, rfl⟩ := hc
                  have hov2 : ov = [] := List.isEmpty_iff.mp hov
                  subst hov2
                  obtain ⟨rfl, rfl⟩ := hx12
                  have hrm := hroom _ (List.mem_singleton.mpr rfl)
                  obtain ⟨l2, k2, rfl, ⟨d2, g2⟩, hL1⟩ := hL.cons
                  obtain ⟨l1, k1, rfl, ⟨d1, g1⟩, hL0⟩ := hL1.cons
                  obtain ⟨l0, k0, rfl, ⟨d0, x, hjx, g0⟩, hLn⟩ := hL0.cons
                  have hnil := hLn.nil
                  subst hnil
                  have hstk := hS.nil
                  subst hstk
                  obtain ⟨l2a, l2b⟩ := l2
                  obtain ⟨l1a, l1b⟩ := l1
                  obtain ⟨l0a, l0b⟩ := l0
                  dsimp only at d2 d1 d0 g2 g1 g0
                  subst d2 d1 d0
                  have g2 : l2b = .int 0 := g2
                  have g1 : l1b = .int 0 := g1
                  subst g2 g1 g0
                  obtain ⟨e1, hw1, vs, ev, hvs⟩ := hG.cell hj hjx
                  obtain ⟨w1, hw1v, q, hq, rfl⟩ := hvs.get hk1
                  obtain ⟨e2, hw2, cA, hA1, hA2, f0, ef, hf⟩ := hG.cell hk hq
                  rw [ev, h8] at hw1
                  rw [ef] at hw2
                  dsimp only at hw2 hf
                  have hz : (0 : Int32) = nI 0 := by decide
                  refine rd_body (D := D) (Ad := Ad) (j := j) (kk := k) hx hb hml hts hown (rk_K1 hK hA1 hA2) hA hX hR hfr hlo hrm.1 hrm.2 hw1 hw1v hw2 (fun i => by have := hf i; exact Value.long.inj (show Value.long (f0 i) = Value.long 0 from this)) hG.2.2.1 hG.2.2.2.1 hG.2.2.2.2.1 (by rw [← hz]; exact lv_sub hl [2, 1, 0] rfl) (fun H1 locs1 ls1 f hP1 hD1 hS1 hf1 hl1 => ?_)
                  have hG1 := hG.setc (c' := .inr (.long, 23, .inl (.long 0), rd_ov)) hw2 hP1 hD1 hS1 ⟨cA, hA1, hA2, f, rfl, fun i => by
                    show rk_g vals (ws.map Prod.fst) (rk_look (.inl (.long 0)) rd_ov i) (.long (f i))
                    rw [rd_look, hf1 i]
                    rfl⟩
                  refine kk _ (List.mem_singleton.mpr rfl) vals _ H1 locs1 ls1 [] _ hG1 hl1 ⟨⟨rfl, x, ?_, rfl⟩, trivial⟩ trivial
                  rw [rk_map_set hw2]
                  exact hjx
                · cases h
              · cases h
            · cases h
          · cases h
        · cases h
      · cases h
    · cases h
  · cases h
set_option maxHeartbeats 4000000 in
theorem rk_plx_ok (hx : p.tables.exec = Jvm.exec) (hb : c.code = gk_N202.2.2) (hF : rk_Fr s m args meth D gk_cl Ad gk_tbl gk_xw gk_fty gk_cln "GooseIceModel" lk cs) (pc : Nat) (ins : Instr) (st : rk_S) (res : List (Nat × rk_S)) (h : rk_plx pc ins st = some res) (kk : ∀ q ∈ res, rk_W (rk_KW p l e R s m args below meth c Q) s D gk_cl Ad 3 vals0 ads0 q.1 q.2) : rk_W (rk_KW p l e R s m args below meth c Q) s D gk_cl Ad 3 vals0 ads0 pc st := by
  obtain ⟨lo, sk, env, hp, nc, ns⟩ := st
  obtain ⟨hts, hxw, hown, hK, hA, -⟩ := hF
  intro vals ws H locs ls stk lc hG hl hL hS
  dsimp only at hG hL hS ⊢
  unfold rk_plx at h
  dsimp only at h
  split at h
  · next hpc =>
    subst hpc
    split at h
    · next x2 j sv =>
      split at h
      · next hx2 =>
        split at h
        · next ob hj =>
          split at h
          · next h12 =>
            split at h
            · next k hk1 =>
              split at h
              · next nn dd ov hk =>
                split at h
                · next hc =>
                  cases h
                  obtain ⟨rfl, rfl⟩ := hc
                  obtain ⟨rfl, hs0, hs1⟩ := hx2
                  obtain ⟨S, hSb, rfl⟩ := nI_of (x := sv) (by rw [Int32.lt_iff_toInt_lt, Int32.toInt_zero]; omega)
                  have hSt := nI_toInt hSb
                  rw [hSt] at hs0 hs1
                  have hSn : (nI S).toInt.toNat = S := by rw [hSt]; omega
                  obtain ⟨l2, k2, rfl, ⟨d2, g2⟩, hL1⟩ := hL.cons
                  obtain ⟨l0, k0, rfl, ⟨d0, x, hjx, g0⟩, hL0⟩ := hL1.cons
                  obtain ⟨l1, k1, rfl, ⟨d1, g1⟩, hLn⟩ := hL0.cons
                  have hnil := hLn.nil
                  subst hnil
                  have hstk := hS.nil
                  subst hstk
                  obtain ⟨l2a, l2b⟩ := l2
                  obtain ⟨l1a, l1b⟩ := l1
                  obtain ⟨l0a, l0b⟩ := l0
                  dsimp only at d2 d1 d0 g2 g1 g0
                  subst d2 d1 d0
                  have g2 : l2b = .int 0 := g2
                  have g1 : l1b = .int (nI S) := g1
                  subst g2 g1 g0
                  obtain ⟨e1, hw1, vs, ev, hvs⟩ := hG.cell hj hjx
                  obtain ⟨w1, hw1v, q, hq, rfl⟩ := hvs.get hk1
                  obtain ⟨e2, hw2, cA, hA1, hA2, f0, ef, hf⟩ := hG.cell hk hq
                  rw [ev, h12] at hw1
                  rw [ef] at hw2
                  dsimp only at hw2 hf
                  have hz : (0 : Int32) = nI 0 := by decide
                  refine pl_body (D := D) (Ad := Ad) (j := j) (kk := k) (S := S) hx hb hts hown (rk_K1 hK hA1 hA2) hw1 hw1v hw2 (by omega) hG.2.2.1 hG.2.2.2.1 hG.2.2.2.2.1 (by rw [← hz]; exact lv_sub hl [1, 2, 0] rfl) (fun H1 locs1 ls1 f hP1 hD1 hS1 hf1 hl1 => ?_)
                  have hG1 := hG.setc (c' := .inr (.int, 5894, .inl (.int 0), ov.filter (fun z => decide (z.1 < (nI S).toInt.toNat) || decide ((nI S).toInt.toNat + 842 ≤ z.1)))) hw2 hP1 hD1 hS1 ⟨cA, hA1, hA2, f, rfl, fun i => by
                    show rk_g vals (ws.map Prod.fst) (rk_look (.inl (.int 0)) (ov.filter (fun z => decide (z.1 < (nI S).toInt.toNat) || decide ((nI S).toInt.toNat + 842 ≤ z.1))) i) (.int (f i))
                    rw [hSn, rk_look_filter (.inl (.int 0)) (fun i => decide (i < S) || decide (S + 842 ≤ i)) i ov, hf1 i]
                    by_cases h9 : S ≤ i ∧ i < S + 842
                    · rw [if_pos h9, if_neg (by simp; omega)]
                      rfl
                    · rw [if_neg h9, if_pos (by simp; omega)]
                      exact hf i⟩
                  refine kk _ (List.mem_singleton.mpr rfl) vals _ H1 locs1 ls1 [] _ hG1 hl1 ⟨⟨rfl, x, ?_, rfl⟩, ⟨rfl, rfl⟩, trivial⟩ trivial
                  rw [rk_map_set hw2]
                  exact hjx
                · cases h
              · cases h
            · cases h
          · cases h
        · cases h
      · cases h
    · cases h
  · cases h
end RKZ
theorem tg_ov_ok {vals : List Value} {ads : List Nat} {d : rk_V} {ov : List (Nat × rk_V)} {f f0 : Nat → Int32} {b n : Nat} (h : ∀ j, rk_g vals ads (rk_look d ov j) (.int (f0 j))) (h1 : ∀ k t, k ≤ b → t ≤ n → f (61 * k + t) = nI (tg k t)) (h2 : ∀ i, (∀ k t, k ≤ b → t ≤ n → i ≠ 61 * k + t) → f i = f0 i) (j : Nat) : rk_g vals ads (rk_look d (tg_ov b n ++ ov) j) (.int (f j)) := by
  rcases rk_look_app d ov j (tg_ov b n) with ⟨v, hm, e⟩ | ⟨hm, e⟩
  · rw [e]
    obtain ⟨k, hk, hm⟩ := List.mem_flatMap.mp hm
    obtain ⟨t, ht, hm⟩ := List.mem_map.mp hm
    cases hm
    show Value.int (f (61 * k + t)) = Value.int (nI (tg k t))
    rw [h1 k t (by have := List.mem_range.mp hk; omega) (by have := List.mem_range.mp ht; omega)]
  · rw [e, h2 j (fun k t hk ht e9 => hm (.inl (.int (nI (tg k t)))) (List.mem_flatMap.mpr ⟨k, List.mem_range.mpr (by omega), List.mem_map.mpr ⟨t, List.mem_range.mpr (by omega), by rw [e9]⟩⟩))]
    exact h j
set_option maxHeartbeats 4000000 in
theorem gk_ts_ok (l : Launch) (D : va_G) (d : Nat) (hd : 4 ≤ d) (as : List rk_V) (env : List rk_T) (hp : List rk_H) (o : rk_O) (h : gk_ts as env hp = some o) (vals : List Value) (ws : va_W) (av : List Value) (sz : Nat) (hE : rk_E env vals) (hA2 : rk_A2 (rk_g vals (ws.map Prod.fst)) as av) : Met l gk_N344.2.1 (Jvm.Cond.code gk_N344.2.1 gk_N344.2.2 gk_m344.2.1 gk_m344.2.2.2.2.1 :: gk_tbl) { frames := d + 1, cells := o.1, slots := o.2.1, locals := 40 * (d + 1) } (rk_Pre D gk_cl gk_xw gk_xt vals ws hp sz av) (rk_Post D gk_cl o.2.2 vals (ws.map Prod.fst) (va_A ws sz)) o.1 o.2.1 (va_A ws sz) := by
  unfold gk_ts at h
  split at h
  · next j an ab =>
    split at h
    · next ob hj =>
      split at h
      · next h12 =>
        split at h
        · next k hk32 =>
          split at h
          · next nn dd ov hk =>
            split at h
            · next h427 =>
              split at h
              · next I J hI hJ =>
                split at h
                · next hc =>
                  cases h
                  obtain ⟨va, k0, rfl, ⟨h0, hh0, rfl⟩, hA3⟩ := hA2.cons
                  obtain ⟨v1, k1, rfl, g1, hA4⟩ := hA3.cons
                  obtain ⟨v2, k2, rfl, g2, hA5⟩ := hA4.cons
                  have hk2 := hA5.nil
                  subst hk2
                  obtain ⟨x1, rfl, a1, a2⟩ := rk_iv_ok hE g1 hI
                  obtain ⟨x2, rfl, b1, b2⟩ := rk_iv_ok hE g2 hJ
                  obtain ⟨n, hn1, rfl⟩ := nI_of (x := x1) (by rw [Int32.lt_iff_toInt_lt, Int32.toInt_zero]; omega)
                  obtain ⟨b, hb1, rfl⟩ := nI_of (x := x2) (by rw [Int32.lt_iff_toInt_lt, Int32.toInt_zero]; omega)
                  rw [nI_toInt hn1] at a1 a2
                  rw [nI_toInt hb1] at b1 b2
                  refine Met.ofW (cc := gk_N344.2.2) (maxL := 6) (ret := some .int) (by decide +kernel) rfl ?_
                  intro p e s m args below meth c s₁ B hml hv0
                  obtain ⟨rfl, hsz, hP, hK, hD0, hC, hxw, hXt⟩ := hv0
                  have hx := B.exec
                  have hb := B.bytes
                  have hr := B.returns
                  have hlocks := B.notSynchronized
                  have hts : ∀ w ∈ gk_tbl, w.before ([Value.ref h0, .int (nI n), .int (nI b)].toArray) s = true := fun w hw => atoms_spec (ws := Jvm.Cond.code gk_N344.2.1 gk_N344.2.2 gk_m344.2.1 gk_m344.2.2.2.2.1 :: gk_tbl) B.pre w (List.mem_cons_of_mem _ hw)
                  have hown : s.vm.findClass "GooseIceModel" = some m.cls := findClass_of_methodNamed B.named
                  subst hsz
                  obtain ⟨q1, hq1, hrc1⟩ := hC.get hj
                  have eq1 : q1 = (h0, q1.2) := by
                    rw [List.getElem?_map, hq1] at hh0
                    cases hh0
                    rfl
                  obtain ⟨vs, ev, hvs⟩ := hrc1
                  obtain ⟨w32, hw32, a, ha, rfl⟩ := hvs.get hk32
                  obtain ⟨q2, hq2, cA, hA1, hA2', f0, ef, hf⟩ := hC.get hk
                  have eq2 : q2 = (a, q2.2) := by
                    rw [List.getElem?_map, hq2] at ha
                    cases ha
                    rfl
                  rw [eq1, ev, h12] at hq1
                  dsimp only at ef hf
                  rw [eq2, ef, h427] at hq2
                  have hl := lv_entry ([Value.ref h0, .int (nI n), .int (nI b)]) (n := 6) (Nat.le_of_ble_eq_true rfl)
                  rw [lg_entry_eq]
                  have hD : va_D (va_A ws s.heap.size) ws := hD0.self
                  refine tg_body (D := D) (Ad := va_A ws s.heap.size) (j := j) (kk := k) (n := n) (b := b) hx hb hml hts hown (rk_K1 hK hA1 hA2') (fun q hq => Or.inr hq) (by show 2 ≤ d + 1; omega) (by show 80 ≤ 40 * (d + 1); omega) hq1 hw32 hq2 (by omega) (by omega) hP hD va_S.rf hl (fun H locs ls f hP1 hD1 hS1 hf1 hf2 => ?_)
                  have hcut1 := rk_cut_ok (lo := I.1 + ((n - I.1.toNat : Nat) : Int)) (hi := I.1 + ((n - I.1.toNat : Nat) : Int)) hE g1 (by rw [nI_toInt hn1]; omega) (by rw [nI_toInt hn1]; omega)
                  obtain ⟨e1, c1, hE1⟩ := hcut1
                  obtain ⟨e2, c2, hE2⟩ := rk_cut_ok (lo := J.1 + ((b - J.1.toNat : Nat) : Int)) (hi := J.1 + ((b - J.1.toNat : Nat) : Int)) hE1 g2 (by rw [nI_toInt hb1]; omega) (by rw [nI_toInt hb1]; omega)
                  have en : (I.1 + ((n - I.1.toNat : Nat) : Int)).toNat = n := by omega
                  have eb : (J.1 + ((b - J.1.toNat : Nat) : Int)).toNat = b := by omega
                  have hmem : ((some (.inl (.int (nI (tg b n)))), e2, hp.set k (.inr (.int, 427, dd, tg_ov b n ++ ov)), 0, 0) : rk_X) ∈ (List.range (I.2 - I.1 + 1).toNat).flatMap (fun x => (List.range (J.2 - J.1 + 1).toNat).flatMap (fun y => gk_tx hp k dd ov env an ab I.1 J.1 x y)) := by
                    refine List.mem_flatMap.mpr ⟨n - I.1.toNat, List.mem_range.mpr (by omega), List.mem_flatMap.mpr ⟨b - J.1.toNat, List.mem_range.mpr (by omega), ?_⟩⟩
                    unfold gk_tx
                    rw [c1, Option.bind_some, c2, en, eb]
                    exact List.mem_singleton.mpr rfl
                  refine W.iret (v := nI (tg b n)) hx hb hr (fun t9 ht9 hW => ?_) hS1.2.2 tg_d344_119
                  have hsetA : (ws.set k (a, (.inl (cA, 427, .inl f) : va_E))).map Prod.fst = ws.map Prod.fst := rk_map_set hq2
                  refine ⟨⟨_, hmem, vals, ws.set k (a, .inl (cA, 427, .inl f)), ⟨[], by simp⟩, ⟨[], by rw [hsetA]; simp⟩, hE2, ?_, by rw [ht9]; exact hP1, hD1, _, rfl, rfl⟩, hS1.F ht9⟩
                  rw [hsetA]
                  have hmv : rk_A2 (fun (c : rk_H) (q : Nat × va_E) => rk_c t9 vals (ws.map Prod.fst) c q.2) hp ws := hC.mono (fun _ _ h => h.moved hW.alike)
                  have hcell : rk_c t9 vals (ws.map Prod.fst) (.inr (.int, 427, dd, tg_ov b n ++ ov)) (.inl (cA, 427, .inl f)) := ⟨cA, arrOfT_moved hW.alike hA1, hA2'.moved hW.alike, f, rfl, fun jj => tg_ov_ok hf hf1 hf2 jj⟩
                  exact rk_A2.set (R := fun (c : rk_H) (q : Nat × va_E) => rk_c t9 vals (ws.map Prod.fst) c q.2) (a := .inr (.int, 427, dd, tg_ov b n ++ ov)) (b := (a, .inl (cA, 427, .inl f))) hcell hmv k
                · cases h
              · cases h
            · cases h
          · cases h
        · cases h
      · cases h
    · cases h
  · cases h
set_option maxHeartbeats 4000000 in
theorem gk_sum_ok (l : Launch) (D : va_G) (d : Nat) : rk_SC l D gk_cl gk_tbl gk_xw gk_xt gk_MN gk_P (d + 1) (gk_sum d) := by
  intro f as env hp o h q hq
  unfold gk_sum at h
  split at h
  · next hd =>
    split at h
    · next hf =>
      subst hf
      have e : q = gk_N344 := Option.some.inj (hq.symm.trans (by rfl : gk_MN[344]? = some gk_N344))
      subst e
      exact ⟨gk_m344, (by rfl : gk_P[344]? = some gk_m344), by decide, fun vals ws av sz hE hA2 => gk_ts_ok l D d hd as env hp o h vals ws av sz hE hA2⟩
    · split at h
      · next hf =>
        subst hf
        split at h
        · next hsm =>
          have e : q = gk_N99 := Option.some.inj (hq.symm.trans (by rfl : gk_MN[99]? = some gk_N99))
          subst e
          have hM : gk_P[99]? = some gk_m99 := by rfl
          refine ⟨gk_m99, hM, by decide, fun vals ws av sz hE hA2 => ?_⟩
          obtain ⟨hgw, hxo, hcl, hac, hlenM, hmok, hmci⟩ := id gk_rok
          obtain ⟨m1, m2, m3, m4, m5, m6, m7, m8, m9⟩ := hmok 99 gk_N99 gk_m99 hq hM
          refine Met.ofW (cc := gk_N99.2.2) (maxL := gk_m99.2.1) (ret := gk_m99.2.2.2.2.1) m1 rfl ?_
          intro p e s m args below meth c s₁ B hml hv
          obtain ⟨rfl, hsz, hP, hK, hD0, hC, hxw, hXt⟩ := hv
          have hts0 := atoms_spec (ws := Jvm.Cond.code gk_N99.2.1 gk_N99.2.2 gk_m99.2.1 gk_m99.2.2.2.2.1 :: gk_tbl) B.pre
          have hts : ∀ w ∈ gk_tbl, w.before av.toArray s = true := fun w hw => hts0 w (List.mem_cons_of_mem _ hw)
          have hown : s.vm.findClass gk_N99.1 = some m.cls := by rw [← m2]; exact findClass_of_methodNamed B.named
          have hnm : meth.name = gk_N99.2.1.name := (name_of_methodNamed B.named B.method).1
          subst hsz
          have hF : rk_Fr s m av.toArray meth D gk_cl (va_A ws s.heap.size) gk_tbl gk_xw gk_fty gk_cln gk_N99.1 gk_m99.2.2.1 gk_m99.2.2.2.1 := ⟨hts, hxw, hown, hK, fun z hz => Or.inr hz, hcl, fun r hr => (m7 r hr).1, fun hz => by rw [hnm]; exact m8 hz, hac, m9⟩
          have key := rk_loop_ok (l := l) (p := p) (e := e) (R := (headSpec (Jvm.Cond.code gk_N99.2.1 gk_N99.2.2 gk_m99.2.1 gk_m99.2.2.2.2.1 :: gk_tbl) { frames := d + 1, cells := o.1, slots := o.2.1, locals := 40 * (d + 1) }).room) (below := below) (vals0 := vals) (ads0 := ws.map Prod.fst) (d := d) (call := fun _ _ _ _ => none) gk_xtok hXt gk_rok B.exec B.bytes hml m6 hF (fun r hr => (m7 r hr).2.1) (fun r hr => (m7 r hr).2.2) (fun _ _ _ _ _ z => by cases z) (ext := rk_rdx) (fun pc ins len st res a1 a2 a3 a4 a5 => rk_rdx_ok B.exec B.bytes hml hF hXt (by show 5 ≤ d + 1; omega) (by show 200 ≤ 40 * (d + 1); omega) pc ins st res a3 a4 a5) (Nat.le_refl _) (Nat.le_refl _) (XS := o.2.2) (fun pc ins len st x a1 a2 a3 a4 a5 a6 => rk_end_ok B.exec B.bytes B.notSynchronized B.returns a1 a2 a3 a4 a5 a6) 200 _ o h (fun x hx => hx) (Nat.le_refl _) (Nat.le_refl _)
          have hlen : (lg_sl av).length ≤ gk_m99.2.1 := by
            rw [rk_lgsl, ← rk_sum_ok hE hA2]
            exact hsm
          have hl := lv_entry av (n := gk_m99.2.1) hlen
          rw [lg_entry_eq]
          exact key vals ws s.heap [] _ [] _ ⟨hE, hC, hP, hD0.self, va_S.rf, ⟨[], by simp⟩, ⟨[], by simp⟩⟩ hl (rk_args_ok hE 0 hA2) trivial
        · cases h
      · split at h
        · next hf =>
          subst hf
          split at h
          · next hsm =>
            have e : q = gk_N202 := Option.some.inj (hq.symm.trans (by rfl : gk_MN[202]? = some gk_N202))
            subst e
            have hM : gk_P[202]? = some gk_m202 := by rfl
            refine ⟨gk_m202, hM, by decide, fun vals ws av sz hE hA2 => ?_⟩
            obtain ⟨hgw, hxo, hcl, hac, hlenM, hmok, hmci⟩ := id gk_rok
            obtain ⟨m1, m2, m3, m4, m5, m6, m7, m8, m9⟩ := hmok 202 gk_N202 gk_m202 hq hM
            refine Met.ofW (cc := gk_N202.2.2) (maxL := gk_m202.2.1) (ret := gk_m202.2.2.2.2.1) m1 rfl ?_
            intro p e s m args below meth c s₁ B hml hv
            obtain ⟨rfl, hsz, hP, hK, hD0, hC, hxw, hXt⟩ := hv
            have hts0 := atoms_spec (ws := Jvm.Cond.code gk_N202.2.1 gk_N202.2.2 gk_m202.2.1 gk_m202.2.2.2.2.1 :: gk_tbl) B.pre
            have hts : ∀ w ∈ gk_tbl, w.before av.toArray s = true := fun w hw => hts0 w (List.mem_cons_of_mem _ hw)
            have hown : s.vm.findClass gk_N202.1 = some m.cls := by rw [← m2]; exact findClass_of_methodNamed B.named
            have hnm : meth.name = gk_N202.2.1.name := (name_of_methodNamed B.named B.method).1
            subst hsz
            have hF : rk_Fr s m av.toArray meth D gk_cl (va_A ws s.heap.size) gk_tbl gk_xw gk_fty gk_cln gk_N202.1 gk_m202.2.2.1 gk_m202.2.2.2.1 := ⟨hts, hxw, hown, hK, fun z hz => Or.inr hz, hcl, fun r hr => (m7 r hr).1, fun hz => by rw [hnm]; exact m8 hz, hac, m9⟩
            have key := rk_loop_ok (l := l) (p := p) (e := e) (R := (headSpec (Jvm.Cond.code gk_N202.2.1 gk_N202.2.2 gk_m202.2.1 gk_m202.2.2.2.2.1 :: gk_tbl) { frames := d + 1, cells := o.1, slots := o.2.1, locals := 40 * (d + 1) }).room) (below := below) (vals0 := vals) (ads0 := ws.map Prod.fst) (d := d) (call := fun _ _ _ _ => none) gk_xtok hXt gk_rok B.exec B.bytes hml m6 hF (fun r hr => (m7 r hr).2.1) (fun r hr => (m7 r hr).2.2) (fun _ _ _ _ _ z => by cases z) (ext := rk_plx) (fun pc ins len st res a1 a2 a3 a4 a5 => rk_plx_ok B.exec B.bytes hF pc ins st res a3 a5) (Nat.le_refl _) (Nat.le_refl _) (XS := o.2.2) (fun pc ins len st x a1 a2 a3 a4 a5 a6 => rk_end_ok B.exec B.bytes B.notSynchronized B.returns a1 a2 a3 a4 a5 a6) 200 _ o h (fun x hx => hx) (Nat.le_refl _) (Nat.le_refl _)
            have hlen : (lg_sl av).length ≤ gk_m202.2.1 := by
              rw [rk_lgsl, ← rk_sum_ok hE hA2]
              exact hsm
            have hl := lv_entry av (n := gk_m202.2.1) hlen
            rw [lg_entry_eq]
            exact key vals ws s.heap [] _ [] _ ⟨hE, hC, hP, hD0.self, va_S.rf, ⟨[], by simp⟩, ⟨[], by simp⟩⟩ hl (rk_args_ok hE 0 hA2) trivial
          · cases h
        · cases h
  · cases h
end MH31_1
