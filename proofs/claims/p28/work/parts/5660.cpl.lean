/-! ===== the class: a lake cleared, copied; its text as a whole ===== -/
def fm_ur (a : Nat → Nat → Int32) (j : Nat) (f : Nat → Int32) : Nat → Nat → Int32 := fun j2 => if j2 = j then f else a j2
theorem fm_ur_n {a : Nat → Nat → Int32} {j k : Nat} {f : Nat → Int32} (h : k ≠ j) : fm_ur a j f k = a k := if_neg h
theorem fm_ur_s {a : Nat → Nat → Int32} {j : Nat} {f : Nat → Int32} : fm_ur a j f j = f := if_pos rfl
def tc_g (f : Nat → Int32) (k : Nat) (v : Int32) : Nat → Int32 := fun i => if i < k then v else f i
theorem tc_gs (f : Nat → Int32) (k : Nat) (v : Int32) : upd (tc_g f k v) k v = tc_g f (k + 1) v := by
  funext i
  by_cases h : i = k
  · rw [h, pk_us]; unfold tc_g; rw [if_pos (by omega)]
  · rw [pk_un h]; unfold tc_g
    by_cases h2 : i < k
    · rw [if_pos h2, if_pos (by omega)]
    · rw [if_neg h2, if_neg (by omega)]
theorem ha_fi {t len : Nat} {v : Int32} {mem : (Nat → Int32) → fx_M} (hm : ∀ f, (mem f)[t]? = some (.inr (.int, len, .inl f))) (hs : ∀ f f', (mem f).set t (.inr (.int, len, .inl f')) = mem f') (hl : len < 2147483648) (f : Nat → Int32) : hr_T 1 388 [.ref t, .int v] (mem f) none (mem (tc_g f len v)) := by
  have loop : ∀ (r k : Nat), k + r = len → hr_R 0 gk_m388 5 [(3, .int (nI len)), (2, .int (nI k)), (0, .ref t), (1, .int v)] [] (mem (tc_g f k v)) (none, mem (tc_g f len v)) := by
    intro r
    induction r with
    | zero =>
      intro k hk
      obtain rfl : k = len := by omega
      refine hr_s 3 (pc' := cond (fx_cb .ge (nI k) (nI k)) 20 10) (lc' := [(3, .int (nI k)), (2, .int (nI k)), (0, .ref t), (1, .int v)]) (stk' := []) (mem' := mem (tc_g f k v)) (by intro _ _ _; eq_refl) ?_
      rw [show (fx_cb .ge (nI k) (nI k)) = true from cb_geT (a := k) (b := k) (by omega) (by omega) (by omega)]
      exact hr_ret (by rfl) (by rfl) (by rfl)
    | succ r ih =>
      intro k hk
      refine hr_s 3 (pc' := cond (fx_cb .ge (nI k) (nI len)) 20 10) (lc' := [(3, .int (nI len)), (2, .int (nI k)), (0, .ref t), (1, .int v)]) (stk' := []) (mem' := mem (tc_g f k v)) (by intro _ _ _; eq_refl) ?_
      rw [show (fx_cb .ge (nI k) (nI len)) = false from cb_geF (a := k) (b := len) (by omega) (by omega) (by omega)]
      dsimp only [cond]
      refine hr_s 3 (pc' := 13) (lc' := [(3, .int (nI len)), (2, .int (nI k)), (0, .ref t), (1, .int v)]) (stk' := [.int v, .int (nI k), .ref t]) (mem' := mem (tc_g f k v)) (by intro _ _ _; eq_refl) ?_
      refine hr_stI (by rfl) (hm _) (fx_inN (i := k) (by omega) hl) (hs _ _) ?_
      rw [nI_clamp (by omega), tc_gs]
      refine hr_s 2 (pc' := 5) (lc' := [(2, .int (nI k + 1)), (3, .int (nI len)), (0, .ref t), (1, .int v)]) (stk' := []) (mem' := mem (tc_g f (k + 1) v)) (by intro _ _ _; eq_refl) ?_
      rw [show nI k + 1 = nI (k + 1) from nI_add k 1]
      exact hr_w (lc' := [(3, .int (nI len)), (2, .int (nI (k + 1))), (0, .ref t), (1, .int v)]) ⟨rfl, rfl, rfl, rfl, trivial⟩ (by show List.Nodup [3, 2, 0, 1]; decide) (by show List.Nodup [2, 3, 0, 1]; decide) (ih (k + 1) (by omega))
  refine hr_meth (by rfl) (by rfl) ?_
  refine hr_s 3 (pc' := 3) (lc' := [(2, .int 0), (0, .ref t), (1, .int v)]) (stk' := [.ref t]) (mem' := mem f) (by intro _ _ _; eq_refl) ?_
  refine hr_len (by rfl) (hm f) ?_
  refine hr_s 1 (pc' := 5) (lc' := [(3, .int (nI len)), (2, .int 0), (0, .ref t), (1, .int v)]) (stk' := []) (mem' := mem f) (by intro _ _ _; eq_refl) ?_
  have h0 := loop len 0 (by omega)
  rw [show tc_g f 0 v = f from funext (fun _ => if_neg (Nat.not_lt_zero _))] at h0
  exact h0
theorem he_cpI {k pc idx a b : Nat} {M : rk_M2} {lc : fx_L} {r : List Value} {mem : fx_M} {F : Option Value × fx_M → Prop} {x dp sp : Int32} {j0 j1 n0 n1 : Nat} {f g : Nat → Int32} {mem' : fx_M} (hat : tk_at M.1 pc = some (pc, .invokestatic idx, 3)) (hlk : rk_lk M.2.2.1 idx = some (12, a, b)) (h0 : mem[j0]? = some (.inr (.int, n0, .inl f))) (h1 : mem[j1]? = some (.inr (.int, n1, .inl g))) (hsum : Nat.ble (fx_sum r) 8 = true) (hc : hx_cc x dp sp n0 n1 = true) (hm : mem.set j1 (.inr (.int, n1, .inl (va_cpy f g sp.toNatClampNeg dp.toNatClampNeg x.toNatClampNeg))) = mem') (kk : he_R k M (pc + 3) lc r mem' F) : he_R k M pc lc (.int x :: .int dp :: .ref j1 :: .int sp :: .ref j0 :: r) mem F := he_of (fun _ z => hr_cpI hat hlk h0 h1 hsum hc hm z) kk
section CPL
variable {g : Nat → Nat → Int32} {l : Nat → Nat → Int64} {a : Nat → Nat → Int32} {b : Nat → Nat → Int64} {R : fx_M} {T : Nat → Nat} {n p : Nat}
variable {F : Int32} {P : Nat} {A : sp_A} {s : Nat}

theorem ha_icl : ∃ (g' a' : Nat → Nat → Int32) (b' : Nat → Nat → Int64), hr_T 2 24 [.ref 47] (cm g l a b R) none (cm g' l a' b' R) ∧ ∀ j, ¬ (47 ≤ j ∧ j ≤ 51) → g' j = g j ∧ a' j = a j ∧ b' j = b j := by
  suffices h : ∃ (v : Option Value) (mem' : fx_M), (fun R1 => ∃ (g' a' : Nat → Nat → Int32) (b' : Nat → Nat → Int64), (∀ j, ¬ (47 ≤ j ∧ j ≤ 51) → g' j = g j ∧ a' j = a j ∧ b' j = b j) ∧ R1 = (none, cm g' l a' b' R)) (v, mem') ∧ hr_T 2 24 [.ref 47] (cm g l a b R) v mem' by
    obtain ⟨v, mem', ⟨g', a', b', h1, hR1⟩, h2⟩ := h
    cases hR1
    exact ⟨g', a', b', h2, h1⟩
  refine he_meth (F := fun R1 => ∃ (g' a' : Nat → Nat → Int32) (b' : Nat → Nat → Int64), (∀ j, ¬ (47 ≤ j ∧ j ≤ 51) → g' j = g j ∧ a' j = a j ∧ b' j = b j) ∧ R1 = (none, cm g' l a' b' R)) (M := gk_m24) (by rfl) (by rfl) ?_
  refine he_s 3 (pc' := 5) (lc' := [(0, .ref 47)]) (stk' := [.int 0, .ref 48]) (mem' := cm g l a b R) (by intro _ _ _; eq_refl) ?_
  refine he_ivS (show hr_T 1 388 [.ref 48, .int 0] (cm g l a b R) none (cm g l (fm_ur a 48 (tc_g (a 48) 10 0)) b R) from ha_fi (t := 48) (len := 10) (mem := fun f => cm g l (fm_ur a 48 f) b R) (fun _ => rfl) (fun _ _ => rfl) (by decide) _) (by omega) (by rfl) (by rfl) (by rfl) (by rfl) (by rfl) ?_
  refine he_s 3 (pc' := 13) (lc' := [(0, .ref 47)]) (stk' := [.int 0, .ref 49]) (mem' := cm g l (fm_ur a 48 (tc_g (a 48) 10 0)) b R) (by intro _ _ _; eq_refl) ?_
  refine he_ivS (show hr_T 1 388 [.ref 49, .int 0] (cm g l (fm_ur a 48 (tc_g (a 48) 10 0)) b R) none (cm g l (fm_ur (fm_ur a 48 (tc_g (a 48) 10 0)) 49 (tc_g (a 49) 10 0)) b R) from ha_fi (t := 49) (len := 10) (mem := fun f => cm g l (fm_ur (fm_ur a 48 (tc_g (a 48) 10 0)) 49 f) b R) (fun _ => rfl) (fun _ _ => rfl) (by decide) _) (by omega) (by rfl) (by rfl) (by rfl) (by rfl) (by rfl) ?_
  refine he_s 3 (pc' := 21) (lc' := [(0, .ref 47)]) (stk' := [.int 0, .ref 50]) (mem' := cm g l (fm_ur (fm_ur a 48 (tc_g (a 48) 10 0)) 49 (tc_g (a 49) 10 0)) b R) (by intro _ _ _; eq_refl) ?_
  refine he_ivS (show hr_T 1 388 [.ref 50, .int 0] (cm g l (fm_ur (fm_ur a 48 (tc_g (a 48) 10 0)) 49 (tc_g (a 49) 10 0)) b R) none (cm g l (fm_ur (fm_ur (fm_ur a 48 (tc_g (a 48) 10 0)) 49 (tc_g (a 49) 10 0)) 50 (tc_g (a 50) 10 0)) b R) from ha_fi (t := 50) (len := 10) (mem := fun f => cm g l (fm_ur (fm_ur (fm_ur a 48 (tc_g (a 48) 10 0)) 49 (tc_g (a 49) 10 0)) 50 f) b R) (fun _ => rfl) (fun _ _ => rfl) (by decide) _) (by omega) (by rfl) (by rfl) (by rfl) (by rfl) (by rfl) ?_
  refine he_s 3 (pc' := 29) (lc' := [(0, .ref 47)]) (stk' := [.int 0, .ref 51]) (mem' := cm g l (fm_ur (fm_ur (fm_ur a 48 (tc_g (a 48) 10 0)) 49 (tc_g (a 49) 10 0)) 50 (tc_g (a 50) 10 0)) b R) (by intro _ _ _; eq_refl) ?_
  refine he_ivS (show hr_T 1 388 [.ref 51, .int 0] (cm g l (fm_ur (fm_ur (fm_ur a 48 (tc_g (a 48) 10 0)) 49 (tc_g (a 49) 10 0)) 50 (tc_g (a 50) 10 0)) b R) none (cm g l (fm_ur (fm_ur (fm_ur (fm_ur a 48 (tc_g (a 48) 10 0)) 49 (tc_g (a 49) 10 0)) 50 (tc_g (a 50) 10 0)) 51 (tc_g (a 51) 200 0)) b R) from ha_fi (t := 51) (len := 200) (mem := fun f => cm g l (fm_ur (fm_ur (fm_ur (fm_ur a 48 (tc_g (a 48) 10 0)) 49 (tc_g (a 49) 10 0)) 50 (tc_g (a 50) 10 0)) 51 f) b R) (fun _ => rfl) (fun _ _ => rfl) (by decide) _) (by omega) (by rfl) (by rfl) (by rfl) (by rfl) (by rfl) ?_
  refine he_s 6 (pc' := 42) (lc' := [(0, .ref 47)]) (stk' := []) (mem' := cm (fm_u (fm_u g 47 4 0) 47 5 0) l (fm_ur (fm_ur (fm_ur (fm_ur a 48 (tc_g (a 48) 10 0)) 49 (tc_g (a 49) 10 0)) 50 (tc_g (a 50) 10 0)) 51 (tc_g (a 51) 200 0)) b R) (by intro _ _ _; eq_refl) ?_
  exact he_ret ⟨_, _, _, fun j hj => ⟨(by first | rfl | (repeat (first | rw [fm_un (by omega)] | rw [fm_ur_n (by omega)] | rw [fm_uf_n (by omega)]))), (by first | rfl | (repeat (first | rw [fm_un (by omega)] | rw [fm_ur_n (by omega)] | rw [fm_uf_n (by omega)]))), (by first | rfl | (repeat (first | rw [fm_un (by omega)] | rw [fm_ur_n (by omega)] | rw [fm_uf_n (by omega)])))⟩, rfl⟩ (by rfl) (by rfl) (by rfl)
theorem ha_ccl : ∃ (g' a' : Nat → Nat → Int32) (b' : Nat → Nat → Int64), hr_T 2 1 [.ref 52] (cm g l a b R) none (cm g' l a' b' R) ∧ g' 52 7 = 0 ∧ ∀ j, ¬ (52 ≤ j ∧ j ≤ 59) → g' j = g j ∧ a' j = a j ∧ b' j = b j := by
  suffices h : ∃ (v : Option Value) (mem' : fx_M), (fun R1 => ∃ (g' a' : Nat → Nat → Int32) (b' : Nat → Nat → Int64), (g' 52 7 = 0 ∧ ∀ j, ¬ (52 ≤ j ∧ j ≤ 59) → g' j = g j ∧ a' j = a j ∧ b' j = b j) ∧ R1 = (none, cm g' l a' b' R)) (v, mem') ∧ hr_T 2 1 [.ref 52] (cm g l a b R) v mem' by
    obtain ⟨v, mem', ⟨g', a', b', h1, hR1⟩, h2⟩ := h
    cases hR1
    exact ⟨g', a', b', h2, h1⟩
  refine he_meth (F := fun R1 => ∃ (g' a' : Nat → Nat → Int32) (b' : Nat → Nat → Int64), (g' 52 7 = 0 ∧ ∀ j, ¬ (52 ≤ j ∧ j ≤ 59) → g' j = g j ∧ a' j = a j ∧ b' j = b j) ∧ R1 = (none, cm g' l a' b' R)) (M := gk_m1) (by rfl) (by rfl) ?_
  refine he_s 12 (pc' := 20) (lc' := [(0, .ref 52)]) (stk' := [.int 0, .ref 56]) (mem' := cm (fm_u (fm_u (fm_u g 52 7 0) 52 8 0) 52 9 0) l a b R) (by intro _ _ _; eq_refl) ?_
  refine he_ivS (show hr_T 1 388 [.ref 56, .int 0] (cm (fm_u (fm_u (fm_u g 52 7 0) 52 8 0) 52 9 0) l a b R) none (cm (fm_u (fm_u (fm_u g 52 7 0) 52 8 0) 52 9 0) l (fm_ur a 56 (tc_g (a 56) 8 0)) b R) from ha_fi (t := 56) (len := 8) (mem := fun f => cm (fm_u (fm_u (fm_u g 52 7 0) 52 8 0) 52 9 0) l (fm_ur a 56 f) b R) (fun _ => rfl) (fun _ _ => rfl) (by decide) _) (by omega) (by rfl) (by rfl) (by rfl) (by rfl) (by rfl) ?_
  exact he_ret ⟨_, _, _, ⟨rfl, fun j hj => ⟨(by first | rfl | (repeat (first | rw [fm_un (by omega)] | rw [fm_ur_n (by omega)] | rw [fm_uf_n (by omega)]))), (by first | rfl | (repeat (first | rw [fm_un (by omega)] | rw [fm_ur_n (by omega)] | rw [fm_uf_n (by omega)]))), (by first | rfl | (repeat (first | rw [fm_un (by omega)] | rw [fm_ur_n (by omega)] | rw [fm_uf_n (by omega)])))⟩⟩, rfl⟩ (by rfl) (by rfl) (by rfl)
theorem ha_lcl : ∃ (g' a' : Nat → Nat → Int32) (b' : Nat → Nat → Int64), hr_T 3 30 [.ref 41] (cm g l a b R) none (cm g' l a' b' R) ∧ cd_L 41 sp_A0 g' a' b' ∧ cdr g a b g' a' b' := by
  suffices h : ∃ (v : Option Value) (mem' : fx_M), (fun R1 => ∃ (g' a' : Nat → Nat → Int32) (b' : Nat → Nat → Int64), (cd_L 41 sp_A0 g' a' b' ∧ cdr g a b g' a' b') ∧ R1 = (none, cm g' l a' b' R)) (v, mem') ∧ hr_T 3 30 [.ref 41] (cm g l a b R) v mem' by
    obtain ⟨v, mem', ⟨g', a', b', h1, hR1⟩, h2⟩ := h
    cases hR1
    exact ⟨g', a', b', h2, h1⟩
  refine he_meth (F := fun R1 => ∃ (g' a' : Nat → Nat → Int32) (b' : Nat → Nat → Int64), (cd_L 41 sp_A0 g' a' b' ∧ cdr g a b g' a' b') ∧ R1 = (none, cm g' l a' b' R)) (M := gk_m30) (by rfl) (by rfl) ?_
  refine he_s 3 (pc' := 5) (lc' := [(0, .ref 41)]) (stk' := [.int 0, .ref 43]) (mem' := cm g l a b R) (by intro _ _ _; eq_refl) ?_
  refine he_ivS (show hr_T 1 388 [.ref 43, .int 0] (cm g l a b R) none (cm g l (fm_ur a 43 (tc_g (a 43) 10 0)) b R) from ha_fi (t := 43) (len := 10) (mem := fun f => cm g l (fm_ur a 43 f) b R) (fun _ => rfl) (fun _ _ => rfl) (by decide) _) (by omega) (by rfl) (by rfl) (by rfl) (by rfl) (by rfl) ?_
  refine he_s 3 (pc' := 13) (lc' := [(0, .ref 41)]) (stk' := [.int 0, .ref 44]) (mem' := cm g l (fm_ur a 43 (tc_g (a 43) 10 0)) b R) (by intro _ _ _; eq_refl) ?_
  refine he_ivS (show hr_T 1 388 [.ref 44, .int 0] (cm g l (fm_ur a 43 (tc_g (a 43) 10 0)) b R) none (cm g l (fm_ur (fm_ur a 43 (tc_g (a 43) 10 0)) 44 (tc_g (a 44) 10 0)) b R) from ha_fi (t := 44) (len := 10) (mem := fun f => cm g l (fm_ur (fm_ur a 43 (tc_g (a 43) 10 0)) 44 f) b R) (fun _ => rfl) (fun _ _ => rfl) (by decide) _) (by omega) (by rfl) (by rfl) (by rfl) (by rfl) (by rfl) ?_
  refine he_s 3 (pc' := 21) (lc' := [(0, .ref 41)]) (stk' := [.int 0, .ref 45]) (mem' := cm g l (fm_ur (fm_ur a 43 (tc_g (a 43) 10 0)) 44 (tc_g (a 44) 10 0)) b R) (by intro _ _ _; eq_refl) ?_
  refine he_ivS (show hr_T 1 388 [.ref 45, .int 0] (cm g l (fm_ur (fm_ur a 43 (tc_g (a 43) 10 0)) 44 (tc_g (a 44) 10 0)) b R) none (cm g l (fm_ur (fm_ur (fm_ur a 43 (tc_g (a 43) 10 0)) 44 (tc_g (a 44) 10 0)) 45 (tc_g (a 45) 10 0)) b R) from ha_fi (t := 45) (len := 10) (mem := fun f => cm g l (fm_ur (fm_ur (fm_ur a 43 (tc_g (a 43) 10 0)) 44 (tc_g (a 44) 10 0)) 45 f) b R) (fun _ => rfl) (fun _ _ => rfl) (by decide) _) (by omega) (by rfl) (by rfl) (by rfl) (by rfl) (by rfl) ?_
  refine he_s 2 (pc' := 28) (lc' := [(0, .ref 41)]) (stk' := [.ref 47]) (mem' := cm g l (fm_ur (fm_ur (fm_ur a 43 (tc_g (a 43) 10 0)) 44 (tc_g (a 44) 10 0)) 45 (tc_g (a 45) 10 0)) b R) (by intro _ _ _; eq_refl) ?_
  obtain ⟨gc1, ac1, bc1, hrc1, hxc1⟩ := ha_icl (g := g) (l := l) (a := (fm_ur (fm_ur (fm_ur a 43 (tc_g (a 43) 10 0)) 44 (tc_g (a 44) 10 0)) 45 (tc_g (a 45) 10 0))) (b := b) (R := R)
  refine he_ivV hrc1 (by omega) (by rfl) (by rfl) (by rfl) (by rfl) (by rfl) (by rfl) ?_
  refine he_s 2 (pc' := 35) (lc' := [(0, .ref 41)]) (stk' := [.ref 52]) (mem' := cm gc1 l ac1 bc1 R) (by intro _ _ _; eq_refl) ?_
  obtain ⟨gc2, ac2, bc2, hrc2, hxc2⟩ := ha_ccl (g := gc1) (l := l) (a := ac1) (b := bc1) (R := R)
  refine he_ivV hrc2 (by omega) (by rfl) (by rfl) (by rfl) (by rfl) (by rfl) (by rfl) ?_
  refine he_s 18 (pc' := 68) (lc' := [(0, .ref 41)]) (stk' := []) (mem' := cm (fm_u (fm_u (fm_u (fm_u (fm_u (fm_u gc2 41 8 0) 41 9 0) 41 10 2) 41 11 4) 41 12 1) 41 13 0) l ac2 bc2 R) (by intro _ _ _; eq_refl) ?_
  have f43 : ac2 43 = tc_g (a 43) 10 0 := (hxc2.2 43 (by decide)).2.1.trans ((hxc1 43 (by decide)).2.1.trans rfl)
  have f44 : ac2 44 = tc_g (a 44) 10 0 := (hxc2.2 44 (by decide)).2.1.trans ((hxc1 44 (by decide)).2.1.trans rfl)
  refine he_ret ⟨_, _, _, ⟨⟨⟨rfl, by decide, ?_, by decide, ⟨fun i L h => (by cases h), fun L h => absurd h List.not_mem_nil⟩, ⟨fun i L h => (by cases h), fun L h => absurd h List.not_mem_nil⟩⟩, fun c hc => ?_, fun i hi => ?_, fun i hi => ?_, fun i L w h => (by cases h)⟩, fun j hj => ?_⟩, rfl⟩ (by rfl) (by rfl) (by rfl)
  · exact (show _ = gc2 52 7 from rfl).trans hxc2.1
  · rw [show sp_sh sp_A0 c = false from rfl]
    show (0 : Int32) >>> (nI c &&& 31) &&& 1 = 0
    rw [bi_v _ (by omega), show (0 : Int32).toBitVec = 0#32 from rfl, BitVec.getLsbD_zero]; rfl
  · exact (congrFun f43 i).trans (if_pos hi)
  · exact (congrFun f44 i).trans (if_pos hi)
  · refine ⟨?_, ?_, ?_⟩
    · repeat rw [fm_un (by omega)]
      rw [(hxc2.2 j (by omega)).1, (hxc1 j (by omega)).1]
    · rw [(hxc2.2 j (by omega)).2.1, (hxc1 j (by omega)).2.1]; repeat rw [fm_ur_n (by omega)]
    · rw [(hxc2.2 j (by omega)).2.2, (hxc1 j (by omega)).2.2]
theorem ha_icp : ∃ (g' a' : Nat → Nat → Int32) (b' : Nat → Nat → Int64), hr_T 1 25 [.ref 21, .ref 47] (cm g l a b R) none (cm g' l a' b' R) ∧ ∀ j, ¬ (21 ≤ j ∧ j ≤ 25) → g' j = g j ∧ a' j = a j ∧ b' j = b j := by
  suffices h : ∃ (v : Option Value) (mem' : fx_M), (fun R1 => ∃ (g' a' : Nat → Nat → Int32) (b' : Nat → Nat → Int64), (∀ j, ¬ (21 ≤ j ∧ j ≤ 25) → g' j = g j ∧ a' j = a j ∧ b' j = b j) ∧ R1 = (none, cm g' l a' b' R)) (v, mem') ∧ hr_T 1 25 [.ref 21, .ref 47] (cm g l a b R) v mem' by
    obtain ⟨v, mem', ⟨g', a', b', h1, hR1⟩, h2⟩ := h
    cases hR1
    exact ⟨g', a', b', h2, h1⟩
  refine he_meth (F := fun R1 => ∃ (g' a' : Nat → Nat → Int32) (b' : Nat → Nat → Int64), (∀ j, ¬ (21 ≤ j ∧ j ≤ 25) → g' j = g j ∧ a' j = a j ∧ b' j = b j) ∧ R1 = (none, cm g' l a' b' R)) (M := gk_m25) (by rfl) (by rfl) ?_
  refine he_s 7 (pc' := 12) (lc' := [(0, .ref 21), (1, .ref 47)]) (stk' := [.int 10, .int 0, .ref 22, .int 0, .ref 48]) (mem' := cm g l a b R) (by intro _ _ _; eq_refl) ?_
  refine he_cpI (mem' := cm g l (fm_ur a 22 (va_cpy (a 48) (a 22) 0 0 10)) b R) (by rfl) (by rfl) (by rfl) (by rfl) (by rfl) (by decide) (by rfl) ?_
  refine he_s 7 (pc' := 27) (lc' := [(0, .ref 21), (1, .ref 47)]) (stk' := [.int 10, .int 0, .ref 23, .int 0, .ref 49]) (mem' := cm g l (fm_ur a 22 (va_cpy (a 48) (a 22) 0 0 10)) b R) (by intro _ _ _; eq_refl) ?_
  refine he_cpI (mem' := cm g l (fm_ur (fm_ur a 22 (va_cpy (a 48) (a 22) 0 0 10)) 23 (va_cpy (a 49) (a 23) 0 0 10)) b R) (by rfl) (by rfl) (by rfl) (by rfl) (by rfl) (by decide) (by rfl) ?_
  refine he_s 7 (pc' := 42) (lc' := [(0, .ref 21), (1, .ref 47)]) (stk' := [.int 10, .int 0, .ref 24, .int 0, .ref 50]) (mem' := cm g l (fm_ur (fm_ur a 22 (va_cpy (a 48) (a 22) 0 0 10)) 23 (va_cpy (a 49) (a 23) 0 0 10)) b R) (by intro _ _ _; eq_refl) ?_
  refine he_cpI (mem' := cm g l (fm_ur (fm_ur (fm_ur a 22 (va_cpy (a 48) (a 22) 0 0 10)) 23 (va_cpy (a 49) (a 23) 0 0 10)) 24 (va_cpy (a 50) (a 24) 0 0 10)) b R) (by rfl) (by rfl) (by rfl) (by rfl) (by rfl) (by decide) (by rfl) ?_
  refine he_s 7 (pc' := 58) (lc' := [(0, .ref 21), (1, .ref 47)]) (stk' := [.int 200, .int 0, .ref 25, .int 0, .ref 51]) (mem' := cm g l (fm_ur (fm_ur (fm_ur a 22 (va_cpy (a 48) (a 22) 0 0 10)) 23 (va_cpy (a 49) (a 23) 0 0 10)) 24 (va_cpy (a 50) (a 24) 0 0 10)) b R) (by intro _ _ _; eq_refl) ?_
  refine he_cpI (mem' := cm g l (fm_ur (fm_ur (fm_ur (fm_ur a 22 (va_cpy (a 48) (a 22) 0 0 10)) 23 (va_cpy (a 49) (a 23) 0 0 10)) 24 (va_cpy (a 50) (a 24) 0 0 10)) 25 (va_cpy (a 51) (a 25) 0 0 200)) b R) (by rfl) (by rfl) (by rfl) (by rfl) (by rfl) (by decide) (by rfl) ?_
  refine he_s 8 (pc' := 77) (lc' := [(0, .ref 21), (1, .ref 47)]) (stk' := []) (mem' := cm (fm_u (fm_u g 21 4 (g 47 4)) 21 5 (g 47 5)) l (fm_ur (fm_ur (fm_ur (fm_ur a 22 (va_cpy (a 48) (a 22) 0 0 10)) 23 (va_cpy (a 49) (a 23) 0 0 10)) 24 (va_cpy (a 50) (a 24) 0 0 10)) 25 (va_cpy (a 51) (a 25) 0 0 200)) b R) (by intro _ _ _; eq_refl) ?_
  exact he_ret ⟨_, _, _, fun j hj => ⟨(by first | rfl | (repeat (first | rw [fm_un (by omega)] | rw [fm_ur_n (by omega)] | rw [fm_uf_n (by omega)]))), (by first | rfl | (repeat (first | rw [fm_un (by omega)] | rw [fm_ur_n (by omega)] | rw [fm_uf_n (by omega)]))), (by first | rfl | (repeat (first | rw [fm_un (by omega)] | rw [fm_ur_n (by omega)] | rw [fm_uf_n (by omega)])))⟩, rfl⟩ (by rfl) (by rfl) (by rfl)
theorem va_cpy0 {α : Type} {f g : Nat → α} {n i : Nat} (hi : i < n) : va_cpy f g 0 0 n i = f i := by
  unfold va_cpy
  rw [if_pos ⟨Nat.zero_le _, by omega⟩]
  congr 1
  omega
theorem ha_ccp : ∃ (g' a' : Nat → Nat → Int32) (b' : Nat → Nat → Int64), hr_T 1 2 [.ref 26, .ref 52] (cm g l a b R) none (cm g' l a' b' R) ∧ g' 26 7 = g 52 7 ∧ (∀ i, i < 8 → b' 27 i = b 53 i) ∧ (∀ i, i < 8 → a' 28 i = a 54 i) ∧ ∀ j, ¬ (26 ≤ j ∧ j ≤ 33) → g' j = g j ∧ a' j = a j ∧ b' j = b j := by
  suffices h : ∃ (v : Option Value) (mem' : fx_M), (fun R1 => ∃ (g' a' : Nat → Nat → Int32) (b' : Nat → Nat → Int64), (g' 26 7 = g 52 7 ∧ (∀ i, i < 8 → b' 27 i = b 53 i) ∧ (∀ i, i < 8 → a' 28 i = a 54 i) ∧ ∀ j, ¬ (26 ≤ j ∧ j ≤ 33) → g' j = g j ∧ a' j = a j ∧ b' j = b j) ∧ R1 = (none, cm g' l a' b' R)) (v, mem') ∧ hr_T 1 2 [.ref 26, .ref 52] (cm g l a b R) v mem' by
    obtain ⟨v, mem', ⟨g', a', b', h1, hR1⟩, h2⟩ := h
    cases hR1
    exact ⟨g', a', b', h2, h1⟩
  refine he_meth (F := fun R1 => ∃ (g' a' : Nat → Nat → Int32) (b' : Nat → Nat → Int64), (g' 26 7 = g 52 7 ∧ (∀ i, i < 8 → b' 27 i = b 53 i) ∧ (∀ i, i < 8 → a' 28 i = a 54 i) ∧ ∀ j, ¬ (26 ≤ j ∧ j ≤ 33) → g' j = g j ∧ a' j = a j ∧ b' j = b j) ∧ R1 = (none, cm g' l a' b' R)) (M := gk_m2) (by rfl) (by rfl) ?_
  refine he_s 7 (pc' := 12) (lc' := [(0, .ref 26), (1, .ref 52)]) (stk' := [.int 8, .int 0, .ref 27, .int 0, .ref 53]) (mem' := cm g l a b R) (by intro _ _ _; eq_refl) ?_
  refine he_cpL (mem' := cm g l a (fm_uf b 27 (va_cpy (b 53) (b 27) 0 0 8)) R) (by rfl) (by rfl) (by rfl) (by rfl) (by rfl) (by decide) (by rfl) ?_
  refine he_s 7 (pc' := 27) (lc' := [(0, .ref 26), (1, .ref 52)]) (stk' := [.int 8, .int 0, .ref 28, .int 0, .ref 54]) (mem' := cm g l a (fm_uf b 27 (va_cpy (b 53) (b 27) 0 0 8)) R) (by intro _ _ _; eq_refl) ?_
  refine he_cpI (mem' := cm g l (fm_ur a 28 (va_cpy (a 54) (a 28) 0 0 8)) (fm_uf b 27 (va_cpy (b 53) (b 27) 0 0 8)) R) (by rfl) (by rfl) (by rfl) (by rfl) (by rfl) (by decide) (by rfl) ?_
  refine he_s 7 (pc' := 42) (lc' := [(0, .ref 26), (1, .ref 52)]) (stk' := [.int 8, .int 0, .ref 29, .int 0, .ref 55]) (mem' := cm g l (fm_ur a 28 (va_cpy (a 54) (a 28) 0 0 8)) (fm_uf b 27 (va_cpy (b 53) (b 27) 0 0 8)) R) (by intro _ _ _; eq_refl) ?_
  refine he_cpI (mem' := cm g l (fm_ur (fm_ur a 28 (va_cpy (a 54) (a 28) 0 0 8)) 29 (va_cpy (a 55) (a 29) 0 0 8)) (fm_uf b 27 (va_cpy (b 53) (b 27) 0 0 8)) R) (by rfl) (by rfl) (by rfl) (by rfl) (by rfl) (by decide) (by rfl) ?_
  refine he_s 7 (pc' := 57) (lc' := [(0, .ref 26), (1, .ref 52)]) (stk' := [.int 8, .int 0, .ref 30, .int 0, .ref 56]) (mem' := cm g l (fm_ur (fm_ur a 28 (va_cpy (a 54) (a 28) 0 0 8)) 29 (va_cpy (a 55) (a 29) 0 0 8)) (fm_uf b 27 (va_cpy (b 53) (b 27) 0 0 8)) R) (by intro _ _ _; eq_refl) ?_
  refine he_cpI (mem' := cm g l (fm_ur (fm_ur (fm_ur a 28 (va_cpy (a 54) (a 28) 0 0 8)) 29 (va_cpy (a 55) (a 29) 0 0 8)) 30 (va_cpy (a 56) (a 30) 0 0 8)) (fm_uf b 27 (va_cpy (b 53) (b 27) 0 0 8)) R) (by rfl) (by rfl) (by rfl) (by rfl) (by rfl) (by decide) (by rfl) ?_
  refine he_s 7 (pc' := 72) (lc' := [(0, .ref 26), (1, .ref 52)]) (stk' := [.int 8, .int 0, .ref 31, .int 0, .ref 57]) (mem' := cm g l (fm_ur (fm_ur (fm_ur a 28 (va_cpy (a 54) (a 28) 0 0 8)) 29 (va_cpy (a 55) (a 29) 0 0 8)) 30 (va_cpy (a 56) (a 30) 0 0 8)) (fm_uf b 27 (va_cpy (b 53) (b 27) 0 0 8)) R) (by intro _ _ _; eq_refl) ?_
  refine he_cpI (mem' := cm g l (fm_ur (fm_ur (fm_ur (fm_ur a 28 (va_cpy (a 54) (a 28) 0 0 8)) 29 (va_cpy (a 55) (a 29) 0 0 8)) 30 (va_cpy (a 56) (a 30) 0 0 8)) 31 (va_cpy (a 57) (a 31) 0 0 8)) (fm_uf b 27 (va_cpy (b 53) (b 27) 0 0 8)) R) (by rfl) (by rfl) (by rfl) (by rfl) (by rfl) (by decide) (by rfl) ?_
  refine he_s 7 (pc' := 87) (lc' := [(0, .ref 26), (1, .ref 52)]) (stk' := [.int 8, .int 0, .ref 32, .int 0, .ref 58]) (mem' := cm g l (fm_ur (fm_ur (fm_ur (fm_ur a 28 (va_cpy (a 54) (a 28) 0 0 8)) 29 (va_cpy (a 55) (a 29) 0 0 8)) 30 (va_cpy (a 56) (a 30) 0 0 8)) 31 (va_cpy (a 57) (a 31) 0 0 8)) (fm_uf b 27 (va_cpy (b 53) (b 27) 0 0 8)) R) (by intro _ _ _; eq_refl) ?_
  refine he_cpI (mem' := cm g l (fm_ur (fm_ur (fm_ur (fm_ur (fm_ur a 28 (va_cpy (a 54) (a 28) 0 0 8)) 29 (va_cpy (a 55) (a 29) 0 0 8)) 30 (va_cpy (a 56) (a 30) 0 0 8)) 31 (va_cpy (a 57) (a 31) 0 0 8)) 32 (va_cpy (a 58) (a 32) 0 0 8)) (fm_uf b 27 (va_cpy (b 53) (b 27) 0 0 8)) R) (by rfl) (by rfl) (by rfl) (by rfl) (by rfl) (by decide) (by rfl) ?_
  refine he_s 7 (pc' := 103) (lc' := [(0, .ref 26), (1, .ref 52)]) (stk' := [.int 160, .int 0, .ref 33, .int 0, .ref 59]) (mem' := cm g l (fm_ur (fm_ur (fm_ur (fm_ur (fm_ur a 28 (va_cpy (a 54) (a 28) 0 0 8)) 29 (va_cpy (a 55) (a 29) 0 0 8)) 30 (va_cpy (a 56) (a 30) 0 0 8)) 31 (va_cpy (a 57) (a 31) 0 0 8)) 32 (va_cpy (a 58) (a 32) 0 0 8)) (fm_uf b 27 (va_cpy (b 53) (b 27) 0 0 8)) R) (by intro _ _ _; eq_refl) ?_
  refine he_cpI (mem' := cm g l (fm_ur (fm_ur (fm_ur (fm_ur (fm_ur (fm_ur a 28 (va_cpy (a 54) (a 28) 0 0 8)) 29 (va_cpy (a 55) (a 29) 0 0 8)) 30 (va_cpy (a 56) (a 30) 0 0 8)) 31 (va_cpy (a 57) (a 31) 0 0 8)) 32 (va_cpy (a 58) (a 32) 0 0 8)) 33 (va_cpy (a 59) (a 33) 0 0 160)) (fm_uf b 27 (va_cpy (b 53) (b 27) 0 0 8)) R) (by rfl) (by rfl) (by rfl) (by rfl) (by rfl) (by decide) (by rfl) ?_
  refine he_s 12 (pc' := 130) (lc' := [(0, .ref 26), (1, .ref 52)]) (stk' := []) (mem' := cm (fm_u (fm_u (fm_u g 26 7 (g 52 7)) 26 8 (g 52 8)) 26 9 (g 52 9)) l (fm_ur (fm_ur (fm_ur (fm_ur (fm_ur (fm_ur a 28 (va_cpy (a 54) (a 28) 0 0 8)) 29 (va_cpy (a 55) (a 29) 0 0 8)) 30 (va_cpy (a 56) (a 30) 0 0 8)) 31 (va_cpy (a 57) (a 31) 0 0 8)) 32 (va_cpy (a 58) (a 32) 0 0 8)) 33 (va_cpy (a 59) (a 33) 0 0 160)) (fm_uf b 27 (va_cpy (b 53) (b 27) 0 0 8)) R) (by intro _ _ _; eq_refl) ?_
  exact he_ret ⟨_, _, _, ⟨rfl, fun i hi => (show va_cpy (b 53) (b 27) 0 0 8 i = b 53 i from va_cpy0 hi), fun i hi => (show va_cpy (a 54) (a 28) 0 0 8 i = a 54 i from va_cpy0 hi), fun j hj => ⟨(by first | rfl | (repeat (first | rw [fm_un (by omega)] | rw [fm_ur_n (by omega)] | rw [fm_uf_n (by omega)]))), (by first | rfl | (repeat (first | rw [fm_un (by omega)] | rw [fm_ur_n (by omega)] | rw [fm_uf_n (by omega)]))), (by first | rfl | (repeat (first | rw [fm_un (by omega)] | rw [fm_ur_n (by omega)] | rw [fm_uf_n (by omega)])))⟩⟩, rfl⟩ (by rfl) (by rfl) (by rfl)
/-- the lake is the draft's copy -/
theorem cd_cp {g' a' : Nat → Nat → Int32} {b' : Nat → Nat → Int64} (h : cd_L 41 A g a b) (h8 : g' 15 8 = g 41 8) (h9 : g' 15 9 = g 41 9) (h7 : g' 26 7 = g 52 7) (n1 : ∀ i, i < 10 → b' 16 i = b 42 i) (n2 : ∀ i, i < 8 → b' 27 i = b 53 i) (w1 : ∀ i, i < 10 → a' 17 i = a 43 i) (w2 : ∀ i, i < 10 → a' 18 i = a 44 i) (w3 : ∀ i, i < 8 → a' 28 i = a 54 i) : cd_L 15 A g' a' b' := by
  obtain ⟨⟨k1, k2, k3, k4, k5, k6⟩, k7, k8, k9, k10⟩ := h
  have l1 : (A.1.1.map Prod.fst).length = A.1.1.length := List.length_map _
  have l2 : (A.1.2.map Prod.fst).length = A.1.2.length := List.length_map _
  refine ⟨⟨h8.trans k1, k2, h7.trans k3, k4, ⟨fun i L hi => (n1 i ?_).trans (k5.1 i L hi), k5.2⟩, ⟨fun i L hi => (n2 i ?_).trans (k6.1 i L hi), k6.2⟩⟩, fun c hc => by rw [h9]; exact k7 c hc, fun i hi => (w1 i hi).trans (k8 i hi), fun i hi => (w2 i hi).trans (k9 i hi), fun i L w hi => ?_⟩
  · have := (List.getElem?_eq_some_iff.mp hi).1; omega
  · have := (List.getElem?_eq_some_iff.mp hi).1; omega
  · have h1 := (List.getElem?_eq_some_iff.mp hi).1
    exact ⟨(w3 i (by omega)).trans (k10 i L w hi).1, (k10 i L w hi).2⟩
theorem ha_lcp : ∃ (g' a' : Nat → Nat → Int32) (b' : Nat → Nat → Int64), hr_T 2 31 [.ref 15, .ref 41] (cm g l a b R) none (cm g' l a' b' R) ∧ (∀ A : sp_A, cd_L 41 A g a b → cd_L 15 A g' a' b') ∧ ∀ j, ¬ (15 ≤ j ∧ j ≤ 33) → g' j = g j ∧ a' j = a j ∧ b' j = b j := by
  suffices h : ∃ (v : Option Value) (mem' : fx_M), (fun R1 => ∃ (g' a' : Nat → Nat → Int32) (b' : Nat → Nat → Int64), ((∀ A : sp_A, cd_L 41 A g a b → cd_L 15 A g' a' b') ∧ ∀ j, ¬ (15 ≤ j ∧ j ≤ 33) → g' j = g j ∧ a' j = a j ∧ b' j = b j) ∧ R1 = (none, cm g' l a' b' R)) (v, mem') ∧ hr_T 2 31 [.ref 15, .ref 41] (cm g l a b R) v mem' by
    obtain ⟨v, mem', ⟨g', a', b', h1, hR1⟩, h2⟩ := h
    cases hR1
    exact ⟨g', a', b', h2, h1⟩
  refine he_meth (F := fun R1 => ∃ (g' a' : Nat → Nat → Int32) (b' : Nat → Nat → Int64), ((∀ A : sp_A, cd_L 41 A g a b → cd_L 15 A g' a' b') ∧ ∀ j, ¬ (15 ≤ j ∧ j ≤ 33) → g' j = g j ∧ a' j = a j ∧ b' j = b j) ∧ R1 = (none, cm g' l a' b' R)) (M := gk_m31) (by rfl) (by rfl) ?_
  refine he_s 7 (pc' := 12) (lc' := [(0, .ref 15), (1, .ref 41)]) (stk' := [.int 10, .int 0, .ref 16, .int 0, .ref 42]) (mem' := cm g l a b R) (by intro _ _ _; eq_refl) ?_
  refine he_cpL (mem' := cm g l a (fm_uf b 16 (va_cpy (b 42) (b 16) 0 0 10)) R) (by rfl) (by rfl) (by rfl) (by rfl) (by rfl) (by decide) (by rfl) ?_
  refine he_s 7 (pc' := 27) (lc' := [(0, .ref 15), (1, .ref 41)]) (stk' := [.int 10, .int 0, .ref 17, .int 0, .ref 43]) (mem' := cm g l a (fm_uf b 16 (va_cpy (b 42) (b 16) 0 0 10)) R) (by intro _ _ _; eq_refl) ?_
  refine he_cpI (mem' := cm g l (fm_ur a 17 (va_cpy (a 43) (a 17) 0 0 10)) (fm_uf b 16 (va_cpy (b 42) (b 16) 0 0 10)) R) (by rfl) (by rfl) (by rfl) (by rfl) (by rfl) (by decide) (by rfl) ?_
  refine he_s 7 (pc' := 42) (lc' := [(0, .ref 15), (1, .ref 41)]) (stk' := [.int 10, .int 0, .ref 18, .int 0, .ref 44]) (mem' := cm g l (fm_ur a 17 (va_cpy (a 43) (a 17) 0 0 10)) (fm_uf b 16 (va_cpy (b 42) (b 16) 0 0 10)) R) (by intro _ _ _; eq_refl) ?_
  refine he_cpI (mem' := cm g l (fm_ur (fm_ur a 17 (va_cpy (a 43) (a 17) 0 0 10)) 18 (va_cpy (a 44) (a 18) 0 0 10)) (fm_uf b 16 (va_cpy (b 42) (b 16) 0 0 10)) R) (by rfl) (by rfl) (by rfl) (by rfl) (by rfl) (by decide) (by rfl) ?_
  refine he_s 7 (pc' := 57) (lc' := [(0, .ref 15), (1, .ref 41)]) (stk' := [.int 10, .int 0, .ref 19, .int 0, .ref 45]) (mem' := cm g l (fm_ur (fm_ur a 17 (va_cpy (a 43) (a 17) 0 0 10)) 18 (va_cpy (a 44) (a 18) 0 0 10)) (fm_uf b 16 (va_cpy (b 42) (b 16) 0 0 10)) R) (by intro _ _ _; eq_refl) ?_
  refine he_cpI (mem' := cm g l (fm_ur (fm_ur (fm_ur a 17 (va_cpy (a 43) (a 17) 0 0 10)) 18 (va_cpy (a 44) (a 18) 0 0 10)) 19 (va_cpy (a 45) (a 19) 0 0 10)) (fm_uf b 16 (va_cpy (b 42) (b 16) 0 0 10)) R) (by rfl) (by rfl) (by rfl) (by rfl) (by rfl) (by decide) (by rfl) ?_
  refine he_s 4 (pc' := 68) (lc' := [(0, .ref 15), (1, .ref 41)]) (stk' := [.ref 47, .ref 21]) (mem' := cm g l (fm_ur (fm_ur (fm_ur a 17 (va_cpy (a 43) (a 17) 0 0 10)) 18 (va_cpy (a 44) (a 18) 0 0 10)) 19 (va_cpy (a 45) (a 19) 0 0 10)) (fm_uf b 16 (va_cpy (b 42) (b 16) 0 0 10)) R) (by intro _ _ _; eq_refl) ?_
  obtain ⟨gc1, ac1, bc1, hrc1, hxc1⟩ := ha_icp (g := g) (l := l) (a := (fm_ur (fm_ur (fm_ur a 17 (va_cpy (a 43) (a 17) 0 0 10)) 18 (va_cpy (a 44) (a 18) 0 0 10)) 19 (va_cpy (a 45) (a 19) 0 0 10))) (b := (fm_uf b 16 (va_cpy (b 42) (b 16) 0 0 10))) (R := R)
  refine he_ivV hrc1 (by omega) (by rfl) (by rfl) (by rfl) (by rfl) (by rfl) (by rfl) ?_
  refine he_s 4 (pc' := 79) (lc' := [(0, .ref 15), (1, .ref 41)]) (stk' := [.ref 52, .ref 26]) (mem' := cm gc1 l ac1 bc1 R) (by intro _ _ _; eq_refl) ?_
  obtain ⟨gc2, ac2, bc2, hrc2, hxc2⟩ := ha_ccp (g := gc1) (l := l) (a := ac1) (b := bc1) (R := R)
  refine he_ivV hrc2 (by omega) (by rfl) (by rfl) (by rfl) (by rfl) (by rfl) (by rfl) ?_
  refine he_s 24 (pc' := 130) (lc' := [(0, .ref 15), (1, .ref 41)]) (stk' := []) (mem' := cm (fm_u (fm_u (fm_u (fm_u (fm_u (fm_u gc2 15 8 (gc2 41 8)) 15 9 (gc2 41 9)) 15 10 (gc2 41 10)) 15 11 (gc2 41 11)) 15 12 (gc2 41 12)) 15 13 (gc2 41 13)) l ac2 bc2 R) (by intro _ _ _; eq_refl) ?_
  have e27 : ∀ j, ¬ (21 ≤ j ∧ j ≤ 25) → ¬ (26 ≤ j ∧ j ≤ 33) → gc2 j = g j := fun j p1 p2 => (hxc2.2.2.2 j p2).1.trans (hxc1 j p1).1
  have a27 : ∀ j, ¬ (26 ≤ j ∧ j ≤ 33) → ¬ (21 ≤ j ∧ j ≤ 25) → ac2 j = _ := fun j p1 p2 => (hxc2.2.2.2 j p1).2.1.trans (hxc1 j p2).2.1
  have b27 : ∀ j, ¬ (26 ≤ j ∧ j ≤ 33) → ¬ (21 ≤ j ∧ j ≤ 25) → bc2 j = _ := fun j p1 p2 => (hxc2.2.2.2 j p1).2.2.trans (hxc1 j p2).2.2
  refine he_ret ⟨_, _, _, ⟨fun A h => cd_cp h ?_ ?_ ?_ (fun i hi => ?_) (fun i hi => ?_) (fun i hi => ?_) (fun i hi => ?_) (fun i hi => ?_), fun j hj => ⟨?_, ?_, ?_⟩⟩, rfl⟩ (by rfl) (by rfl) (by rfl)
  · exact congrFun (e27 41 (by decide) (by decide)) 8
  · exact congrFun (e27 41 (by decide) (by decide)) 9
  · exact hxc2.1.trans (congrFun (hxc1 52 (by decide)).1 7)
  · exact (congrFun (b27 16 (by decide) (by decide)) i).trans (va_cpy0 hi)
  · exact (hxc2.2.1 i hi).trans (congrFun (hxc1 53 (by decide)).2.2 i)
  · exact (congrFun (a27 17 (by decide) (by decide)) i).trans (va_cpy0 hi)
  · exact (congrFun (a27 18 (by decide) (by decide)) i).trans (va_cpy0 hi)
  · exact (hxc2.2.2.1 i hi).trans (congrFun (hxc1 54 (by decide)).2.1 i)
  · repeat rw [fm_un (by omega)]
    exact e27 j (by omega) (by omega)
  · rw [a27 j (by omega) (by omega)]; repeat rw [fm_ur_n (by omega)]
  · rw [b27 j (by omega) (by omega)]; repeat rw [fm_uf_n (by omega)]
theorem ha_misR (hs : cst g s) (hD : cd_L 41 A g a b) (h : co g l T n p) (hr : sp_part T n A s p = sp_mis T n p) : ∃ (g' : Nat → Nat → Int32), hr_T 2 108 [.ref 9] (cm g l a b R) none (cm g' l a b R) ∧ cfd g a b l g' a b l ∧ cRes g' l a b T n (sp_part T n A s p) := by
  obtain ⟨g', k1, k2, k3⟩ := ha_misfit (a := a) (b := b) (R := R) h
  refine ⟨g', k1, cfd_c k3, ?_⟩
  rw [hr]
  exact k2
theorem ha_part (hg : ctx a b T n) (hD : cd_L 41 A g a b) (hs : cst g s) (h : co g l T n p) : ∃ (v : Option Value) (mem' : fx_M), (fun R1 => ∃ (g' : Nat → Nat → Int32) (l' : Nat → Nat → Int64) (a' : Nat → Nat → Int32) (b' : Nat → Nat → Int64), cfd g a b l g' a' b' l' ∧ cRes g' l' a' b' T n (sp_part T n A s p) ∧ R1 = (none, cm g' l' a' b' R)) (v, mem') ∧ hr_T 6 65 [.ref 12, .ref 41] (cm g l a b R) v mem' := by
  refine he_meth (F := fun R1 => ∃ (g' : Nat → Nat → Int32) (l' : Nat → Nat → Int64) (a' : Nat → Nat → Int32) (b' : Nat → Nat → Int64), cfd g a b l g' a' b' l' ∧ cRes g' l' a' b' T n (sp_part T n A s p) ∧ R1 = (none, cm g' l' a' b' R)) (M := gk_m65) (by rfl) (by rfl) ?_
  have h7 := h.2.1.2.2.2.2.1
  refine he_s 3 (pc' := 7) (lc' := [(0, .ref 12), (1, .ref 41)]) (stk' := [.int (g 9 7)]) (mem' := cm g l a b R) (by intro _ _ _; eq_refl) ?_
  by_cases hk : sp_k T n p = 1
  · have hle := sp_kw_le (sp_wd T n p)
    have hcw : sp_cw T n p = if sp_kw (sp_wd T n p) < 23 then nI (sp_kw (sp_wd T n p)) else -1 := by
      unfold sp_cw
      by_cases e : sp_kw (sp_wd T n p) < 23
      · rw [if_pos ⟨hk, e⟩, if_pos e]
      · rw [if_neg (fun z => e z.2), if_neg e]
    have hpt : ∀ k, sp_kw (sp_wd T n p) = k → sp_part T n A s p = sp_pk T n A s p k := fun k e => by
      unfold sp_part
      rw [if_pos hk, e]
    rcases (by omega : sp_kw (sp_wd T n p) = 0 ∨ sp_kw (sp_wd T n p) = 1 ∨ sp_kw (sp_wd T n p) = 2 ∨ sp_kw (sp_wd T n p) = 3 ∨ sp_kw (sp_wd T n p) = 4 ∨ sp_kw (sp_wd T n p) = 5 ∨ sp_kw (sp_wd T n p) = 6 ∨ sp_kw (sp_wd T n p) = 7 ∨ sp_kw (sp_wd T n p) = 8 ∨ sp_kw (sp_wd T n p) = 9 ∨ sp_kw (sp_wd T n p) = 10 ∨ sp_kw (sp_wd T n p) = 11 ∨ sp_kw (sp_wd T n p) = 12 ∨ sp_kw (sp_wd T n p) = 13 ∨ sp_kw (sp_wd T n p) = 14 ∨ sp_kw (sp_wd T n p) = 15 ∨ sp_kw (sp_wd T n p) = 16 ∨ sp_kw (sp_wd T n p) = 17 ∨ sp_kw (sp_wd T n p) = 18 ∨ sp_kw (sp_wd T n p) = 19 ∨ sp_kw (sp_wd T n p) = 20 ∨ sp_kw (sp_wd T n p) = 21 ∨ sp_kw (sp_wd T n p) = 22 ∨ sp_kw (sp_wd T n p) = 23) with e | e | e | e | e | e | e | e | e | e | e | e | e | e | e | e | e | e | e | e | e | e | e | e
    · have hw : g 9 7 = 0 := by rw [h7, hcw, e]; rfl
      rw [hw]
      have hp := hpt 0 e
      refine he_s 1 (pc' := 64) (lc' := [(0, .ref 12), (1, .ref 41)]) (stk' := []) (mem' := cm g l a b R) (by intro _ _ _; eq_refl) ?_
      obtain ⟨v1, mem1, ⟨g1, l1, a1, b1, k1, k2, hR1⟩, k3⟩ := ha_rc0 (R := R) hg hD hs h
      cases hR1
      refine he_s 3 (pc' := 67) (lc' := [(0, .ref 12), (1, .ref 41)]) (stk' := [.int 0, .ref 41, .ref 12]) (mem' := cm g l a b R) (by intro _ _ _; eq_refl) ?_
      refine he_ivV k3 (by omega) (by rfl) (by rfl) (by rfl) (by rfl) (by rfl) (by rfl) ?_
      refine he_s 1 (pc' := 163) (lc' := [(0, .ref 12), (1, .ref 41)]) (stk' := []) (mem' := cm g1 l1 a1 b1 R) (by intro _ _ _; eq_refl) ?_
      exact he_ret ⟨_, _, _, _, k1, by rw [hp]; exact k2, rfl⟩ (by rfl) (by rfl) (by rfl)
    · have hw : g 9 7 = 1 := by rw [h7, hcw, e]; rfl
      rw [hw]
      have hp := hpt 1 e
      refine he_s 1 (pc' := 156) (lc' := [(0, .ref 12), (1, .ref 41)]) (stk' := []) (mem' := cm g l a b R) (by intro _ _ _; eq_refl) ?_
      obtain ⟨g1, k1, k2, k3⟩ := ha_misR (R := R) hs hD h (hp)
      refine he_s 2 (pc' := 160) (lc' := [(0, .ref 12), (1, .ref 41)]) (stk' := [.ref 9]) (mem' := cm g l a b R) (by intro _ _ _; eq_refl) ?_
      refine he_ivV k1 (by omega) (by rfl) (by rfl) (by rfl) (by rfl) (by rfl) (by rfl) ?_
      exact he_ret ⟨_, _, _, _, k2, k3, rfl⟩ (by rfl) (by rfl) (by rfl)
    · have hw : g 9 7 = 2 := by rw [h7, hcw, e]; rfl
      rw [hw]
      have hp := hpt 2 e
      refine he_s 1 (pc' := 73) (lc' := [(0, .ref 12), (1, .ref 41)]) (stk' := []) (mem' := cm g l a b R) (by intro _ _ _; eq_refl) ?_
      obtain ⟨v1, mem1, ⟨g1, l1, a1, b1, k1, k2, hR1⟩, k3⟩ := ha_rc1 (R := R) hg hD hs h
      cases hR1
      refine he_s 3 (pc' := 76) (lc' := [(0, .ref 12), (1, .ref 41)]) (stk' := [.int 1, .ref 41, .ref 12]) (mem' := cm g l a b R) (by intro _ _ _; eq_refl) ?_
      refine he_ivV k3 (by omega) (by rfl) (by rfl) (by rfl) (by rfl) (by rfl) (by rfl) ?_
      refine he_s 1 (pc' := 163) (lc' := [(0, .ref 12), (1, .ref 41)]) (stk' := []) (mem' := cm g1 l1 a1 b1 R) (by intro _ _ _; eq_refl) ?_
      exact he_ret ⟨_, _, _, _, k1, by rw [hp]; exact k2, rfl⟩ (by rfl) (by rfl) (by rfl)
    · have hw : g 9 7 = 3 := by rw [h7, hcw, e]; rfl
      rw [hw]
      have hp := hpt 3 e
      refine he_s 1 (pc' := 82) (lc' := [(0, .ref 12), (1, .ref 41)]) (stk' := []) (mem' := cm g l a b R) (by intro _ _ _; eq_refl) ?_
      obtain ⟨v1, mem1, ⟨g1, l1, a1, b1, k1, k2, hR1⟩, k3⟩ := ha_rp0 (R := R) hg hD hs h
      cases hR1
      refine he_s 3 (pc' := 85) (lc' := [(0, .ref 12), (1, .ref 41)]) (stk' := [.int 0, .ref 41, .ref 12]) (mem' := cm g l a b R) (by intro _ _ _; eq_refl) ?_
      refine he_ivV k3 (by omega) (by rfl) (by rfl) (by rfl) (by rfl) (by rfl) (by rfl) ?_
      refine he_s 1 (pc' := 163) (lc' := [(0, .ref 12), (1, .ref 41)]) (stk' := []) (mem' := cm g1 l1 a1 b1 R) (by intro _ _ _; eq_refl) ?_
      exact he_ret ⟨_, _, _, _, k1, by rw [hp]; exact k2, rfl⟩ (by rfl) (by rfl) (by rfl)
    · have hw : g 9 7 = 4 := by rw [h7, hcw, e]; rfl
      rw [hw]
      have hp := hpt 4 e
      refine he_s 1 (pc' := 91) (lc' := [(0, .ref 12), (1, .ref 41)]) (stk' := []) (mem' := cm g l a b R) (by intro _ _ _; eq_refl) ?_
      obtain ⟨v1, mem1, ⟨g1, l1, a1, b1, k1, k2, hR1⟩, k3⟩ := ha_rp1 (R := R) hg hD hs h
      cases hR1
      refine he_s 3 (pc' := 94) (lc' := [(0, .ref 12), (1, .ref 41)]) (stk' := [.int 1, .ref 41, .ref 12]) (mem' := cm g l a b R) (by intro _ _ _; eq_refl) ?_
      refine he_ivV k3 (by omega) (by rfl) (by rfl) (by rfl) (by rfl) (by rfl) (by rfl) ?_
      refine he_s 1 (pc' := 163) (lc' := [(0, .ref 12), (1, .ref 41)]) (stk' := []) (mem' := cm g1 l1 a1 b1 R) (by intro _ _ _; eq_refl) ?_
      exact he_ret ⟨_, _, _, _, k1, by rw [hp]; exact k2, rfl⟩ (by rfl) (by rfl) (by rfl)
    · have hw : g 9 7 = 5 := by rw [h7, hcw, e]; rfl
      rw [hw]
      have hp := hpt 5 e
      refine he_s 1 (pc' := 100) (lc' := [(0, .ref 12), (1, .ref 41)]) (stk' := []) (mem' := cm g l a b R) (by intro _ _ _; eq_refl) ?_
      obtain ⟨v1, mem1, ⟨g1, l1, a1, b1, k1, k2, hR1⟩, k3⟩ := ha_rw (R := R) hg hD hs h
      cases hR1
      refine he_s 2 (pc' := 102) (lc' := [(0, .ref 12), (1, .ref 41)]) (stk' := [.ref 41, .ref 12]) (mem' := cm g l a b R) (by intro _ _ _; eq_refl) ?_
      refine he_ivV k3 (by omega) (by rfl) (by rfl) (by rfl) (by rfl) (by rfl) (by rfl) ?_
      refine he_s 1 (pc' := 163) (lc' := [(0, .ref 12), (1, .ref 41)]) (stk' := []) (mem' := cm g1 l1 a1 b1 R) (by intro _ _ _; eq_refl) ?_
      exact he_ret ⟨_, _, _, _, k1, by rw [hp]; exact k2, rfl⟩ (by rfl) (by rfl) (by rfl)
    · have hw : g 9 7 = 6 := by rw [h7, hcw, e]; rfl
      rw [hw]
      have hp := hpt 6 e
      refine he_s 1 (pc' := 156) (lc' := [(0, .ref 12), (1, .ref 41)]) (stk' := []) (mem' := cm g l a b R) (by intro _ _ _; eq_refl) ?_
      obtain ⟨g1, k1, k2, k3⟩ := ha_misR (R := R) hs hD h (hp)
      refine he_s 2 (pc' := 160) (lc' := [(0, .ref 12), (1, .ref 41)]) (stk' := [.ref 9]) (mem' := cm g l a b R) (by intro _ _ _; eq_refl) ?_
      refine he_ivV k1 (by omega) (by rfl) (by rfl) (by rfl) (by rfl) (by rfl) (by rfl) ?_
      exact he_ret ⟨_, _, _, _, k2, k3, rfl⟩ (by rfl) (by rfl) (by rfl)
    · have hw : g 9 7 = 7 := by rw [h7, hcw, e]; rfl
      rw [hw]
      have hp := hpt 7 e
      refine he_s 1 (pc' := 156) (lc' := [(0, .ref 12), (1, .ref 41)]) (stk' := []) (mem' := cm g l a b R) (by intro _ _ _; eq_refl) ?_
      obtain ⟨g1, k1, k2, k3⟩ := ha_misR (R := R) hs hD h (hp)
      refine he_s 2 (pc' := 160) (lc' := [(0, .ref 12), (1, .ref 41)]) (stk' := [.ref 9]) (mem' := cm g l a b R) (by intro _ _ _; eq_refl) ?_
      refine he_ivV k1 (by omega) (by rfl) (by rfl) (by rfl) (by rfl) (by rfl) (by rfl) ?_
      exact he_ret ⟨_, _, _, _, k2, k3, rfl⟩ (by rfl) (by rfl) (by rfl)
    · have hw : g 9 7 = 8 := by rw [h7, hcw, e]; rfl
      rw [hw]
      have hp := hpt 8 e
      refine he_s 1 (pc' := 108) (lc' := [(0, .ref 12), (1, .ref 41)]) (stk' := []) (mem' := cm g l a b R) (by intro _ _ _; eq_refl) ?_
      obtain ⟨v1, mem1, ⟨x1, g1, l1, k1, k2, hR1⟩, k3⟩ := ha_st0 (y := g 41 10) (R := R) hg hD hs h hw
      cases hR1
      refine he_s 5 (pc' := 115) (lc' := [(0, .ref 12), (1, .ref 41)]) (stk' := [.int (g 41 10), .int 0, .ref 12, .ref 41]) (mem' := cm g l a b R) (by intro _ _ _; eq_refl) ?_
      refine he_ivV k3 (by omega) (by rfl) (by rfl) (by rfl) (by rfl) (by rfl) (by rfl) ?_
      refine he_s 2 (pc' := 163) (lc' := [(0, .ref 12), (1, .ref 41)]) (stk' := []) (mem' := cm (fm_u g1 41 10 x1) l1 a b R) (by intro _ _ _; eq_refl) ?_
      exact he_ret ⟨_, _, _, _, cfd_tr k1 (cfd_u (Or.inr (by decide))), by rw [hp]; exact cRes_u k2 (by decide), rfl⟩ (by rfl) (by rfl) (by rfl)
    · have hw : g 9 7 = 9 := by rw [h7, hcw, e]; rfl
      rw [hw]
      have hp := hpt 9 e
      refine he_s 1 (pc' := 124) (lc' := [(0, .ref 12), (1, .ref 41)]) (stk' := []) (mem' := cm g l a b R) (by intro _ _ _; eq_refl) ?_
      obtain ⟨v1, mem1, ⟨x1, g1, l1, k1, k2, hR1⟩, k3⟩ := ha_st1 (y := g 41 11) (R := R) hg hD hs h hw
      cases hR1
      refine he_s 5 (pc' := 131) (lc' := [(0, .ref 12), (1, .ref 41)]) (stk' := [.int (g 41 11), .int 1, .ref 12, .ref 41]) (mem' := cm g l a b R) (by intro _ _ _; eq_refl) ?_
      refine he_ivV k3 (by omega) (by rfl) (by rfl) (by rfl) (by rfl) (by rfl) (by rfl) ?_
      refine he_s 2 (pc' := 163) (lc' := [(0, .ref 12), (1, .ref 41)]) (stk' := []) (mem' := cm (fm_u g1 41 11 x1) l1 a b R) (by intro _ _ _; eq_refl) ?_
      exact he_ret ⟨_, _, _, _, cfd_tr k1 (cfd_u (Or.inr (by decide))), by rw [hp]; exact cRes_u k2 (by decide), rfl⟩ (by rfl) (by rfl) (by rfl)
    · have hw : g 9 7 = 10 := by rw [h7, hcw, e]; rfl
      rw [hw]
      have hp := hpt 10 e
      refine he_s 1 (pc' := 140) (lc' := [(0, .ref 12), (1, .ref 41)]) (stk' := []) (mem' := cm g l a b R) (by intro _ _ _; eq_refl) ?_
      obtain ⟨v1, mem1, ⟨x1, g1, l1, k1, k2, hR1⟩, k3⟩ := ha_st2 (y := g 41 12) (R := R) hg hD hs h hw
      cases hR1
      refine he_s 5 (pc' := 147) (lc' := [(0, .ref 12), (1, .ref 41)]) (stk' := [.int (g 41 12), .int 0, .ref 12, .ref 41]) (mem' := cm g l a b R) (by intro _ _ _; eq_refl) ?_
      refine he_ivV k3 (by omega) (by rfl) (by rfl) (by rfl) (by rfl) (by rfl) (by rfl) ?_
      refine he_s 2 (pc' := 163) (lc' := [(0, .ref 12), (1, .ref 41)]) (stk' := []) (mem' := cm (fm_u g1 41 12 x1) l1 a b R) (by intro _ _ _; eq_refl) ?_
      exact he_ret ⟨_, _, _, _, cfd_tr k1 (cfd_u (Or.inr (by decide))), by rw [hp]; exact cRes_u k2 (by decide), rfl⟩ (by rfl) (by rfl) (by rfl)
    · have hw : g 9 7 = 11 := by rw [h7, hcw, e]; rfl
      rw [hw]
      have hp := hpt 11 e
      refine he_s 1 (pc' := 156) (lc' := [(0, .ref 12), (1, .ref 41)]) (stk' := []) (mem' := cm g l a b R) (by intro _ _ _; eq_refl) ?_
      obtain ⟨g1, k1, k2, k3⟩ := ha_misR (R := R) hs hD h (hp)
      refine he_s 2 (pc' := 160) (lc' := [(0, .ref 12), (1, .ref 41)]) (stk' := [.ref 9]) (mem' := cm g l a b R) (by intro _ _ _; eq_refl) ?_
      refine he_ivV k1 (by omega) (by rfl) (by rfl) (by rfl) (by rfl) (by rfl) (by rfl) ?_
      exact he_ret ⟨_, _, _, _, k2, k3, rfl⟩ (by rfl) (by rfl) (by rfl)
    · have hw : g 9 7 = 12 := by rw [h7, hcw, e]; rfl
      rw [hw]
      have hp := hpt 12 e
      refine he_s 1 (pc' := 156) (lc' := [(0, .ref 12), (1, .ref 41)]) (stk' := []) (mem' := cm g l a b R) (by intro _ _ _; eq_refl) ?_
      obtain ⟨g1, k1, k2, k3⟩ := ha_misR (R := R) hs hD h (hp)
      refine he_s 2 (pc' := 160) (lc' := [(0, .ref 12), (1, .ref 41)]) (stk' := [.ref 9]) (mem' := cm g l a b R) (by intro _ _ _; eq_refl) ?_
      refine he_ivV k1 (by omega) (by rfl) (by rfl) (by rfl) (by rfl) (by rfl) (by rfl) ?_
      exact he_ret ⟨_, _, _, _, k2, k3, rfl⟩ (by rfl) (by rfl) (by rfl)
    · have hw : g 9 7 = 13 := by rw [h7, hcw, e]; rfl
      rw [hw]
      have hp := hpt 13 e
      refine he_s 1 (pc' := 156) (lc' := [(0, .ref 12), (1, .ref 41)]) (stk' := []) (mem' := cm g l a b R) (by intro _ _ _; eq_refl) ?_
      obtain ⟨g1, k1, k2, k3⟩ := ha_misR (R := R) hs hD h (hp)
      refine he_s 2 (pc' := 160) (lc' := [(0, .ref 12), (1, .ref 41)]) (stk' := [.ref 9]) (mem' := cm g l a b R) (by intro _ _ _; eq_refl) ?_
      refine he_ivV k1 (by omega) (by rfl) (by rfl) (by rfl) (by rfl) (by rfl) (by rfl) ?_
      exact he_ret ⟨_, _, _, _, k2, k3, rfl⟩ (by rfl) (by rfl) (by rfl)
    · have hw : g 9 7 = 14 := by rw [h7, hcw, e]; rfl
      rw [hw]
      have hp := hpt 14 e
      refine he_s 1 (pc' := 156) (lc' := [(0, .ref 12), (1, .ref 41)]) (stk' := []) (mem' := cm g l a b R) (by intro _ _ _; eq_refl) ?_
      obtain ⟨g1, k1, k2, k3⟩ := ha_misR (R := R) hs hD h (hp)
      refine he_s 2 (pc' := 160) (lc' := [(0, .ref 12), (1, .ref 41)]) (stk' := [.ref 9]) (mem' := cm g l a b R) (by intro _ _ _; eq_refl) ?_
      refine he_ivV k1 (by omega) (by rfl) (by rfl) (by rfl) (by rfl) (by rfl) (by rfl) ?_
      exact he_ret ⟨_, _, _, _, k2, k3, rfl⟩ (by rfl) (by rfl) (by rfl)
    · have hw : g 9 7 = 15 := by rw [h7, hcw, e]; rfl
      rw [hw]
      have hp := hpt 15 e
      refine he_s 1 (pc' := 156) (lc' := [(0, .ref 12), (1, .ref 41)]) (stk' := []) (mem' := cm g l a b R) (by intro _ _ _; eq_refl) ?_
      obtain ⟨g1, k1, k2, k3⟩ := ha_misR (R := R) hs hD h (hp)
      refine he_s 2 (pc' := 160) (lc' := [(0, .ref 12), (1, .ref 41)]) (stk' := [.ref 9]) (mem' := cm g l a b R) (by intro _ _ _; eq_refl) ?_
      refine he_ivV k1 (by omega) (by rfl) (by rfl) (by rfl) (by rfl) (by rfl) (by rfl) ?_
      exact he_ret ⟨_, _, _, _, k2, k3, rfl⟩ (by rfl) (by rfl) (by rfl)
    · have hw : g 9 7 = 16 := by rw [h7, hcw, e]; rfl
      rw [hw]
      have hp := hpt 16 e
      refine he_s 1 (pc' := 156) (lc' := [(0, .ref 12), (1, .ref 41)]) (stk' := []) (mem' := cm g l a b R) (by intro _ _ _; eq_refl) ?_
      obtain ⟨g1, k1, k2, k3⟩ := ha_misR (R := R) hs hD h (hp)
      refine he_s 2 (pc' := 160) (lc' := [(0, .ref 12), (1, .ref 41)]) (stk' := [.ref 9]) (mem' := cm g l a b R) (by intro _ _ _; eq_refl) ?_
      refine he_ivV k1 (by omega) (by rfl) (by rfl) (by rfl) (by rfl) (by rfl) (by rfl) ?_
      exact he_ret ⟨_, _, _, _, k2, k3, rfl⟩ (by rfl) (by rfl) (by rfl)
    · have hw : g 9 7 = 17 := by rw [h7, hcw, e]; rfl
      rw [hw]
      have hp := hpt 17 e
      refine he_s 1 (pc' := 156) (lc' := [(0, .ref 12), (1, .ref 41)]) (stk' := []) (mem' := cm g l a b R) (by intro _ _ _; eq_refl) ?_
      obtain ⟨g1, k1, k2, k3⟩ := ha_misR (R := R) hs hD h (hp)
      refine he_s 2 (pc' := 160) (lc' := [(0, .ref 12), (1, .ref 41)]) (stk' := [.ref 9]) (mem' := cm g l a b R) (by intro _ _ _; eq_refl) ?_
      refine he_ivV k1 (by omega) (by rfl) (by rfl) (by rfl) (by rfl) (by rfl) (by rfl) ?_
      exact he_ret ⟨_, _, _, _, k2, k3, rfl⟩ (by rfl) (by rfl) (by rfl)
    · have hw : g 9 7 = 18 := by rw [h7, hcw, e]; rfl
      rw [hw]
      have hp := hpt 18 e
      refine he_s 1 (pc' := 156) (lc' := [(0, .ref 12), (1, .ref 41)]) (stk' := []) (mem' := cm g l a b R) (by intro _ _ _; eq_refl) ?_
      obtain ⟨g1, k1, k2, k3⟩ := ha_misR (R := R) hs hD h (hp)
      refine he_s 2 (pc' := 160) (lc' := [(0, .ref 12), (1, .ref 41)]) (stk' := [.ref 9]) (mem' := cm g l a b R) (by intro _ _ _; eq_refl) ?_
      refine he_ivV k1 (by omega) (by rfl) (by rfl) (by rfl) (by rfl) (by rfl) (by rfl) ?_
      exact he_ret ⟨_, _, _, _, k2, k3, rfl⟩ (by rfl) (by rfl) (by rfl)
    · have hw : g 9 7 = 19 := by rw [h7, hcw, e]; rfl
      rw [hw]
      have hp := hpt 19 e
      refine he_s 1 (pc' := 156) (lc' := [(0, .ref 12), (1, .ref 41)]) (stk' := []) (mem' := cm g l a b R) (by intro _ _ _; eq_refl) ?_
      obtain ⟨g1, k1, k2, k3⟩ := ha_misR (R := R) hs hD h (hp)
      refine he_s 2 (pc' := 160) (lc' := [(0, .ref 12), (1, .ref 41)]) (stk' := [.ref 9]) (mem' := cm g l a b R) (by intro _ _ _; eq_refl) ?_
      refine he_ivV k1 (by omega) (by rfl) (by rfl) (by rfl) (by rfl) (by rfl) (by rfl) ?_
      exact he_ret ⟨_, _, _, _, k2, k3, rfl⟩ (by rfl) (by rfl) (by rfl)
    · have hw : g 9 7 = 20 := by rw [h7, hcw, e]; rfl
      rw [hw]
      have hp := hpt 20 e
      refine he_s 1 (pc' := 156) (lc' := [(0, .ref 12), (1, .ref 41)]) (stk' := []) (mem' := cm g l a b R) (by intro _ _ _; eq_refl) ?_
      obtain ⟨g1, k1, k2, k3⟩ := ha_misR (R := R) hs hD h (hp)
      refine he_s 2 (pc' := 160) (lc' := [(0, .ref 12), (1, .ref 41)]) (stk' := [.ref 9]) (mem' := cm g l a b R) (by intro _ _ _; eq_refl) ?_
      refine he_ivV k1 (by omega) (by rfl) (by rfl) (by rfl) (by rfl) (by rfl) (by rfl) ?_
      exact he_ret ⟨_, _, _, _, k2, k3, rfl⟩ (by rfl) (by rfl) (by rfl)
    · have hw : g 9 7 = 21 := by rw [h7, hcw, e]; rfl
      rw [hw]
      have hp := hpt 21 e
      refine he_s 1 (pc' := 156) (lc' := [(0, .ref 12), (1, .ref 41)]) (stk' := []) (mem' := cm g l a b R) (by intro _ _ _; eq_refl) ?_
      obtain ⟨g1, k1, k2, k3⟩ := ha_misR (R := R) hs hD h (hp)
      refine he_s 2 (pc' := 160) (lc' := [(0, .ref 12), (1, .ref 41)]) (stk' := [.ref 9]) (mem' := cm g l a b R) (by intro _ _ _; eq_refl) ?_
      refine he_ivV k1 (by omega) (by rfl) (by rfl) (by rfl) (by rfl) (by rfl) (by rfl) ?_
      exact he_ret ⟨_, _, _, _, k2, k3, rfl⟩ (by rfl) (by rfl) (by rfl)
    · have hw : g 9 7 = 22 := by rw [h7, hcw, e]; rfl
      rw [hw]
      have hp := hpt 22 e
      refine he_s 1 (pc' := 156) (lc' := [(0, .ref 12), (1, .ref 41)]) (stk' := []) (mem' := cm g l a b R) (by intro _ _ _; eq_refl) ?_
      obtain ⟨g1, k1, k2, k3⟩ := ha_misR (R := R) hs hD h (hp)
      refine he_s 2 (pc' := 160) (lc' := [(0, .ref 12), (1, .ref 41)]) (stk' := [.ref 9]) (mem' := cm g l a b R) (by intro _ _ _; eq_refl) ?_
      refine he_ivV k1 (by omega) (by rfl) (by rfl) (by rfl) (by rfl) (by rfl) (by rfl) ?_
      exact he_ret ⟨_, _, _, _, k2, k3, rfl⟩ (by rfl) (by rfl) (by rfl)
    · have hw : g 9 7 = -1 := by rw [h7, hcw, e]; rfl
      rw [hw]
      have hp := hpt 23 e
      refine he_s 1 (pc' := 156) (lc' := [(0, .ref 12), (1, .ref 41)]) (stk' := []) (mem' := cm g l a b R) (by intro _ _ _; eq_refl) ?_
      obtain ⟨g1, k1, k2, k3⟩ := ha_misR (R := R) hs hD h (hp)
      refine he_s 2 (pc' := 160) (lc' := [(0, .ref 12), (1, .ref 41)]) (stk' := [.ref 9]) (mem' := cm g l a b R) (by intro _ _ _; eq_refl) ?_
      refine he_ivV k1 (by omega) (by rfl) (by rfl) (by rfl) (by rfl) (by rfl) (by rfl) ?_
      exact he_ret ⟨_, _, _, _, k2, k3, rfl⟩ (by rfl) (by rfl) (by rfl)
  · rw [h7, sp_cw0 hk]
    refine he_s 1 (pc' := 156) (lc' := [(0, .ref 12), (1, .ref 41)]) (stk' := []) (mem' := cm g l a b R) (by intro _ _ _; eq_refl) ?_
    obtain ⟨g1, k1, k2, k3⟩ := ha_misR (R := R) hs hD h (if_neg hk)
    refine he_s 2 (pc' := 160) (lc' := [(0, .ref 12), (1, .ref 41)]) (stk' := [.ref 9]) (mem' := cm g l a b R) (by intro _ _ _; eq_refl) ?_
    refine he_ivV k1 (by omega) (by rfl) (by rfl) (by rfl) (by rfl) (by rfl) (by rfl) ?_
    exact he_ret ⟨_, _, _, _, k2, k3, rfl⟩ (by rfl) (by rfl) (by rfl)
end CPL
