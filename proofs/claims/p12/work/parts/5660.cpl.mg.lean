section MH20_0
/-! ===== the class: a lake cleared, copied; its text as a whole ===== -/
def fm_ur (a : Nat → Nat → Int32) (j : Nat) (f : Nat → Int32) : Nat → Nat → Int32 := fun j2 => if j2 = j then f else a j2
theorem fm_ur_n {a : Nat → Nat → Int32} {j k : Nat} {f : Nat → Int32} (h : k ≠ j) : fm_ur a j f k = a k := if_neg h
theorem fm_ur_s {a : Nat → Nat → Int32} {j : Nat} {f : Nat → Int32} : fm_ur a j f j = f := if_pos rfl
def tc_g (f : Nat → Int32) (k : Nat) (v : Int32) : Nat → Int32 := fun i => if i < k then v else f i
theorem tc_gs (f : Nat → Int32) (k : Nat) (v : Int32) : upd (tc_g f k v) k v = tc_g f (k + 1) v := by
  funext i
  by_cases h : i = k
  · rw [h, pk_us]; unfold tc_g; rw [if_pos (by omega)]
  · rw [pk_un h]; unfold tc_g
    by_cases h2 : i < k
    · rw [if_pos h2, if_pos (by omega)]
    · rw [if_neg h2, if_neg (by omega)]
theorem ha_fi {t len : Nat} {v : Int32} {mem : (Nat → Int32) → fx_M} (hm : ∀ f, (mem f)[t]? = some (.inr (.int, len, .inl f))) (hs : ∀ f f', (mem f).set t (.inr (.int, len, .inl f')) = mem f') (hl : len < 2147483648) (f : Nat → Int32) : hr_T 1 388 [.ref t, .int v] (mem f) none (mem (tc_g f len v)) := by
  have loop : ∀ (r k : Nat), k + r = len → hr_R 0 gk_m388 5 [(3, .int (nI len)), (2, .int (nI k)), (0, .ref t), (1, .int v)] [] (mem (tc_g f k v)) (none, mem (tc_g f len v)) := by
    intro r
    induction r with
    | zero =>
      intro k hk
      obtain rfl : k = len := by omega
      refine hr_s 3 (pc' := cond (fx_cb .ge (nI k) (nI k)) 20 10) (lc' := [(3, .int (nI k)), (2, .int (nI k)), (0, .ref t), (1, .int v)]) (stk' := []) (mem' := mem (tc_g f k v)) (by intro _ _ _; eq_refl) ?_
      rw [show (fx_cb .ge (nI k) (nI k)) = true from cb_geT (a := k) (b := k) (by omega) (by omega) (by omega)]
      exact hr_ret (by rfl) (by rfl) (by rfl)
    | succ r ih =>
      intro k hk
      refine hr_s 3 (pc' := cond (fx_cb .ge (nI k) (nI len)) 20 10) (lc' := [(3, .int (nI len)), (2, .int (nI k)), (0, .ref t), (1, .int v)]) (stk' := []) (mem' := mem (tc_g f k v)) (by intro _ _ _; eq_refl) ?_
      rw [show (fx_cb .ge (nI k) (nI len)) = false from cb_geF (a := k) (b := len) (by omega) (by omega) (by omega)]
      dsimp only [cond]
      refine hr_s 3 (pc' := 13) (lc' := [(3, .int (nI len)), (2, .int (nI k)), (0, .ref t), (1, .int v)]) (stk' := [.int v, .int (nI k), .ref t]) (mem' := mem (tc_g f k v)) (by intro _ _ _; eq_refl) ?_
      refine hr_stI (by rfl) (hm _) (fx_inN (i := k) (by omega) hl) (hs _ _) ?_
      rw [nI_clamp (by omega), tc_gs]
      refine hr_s 2 (pc' := 5) (lc' := [(2, .int (nI k + 1)), (3, .int (nI len)), (0, .ref t), (1, .int v)]) (stk' := []) (mem' := mem (tc_g f (k + 1) v)) (by intro _ _ _; eq_refl) ?_
      rw [show nI k + 1 = nI (k + 1) from nI_add k 1]
      exact hr_w (lc' := [(3, .int (nI len)), (2, .int (nI (k + 1))), (0, .ref t), (1, .int v)]) ⟨rfl, rfl, rfl, rfl, trivial⟩ (by show List.Nodup [3, 2, 0, 1]; decide) (by show List.Nodup [2, 3, 0, 1]; decide) (ih (k + 1) (by omega))
  refine hr_meth (by rfl) (by rfl) ?_
  refine hr_s 3 (pc' := 3) (lc' := [(2, .int 0), (0, .ref t), (1, .int v)]) (stk' := [.ref t]) (mem' := mem f) (by intro _ _ _; eq_refl) ?_
  refine hr_len (by rfl) (hm f) ?_
  refine hr_s 1 (pc' := 5) (lc' := [(3, .int (nI len)), (2, .int 0), (0, .ref t), (1, .int v)]) (stk' := []) (mem' := mem f) (by intro _ _ _; eq_refl) ?_
  have h0 := loop len 0 (by omega)
  rw [show tc_g f 0 v = f from funext (fun _ => if_neg (Nat.not_lt_zero _))] at h0
  exact h0
theorem he_cpI {k pc idx a b : Nat} {M : rk_M2} {lc : fx_L} {r : List Value} {mem : fx_M} {F : Option Value × fx_M → Prop} {x dp sp : Int32} {j0 j1 n0 n1 : Nat} {f g : Nat → Int32} {mem' : fx_M} (hat : tk_at M.1 pc = some (pc, .invokestatic idx, 3)) (hlk : rk_lk M.2.2.1 idx = some (12, a, b)) (h0 : mem[j0]? = some (.inr (.int, n0, .inl f))) (h1 : mem[j1]? = some (.inr (.int, n1, .inl g))) (hsum : Nat.ble (fx_sum r) 8 = true) (hc : hx_cc x dp sp n0 n1 = true) (hm : mem.set j1 (.inr (.int, n1, .inl (va_cpy f g sp.toNatClampNeg dp.toNatClampNeg x.toNatClampNeg))) = mem') (kk : he_R k M (pc + 3) lc r mem' F) : he_R k M pc lc (.int x :: .int dp :: .ref j1 :: .int sp :: .ref j0 :: r) mem F := he_of (fun _ z => hr_cpI hat hlk h0 h1 hsum hc hm z) kk
section CPL
variable {g : Nat → Nat → Int32} {l : Nat → Nat → Int64} {a : Nat → Nat → Int32} {b : Nat → Nat → Int64} {R : fx_M} {T : Nat → Nat} {n p : Nat}
variable {F : Int32} {P : Nat} {A : sp_A} {s : Nat}

theorem ha_icl : ∃ (g' a' : Nat → Nat → Int32) (b' : Nat → Nat → Int64), hr_T 2 24 [.ref 47] (cm g l a b R) none (cm g' l a' b' R) ∧ ∀ j, ¬ (47 ≤ j ∧ j ≤ 51) → g' j = g j ∧ a' j = a j ∧ b' j = b j := by
  suffices h : ∃ (v : Option Value) (mem' : fx_M), (fun R1 => ∃ (g' a' : Nat → Nat → Int32) (b' : Nat → Nat → Int64), (∀ j, ¬ (47 ≤ j ∧ j ≤ 51) → g' j = g j ∧ a' j = a j ∧ b' j = b j) ∧ R1 = (none, cm g' l a' b' R)) (v, mem') ∧ hr_T 2 24 [.ref 47] (cm g l a b R) v mem' by
    obtain ⟨v, mem', ⟨g', a', b', h1, hR1⟩, h2⟩ := h
    cases hR1
    exact ⟨g', a', b', h2, h1⟩
  refine he_meth (F := fun R1 => ∃ (g' a' : Nat → Nat → Int32) (b' : Nat → Nat → Int64), (∀ j, ¬ (47 ≤ j ∧ j ≤ 51) → g' j = g j ∧ a' j = a j ∧ b' j = b j) ∧ R1 = (none, cm g' l a' b' R)) (M := gk_m24) (by rfl) (by rfl) ?_
  refine he_s 3 (pc' := 5) (lc' := [(0, .ref 47)]) (stk' := [.int 0, .ref 48]) (mem' := cm g l a b R) (by intro _ _ _; eq_refl) ?_
  refine he_ivS (show hr_T 1 388 [.ref 48, .int 0] (cm g l a b R) none (cm g l (fm_ur a 48 (tc_g (a 48) 10 0)) b R) from ha_fi (t := 48) (len := 10) (mem := fun f => cm g l (fm_ur a 48 f) b R) (fun _ => rfl) (fun _ _ => rfl) (by decide) _) (by omega) (by rfl) (by rfl) (by rfl) (by rfl) (by rfl) ?_
  refine he_s 3 (pc' := 13) (lc' := [(0, .ref 47)]) (stk' := [.int 0, .ref 49]) (mem' := cm g l (fm_ur a 48 (tc_g (a 48) 10 0)) b R) (by intro _ _ _; eq_refl) ?_
  refine he_ivS (show hr_T 1 388 [.ref 49, .int 0] (cm g l (fm_ur a 48 (tc_g (a 48) 10 0)) b R) none (cm g l (fm_ur (fm_ur a 48 (tc_g (a 48) 10 0)) 49 (tc_g (a 49) 10 0)) b R) from ha_fi (t := 49) (len := 10) (mem := fun f => cm g l (fm_ur (fm_ur a 48 (tc_g (a 48) 10 0)) 49 f) b R) (fun _ => rfl) (fun _ _ => rfl) (by decide) _) (by omega) (by rfl) (by rfl) (by rfl) (by rfl) (by rfl) ?_
  refine he_s 3 (pc' := 21) (lc' := [(0, .ref 47)]) (stk' := [.int 0, .ref 50]) (mem' := cm g l (fm_ur (fm_ur a 48 (tc_g (a 48) 10 0)) 49 (tc_g (a 49) 10 0)) b R) (by intro _ _ _; eq_refl) ?_
  refine he_ivS (show hr_T 1 388 [.ref 50, .int 0] (cm g l (fm_ur (fm_ur a 48 (tc_g (a 48) 10 0)) 49 (tc_g (a 49) 10 0)) b R) none (cm g l (fm_ur (fm_ur (fm_ur a 48 (tc_g (a 48) 10 0)) 49 (tc_g (a 49) 10 0)) 50 (tc_g (a 50) 10 0)) b R) from ha_fi (t := 50) (len := 10) (mem := fun f => cm g l (fm_ur (fm_ur (fm_ur a 48 (tc_g (a 48) 10 0)) 49 (tc_g (a 49) 10 0)) 50 f) b R) (fun _ => rfl) (fun _ _ => rfl) (by decide) _) (by omega) (by rfl) (by rfl) (by rfl) (by rfl) (by rfl) ?_
  refine he_s 3 (pc' := 29) (lc' := [(0, .ref 47)]) (stk' := [.int 0, .ref 51]) (mem' := cm g l (fm_ur (fm_ur (fm_ur a 48 (tc_g (a 48) 10 0)) 49 (tc_g (a 49) 10 0)) 50 (tc_g (a 50) 10 0)) b R) (by intro _ _ _; eq_refl) ?_
  refine he_ivS (show hr_T 1 388 [.ref 51, .int 0] (cm g l (fm_ur (fm_ur (fm_ur a 48 (tc_g (a 48) 10 0)) 49 (tc_g (a 49) 10 0)) 50 (tc_g (a 50) 10 0)) b R) none (cm g l (fm_ur (fm_ur (fm_ur (fm_ur a 48 (tc_g (a 48) 10 0)) 49 (tc_g (a 49) 10 0)) 50 (tc_g (a 50) 10 0)) 51 (tc_g (a 51) 200 0)) b R) from ha_fi (t := 51) (len := 200) (mem := fun f => cm g l (fm_ur (fm_ur (fm_ur (fm_ur a 48 (tc_g (a 48) 10 0)) 49 (tc_g (a 49) 10 0)) 50 (tc_g (a 50) 10 0)) 51 f) b R) (fun _ => rfl) (fun _ _ => rfl) (by decide) _) (by omega) (by rfl) (by rfl) (by rfl) (by rfl) (by rfl) ?_
  refine he_s 6 (pc' := 42) (lc' := [(0, .ref 47)]) (stk' := []) (mem' := cm (fm_u (fm_u g 47 4 0) 47 5 0) l (fm_ur (fm_ur (fm_ur (fm_ur a 48 (tc_g (a 48) 10 0)) 49 (tc_g (a 49) 10 0)) 50 (tc_g (a 50) 10 0)) 51 (tc_g (a 51) 200 0)) b R) (by intro _ _ _; eq_refl) ?_
  exact he_ret ⟨_, _, _, fun j hj => ⟨(by first | rfl | (repeat (first | rw [fm_un (by omega)] | rw [fm_ur_n (by omega)] | rw [fm_uf_n (by omega)]))), (by first | rfl | (repeat (first | rw [fm_un (by omega)] | rw [fm_ur_n (by omega)] | rw [fm_uf_n (by omega)]))), (by first | rfl | (repeat (first | rw [fm_un (by omega)] | rw [fm_ur_n (by omega)] | rw [fm_uf_n (by omega)])))⟩, rfl⟩ (by rfl) (by rfl) (by rfl)
theorem ha_ccl : ∃ (g' a' : Nat → Nat → Int32) (b' : Nat → Nat → Int64), hr_T 2 1 [.ref 52] (cm g l a b R) none (cm g' l a' b' R) ∧ g' 52 7 = 0 ∧ ∀ j, ¬ (52 ≤ j ∧ j ≤ 59) → g' j = g j ∧ a' j = a j ∧ b' j = b j := by
  suffices h : ∃ (v : Option Value) (mem' : fx_M), (fun R1 => ∃ (g' a' : Nat → Nat → Int32) (b' : Nat → Nat → Int64), (g' 52 7 = 0 ∧ ∀ j, ¬ (52 ≤ j ∧ j ≤ 59) → g' j = g j ∧ a' j = a j ∧ b' j = b j) ∧ R1 = (none, cm g' l a' b' R)) (v, mem') ∧ hr_T 2 1 [.ref 52] (cm g l a b R) v mem' by
    obtain ⟨v, mem', ⟨g', a', b', h1, hR1⟩, h2⟩ := h
    cases hR1
    exact ⟨g', a', b', h2, h1⟩
  refine he_meth (F := fun R1 => ∃ (g' a' : Nat → Nat → Int32) (b' : Nat → Nat → Int64), (g' 52 7 = 0 ∧ ∀ j, ¬ (52 ≤ j ∧ j ≤ 59) → g' j = g j ∧ a' j = a j ∧ b' j = b j) ∧ R1 = (none, cm g' l a' b' R)) (M := gk_m1) (by rfl) (by rfl) ?_
  refine he_s 12 (pc' := 20) (lc' := [(0, .ref 52)]) (stk' := [.int 0, .ref 56]) (mem' := cm (fm_u (fm_u (fm_u g 52 7 0) 52 8 0) 52 9 0) l a b R) (by intro _ _ _; eq_refl) ?_
  refine he_ivS (show hr_T 1 388 [.ref 56, .int 0] (cm (fm_u (fm_u (fm_u g 52 7 0) 52 8 0) 52 9 0) l a b R) none (cm (fm_u (fm_u (fm_u g 52 7 0) 52 8 0) 52 9 0) l (fm_ur a 56 (tc_g (a 56) 8 0)) b R) from ha_fi (t := 56) (len := 8) (mem := fun f => cm (fm_u (fm_u (fm_u g 52 7 0) 52 8 0) 52 9 0) l (fm_ur a 56 f) b R) (fun _ => rfl) (fun _ _ => rfl) (by decide) _) (by omega) (by rfl) (by rfl) (by rfl) (by rfl) (by rfl) ?_
  exact he_ret ⟨_, _, _, ⟨rfl, fun j hj => ⟨(by first | rfl | (repeat (first | rw [fm_un (by omega)] | rw [fm_ur_n (by omega)] | rw [fm_uf_n (by omega)]))), (by first | rfl | (repeat (first | rw [fm_un (by omega)] | rw [fm_ur_n (by omega)] | rw [fm_uf_n (by omega)]))), (by first | rfl | (repeat (first | rw [fm_un (by omega)] | rw [fm_ur_n (by omega)] | rw [fm_uf_n (by omega)])))⟩⟩, rfl⟩ (by rfl) (by rfl) (by rfl)
theorem ha_lcl : ∃ (g' a' : Nat → Nat → Int32) (b' : Nat → Nat → Int64), hr_T 3 30 [.ref 41] (cm g l a b R) none (cm g' l a' b' R) ∧ cd_L 41 sp_A0 g' a' b' ∧ cdr g a b g' a' b' := by
  suffices h : ∃ (v : Option Value) (mem' : fx_M), (fun R1 => ∃ (g' a' : Nat → Nat → Int32) (b' : Nat → Nat → Int64), (cd_L 41 sp_A0 g' a' b' ∧ cdr g a b g' a' b') ∧ R1 = (none, cm g' l a' b' R)) (v, mem') ∧ hr_T 3 30 [.ref 41] (cm g l a b R) v mem' by
    obtain ⟨v, mem', ⟨g', a', b', h1, hR1⟩, h2⟩ := h
    cases hR1
    exact ⟨g', a', b', h2, h1⟩
  refine he_meth (F := fun R1 => ∃ (g' a' : Nat → Nat → Int32) (b' : Nat → Nat → Int64), (cd_L 41 sp_A0 g' a' b' ∧ cdr g a b g' a' b') ∧ R1 = (none, cm g' l a' b' R)) (M := gk_m30) (by rfl) (by rfl) ?_
  refine he_s 3 (pc' := 5) (lc' := [(0, .ref 41)]) (stk' := [.int 0, .ref 43]) (mem' := cm g l a b R) (by intro _ _ _; eq_refl) ?_
  refine he_ivS (show hr_T 1 388 [.ref 43, .int 0] (cm g l a b R) none (cm g l (fm_ur a 43 (tc_g (a 43) 10 0)) b R) from ha_fi (t := 43) (len := 10) (mem := fun f => cm g l (fm_ur a 43 f) b R) (fun _ => rfl) (fun _ _ => rfl) (by decide) _) (by omega) (by rfl) (by rfl) (by rfl) (by rfl) (by rfl) ?_
  refine he_s 3 (pc' := 13) (lc' := [(0, .ref 41)]) (stk' := [.int 0, .ref 44]) (mem' := cm g l (fm_ur a 43 (tc_g (a 43) 10 0)) b R) (by intro _ _ _; eq_refl) ?_
  refine he_ivS (show hr_T 1 388 [.ref 44, .int 0] (cm g l (fm_ur a 43 (tc_g (a 43) 10 0)) b R) none (cm g l (fm_ur (fm_ur a 43 (tc_g (a 43) 10 0)) 44 (tc_g (a 44) 10 0)) b R) from ha_fi (t := 44) (len := 10) (mem := fun f => cm g l (fm_ur (fm_ur a 43 (tc_g (a 43) 10 0)) 44 f) b R) (fun _ => rfl) (fun _ _ => rfl) (by decide) _) (by omega) (by rfl) (by rfl) (by rfl) (by rfl) (by rfl) ?_
  refine he_s 3 (pc' := 21) (lc' := [(0, .ref 41)]) (stk' := [.int 0, .ref 45]) (mem' := cm g l (fm_ur (fm_ur a 43 (tc_g (a 43) 10 0)) 44 (tc_g (a 44) 10 0)) b R) (by intro _ _ _; eq_refl) ?_
  refine he_ivS (show hr_T 1 388 [.ref 45, .int 0] (cm g l (fm_ur (fm_ur a 43 (tc_g (a 43) 10 0)) 44 (tc_g (a 44) 10 0)) b R) none (cm g l (fm_ur (fm_ur (fm_ur a 43 (tc_g (a 43) 10 0)) 44 (tc_g (a 44) 10 0)) 45 (tc_g (a 45) 10 0)) b R) from ha_fi (t := 45) (len := 10) (mem := fun f => cm g l (fm_ur (fm_ur (fm_ur a 43 (tc_g (a 43) 10 0)) 44 (tc_g (a 44) 10 0)) 45 f) b R) (fun _ => rfl) (fun _ _ => rfl) (by decide) _) (by omega) (by rfl) (by rfl) (by rfl) (by rfl) (by rfl) ?_
  refine he_s 2 (pc' := 28) (lc' := [(0, .ref 41)]) (stk' := [.ref 47]) (mem' := cm g l (fm_ur (fm_ur (fm_ur a 43 (tc_g (a 43) 10 0)) 44 (tc_g (a 44) 10 0)) 45 (tc_g (a 45) 10 0)) b R) (by intro _ _ _; eq_refl) ?_
  obtain ⟨gc1, ac1, bc1, hrc1, hxc1⟩ := ha_icl (g := g) (l := l) (a := (fm_ur (fm_ur (fm_ur a 43 (tc_g (a 43) 10 0)) 44 (tc_g (a 44) 10 0)) 45 (tc_g (a 45) 10 0))) (b := b) (R := R)
  refine he_ivV hrc1 (by omega) (by rfl) (by rfl) (by rfl) (by rfl) (by rfl) (by rfl) ?_
  refine he_s 2 (pc' := 35) (lc' := [(0, .ref 41)]) (stk' := [.ref 52]) (mem' := cm gc1 l ac1 bc1 R) (by intro _ _ _; eq_refl) ?_
  obtain ⟨gc2, ac2, bc2, hrc2, hxc2⟩ := ha_ccl (g := gc1) (l := l) (a := ac1) (b := bc1) (R := R)
  refine he_ivV hrc2 (by omega) (by rfl) (by rfl) (by rfl) (by rfl) (by rfl) (by rfl) ?_
  refine he_s 18 (pc' := 68) (lc' := [(0, .ref 41)]) (stk' := []) (mem' := cm (fm_u (fm_u (fm_u (fm_u (fm_u (fm_u gc2 41 8 0) 41 9 0) 41 10 2) 41 11 4) 41 12 1) 41 13 0) l ac2 bc2 R) (by intro _ _ _; eq_refl) ?_
  have f43 : ac2 43 = tc_g (a 43) 10 0 := (hxc2.2 43 (by decide)).2.1.trans ((hxc1 43 (by decide)).2.1.trans rfl)
  have f44 : ac2 44 = tc_g (a 44) 10 0 := (hxc2.2 44 (by decide)).2.1.trans ((hxc1 44 (by decide)).2.1.trans rfl)
  refine he_ret ⟨_, _, _, ⟨⟨⟨rfl, by decide, ?_, by decide, ⟨fun i L h => (by cases h), fun L h => absurd h List.not_mem_nil⟩, ⟨fun i L h => (by cases h), fun L h => absurd h List.not_mem_nil⟩⟩, fun c hc => ?_, fun i hi => ?_, fun i hi => ?_, fun i L w h => (by cases h)⟩, fun j hj => ?_⟩, rfl⟩ (by rfl) (by rfl) (by rfl)
  · exact (show _ = gc2 52 7 from rfl).trans hxc2.1
  · rw [show sp_sh sp_A0 c = false from rfl]
    show (0 : Int32) >>> (nI c &&& 31) &&& 1 = 0
    rw [bi_v _ (by omega), show (0 : Int32).toBitVec = 0#32 from rfl, BitVec.getLsbD_zero]; rfl
  · exact (congrFun f43 i).trans (if_pos hi)
  · exact (congrFun f44 i).trans (if_pos hi)
  · refine ⟨?_, ?_, ?_⟩
    · repeat rw [fm_un (by omega)]
      rw [(hxc2.2 j (by omega)).1, (hxc1 j (by omega)).1]
    · rw [(hxc2.2 j (by omega)).2.1, (hxc1 j (by omega)).2.1]; repeat rw [fm_ur_n (by omega)]
    · rw [(hxc2.2 j (by omega)).2.2, (hxc1 j (by omega)).2.2]
theorem ha_icp : ∃ (g' a' : Nat → Nat → Int32) (b' : Nat → Nat → Int64), hr_T 1 25 [.ref 21, .ref 47] (cm g l a b R) none (cm g' l a' b' R) ∧ ∀ j, ¬ (21 ≤ j ∧ j ≤ 25) → g' j = g j ∧ a' j = a j ∧ b' j = b j := by
  suffices h : ∃ (v : Option Value) (mem' : fx_M), (fun R1 => ∃ (g' a' : Nat → Nat → Int32) (b' : Nat → Nat → Int64), (∀ j, ¬ (21 ≤ j ∧ j ≤ 25) → g' j = g j ∧ a' j = a j ∧ b' j = b j) ∧ R1 = (none, cm g' l a' b' R)) (v, mem') ∧ hr_T 1 25 [.ref 21, .ref 47] (cm g l a b R) v mem' by
    obtain ⟨v, mem', ⟨g', a', b', h1, hR1⟩, h2⟩ := h
    cases hR1
    exact ⟨g', a', b', h2, h1⟩
  refine he_meth (F := fun R1 => ∃ (g' a' : Nat → Nat → Int32) (b' : Nat → Nat → Int64), (∀ j, ¬ (21 ≤ j ∧ j ≤ 25) → g' j = g j ∧ a' j = a j ∧ b' j = b j) ∧ R1 = (none, cm g' l a' b' R)) (M := gk_m25) (by rfl) (by rfl) ?_
  refine he_s 7 (pc' := 12) (lc' := [(0, .ref 21), (1, .ref 47)]) (stk' := [.int 10, .int 0, .ref 22, .int 0, .ref 48]) (mem' := cm g l a b R) (by intro _ _ _; eq_refl) ?_
  refine he_cpI (mem' := cm g l (fm_ur a 22 (va_cpy (a 48) (a 22) 0 0 10)) b R) (by rfl) (by rfl) (by rfl) (by rfl) (by rfl) (by decide) (by rfl) ?_
  refine he_s 7 (pc' := 27) (lc' := [(0, .ref 21), (1, .ref 47)]) (stk' := [.int 10, .int 0, .ref 23, .int 0, .ref 49]) (mem' := cm g l (fm_ur a 22 (va_cpy (a 48) (a 22) 0 0 10)) b R) (by intro _ _ _; eq_refl) ?_
  refine he_cpI (mem' := cm g l (fm_ur (fm_ur a 22 (va_cpy (a 48) (a 22) 0 0 10)) 23 (va_cpy (a 49) (a 23) 0 0 10)) b R) (by rfl) (by rfl) (by rfl) (by rfl) (by rfl) (by decide) (by rfl) ?_
  refine he_s 7 (pc' := 42) (lc' := [(0, .ref 21), (1, .ref 47)]) (stk' := [.int 10, .int 0, .ref 24, .int 0, .ref 50]) (mem' := cm g l (fm_ur (fm_ur a 22 (va_cpy (a 48) (a 22) 0 0 10)) 23 (va_cpy (a 49) (a 23) 0 0 10)) b R) (by intro _ _ _; eq_refl) ?_
  refine he_cpI (mem' := cm g l (fm_ur (fm_ur (fm_ur a 22 (va_cpy (a 48) (a 22) 0 0 10)) 23 (va_cpy (a 49) (a 23) 0 0 10)) 24 (va_cpy (a 50) (a 24) 0 0 10)) b R) (by rfl) (by rfl) (by rfl) (by rfl) (by rfl) (by decide) (by rfl) ?_
  refine he_s 7 (pc' := 58) (lc' := [(0, .ref 21), (1, .ref 47)]) (stk' := [.int 200, .int 0, .ref 25, .int 0, .ref 51]) (mem' := cm g l (fm_ur (fm_ur (fm_ur a 22 (va_cpy (a 48) (a 22) 0 0 10)) 23 (va_cpy (a 49) (a 23) 0 0 10)) 24 (va_cpy (a 50) (a 24) 0 0 10)) b R) (by intro _ _ _; eq_refl) ?_
  refine he_cpI (mem' := cm g l (fm_ur (fm_ur (fm_ur (fm_ur a 22 (va_cpy (a 48) (a 22) 0 0 10)) 23 (va_cpy (a 49) (a 23) 0 0 10)) 24 (va_cpy (a 50) (a 24) 0 0 10)) 25 (va_cpy (a 51) (a 25) 0 0 200)) b R) (by rfl) (by rfl) (by rfl) (by rfl) (by rfl) (by decide) (by rfl) ?_
  refine he_s 8 (pc' := 77) (lc' := [(0, .ref 21), (1, .ref 47)]) (stk' := []) (mem' := cm (fm_u (fm_u g 21 4 (g 47 4)) 21 5 (g 47 5)) l (fm_ur (fm_ur (fm_ur (fm_ur a 22 (va_cpy (a 48) (a 22) 0 0 10)) 23 (va_cpy (a 49) (a 23) 0 0 10)) 24 (va_cpy (a 50) (a 24) 0 0 10)) 25 (va_cpy (a 51) (a 25) 0 0 200)) b R) (by intro _ _ _; eq_refl) ?_
  exact he_ret ⟨_, _, _, fun j hj => ⟨(by first | rfl | (repeat (first | rw [fm_un (by omega)] | rw [fm_ur_n (by omega)] | rw [fm_uf_n (by omega)]))), (by first | rfl | (repeat (first | rw [fm_un (by omega)] | rw [fm_ur_n (by omega)] | rw [fm_uf_n (by omega)]))), (by first | rfl | (repeat (first | rw [fm_un (by omega)] | rw [fm_ur_n (by omega)] | rw [fm_uf_n (by omega)])))⟩, rfl⟩ (by rfl) (by rfl) (by rfl)
theorem va_cpy0 {α : Type} {f g : Nat → α} {n i : Nat} (hi : i < n) : va_cpy f g 0 0 n i = f i := by
  unfold va_cpy
  rw [if_pos ⟨Nat.zero_le _, by omega⟩]
  congr 1
  omega
theorem ha_ccp : ∃ (g' a' : Nat → Nat → Int32) (b' : Nat → Nat → Int64), hr_T 1 2 [.ref 26, .ref 52] (cm g l a b R) none (cm g' l a' b' R) ∧ g' 26 7 = g 52 7 ∧ (∀ i, i < 8 → b' 27 i = b 53 i) ∧ (∀ i, i < 8 → a' 28 i = a 54 i) ∧ ∀ j, ¬ (26 ≤ j ∧ j ≤ 33) → g' j = g j ∧ a' j = a j ∧ b' j = b j := by
  suffices h : ∃ (v : Option Value) (mem' : fx_M), (fun R1 => ∃ (g' a' : Nat → Nat → Int32) (b' : Nat → Nat → Int64), (g' 26 7 = g 52 7 ∧ (∀ i, i < 8 → b' 27 i = b 53 i) ∧ (∀ i, i < 8 → a' 28 i = a 54 i) ∧ ∀ j, ¬ (26 ≤ j ∧ j ≤ 33) → g' j = g j ∧ a' j = a j ∧ b' j = b j) ∧ R1 = (none, cm g' l a' b' R)) (v, mem') ∧ hr_T 1 2 [.ref 26, .ref 52] (cm g l a b R) v mem' by
    obtain ⟨v, mem', ⟨g', a', b', h1, hR1⟩, h2⟩ := h
    cases hR1
    exact ⟨g', a', b', h2, h1⟩
  refine he_meth (F := fun R1 => ∃ (g' a' : Nat → Nat → Int32) (b' : Nat → Nat → Int64), (g' 26 7 = g 52 7 ∧ (∀ i, i < 8 → b' 27 i = b 53 i) ∧ (∀ i, i < 8 → a' 28 i = a 54 i) ∧ ∀ j, ¬ (26 ≤ j ∧ j ≤ 33) → g' j = g j ∧ a' j = a j ∧ b' j = b j) ∧ R1 = (none, cm g' l a' b' R)) (M := gk_m2) (by rfl) (by rfl) ?_
  refine he_s 7 (pc' := 12) (lc' := [(0, .ref 26), (1, .ref 52)]) (stk' := [.int 8, .int 0, .ref 27, .int 0, .ref 53]) (mem' := cm g l a b R) (by intro _ _ _; eq_refl) ?_
  refine he_cpL (mem' := cm g l a (fm_uf b 27 (va_cpy (b 53) (b 27) 0 0 8)) R) (by rfl) (by rfl) (by rfl) (by rfl) (by rfl) (by decide) (by rfl) ?_
  refine he_s 7 (pc' := 27) (lc' := [(0, .ref 26), (1, .ref 52)]) (stk' := [.int 8, .int 0, .ref 28, .int 0, .ref 54]) (mem' := cm g l a (fm_uf b 27 (va_cpy (b 53) (b 27) 0 0 8)) R) (by intro _ _ _; eq_refl) ?_
  refine he_cpI (mem' := cm g l (fm_ur a 28 (va_cpy (a 54) (a 28) 0 0 8)) (fm_uf b 27 (va_cpy (b 53) (b 27) 0 0 8)) R) (by rfl) (by rfl) (by rfl) (by rfl) (by rfl) (by decide) (by rfl) ?_
  refine he_s 7 (pc' := 42) (lc' := [(0, .ref 26), (1, .ref 52)]) (stk' := [.int 8, .int 0, .ref 29, .int 0, .ref 55]) (mem' := cm g l (fm_ur a 28 (va_cpy (a 54) (a 28) 0 0 8)) (fm_uf b 27 (va_cpy (b 53) (b 27) 0 0 8)) R) (by intro _ _ _; eq_refl) ?_
  refine he_cpI (mem' := cm g l (fm_ur (fm_ur a 28 (va_cpy (a 54) (a 28) 0 0 8)) 29 (va_cpy (a 55) (a 29) 0 0 8)) (fm_uf b 27 (va_cpy (b 53) (b 27) 0 0 8)) R) (by rfl) (by rfl) (by rfl) (by rfl) (by rfl) (by decide) (by rfl) ?_
  refine he_s 7 (pc' := 57) (lc' := [(0, .ref 26), (1, .ref 52)]) (stk' := [.int 8, .int 0, .ref 30, .int 0, .ref 56]) (mem' := cm g l (fm_ur (fm_ur a 28 (va_cpy (a 54) (a 28) 0 0 8)) 29 (va_cpy (a 55) (a 29) 0 0 8)) (fm_uf b 27 (va_cpy (b 53) (b 27) 0 0 8)) R) (by intro _ _ _; eq_refl) ?_
  refine he_cpI (mem' := cm g l (fm_ur (fm_ur (fm_ur a 28 (va_cpy (a 54) (a 28) 0 0 8)) 29 (va_cpy (a 55) (a 29) 0 0 8)) 30 (va_cpy (a 56) (a 30) 0 0 8)) (fm_uf b 27 (va_cpy (b 53) (b 27) 0 0 8)) R) (by rfl) (by rfl) (by rfl) (by rfl) (by rfl) (by decide) (by rfl) ?_
  refine he_s 7 (pc' := 72) (lc' := [(0, .ref 26), (1, .ref 52)]) (stk' := [.int 8, .int 0, .ref 31, .int 0, .ref 57]) (mem' := cm g l (fm_ur (fm_ur (fm_ur a 28 (va_cpy (a 54) (a 28) 0 0 8)) 29 (va_cpy (a 55) (a 29) 0 0 8)) 30 (va_cpy (a 56) (a 30) 0 0 8)) (fm_uf b 27 (va_cpy (b 53) (b 27) 0 0 8)) R) (by intro _ _ _; eq_refl) ?_
  refine he_cpI (mem' := cm g l (fm_ur (fm_ur (fm_ur (fm_ur a 28 (va_cpy (a 54) (a 28) 0 0 8)) 29 (va_cpy (a 55) (a 29) 0 0 8)) 30 (va_cpy (a 56) (a 30) 0 0 8)) 31 (va_cpy (a 57) (a 31) 0 0 8)) (fm_uf b 27 (va_cpy (b 53) (b 27) 0 0 8)) R) (by rfl) (by rfl) (by rfl) (by rfl) (by rfl) (by decide) (by rfl) ?_
  refine he_s 7 (pc' := 87) (lc' := [(0, .ref 26), (1, .ref 52)]) (stk' := [.int 8, .int 0, .ref 32, .int 0, .ref 58]) (mem' := cm g l (fm_ur (fm_ur (fm_ur (fm_ur a 28 (va_cpy (a 54) (a 28) 0 0 8)) 29 (va_cpy (a 55) (a 29) 0 0 8)) 30 (va_cpy (a 56) (a 30) 0 0 8)) 31 (va_cpy (a 57) (a 31) 0 0 8)) (fm_uf b 27 (va_cpy (b 53) (b 27) 0 0 8)) R) (by intro _ _ _; eq_refl) ?_
  refine he_cpI (mem' := cm g l (fm_ur (fm_ur (fm_ur (fm_ur (fm_ur a 28 (va_cpy (a 54) (a 28) 0 0 8)) 29 (va_cpy (a 55) (a 29) 0 0 8)) 30 (va_cpy (a 56) (a 30) 0 0 8)) 31 (va_cpy (a 57) (a 31) 0 0 8)) 32 (va_cpy (a 58) (a 32) 0 0 8)) (fm_uf b 27 (va_cpy (b 53) (b 27) 0 0 8)) R) (by rfl) (by rfl) (by rfl) (by rfl) (by rfl) (by decide) (by rfl) ?_
  refine he_s 7 (pc' := 103) (lc' := [(0, .ref 26), (1, .ref 52)]) (stk' := [.int 160, .int 0, .ref 33, .int 0, .ref 59]) (mem' := cm g l (fm_ur (fm_ur (fm_ur (fm_ur (fm_ur a 28 (va_cpy (a 54) (a 28) 0 0 8)) 29 (va_cpy (a 55) (a 29) 0 0 8)) 30 (va_cpy (a 56) (a 30) 0 0 8)) 31 (va_cpy (a 57) (a 31) 0 0 8)) 32 (va_cpy (a 58) (a 32) 0 0 8)) (fm_uf b 27 (va_cpy (b 53) (b 27) 0 0 8)) R) (by intro _ _ _; eq_refl) ?_
  refine he_cpI (mem' := cm g l (fm_ur (fm_ur (fm_ur (fm_ur (fm_ur (fm_ur a 28 (va_cpy (a 54) (a 28) 0 0 8)) 29 (va_cpy (a 55) (a 29) 0 0 8)) 30 (va_cpy (a 56) (a 30) 0 0 8)) 31 (va_cpy (a 57) (a 31) 0 0 8)) 32 (va_cpy (a 58) (a 32) 0 0 8)) 33 (va_cpy (a 59) (a 33) 0 0 160)) (fm_uf b 27 (va_cpy (b 53) (b 27) 0 0 8)) R) (by rfl) (by rfl) (by rfl) (by rfl) (by rfl) (by decide) (by rfl) ?_
  refine he_s 12 (pc' := 130) (lc' := [(0, .ref 26), (1, .ref 52)]) (stk' := []) (mem' := cm (fm_u (fm_u (fm_u g 26 7 (g 52 7)) 26 8 (g 52 8)) 26 9 (g 52 9)) l (fm_ur (fm_ur (fm_ur (fm_ur (fm_ur (fm_ur a 28 (va_cpy (a 54) (a 28) 0 0 8)) 29 (va_cpy (a 55) (a 29) 0 0 8)) 30 (va_cpy (a 56) (a 30) 0 0 8)) 31 (va_cpy (a 57) (a 31) 0 0 8)) 32 (va_cpy (a 58) (a 32) 0 0 8)) 33 (va_cpy (a 59) (a 33) 0 0 160)) (fm_uf b 27 (va_cpy (b 53) (b 27) 0 0 8)) R) (by intro _ _ _; eq_refl) ?_
  exact he_ret ⟨_, _, _, ⟨rfl, fun i hi => (show va_cpy (b 53) (b 27) 0 0 8 i = b 53 i from va_cpy0 hi), fun i hi => (show va_cpy (a 54) (a 28) 0 0 8 i = a 54 i from va_cpy0 hi), fun j hj => ⟨(by first | rfl | (repeat (first | rw [fm_un (by omega)] | rw [fm_ur_n (by omega)] | rw [fm_uf_n (by omega)]))), (by first | rfl | (repeat (first | rw [fm_un (by omega)] | rw [fm_ur_n (by omega)] | rw [fm_uf_n (by omega)]))), (by first | rfl | (repeat (first | rw [fm_un (by omega)] | rw [fm_ur_n (by omega)] | rw [fm_uf_n (by omega)])))⟩⟩, rfl⟩ (by rfl) (by rfl) (by rfl)
/-- the lake is the draft's copy -/
theorem cd_cp {g' a' : Nat → Nat → Int32} {b' : Nat → Nat → Int64} (h : cd_L 41 A g a b) (h8 : g' 15 8 = g 41 8) (h9 : g' 15 9 = g 41 9) (h7 : g' 26 7 = g 52 7) (n1 : ∀ i, i < 10 → b' 16 i = b 42 i) (n2 : ∀ i, i < 8 → b' 27 i = b 53 i) (w1 : ∀ i, i < 10 → a' 17 i = a 43 i) (w2 : ∀ i, i < 10 → a' 18 i = a 44 i) (w3 : ∀ i, i < 8 → a' 28 i = a 54 i) : cd_L 15 A g' a' b' := by
  obtain ⟨⟨k1, k2, k3, k4, k5, k6⟩, k7, k8, k9, k10⟩ := h
  have l1 : (A.1.1.map Prod.fst).length = A.1.1.length := List.length_map _
  have l2 : (A.1.2.map Prod.fst).length = A.1.2.length := List.length_map _
  refine ⟨⟨h8.trans k1, k2, h7.trans k3, k4, ⟨fun i L hi => (n1 i ?_).trans (k5.1 i L hi), k5.2⟩, ⟨fun i L hi => (n2 i ?_).trans (k6.1 i L hi), k6.2⟩⟩, fun c hc => by rw [h9]; exact k7 c hc, fun i hi => (w1 i hi).trans (k8 i hi), fun i hi => (w2 i hi).trans (k9 i hi), fun i L w hi => ?_⟩
  · have := (List.getElem?_eq_some_iff.mp hi).1; omega
  · have := (List.getElem?_eq_some_iff.mp hi).1; omega
  · have h1 := (List.getElem?_eq_some_iff.mp hi).1
    exact ⟨(w3 i (by omega)).trans (k10 i L w hi).1, (k10 i L w hi).2⟩
theorem ha_lcp : ∃ (g' a' : Nat → Nat → Int32) (b' : Nat → Nat → Int64), hr_T 2 31 [.ref 15, .ref 41] (cm g l a b R) none (cm g' l a' b' R) ∧ (∀ A : sp_A, cd_L 41 A g a b → cd_L 15 A g' a' b') ∧ ∀ j, ¬ (15 ≤ j ∧ j ≤ 33) → g' j = g j ∧ a' j = a j ∧ b' j = b j := by
  suffices h : ∃ (v : Option Value) (mem' : fx_M), (fun R1 => ∃ (g' a' : Nat → Nat → Int32) (b' : Nat → Nat → Int64), ((∀ A : sp_A, cd_L 41 A g a b → cd_L 15 A g' a' b') ∧ ∀ j, ¬ (15 ≤ j ∧ j ≤ 33) → g' j = g j ∧ a' j = a j ∧ b' j = b j) ∧ R1 = (none, cm g' l a' b' R)) (v, mem') ∧ hr_T 2 31 [.ref 15, .ref 41] (cm g l a b R) v mem' by
    obtain ⟨v, mem', ⟨g', a', b', h1, hR1⟩, h2⟩ := h
    cases hR1
    exact ⟨g', a', b', h2, h1⟩
  refine he_meth (F := fun R1 => ∃ (g' a' : Nat → Nat → Int32) (b' : Nat → Nat → Int64), ((∀ A : sp_A, cd_L 41 A g a b → cd_L 15 A g' a' b') ∧ ∀ j, ¬ (15 ≤ j ∧ j ≤ 33) → g' j = g j ∧ a' j = a j ∧ b' j = b j) ∧ R1 = (none, cm g' l a' b' R)) (M := gk_m31) (by rfl) (by rfl) ?_
  refine he_s 7 (pc' := 12) (lc' := [(0, .ref 15), (1, .ref 41)]) (stk' := [.int 10, .int 0, .ref 16, .int 0, .ref 42]) (mem' := cm g l a b R) (by intro _ _ _; eq_refl) ?_
  refine he_cpL (mem' := cm g l a (fm_uf b 16 (va_cpy (b 42) (b 16) 0 0 10)) R) (by rfl) (by rfl) (by rfl) (by rfl) (by rfl) (by decide) (by rfl) ?_
  refine he_s 7 (pc' := 27) (lc' := [(0, .ref 15), (1, .ref 41)]) (stk' := [.int 10, .int 0, .ref 17, .int 0, .ref 43]) (mem' := cm g l a (fm_uf b 16 (va_cpy (b 42) (b 16) 0 0 10)) R) (by intro _ _ _; eq_refl) ?_
  refine he_cpI (mem' := cm g l (fm_ur a 17 (va_cpy (a 43) (a 17) 0 0 10)) (fm_uf b 16 (va_cpy (b 42) (b 16) 0 0 10)) R) (by rfl) (by rfl) (by rfl) (by rfl) (by rfl) (by decide) (by rfl) ?_
  refine he_s 7 (pc' := 42) (lc' := [(0, .ref 15), (1, .ref 41)]) (stk' := [.int 10, .int 0, .ref 18, .int 0, .ref 44]) (mem' := cm g l (fm_ur a 17 (va_cpy (a 43) (a 17) 0 0 10)) (fm_uf b 16 (va_cpy (b 42) (b 16) 0 0 10)) R) (by intro _ _ _; eq_refl) ?_
  refine he_cpI (mem' := cm g l (fm_ur (fm_ur a 17 (va_cpy (a 43) (a 17) 0 0 10)) 18 (va_cpy (a 44) (a 18) 0 0 10)) (fm_uf b 16 (va_cpy (b 42) (b 16) 0 0 10)) R) (by rfl) (by rfl) (by rfl) (by rfl) (by rfl) (by decide) (by rfl) ?_
  refine he_s 7 (pc' := 57) (lc' := [(0, .ref 15), (1, .ref 41)]) (stk' := [.int 10, .int 0, .ref 19, .int 0, .ref 45]) (mem' := cm g l (fm_ur (fm_ur a 17 (va_cpy (a 43) (a 17) 0 0 10)) 18 (va_cpy (a 44) (a 18) 0 0 10)) (fm_uf b 16 (va_cpy (b 42) (b 16) 0 0 10)) R) (by intro _ _ _; eq_refl) ?_
  refine he_cpI (mem' := cm g l (fm_ur (fm_ur (fm_ur a 17 (va_cpy (a 43) (a 17) 0 0 10)) 18 (va_cpy (a 44) (a 18) 0 0 10)) 19 (va_cpy (a 45) (a 19) 0 0 10)) (fm_uf b 16 (va_cpy (b 42) (b 16) 0 0 10)) R) (by rfl) (by rfl) (by rfl) (by rfl) (by rfl) (by decide) (by rfl) ?_
  refine he_s 4 (pc' := 68) (lc' := [(0, .ref 15), (1, .ref 41)]) (stk' := [.ref 47, .ref 21]) (mem' := cm g l (fm_ur (fm_ur (fm_ur a 17 (va_cpy (a 43) (a 17) 0 0 10)) 18 (va_cpy (a 44) (a 18) 0 0 10)) 19 (va_cpy (a 45) (a 19) 0 0 10)) (fm_uf b 16 (va_cpy (b 42) (b 16) 0 0 10)) R) (by intro _ _ _; eq_refl) ?_
  obtain ⟨gc1, ac1, bc1, hrc1, hxc1⟩ := ha_icp (g := g) (l := l) (a := (fm_ur (fm_ur (fm_ur a 17 (va_cpy (a 43) (a 17) 0 0 10)) 18 (va_cpy (a 44) (a 18) 0 0 10)) 19 (va_cpy (a 45) (a 19) 0 0 10))) (b := (fm_uf b 16 (va_cpy (b 42) (b 16) 0 0 10))) (R := R)
  refine he_ivV hrc1 (by omega) (by rfl) (by rfl) (by rfl) (by rfl) (by rfl) (by rfl) ?_
  refine he_s 4 (pc' := 79) (lc' := [(0, .ref 15), (1, .ref 41)]) (stk' := [.ref 52, .ref 26]) (mem' := cm gc1 l ac1 bc1 R) (by intro _ _ _; eq_refl) ?_
  obtain ⟨gc2, ac2, bc2, hrc2, hxc2⟩ := ha_ccp (g := gc1) (l := l) (a := ac1) (b := bc1) (R := R)
  refine he_ivV hrc2 (by omega) (by rfl) (by rfl) (by rfl) (by rfl) (by rfl) (by rfl) ?_
  refine he_s 24 (pc' := 130) (lc' := [(0, .ref 15), (1, .ref 41)]) (stk' := []) (mem' := cm (fm_u (fm_u (fm_u (fm_u (fm_u (fm_u gc2 15 8 (gc2 41 8)) 15 9 (gc2 41 9)) 15 10 (gc2 41 10)) 15 11 (gc2 41 11)) 15 12 (gc2 41 12)) 15 13 (gc2 41 13)) l ac2 bc2 R) (by intro _ _ _; eq_refl) ?_
  have e27 : ∀ j, ¬ (21 ≤ j ∧ j ≤ 25) → ¬ (26 ≤ j ∧ j ≤ 33) → gc2 j = g j := fun j p1 p2 => (hxc2.2.2.2 j p2).1.trans (hxc1 j p1).1
  have a27 : ∀ j, ¬ (26 ≤ j ∧ j ≤ 33) → ¬ (21 ≤ j ∧ j ≤ 25) → ac2 j = _ := fun j p1 p2 => (hxc2.2.2.2 j p1).2.1.trans (hxc1 j p2).2.1
  have b27 : ∀ j, ¬ (26 ≤ j ∧ j ≤ 33) → ¬ (21 ≤ j ∧ j ≤ 25) → bc2 j = _ := fun j p1 p2 => (hxc2.2.2.2 j p1).2.2.trans (hxc1 j p2).2.2
  refine he_ret ⟨_, _, _, ⟨fun A h => cd_cp h ?_ ?_ ?_ (fun i hi => ?_) (fun i hi => ?_) (fun i hi => ?_) (fun i hi => ?_) (fun i hi => ?_), fun j hj => ⟨?_, ?_, ?_⟩⟩, rfl⟩ (by rfl) (by rfl) (by rfl)
  · exact congrFun (e27 41 (by decide) (by decide)) 8
  · exact congrFun (e27 41 (by decide) (by decide)) 9
  · exact hxc2.1.trans (congrFun (hxc1 52 (by decide)).1 7)
  · exact (congrFun (b27 16 (by decide) (by decide)) i).trans (va_cpy0 hi)
  · exact (hxc2.2.1 i hi).trans (congrFun (hxc1 53 (by decide)).2.2 i)
  · exact (congrFun (a27 17 (by decide) (by decide)) i).trans (va_cpy0 hi)
  · exact (congrFun (a27 18 (by decide) (by decide)) i).trans (va_cpy0 hi)
  · exact (hxc2.2.2.1 i hi).trans (congrFun (hxc1 54 (by decide)).2.1 i)
  · repeat rw [fm_un (by omega)]
    exact e27 j (by omega) (by omega)
  · rw [a27 j (by omega) (by omega)]; repeat rw [fm_ur_n (by omega)]
  · rw [b27 j (by omega) (by omega)]; repeat rw [fm_uf_n (by omega)]
theorem ha_misR (hs : cst g s) (hD : cd_L 41 A g a b) (h : co g l T n p) (hr : sp_part T n A s p = sp_mis T n p) : ∃ (g' : Nat → Nat → Int32), hr_T 2 108 [.ref 9] (cm g l a b R) none (cm g' l a b R) ∧ cfd g a b l g' a b l ∧ cRes g' l a b T n (sp_part T n A s p) := by
  obtain ⟨g', k1, k2, k3⟩ := ha_misfit (a := a) (b := b) (R := R) h
  refine ⟨g', k1, cfd_c k3, ?_⟩
  rw [hr]
  exact k2
theorem ha_part (hg : ctx a b T n) (hD : cd_L 41 A g a b) (hs : cst g s) (h : co g l T n p) : ∃ (v : Option Value) (mem' : fx_M), (fun R1 => ∃ (g' : Nat → Nat → Int32) (l' : Nat → Nat → Int64) (a' : Nat → Nat → Int32) (b' : Nat → Nat → Int64), cfd g a b l g' a' b' l' ∧ cRes g' l' a' b' T n (sp_part T n A s p) ∧ R1 = (none, cm g' l' a' b' R)) (v, mem') ∧ hr_T 6 65 [.ref 12, .ref 41] (cm g l a b R) v mem' := by
  refine he_meth (F := fun R1 => ∃ (g' : Nat → Nat → Int32) (l' : Nat → Nat → Int64) (a' : Nat → Nat → Int32) (b' : Nat → Nat → Int64), cfd g a b l g' a' b' l' ∧ cRes g' l' a' b' T n (sp_part T n A s p) ∧ R1 = (none, cm g' l' a' b' R)) (M := gk_m65) (by rfl) (by rfl) ?_
  have h7 := h.2.1.2.2.2.2.1
  refine he_s 3 (pc' := 7) (lc' := [(0, .ref 12), (1, .ref 41)]) (stk' := [.int (g 9 7)]) (mem' := cm g l a b R) (by intro _ _ _; eq_refl) ?_
  by_cases hk : sp_k T n p = 1
  · have hle := sp_kw_le (sp_wd T n p)
    have hcw : sp_cw T n p = if sp_kw (sp_wd T n p) < 23 then nI (sp_kw (sp_wd T n p)) else -1 := by
      unfold sp_cw
      by_cases e : sp_kw (sp_wd T n p) < 23
      · rw [if_pos ⟨hk, e⟩, if_pos e]
      · rw [if_neg (fun z => e z.2), if_neg e]
    have hpt : ∀ k, sp_kw (sp_wd T n p) = k → sp_part T n A s p = sp_pk T n A s p k := fun k e => by
      unfold sp_part
      rw [if_pos hk, e]
    rcases (by omega : sp_kw (sp_wd T n p) = 0 ∨ sp_kw (sp_wd T n p) = 1 ∨ sp_kw (sp_wd T n p) = 2 ∨ sp_kw (sp_wd T n p) = 3 ∨ sp_kw (sp_wd T n p) = 4 ∨ sp_kw (sp_wd T n p) = 5 ∨ sp_kw (sp_wd T n p) = 6 ∨ sp_kw (sp_wd T n p) = 7 ∨ sp_kw (sp_wd T n p) = 8 ∨ sp_kw (sp_wd T n p) = 9 ∨ sp_kw (sp_wd T n p) = 10 ∨ sp_kw (sp_wd T n p) = 11 ∨ sp_kw (sp_wd T n p) = 12 ∨ sp_kw (sp_wd T n p) = 13 ∨ sp_kw (sp_wd T n p) = 14 ∨ sp_kw (sp_wd T n p) = 15 ∨ sp_kw (sp_wd T n p) = 16 ∨ sp_kw (sp_wd T n p) = 17 ∨ sp_kw (sp_wd T n p) = 18 ∨ sp_kw (sp_wd T n p) = 19 ∨ sp_kw (sp_wd T n p) = 20 ∨ sp_kw (sp_wd T n p) = 21 ∨ sp_kw (sp_wd T n p) = 22 ∨ sp_kw (sp_wd T n p) = 23) with e | e | e | e | e | e | e | e | e | e | e | e | e | e | e | e | e | e | e | e | e | e | e | e
    · have hw : g 9 7 = 0 := by rw [h7, hcw, e]; rfl
      rw [hw]
      have hp := hpt 0 e
      refine he_s 1 (pc' := 64) (lc' := [(0, .ref 12), (1, .ref 41)]) (stk' := []) (mem' := cm g l a b R) (by intro _ _ _; eq_refl) ?_
      obtain ⟨v1, mem1, ⟨g1, l1, a1, b1, k1, k2, hR1⟩, k3⟩ := ha_rc0 (R := R) hg hD hs h
      cases hR1
      refine he_s 3 (pc' := 67) (lc' := [(0, .ref 12), (1, .ref 41)]) (stk' := [.int 0, .ref 41, .ref 12]) (mem' := cm g l a b R) (by intro _ _ _; eq_refl) ?_
      refine he_ivV k3 (by omega) (by rfl) (by rfl) (by rfl) (by rfl) (by rfl) (by rfl) ?_
      refine he_s 1 (pc' := 163) (lc' := [(0, .ref 12), (1, .ref 41)]) (stk' := []) (mem' := cm g1 l1 a1 b1 R) (by intro _ _ _; eq_refl) ?_
      exact he_ret ⟨_, _, _, _, k1, by rw [hp]; exact k2, rfl⟩ (by rfl) (by rfl) (by rfl)
    · have hw : g 9 7 = 1 := by rw [h7, hcw, e]; rfl
      rw [hw]
      have hp := hpt 1 e
      refine he_s 1 (pc' := 156) (lc' := [(0, .ref 12), (1, .ref 41)]) (stk' := []) (mem' := cm g l a b R) (by intro _ _ _; eq_refl) ?_
      obtain ⟨g1, k1, k2, k3⟩ := ha_misR (R := R) hs hD h (hp)
      refine he_s 2 (pc' := 160) (lc' := [(0, .ref 12), (1, .ref 41)]) (stk' := [.ref 9]) (mem' := cm g l a b R) (by intro _ _ _; eq_refl) ?_
      refine he_ivV k1 (by omega) (by rfl) (by rfl) (by rfl) (by rfl) (by rfl) (by rfl) ?_
      exact he_ret ⟨_, _, _, _, k2, k3, rfl⟩ (by rfl) (by rfl) (by rfl)
    · have hw : g 9 7 = 2 := by rw [h7, hcw, e]; rfl
      rw [hw]
      have hp := hpt 2 e
      refine he_s 1 (pc' := 73) (lc' := [(0, .ref 12), (1, .ref 41)]) (stk' := []) (mem' := cm g l a b R) (by intro _ _ _; eq_refl) ?_
      obtain ⟨v1, mem1, ⟨g1, l1, a1, b1, k1, k2, hR1⟩, k3⟩ := ha_rc1 (R := R) hg hD hs h
      cases hR1
      refine he_s 3 (pc' := 76) (lc' := [(0, .ref 12), (1, .ref 41)]) (stk' := [.int 1, .ref 41, .ref 12]) (mem' := cm g l a b R) (by intro _ _ _; eq_refl) ?_
      refine he_ivV k3 (by omega) (by rfl) (by rfl) (by rfl) (by rfl) (by rfl) (by rfl) ?_
      refine he_s 1 (pc' := 163) (lc' := [(0, .ref 12), (1, .ref 41)]) (stk' := []) (mem' := cm g1 l1 a1 b1 R) (by intro _ _ _; eq_refl) ?_
      exact he_ret ⟨_, _, _, _, k1, by rw [hp]; exact k2, rfl⟩ (by rfl) (by rfl) (by rfl)
    · have hw : g 9 7 = 3 := by rw [h7, hcw, e]; rfl
      rw [hw]
      have hp := hpt 3 e
      refine he_s 1 (pc' := 82) (lc' := [(0, .ref 12), (1, .ref 41)]) (stk' := []) (mem' := cm g l a b R) (by intro _ _ _; eq_refl) ?_
      obtain ⟨v1, mem1, ⟨g1, l1, a1, b1, k1, k2, hR1⟩, k3⟩ := ha_rp0 (R := R) hg hD hs h
      cases hR1
      refine he_s 3 (pc' := 85) (lc' := [(0, .ref 12), (1, .ref 41)]) (stk' := [.int 0, .ref 41, .ref 12]) (mem' := cm g l a b R) (by intro _ _ _; eq_refl) ?_
      refine he_ivV k3 (by omega) (by rfl) (by rfl) (by rfl) (by rfl) (by rfl) (by rfl) ?_
      refine he_s 1 (pc' := 163) (lc' := [(0, .ref 12), (1, .ref 41)]) (stk' := []) (mem' := cm g1 l1 a1 b1 R) (by intro _ _ _; eq_refl) ?_
      exact he_ret ⟨_, _, _, _, k1, by rw [hp]; exact k2, rfl⟩ (by rfl) (by rfl) (by rfl)
    · have hw : g 9 7 = 4 := by rw [h7, hcw, e]; rfl
      rw [hw]
      have hp := hpt 4 e
      refine he_s 1 (pc' := 91) (lc' := [(0, .ref 12), (1, .ref 41)]) (stk' := []) (mem' := cm g l a b R) (by intro _ _ _; eq_refl) ?_
      obtain ⟨v1, mem1, ⟨g1, l1, a1, b1, k1, k2, hR1⟩, k3⟩ := ha_rp1 (R := R) hg hD hs h
      cases hR1
      refine he_s 3 (pc' := 94) (lc' := [(0, .ref 12), (1, .ref 41)]) (stk' := [.int 1, .ref 41, .ref 12]) (mem' := cm g l a b R) (by intro _ _ _; eq_refl) ?_
      refine he_ivV k3 (by omega) (by rfl) (by rfl) (by rfl) (by rfl) (by rfl) (by rfl) ?_
      refine he_s 1 (pc' := 163) (lc' := [(0, .ref 12), (1, .ref 41)]) (stk' := []) (mem' := cm g1 l1 a1 b1 R) (by intro _ _ _; eq_refl) ?_
      exact he_ret ⟨_, _, _, _, k1, by rw [hp]; exact k2, rfl⟩ (by rfl) (by rfl) (by rfl)
    · have hw : g 9 7 = 5 := by rw [h7, hcw, e]; rfl
      rw [hw]
      have hp := hpt 5 e
      refine he_s 1 (pc' := 100) (lc' := [(0, .ref 12), (1, .ref 41)]) (stk' := []) (mem' := cm g l a b R) (by intro _ _ _; eq_refl) ?_
      obtain ⟨v1, mem1, ⟨g1, l1, a1, b1, k1, k2, hR1⟩, k3⟩ := ha_rw (R := R) hg hD hs h
      cases hR1
      refine he_s 2 (pc' := 102) (lc' := [(0, .ref 12), (1, .ref 41)]) (stk' := [.ref 41, .ref 12]) (mem' := cm g l a b R) (by intro _ _ _; eq_refl) ?_
      refine he_ivV k3 (by omega) (by rfl) (by rfl) (by rfl) (by rfl) (by rfl) (by rfl) ?_
      refine he_s 1 (pc' := 163) (lc' := [(0, .ref 12), (1, .ref 41)]) (stk' := []) (mem' := cm g1 l1 a1 b1 R) (by intro _ _ _; eq_refl) ?_
      exact he_ret ⟨_, _, _, _, k1, by rw [hp]; exact k2, rfl⟩ (by rfl) (by rfl) (by rfl)
    · have hw : g 9 7 = 6 := by rw [h7, hcw, e]; rfl
      rw [hw]
      have hp := hpt 6 e
      refine he_s 1 (pc' := 156) (lc' := [(0, .ref 12), (1, .ref 41)]) (stk' := []) (mem' := cm g l a b R) (by intro _ _ _; eq_refl) ?_
      obtain ⟨g1, k1, k2, k3⟩ := ha_misR (R := R) hs hD h (hp)
      refine he_s 2 (pc' := 160) (lc' := [(0, .ref 12), (1, .ref 41)]) (stk' := [.ref 9]) (mem' := cm g l a b R) (by intro _ _ _; eq_refl) ?_
      refine he_ivV k1 (by omega) (by rfl) (by rfl) (by rfl) (by rfl) (by rfl) (by rfl) ?_
      exact he_ret ⟨_, _, _, _, k2, k3, rfl⟩ (by rfl) (by rfl) (by rfl)
    · have hw : g 9 7 = 7 := by rw [h7, hcw, e]; rfl
      rw [hw]
      have hp := hpt 7 e
      refine he_s 1 (pc' := 156) (lc' := [(0, .ref 12), (1, .ref 41)]) (stk' := []) (mem' := cm g l a b R) (by intro _ _ _; eq_refl) ?_
      obtain ⟨g1, k1, k2, k3⟩ := ha_misR (R := R) hs hD h (hp)
      refine he_s 2 (pc' := 160) (lc' := [(0, .ref 12), (1, .ref 41)]) (stk' := [.ref 9]) (mem' := cm g l a b R) (by intro _ _ _; eq_refl) ?_
      refine he_ivV k1 (by omega) (by rfl) (by rfl) (by rfl) (by rfl) (by rfl) (by rfl) ?_
      exact he_ret ⟨_, _, _, _, k2, k3, rfl⟩ (by rfl) (by rfl) (by rfl)
    · have hw : g 9 7 = 8 := by rw [h7, hcw, e]; rfl
      rw [hw]
      have hp := hpt 8 e
      refine he_s 1 (pc' := 108) (lc' := [(0, .ref 12), (1, .ref 41)]) (stk' := []) (mem' := cm g l a b R) (by intro _ _ _; eq_refl) ?_
      obtain ⟨v1, mem1, ⟨x1, g1, l1, k1, k2, hR1⟩, k3⟩ := ha_st0 (y := g 41 10) (R := R) hg hD hs h hw
      cases hR1
      refine he_s 5 (pc' := 115) (lc' := [(0, .ref 12), (1, .ref 41)]) (stk' := [.int (g 41 10), .int 0, .ref 12, .ref 41]) (mem' := cm g l a b R) (by intro _ _ _; eq_refl) ?_
      refine he_ivV k3 (by omega) (by rfl) (by rfl) (by rfl) (by rfl) (by rfl) (by rfl) ?_
      refine he_s 2 (pc' := 163) (lc' := [(0, .ref 12), (1, .ref 41)]) (stk' := []) (mem' := cm (fm_u g1 41 10 x1) l1 a b R) (by intro _ _ _; eq_refl) ?_
      exact he_ret ⟨_, _, _, _, cfd_tr k1 (cfd_u (Or.inr (by decide))), by rw [hp]; exact cRes_u k2 (by decide), rfl⟩ (by rfl) (by rfl) (by rfl)
    · have hw : g 9 7 = 9 := by rw [h7, hcw, e]; rfl
      rw [hw]
      have hp := hpt 9 e
      refine he_s 1 (pc' := 124) (lc' := [(0, .ref 12), (1, .ref 41)]) (stk' := []) (mem' := cm g l a b R) (by intro _ _ _; eq_refl) ?_
      obtain ⟨v1, mem1, ⟨x1, g1, l1, k1, k2, hR1⟩, k3⟩ := ha_st1 (y := g 41 11) (R := R) hg hD hs h hw
      cases hR1
      refine he_s 5 (pc' := 131) (lc' := [(0, .ref 12), (1, .ref 41)]) (stk' := [.int (g 41 11), .int 1, .ref 12, .ref 41]) (mem' := cm g l a b R) (by intro _ _ _; eq_refl) ?_
      refine he_ivV k3 (by omega) (by rfl) (by rfl) (by rfl) (by rfl) (by rfl) (by rfl) ?_
      refine he_s 2 (pc' := 163) (lc' := [(0, .ref 12), (1, .ref 41)]) (stk' := []) (mem' := cm (fm_u g1 41 11 x1) l1 a b R) (by intro _ _ _; eq_refl) ?_
      exact he_ret ⟨_, _, _, _, cfd_tr k1 (cfd_u (Or.inr (by decide))), by rw [hp]; exact cRes_u k2 (by decide), rfl⟩ (by rfl) (by rfl) (by rfl)
    · have hw : g 9 7 = 10 := by rw [h7, hcw, e]; rfl
      rw [hw]
      have hp := hpt 10 e
      refine he_s 1 (pc' := 140) (lc' := [(0, .ref 12), (1, .ref 41)]) (stk' := []) (mem' := cm g l a b R) (by intro _ _ _; eq_refl) ?_
      obtain ⟨v1, mem1, ⟨x1, g1, l1, k1, k2, hR1⟩, k3⟩ := ha_st2 (y := g 41 12) (R := R) hg hD hs h hw
      cases hR1
      refine he_s 5 (pc' := 147) (lc' := [(0, .ref 12), (1, .ref 41)]) (stk' := [.int (g 41 12), .int 0, .ref 12, .ref 41]) (mem' := cm g l a b R) (by intro _ _ _; eq_refl) ?_
      refine he_ivV k3 (by omega) (by rfl) (by rfl) (by rfl) (by rfl) (by rfl) (by rfl) ?_
      refine he_s 2 (pc' := 163) (lc' := [(0, .ref 12), (1, .ref 41)]) (stk' := []) (mem' := cm (fm_u g1 41 12 x1) l1 a b R) (by intro _ _ _; eq_refl) ?_
      exact he_ret ⟨_, _, _, _, cfd_tr k1 (cfd_u (Or.inr (by decide))), by rw [hp]; exact cRes_u k2 (by decide), rfl⟩ (by rfl) (by rfl) (by rfl)
    · have hw : g 9 7 = 11 := by rw [h7, hcw, e]; rfl
      rw [hw]
      have hp := hpt 11 e
      refine he_s 1 (pc' := 156) (lc' := [(0, .ref 12), (1, .ref 41)]) (stk' := []) (mem' := cm g l a b R) (by intro _ _ _; eq_refl) ?_
      obtain ⟨g1, k1, k2, k3⟩ := ha_misR (R := R) hs hD h (hp)
      refine he_s 2 (pc' := 160) (lc' := [(0, .ref 12), (1, .ref 41)]) (stk' := [.ref 9]) (mem' := cm g l a b R) (by intro _ _ _; eq_refl) ?_
      refine he_ivV k1 (by omega) (by rfl) (by rfl) (by rfl) (by rfl) (by rfl) (by rfl) ?_
      exact he_ret ⟨_, _, _, _, k2, k3, rfl⟩ (by rfl) (by rfl) (by rfl)
    · have hw : g 9 7 = 12 := by rw [h7, hcw, e]; rfl
      rw [hw]
      have hp := hpt 12 e
      refine he_s 1 (pc' := 156) (lc' := [(0, .ref 12), (1, .ref 41)]) (stk' := []) (mem' := cm g l a b R) (by intro _ _ _; eq_refl) ?_
      obtain ⟨g1, k1, k2, k3⟩ := ha_misR (R := R) hs hD h (hp)
      refine he_s 2 (pc' := 160) (lc' := [(0, .ref 12), (1, .ref 41)]) (stk' := [.ref 9]) (mem' := cm g l a b R) (by intro _ _ _; eq_refl) ?_
      refine he_ivV k1 (by omega) (by rfl) (by rfl) (by rfl) (by rfl) (by rfl) (by rfl) ?_
      exact he_ret ⟨_, _, _, _, k2, k3, rfl⟩ (by rfl) (by rfl) (by rfl)
    · have hw : g 9 7 = 13 := by rw [h7, hcw, e]; rfl
      rw [hw]
      have hp := hpt 13 e
      refine he_s 1 (pc' := 156) (lc' := [(0, .ref 12), (1, .ref 41)]) (stk' := []) (mem' := cm g l a b R) (by intro _ _ _; eq_refl) ?_
      obtain ⟨g1, k1, k2, k3⟩ := ha_misR (R := R) hs hD h (hp)
      refine he_s 2 (pc' := 160) (lc' := [(0, .ref 12), (1, .ref 41)]) (stk' := [.ref 9]) (mem' := cm g l a b R) (by intro _ _ _; eq_refl) ?_
      refine he_ivV k1 (by omega) (by rfl) (by rfl) (by rfl) (by rfl) (by rfl) (by rfl) ?_
      exact he_ret ⟨_, _, _, _, k2, k3, rfl⟩ (by rfl) (by rfl) (by rfl)
    · have hw : g 9 7 = 14 := by rw [h7, hcw, e]; rfl
      rw [hw]
      have hp := hpt 14 e
      refine he_s 1 (pc' := 156) (lc' := [(0, .ref 12), (1, .ref 41)]) (stk' := []) (mem' := cm g l a b R) (by intro _ _ _; eq_refl) ?_
      obtain ⟨g1, k1, k2, k3⟩ := ha_misR (R := R) hs hD h (hp)
      refine he_s 2 (pc' := 160) (lc' := [(0, .ref 12), (1, .ref 41)]) (stk' := [.ref 9]) (mem' := cm g l a b R) (by intro _ _ _; eq_refl) ?_
      refine he_ivV k1 (by omega) (by rfl) (by rfl) (by rfl) (by rfl) (by rfl) (by rfl) ?_
      exact he_ret ⟨_, _, _, _, k2, k3, rfl⟩ (by rfl) (by rfl) (by rfl)
    · have hw : g 9 7 = 15 := by rw [h7, hcw, e]; rfl
      rw [hw]
      have hp := hpt 15 e
      refine he_s 1 (pc' := 156) (lc' := [(0, .ref 12), (1, .ref 41)]) (stk' := []) (mem' := cm g l a b R) (by intro _ _ _; eq_refl) ?_
      obtain ⟨g1, k1, k2, k3⟩ := ha_misR (R := R) hs hD h (hp)
      refine he_s 2 (pc' := 160) (lc' := [(0, .ref 12), (1, .ref 41)]) (stk' := [.ref 9]) (mem' := cm g l a b R) (by intro _ _ _; eq_refl) ?_
      refine he_ivV k1 (by omega) (by rfl) (by rfl) (by rfl) (by rfl) (by rfl) (by rfl) ?_
      exact he_ret ⟨_, _, _, _, k2, k3, rfl⟩ (by rfl) (by rfl) (by rfl)
    · have hw : g 9 7 = 16 := by rw [h7, hcw, e]; rfl
      rw [hw]
      have hp := hpt 16 e
      refine he_s 1 (pc' := 156) (lc' := [(0, .ref 12), (1, .ref 41)]) (stk' := []) (mem' := cm g l a b R) (by intro _ _ _; eq_refl) ?_
      obtain ⟨g1, k1, k2, k3⟩ := ha_misR (R := R) hs hD h (hp)
      refine he_s 2 (pc' := 160) (lc' := [(0, .ref 12), (1, .ref 41)]) (stk' := [.ref 9]) (mem' := cm g l a b R) (by intro _ _ _; eq_refl) ?_
      refine he_ivV k1 (by omega) (by rfl) (by rfl) (by rfl) (by rfl) (by rfl) (by rfl) ?_
      exact he_ret ⟨_, _, _, _, k2, k3, rfl⟩ (by rfl) (by rfl) (by rfl)
    · have hw : g 9 7 = 17 := by rw [h7, hcw, e]; rfl
      rw [hw]
      have hp := hpt 17 e
      refine he_s 1 (pc' := 156) (lc' := [(0, .ref 12), (1, .ref 41)]) (stk' := []) (mem' := cm g l a b R) (by intro _ _ _; eq_refl) ?_
      obtain ⟨g1, k1, k2, k3⟩ := ha_misR (R := R) hs hD h (hp)
      refine he_s 2 (pc' := 160) (lc' := [(0, .ref 12), (1, .ref 41)]) (stk' := [.ref 9]) (mem' := cm g l a b R) (by intro _ _ _; eq_refl) ?_
      refine he_ivV k1 (by omega) (by rfl) (by rfl) (by rfl) (by rfl) (by rfl) (by rfl) ?_
      exact he_ret ⟨_, _, _, _, k2, k3, rfl⟩ (by rfl) (by rfl) (by rfl)
    · have hw : g 9 7 = 18 := by rw [h7, hcw, e]; rfl
      rw [hw]
      have hp := hpt 18 e
      refine he_s 1 (pc' := 156) (lc' := [(0, .ref 12), (1, .ref 41)]) (stk' := []) (mem' := cm g l a b R) (by intro _ _ _; eq_refl) ?_
      obtain ⟨g1, k1, k2, k3⟩ := ha_misR (R := R) hs hD h (hp)
      refine he_s 2 (pc' := 160) (lc' := [(0, .ref 12), (1, .ref 41)]) (stk' := [.ref 9]) (mem' := cm g l a b R) (by intro _ _ _; eq_refl) ?_
      refine he_ivV k1 (by omega) (by rfl) (by rfl) (by rfl) (by rfl) (by rfl) (by rfl) ?_
      exact he_ret ⟨_, _, _, _, k2, k3, rfl⟩ (by rfl) (by rfl) (by rfl)
    · have hw : g 9 7 = 19 := by rw [h7, hcw, e]; rfl
      rw [hw]
      have hp := hpt 19 e
      refine he_s 1 (pc' := 156) (lc' := [(0, .ref 12), (1, .ref 41)]) (stk' := []) (mem' := cm g l a b R) (by intro _ _ _; eq_refl) ?_
      obtain ⟨g1, k1, k2, k3⟩ := ha_misR (R := R) hs hD h (hp)
      refine he_s 2 (pc' := 160) (lc' := [(0, .ref 12), (1, .ref 41)]) (stk' := [.ref 9]) (mem' := cm g l a b R) (by intro _ _ _; eq_refl) ?_
      refine he_ivV k1 (by omega) (by rfl) (by rfl) (by rfl) (by rfl) (by rfl) (by rfl) ?_
      exact he_ret ⟨_, _, _, _, k2, k3, rfl⟩ (by rfl) (by rfl) (by rfl)
    · have hw : g 9 7 = 20 := by rw [h7, hcw, e]; rfl
      rw [hw]
      have hp := hpt 20 e
      refine he_s 1 (pc' := 156) (lc' := [(0, .ref 12), (1, .ref 41)]) (stk' := []) (mem' := cm g l a b R) (by intro _ _ _; eq_refl) ?_
      obtain ⟨g1, k1, k2, k3⟩ := ha_misR (R := R) hs hD h (hp)
      refine he_s 2 (pc' := 160) (lc' := [(0, .ref 12), (1, .ref 41)]) (stk' := [.ref 9]) (mem' := cm g l a b R) (by intro _ _ _; eq_refl) ?_
      refine he_ivV k1 (by omega) (by rfl) (by rfl) (by rfl) (by rfl) (by rfl) (by rfl) ?_
      exact he_ret ⟨_, _, _, _, k2, k3, rfl⟩ (by rfl) (by rfl) (by rfl)
    · have hw : g 9 7 = 21 := by rw [h7, hcw, e]; rfl
      rw [hw]
      have hp := hpt 21 e
      refine he_s 1 (pc' := 156) (lc' := [(0, .ref 12), (1, .ref 41)]) (stk' := []) (mem' := cm g l a b R) (by intro _ _ _; eq_refl) ?_
      obtain ⟨g1, k1, k2, k3⟩ := ha_misR (R := R) hs hD h (hp)
      refine he_s 2 (pc' := 160) (lc' := [(0, .ref 12), (1, .ref 41)]) (stk' := [.ref 9]) (mem' := cm g l a b R) (by intro _ _ _; eq_refl) ?_
      refine he_ivV k1 (by omega) (by rfl) (by rfl) (by rfl) (by rfl) (by rfl) (by rfl) ?_
      exact he_ret ⟨_, _, _, _, k2, k3, rfl⟩ (by rfl) (by rfl) (by rfl)
    · have hw : g 9 7 = 22 := by rw [h7, hcw, e]; rfl
      rw [hw]
      have hp := hpt 22 e
      refine he_s 1 (pc' := 156) (lc' := [(0, .ref 12), (1, .ref 41)]) (stk' := []) (mem' := cm g l a b R) (by intro _ _ _; eq_refl) ?_
      obtain ⟨g1, k1, k2, k3⟩ := ha_misR (R := R) hs hD h (hp)
      refine he_s 2 (pc' := 160) (lc' := [(0, .ref 12), (1, .ref 41)]) (stk' := [.ref 9]) (mem' := cm g l a b R) (by intro _ _ _; eq_refl) ?_
      refine he_ivV k1 (by omega) (by rfl) (by rfl) (by rfl) (by rfl) (by rfl) (by rfl) ?_
      exact he_ret ⟨_, _, _, _, k2, k3, rfl⟩ (by rfl) (by rfl) (by rfl)
    · have hw : g 9 7 = -1 := by rw [h7, hcw, e]; rfl
      rw [hw]
      have hp := hpt 23 e
      refine he_s 1 (pc' := 156) (lc' := [(0, .ref 12), (1, .ref 41)]) (stk' := []) (mem' := cm g l a b R) (by intro _ _ _; eq_refl) ?_
      obtain ⟨g1, k1, k2, k3⟩ := ha_misR (R := R) hs hD h (hp)
      refine he_s 2 (pc' := 160) (lc' := [(0, .ref 12), (1, .ref 41)]) (stk' := [.ref 9]) (mem' := cm g l a b R) (by intro _ _ _; eq_refl) ?_
      refine he_ivV k1 (by omega) (by rfl) (by rfl) (by rfl) (by rfl) (by rfl) (by rfl) ?_
      exact he_ret ⟨_, _, _, _, k2, k3, rfl⟩ (by rfl) (by rfl) (by rfl)
  · rw [h7, sp_cw0 hk]
    refine he_s 1 (pc' := 156) (lc' := [(0, .ref 12), (1, .ref 41)]) (stk' := []) (mem' := cm g l a b R) (by intro _ _ _; eq_refl) ?_
    obtain ⟨g1, k1, k2, k3⟩ := ha_misR (R := R) hs hD h (if_neg hk)
    refine he_s 2 (pc' := 160) (lc' := [(0, .ref 12), (1, .ref 41)]) (stk' := [.ref 9]) (mem' := cm g l a b R) (by intro _ _ _; eq_refl) ?_
    refine he_ivV k1 (by omega) (by rfl) (by rfl) (by rfl) (by rfl) (by rfl) (by rfl) ?_
    exact he_ret ⟨_, _, _, _, k2, k3, rfl⟩ (by rfl) (by rfl) (by rfl)
end CPL
end MH20_0
section MH20_1
/-! ===== the class's lake(): exact ===== -/
/-- a reading that goes well ends behind P -/
def sp_Q (P : Nat) (r : sp_R) : Prop := ∀ z, r = .inr z → P < z.2.2
section SPG
variable {T : Nat → Nat} {n P p : Nat}
theorem sp_Q_l {z : Int32 × Nat} : sp_Q P (.inl z) := fun _ h => nomatch h
theorem sp_Q_if {c : Prop} [Decidable c] {x y : sp_R} (h1 : sp_Q P x) (h2 : sp_Q P y) : sp_Q P (if c then x else y) := by
  split
  · exact h1
  · exact h2
theorem sp_Q_word {w : Nat} {c : Nat → sp_R} (h : sp_Q P (c (sp_n T n p))) : sp_Q P (sp_word T n w p c) := sp_Q_if h sp_Q_l
theorem sp_Q_num {lo hi : Nat} {c : Nat → sp_R} (h : sp_Q P (c (sp_n T n p))) : sp_Q P (sp_num T n lo hi p c) := sp_Q_if (sp_Q_if h sp_Q_l) sp_Q_l
theorem sp_Q_new {A : sp_A} {c : Nat → sp_R} (h : sp_Q P (c (sp_n T n p))) : sp_Q P (sp_new T n A p c) := sp_Q_if (sp_Q_if sp_Q_l h) sp_Q_l
theorem sp_Q_cell {A : sp_A} {c : Nat → sp_R} (h : ∀ i, sp_Q P (c i)) : sp_Q P (sp_cell T n A p c) := sp_Q_if (sp_Q_if (h _) sp_Q_l) sp_Q_l
theorem sp_Q_fin {A : sp_A} {st : Nat} (h : P < p) : sp_Q P (sp_fin T n A st p) := sp_Q_if (fun z hz => by
  cases hz
  have := sp_n_p (T := T) (n := n) (p := p)
  show P < sp_n T n p
  omega) sp_Q_l
theorem sp_Q_part {A : sp_A} {st : Nat} (hp : p ≤ n) : sp_Q p (sp_part T n A st p) := by
  unfold sp_part
  by_cases hk : sp_k T n p = 1
  · rw [if_pos hk]
    have h1 : p < sp_n T n p := Nat.lt_of_le_of_lt sp_s_ge (sp_n_lt hp (Or.inl hk))
    have h2 : ∀ q, p < q → p < sp_n T n q := fun q hq => Nat.lt_of_lt_of_le hq sp_n_p
    have hC : ∀ b, sp_Q p (sp_pCell T n A st p b) := fun b => sp_Q_if sp_Q_l (sp_Q_new (sp_Q_if (sp_Q_fin (h2 _ h1)) (sp_Q_word (sp_Q_num (sp_Q_fin (h2 _ (h2 _ (h2 _ h1))))))))
    have hP : ∀ b, sp_Q p (sp_pPair T n A st p b) := fun b => sp_Q_cell (fun i => sp_Q_if sp_Q_l (sp_Q_cell (fun j => sp_Q_if sp_Q_l (sp_Q_fin (h2 _ (h2 _ h1))))))
    have hS : ∀ k lo, sp_Q p (sp_pSet T n A st p k lo) := fun k lo => sp_Q_if sp_Q_l (sp_Q_num (sp_Q_fin (h2 _ h1)))
    have hW : sp_Q p (sp_pWalk T n A st p) := sp_Q_if sp_Q_l (sp_Q_new (sp_Q_word (sp_Q_num (sp_Q_word (sp_Q_cell (fun i => sp_Q_if (sp_Q_fin (h2 _ (h2 _ (h2 _ (h2 _ (h2 _ h1)))))) sp_Q_l))))))
    unfold sp_pk
    split
    · exact hC _
    · exact hC _
    · exact hP _
    · exact hP _
    · exact hW
    · exact hS _ _
    · exact hS _ _
    · exact hS _ _
    · exact sp_Q_l
  · rw [if_neg hk]
    exact sp_Q_l
end SPG
section CLA
variable {g : Nat → Nat → Int32} {l : Nat → Nat → Int64} {a : Nat → Nat → Int32} {b : Nat → Nat → Int64} {R : fx_M} {T : Nat → Nat} {n p : Nat} {A : sp_A} {s : Nat}
theorem ctx_fd {g1 a1 : Nat → Nat → Int32} {b1 l1 : Nat → Nat → Int64} (h : ctx a b T n) (hf : cfd g a b l g1 a1 b1 l1) : ctx a1 b1 T n := ⟨h.1, by rw [(hf.2.1 10 (by decide)).1]; exact h.2.1, by rw [(hf.2.1 11 (by decide)).2]; exact h.2.2⟩
theorem ha_ploop {g0 a0 : Nat → Nat → Int32} {b0 l0 : Nat → Nat → Int64} : ∀ (r k : Nat), k + r = 900 → ∀ (A : sp_A) (s p : Nat) (g a : Nat → Nat → Int32) (l b : Nat → Nat → Int64), ctx a b T n → cK g l a b T n A s p → k ≤ p → cfd g0 a0 b0 l0 g a b l → he_R 6 gk_m64 11 [(2, .int (nI k)), (0, .ref 12), (1, .ref 41)] [] (cm g l a b R) (fun R1 => ∃ (g' : Nat → Nat → Int32) (l' : Nat → Nat → Int64) (a' : Nat → Nat → Int32) (b' : Nat → Nat → Int64), cfd g0 a0 b0 l0 g' a' b' l' ∧ cRes g' l' a' b' T n (sp_all T n (r + 1) A s p) ∧ R1 = (none, cm g' l' a' b' R)) := by
  intro r
  induction r with
  | zero =>
    intro k hk A s p g a l b hg hK hkp hf
    obtain rfl : k = 900 := by omega
    have hp := hK.1.1
    have h0 : sp_k T n p = 0 := by
      have h9 := hg.1
      have hs := sp_s_ge (T := T) (n := n) (p := p)
      exact (sp_t0 (by omega)).1
    refine he_s 3 (pc' := cond (fx_cb .ge (nI 900) 900) 49 18) (lc' := [(2, .int (nI 900)), (0, .ref 12), (1, .ref 41)]) (stk' := []) (mem' := cm g l a b R) (by intro _ _ _; eq_refl) ?_
    rw [show (fx_cb .ge (nI 900) 900) = true from by decide]
    dsimp only [cond]
    refine he_ret ⟨_, _, _, _, hf, ?_, rfl⟩ (by rfl) (by rfl) (by rfl)
    show cRes g l a b T n (if sp_k T n p = 0 then .inr (A, s, p) else _)
    rw [if_pos h0]
    exact hK
  | succ r ih =>
    intro k hk A s p g a l b hg hK hkp hf
    have hk4 := sp_k4 (T := T) (n := n) (p := p)
    refine he_s 3 (pc' := cond (fx_cb .ge (nI k) 900) 49 18) (lc' := [(2, .int (nI k)), (0, .ref 12), (1, .ref 41)]) (stk' := []) (mem' := cm g l a b R) (by intro _ _ _; eq_refl) ?_
    rw [show (fx_cb .ge (nI k) 900) = false from cb_geF (a := k) (b := 900) (by omega) (by omega) (by omega)]
    dsimp only [cond]
    refine he_s 3 (pc' := 25) (lc' := [(2, .int (nI k)), (0, .ref 12), (1, .ref 41)]) (stk' := [.int (g 9 10)]) (mem' := cm g l a b R) (by intro _ _ _; eq_refl) ?_
    rw [hK.1.2.2.1]
    refine he_s 4 (pc' := 35) (lc' := [(2, .int (nI k)), (0, .ref 12), (1, .ref 41)]) (stk' := [.int (g 9 6)]) (mem' := cm g l a b R) (by intro _ _ _; eq_refl) ?_
    rw [hK.1.2.1.2.2.2.1]
    refine he_s 1 (pc' := cond (fx_cb .eq (nI (sp_k T n p)) 0) 49 38) (lc' := [(2, .int (nI k)), (0, .ref 12), (1, .ref 41)]) (stk' := []) (mem' := cm g l a b R) (by intro _ _ _; eq_refl) ?_
    by_cases h0 : sp_k T n p = 0
    · rw [show (fx_cb .eq (nI (sp_k T n p)) 0) = true from cb_eqT (a := sp_k T n p) (b := 0) (by omega) (by omega) h0]
      dsimp only [cond]
      refine he_ret ⟨_, _, _, _, hf, ?_, rfl⟩ (by rfl) (by rfl) (by rfl)
      show cRes g l a b T n (if sp_k T n p = 0 then .inr (A, s, p) else _)
      rw [if_pos h0]
      exact hK
    · rw [show (fx_cb .eq (nI (sp_k T n p)) 0) = false from cb_eqF (a := sp_k T n p) (b := 0) (by omega) (by omega) h0]
      dsimp only [cond]
      have hsp : sp_all T n (r + 1 + 1) A s p = (match sp_part T n A s p with
        | .inl z => .inl z
        | .inr z => sp_all T n (r + 1) z.1 z.2.1 z.2.2) := if_neg h0
      have hQ := sp_Q_part (T := T) (A := A) (st := s) hK.1.1
      obtain ⟨v1, mem1, ⟨g1, l1, a1, b1, k1, k2, hR1⟩, k3⟩ := ha_part (R := R) hg hK.2.1 hK.2.2 hK.1
      cases hR1
      rw [hsp]
      refine he_s 2 (pc' := 40) (lc' := [(2, .int (nI k)), (0, .ref 12), (1, .ref 41)]) (stk' := [.ref 41, .ref 12]) (mem' := cm g l a b R) (by intro _ _ _; eq_refl) ?_
      refine he_ivV k3 (by omega) (by rfl) (by rfl) (by rfl) (by rfl) (by rfl) (by rfl) ?_
      refine he_s 2 (pc' := 11) (lc' := [(2, .int (nI k + 1)), (0, .ref 12), (1, .ref 41)]) (stk' := []) (mem' := cm g1 l1 a1 b1 R) (by intro _ _ _; eq_refl) ?_
      rw [show nI k + 1 = nI (k + 1) from nI_add k 1]
      have hf1 := cfd_tr hf k1
      cases hz : sp_part T n A s p with
      | inr z =>
        rw [hz] at k2
        dsimp only
        have := hQ z hz
        exact ih (k + 1) (by omega) z.1 z.2.1 z.2.2 g1 a1 l1 b1 (ctx_fd hg k1) k2 (by omega) hf1
      | inl z =>
        rw [hz] at k2
        have k2 : cq g1 l1 T n z.1 z.2 := k2
        dsimp only
        refine he_s 3 (pc' := cond (fx_cb .ge (nI (k + 1)) 900) 49 18) (lc' := [(2, .int (nI (k + 1))), (0, .ref 12), (1, .ref 41)]) (stk' := []) (mem' := cm g1 l1 a1 b1 R) (by intro _ _ _; eq_refl) ?_
        by_cases h9 : 900 ≤ k + 1
        · rw [show (fx_cb .ge (nI (k + 1)) 900) = true from cb_geT (a := k + 1) (b := 900) (by omega) (by omega) h9]
          dsimp only [cond]
          exact he_ret ⟨_, _, _, _, hf1, k2, rfl⟩ (by rfl) (by rfl) (by rfl)
        · rw [show (fx_cb .ge (nI (k + 1)) 900) = false from cb_geF (a := k + 1) (b := 900) (by omega) (by omega) h9]
          dsimp only [cond]
          refine he_s 3 (pc' := 25) (lc' := [(2, .int (nI (k + 1))), (0, .ref 12), (1, .ref 41)]) (stk' := [.int (g1 9 10)]) (mem' := cm g1 l1 a1 b1 R) (by intro _ _ _; eq_refl) ?_
          rw [k2.2.2.1]
          refine he_s 1 (pc' := cond (fx_cb .ne z.1 0) 49 28) (lc' := [(2, .int (nI (k + 1))), (0, .ref 12), (1, .ref 41)]) (stk' := []) (mem' := cm g1 l1 a1 b1 R) (by intro _ _ _; eq_refl) ?_
          rw [cb_nz_ne k2.1]
          dsimp only [cond]
          exact he_ret ⟨_, _, _, _, hf1, k2, rfl⟩ (by rfl) (by rfl) (by rfl)
theorem ha_parse (hg : ctx a b T n) (h : co g l T n 0) : ∃ (g' : Nat → Nat → Int32) (l' : Nat → Nat → Int64) (a' : Nat → Nat → Int32) (b' : Nat → Nat → Int64), hr_T 7 64 [.ref 12, .ref 41] (cm g l a b R) none (cm g' l' a' b' R) ∧ cfd g a b l g' a' b' l' ∧ cRes g' l' a' b' T n (sp_lake T n) := by
  suffices h : ∃ (v : Option Value) (mem' : fx_M), (fun R1 => ∃ (g' : Nat → Nat → Int32) (l' : Nat → Nat → Int64) (a' : Nat → Nat → Int32) (b' : Nat → Nat → Int64), cfd g a b l g' a' b' l' ∧ cRes g' l' a' b' T n (sp_all T n (900 + 1) sp_A0 0 0) ∧ R1 = (none, cm g' l' a' b' R)) (v, mem') ∧ hr_T 7 64 [.ref 12, .ref 41] (cm g l a b R) v mem' by
    obtain ⟨v, mem', ⟨g', l', a', b', h1, h2, hR1⟩, h3⟩ := h
    cases hR1
    exact ⟨g', l', a', b', h3, h1, h2⟩
  refine he_meth (f := 64) (as := [.ref 12, .ref 41]) (F := fun R1 => ∃ (g' : Nat → Nat → Int32) (l' : Nat → Nat → Int64) (a' : Nat → Nat → Int32) (b' : Nat → Nat → Int64), cfd g a b l g' a' b' l' ∧ cRes g' l' a' b' T n (sp_all T n (900 + 1) sp_A0 0 0) ∧ R1 = (none, cm g' l' a' b' R)) (M := gk_m64) (by rfl) (by rfl) ?_
  obtain ⟨g1, a1, b1, k1, k2, k3⟩ := ha_lcl (g := g) (l := l) (a := a) (b := b) (R := R)
  refine he_s 1 (pc' := 1) (lc' := [(0, .ref 12), (1, .ref 41)]) (stk' := [.ref 41]) (mem' := cm g l a b R) (by intro _ _ _; eq_refl) ?_
  refine he_ivV k1 (by omega) (by rfl) (by rfl) (by rfl) (by rfl) (by rfl) (by rfl) ?_
  refine he_s 5 (pc' := 11) (lc' := [(2, .int 0), (0, .ref 12), (1, .ref 41)]) (stk' := []) (mem' := cm (fm_u g1 12 1 0) l a1 b1 R) (by intro _ _ _; eq_refl) ?_
  have hf : cfd g a b l (fm_u g1 12 1 0) a1 b1 l := cfd_tr (cfd_d k3) (cfd_u (Or.inl rfl))
  exact ha_ploop 900 0 (by decide) sp_A0 0 0 _ _ _ _ (ctx_fd hg hf) ⟨co_u (co_d h k3) (by decide), cd_12 k2 (Or.inl (by decide)) (Or.inl (by decide)), by decide, fm_ue⟩ (Nat.le_refl _) hf
theorem ha_open {N : Nat} (hg : ctx a b T N) : ∃ (g' : Nat → Nat → Int32) (l' : Nat → Nat → Int64), hr_T 4 102 [.ref 9, .int (nI N)] (cm g l a b R) none (cm g' l' a b R) ∧ co g' l' T N 0 ∧ g' 9 2 = 0 ∧ (∀ j, j ≠ 9 → g' j = g j ∧ l' j = l j) := by
  obtain ⟨g', l', k1, k2, k3⟩ := ha_scan0 (g := fm_u (fm_u (fm_u (fm_u (fm_u g 9 3 (nI N)) 9 2 0) 9 5 0) 9 10 0) 9 11 (-1)) (l := l) (R := R) (p := 0) hg.1 hg.2.1 hg.2.2 (Nat.zero_le _) rfl rfl
  refine ⟨g', l', hr_meth (by rfl) (by rfl) ?_, ⟨Nat.zero_le _, k2, k3.2.1, k3.2.2⟩, k3.1.2.1 2 (by decide), fun j hj => ⟨?_, k3.1.2.2 j hj⟩⟩
  · refine hr_s 16 (pc' := 26) (lc' := [(0, .ref 9), (1, .int (nI N))]) (stk' := [.ref 9]) (mem' := cm (fm_u (fm_u (fm_u (fm_u (fm_u g 9 3 (nI N)) 9 2 0) 9 5 0) 9 10 0) 9 11 (-1)) l a b R) (by intro _ _ _; eq_refl) ?_
    refine hr_ivV k1 (by omega) (by rfl) (by rfl) (by rfl) (by rfl) (by rfl) (by rfl) ?_
    exact hr_ret (by rfl) (by rfl) (by rfl)
  · rw [k3.1.1 j hj, fm_un hj, fm_un hj, fm_un hj, fm_un hj, fm_un hj]
/-- the bytes on the tape -/
def sp_T (f : Nat → Int32) (n : Nat) : Nat → Nat := fun k => if k < n then (f k &&& 255).toBitVec.toNat else 0
theorem sp_T_eq {f f' : Nat → Int32} {n : Nat} (h : ∀ k, k < n → f k = f' k) : sp_T f n = sp_T f' n := funext (fun k => by
  unfold sp_T
  by_cases e : k < n
  · rw [if_pos e, if_pos e, h k e]
  · rw [if_neg e, if_neg e])
theorem sp_x_b0 : ∀ m : Nat, m < 256 → (Int32.ofInt ((m : Int) - 128) &&& 255).toBitVec.toNat ≤ 255 ∧ (if (Int32.ofInt ((m : Int) - 128) &&& 255).toBitVec.toNat < 128 then Int32.ofInt ((m : Int) - 128) = nI (Int32.ofInt ((m : Int) - 128) &&& 255).toBitVec.toNat else Int32.ofInt ((m : Int) - 128) < 0) := by decide +kernel
theorem sp_x_b {x : Int32} (h1 : -128 ≤ x.toInt) (h2 : x.toInt ≤ 127) : sp_x x (x &&& 255).toBitVec.toNat := by
  have e : x = Int32.ofInt (((x.toInt + 128).toNat : Int) - 128) := by
    rw [show (((x.toInt + 128).toNat : Int) - 128) = x.toInt by omega, Int32.ofInt_toInt]
  obtain ⟨k1, k2⟩ := sp_x_b0 (x.toInt + 128).toNat (by omega)
  rw [← e] at k1 k2
  split at k2
  · next h => exact Or.inl ⟨h, k2⟩
  · next h => exact Or.inr ⟨by omega, k1, k2⟩
theorem ctx_of {N : Nat} (hN : N ≤ 900) (hb : ∀ k, k < 900 → -128 ≤ (a 10 k).toInt ∧ (a 10 k).toInt ≤ 127) (hr : cr (b 11)) : ctx a b (sp_T (a 10) N) N := ⟨hN, ⟨hN, fun k hk => by
  show sp_x (a 10 k) (if k < N then _ else _)
  rw [if_pos hk]
  exact sp_x_b (hb k (by omega)).1 (hb k (by omega)).2⟩, hr⟩
/-- what lake() of the class does -/
def cLk (g : Nat → Nat → Int32) (l : Nat → Nat → Int64) (a : Nat → Nat → Int32) (b : Nat → Nat → Int64) (x v : Int32) (g' : Nat → Nat → Int32) (l' : Nat → Nat → Int64) (a' : Nat → Nat → Int32) (b' : Nat → Nat → Int64) : Prop :=
  (¬ (0 ≤ x.toInt ∧ x.toInt ≤ (g 9 2).toInt) ∧ v = -1 ∧ g' = fm_u g 0 0 1 ∧ l' = l ∧ a' = a ∧ b' = b) ∨ ∃ N, x = nI N ∧ (N : Int) ≤ (g 9 2).toInt ∧ g' 9 2 = 0 ∧ (match sp_lake (sp_T (a 10) N) N with
  | .inl z => v = -1 ∧ z.1 ≠ 0 ∧ g' 0 0 = 9 ∧ g' 9 10 = z.1 ∧ g' 9 11 = nI z.2 ∧ (∀ j, j ≠ 0 → j ≠ 9 → j ≠ 12 → ¬ (41 ≤ j ∧ j ≤ 66) → g' j = g j ∧ a' j = a j ∧ b' j = b j)
  | .inr z => v = nI z.1.1.1.length ∧ g' 0 0 = 0 ∧ g' 9 10 = 0 ∧ g' 9 11 = -1 ∧ cd_L 15 z.1 g' a' b' ∧ g' 34 7 = 0 ∧ (∀ j, j ≠ 0 → j ≠ 9 → j ≠ 12 → ¬ (15 ≤ j ∧ j ≤ 66) → g' j = g j ∧ a' j = a j ∧ b' j = b j))
theorem ha_answer {x : Int32} : hr_T 1 186 [.ref 0, .int x] (cm g l a b R) (some (.int x)) (cm (fm_u g 0 0 0) l a b R) := by
  refine hr_meth (by rfl) (by rfl) ?_
  refine hr_s 4 (pc' := 6) (lc' := [(0, .ref 0), (1, .int x)]) (stk' := [.int x]) (mem' := cm (fm_u g 0 0 0) l a b R) (by intro _ _ _; eq_refl) ?_
  exact hr_ret (by rfl) (by rfl) (by rfl)
theorem ha_tclr : hr_T 1 116 [.ref 34] (cm g l a b R) none (cm (fm_u (fm_u g 34 6 0) 34 7 0) l a b R) := by
  refine hr_meth (by rfl) (by rfl) ?_
  refine hr_s 6 (pc' := 10) (lc' := [(0, .ref 34)]) (stk' := []) (mem' := cm (fm_u (fm_u g 34 6 0) 34 7 0) l a b R) (by intro _ _ _; eq_refl) ?_
  exact hr_ret (by rfl) (by rfl) (by rfl)
theorem ha_lake {x : Int32} (hf : 0 ≤ (g 9 2).toInt ∧ (g 9 2).toInt ≤ 900) (hb : ∀ k, k < 900 → -128 ≤ (a 10 k).toInt ∧ (a 10 k).toInt ≤ 127) (hr : cr (b 11)) : ∃ (v : Int32) (g' : Nat → Nat → Int32) (l' : Nat → Nat → Int64) (a' : Nat → Nat → Int32) (b' : Nat → Nat → Int64), hr_T 8 135 [.ref 0, .int x] (cm g l a b R) (some (.int v)) (cm g' l' a' b' R) ∧ cLk g l a b x v g' l' a' b' := by
  suffices h : ∃ (v : Option Value) (mem' : fx_M), (fun R1 => ∃ (v : Int32) (g' : Nat → Nat → Int32) (l' : Nat → Nat → Int64) (a' : Nat → Nat → Int32) (b' : Nat → Nat → Int64), cLk g l a b x v g' l' a' b' ∧ R1 = (some (.int v), cm g' l' a' b' R)) (v, mem') ∧ hr_T 8 135 [.ref 0, .int x] (cm g l a b R) v mem' by
    obtain ⟨v, mem', ⟨v', g', l', a', b', h1, hR1⟩, h3⟩ := h
    cases hR1
    exact ⟨v', g', l', a', b', h3, h1⟩
  refine he_meth (f := 135) (as := [.ref 0, .int x]) (F := fun R1 => ∃ (v : Int32) (g' : Nat → Nat → Int32) (l' : Nat → Nat → Int64) (a' : Nat → Nat → Int32) (b' : Nat → Nat → Int64), cLk g l a b x v g' l' a' b' ∧ R1 = (some (.int v), cm g' l' a' b' R)) (M := gk_m135) (by rfl) (by rfl) ?_
  have bad : ∀ (hno : ¬ (0 ≤ x.toInt ∧ x.toInt ≤ (g 9 2).toInt)), he_R 7 gk_m135 15 [(0, .ref 0), (1, .int x)] [] (cm g l a b R) (fun R1 => ∃ (v : Int32) (g' : Nat → Nat → Int32) (l' : Nat → Nat → Int64) (a' : Nat → Nat → Int32) (b' : Nat → Nat → Int64), cLk g l a b x v g' l' a' b' ∧ R1 = (some (.int v), cm g' l' a' b' R)) := fun hno => by
    refine he_s 2 (pc' := 17) (lc' := [(0, .ref 0), (1, .int x)]) (stk' := [.int 1, .ref 0]) (mem' := cm g l a b R) (by intro _ _ _; eq_refl) ?_
    refine he_ivV ha_refuse (by omega) (by rfl) (by rfl) (by rfl) (by rfl) (by rfl) (by rfl) ?_
    exact he_ret ⟨_, _, _, _, _, Or.inl ⟨hno, rfl, rfl, rfl, rfl, rfl⟩, rfl⟩ (by rfl) (by rfl) (by rfl)
  refine he_s 2 (pc' := cond (fx_cb .lt x 0) 15 4) (lc' := [(0, .ref 0), (1, .int x)]) (stk' := []) (mem' := cm g l a b R) (by intro _ _ _; eq_refl) ?_
  cases h1 : fx_cb .lt x 0
  · have q1 : (0 : Int) ≤ x.toInt := tc_ltF h1
    dsimp only [cond]
    refine he_s 4 (pc' := 12) (lc' := [(0, .ref 0), (1, .int x)]) (stk' := [.int (g 9 2), .int x]) (mem' := cm g l a b R) (by intro _ _ _; eq_refl) ?_
    refine he_s 1 (pc' := cond (fx_cb .le x (g 9 2)) 21 15) (lc' := [(0, .ref 0), (1, .int x)]) (stk' := []) (mem' := cm g l a b R) (by intro _ _ _; eq_refl) ?_
    cases h2 : fx_cb .le x (g 9 2)
    · have q2 := tc_leF h2
      exact bad (fun z => by omega)
    · have q2 := tc_le h2
      obtain ⟨N, hN, rfl⟩ := nI_bd (x := x) (n := 900) q1 (by omega)
      rw [nI_i32 (by omega)] at q2
      have hg : ctx a b (sp_T (a 10) N) N := ctx_of hN hb hr
      obtain ⟨g1, l1, k1, k2, k3, k4⟩ := ha_open (g := g) (l := l) (R := R) hg
      obtain ⟨g2, l2, a2, b2, m1, m2, m3⟩ := ha_parse (R := R) hg k2
      have e92 : g2 9 2 = 0 := (m2.2.2 2 (by decide)).trans k3
      have fr : ∀ j, j ≠ 9 → j ≠ 12 → ¬ (41 ≤ j ∧ j ≤ 66) → g2 j = g j ∧ a2 j = a j ∧ b2 j = b j := fun j q1 q2 q3 => ⟨(m2.1 j q1 q2 q3).1.trans (k4 j q1).1, (m2.2.1 j q3).1, (m2.2.1 j q3).2⟩
      dsimp only [cond]
      refine he_s 3 (pc' := 26) (lc' := [(0, .ref 0), (1, .int (nI N))]) (stk' := [.int (nI N), .ref 9]) (mem' := cm g l a b R) (by intro _ _ _; eq_refl) ?_
      refine he_ivV k1 (by omega) (by rfl) (by rfl) (by rfl) (by rfl) (by rfl) (by rfl) ?_
      refine he_s 4 (pc' := 37) (lc' := [(0, .ref 0), (1, .int (nI N))]) (stk' := [.ref 41, .ref 12]) (mem' := cm g1 l1 a b R) (by intro _ _ _; eq_refl) ?_
      refine he_ivV m1 (by omega) (by rfl) (by rfl) (by rfl) (by rfl) (by rfl) (by rfl) ?_
      refine he_s 3 (pc' := 47) (lc' := [(0, .ref 0), (1, .int (nI N))]) (stk' := [.int (g2 9 10)]) (mem' := cm g2 l2 a2 b2 R) (by intro _ _ _; eq_refl) ?_
      cases hz : sp_lake (sp_T (a 10) N) N with
      | inl z =>
        rw [hz] at m3
        have m3 : cq g2 l2 (sp_T (a 10) N) N z.1 z.2 := m3
        rw [m3.2.2.1]
        refine he_s 1 (pc' := cond (fx_cb .eq z.1 0) 57 50) (lc' := [(0, .ref 0), (1, .int (nI N))]) (stk' := []) (mem' := cm g2 l2 a2 b2 R) (by intro _ _ _; eq_refl) ?_
        rw [cb_nz_eq m3.1]
        dsimp only [cond]
        refine he_s 2 (pc' := 53) (lc' := [(0, .ref 0), (1, .int (nI N))]) (stk' := [.int 9, .ref 0]) (mem' := cm g2 l2 a2 b2 R) (by intro _ _ _; eq_refl) ?_
        refine he_ivV ha_refuse (by omega) (by rfl) (by rfl) (by rfl) (by rfl) (by rfl) (by rfl) ?_
        refine he_ret ⟨_, _, _, _, _, Or.inr ⟨N, rfl, q2, (by exact e92), ?_⟩, rfl⟩ (by rfl) (by rfl) (by rfl)
        rw [hz]
        exact ⟨rfl, m3.1, rfl, m3.2.2.1, m3.2.2.2, fun j z1 z2 z3 z4 => ⟨(fm_un z1).trans (fr j z2 z3 z4).1, (fr j z2 z3 z4).2⟩⟩
      | inr z =>
        rw [hz] at m3
        have m3 : cK g2 l2 a2 b2 (sp_T (a 10) N) N z.1 z.2.1 z.2.2 := m3
        rw [m3.1.2.2.1]
        obtain ⟨g3, a3, b3, n1, n2, n3⟩ := ha_lcp (g := g2) (l := l2) (a := a2) (b := b2) (R := R)
        have hL := n2 z.1 m3.2.1
        refine he_s 5 (pc' := 65) (lc' := [(0, .ref 0), (1, .int (nI N))]) (stk' := [.ref 41, .ref 15]) (mem' := cm g2 l2 a2 b2 R) (by intro _ _ _; eq_refl) ?_
        refine he_ivV n1 (by omega) (by rfl) (by rfl) (by rfl) (by rfl) (by rfl) (by rfl) ?_
        refine he_s 3 (pc' := 75) (lc' := [(0, .ref 0), (1, .int (nI N))]) (stk' := [.ref 34]) (mem' := cm g3 l2 a3 b3 R) (by intro _ _ _; eq_refl) ?_
        refine he_ivV ha_tclr (by omega) (by rfl) (by rfl) (by rfl) (by rfl) (by rfl) (by rfl) ?_
        refine he_s 4 (pc' := 86) (lc' := [(0, .ref 0), (1, .int (nI N))]) (stk' := [.int (g3 15 8), .ref 0]) (mem' := cm (fm_u (fm_u g3 34 6 0) 34 7 0) l2 a3 b3 R) (by intro _ _ _; eq_refl) ?_
        rw [hL.1.1]
        refine he_ivV ha_answer (by omega) (by rfl) (by rfl) (by rfl) (by rfl) (by rfl) (by rfl) ?_
        refine he_ret ⟨_, _, _, _, _, Or.inr ⟨N, rfl, q2, ?_, ?_⟩, rfl⟩ (by rfl) (by rfl) (by rfl)
        · exact (congrFun (n3 9 (by decide)).1 2).trans e92
        · rw [hz]
          refine ⟨rfl, rfl, (congrFun (n3 9 (by decide)).1 10).trans m3.1.2.2.1, (congrFun (n3 9 (by decide)).1 11).trans m3.1.2.2.2, hL, rfl, fun j z1 z2 z3 z4 => ⟨?_, ?_, ?_⟩⟩
          · exact (fm_un z1).trans ((fm_un (by omega)).trans ((fm_un (by omega)).trans ((n3 j (by omega)).1.trans (fr j z2 z3 (by omega)).1)))
          · exact (n3 j (by omega)).2.1.trans (fr j z2 z3 (by omega)).2.1
          · exact (n3 j (by omega)).2.2.trans (fr j z2 z3 (by omega)).2.2
  · have q1 : x.toInt < 0 := tc_lt h1
    exact bad (fun z => by omega)
end CLA
end MH20_1
section MH20_2
/-! ===== the model's tokens, exactly ===== -/
/-- the model's text: bytes T, n of them -/
def mT (a : Nat → Nat → Int32) (T : Nat → Nat) (n : Nat) : Prop := n ≤ 900 ∧ ∀ k, k < n → T k ≤ 255 ∧ a 7 k &&& 255 = nI (T k)
/-- the model's number of a token's kind -/
def mkd (k : Nat) : Nat := if k = 0 then 0 else if k = 4 then 1 else k + 1
/-- the model at the token behind p -/
def mtk (g : Nat → Int32) (T : Nat → Nat) (n p : Nat) : Prop := g 11 = nI n ∧ g 13 = nI (sp_s T n p) ∧ (∃ e, g 14 = nI e ∧ sp_s T n p ≤ e ∧ e ≤ n ∧ (sp_k T n p ≠ 4 → e = sp_n T n p)) ∧ g 12 = nI (mkd (sp_k T n p)) ∧ (sp_k T n p = 2 → g 15 = nI (sp_v T n p)) ∧ (sp_k T n p = 3 → g 15 = nI (T (sp_s T n p))) ∧ -1 ≤ (g 15).toInt ∧ (g 15).toInt ≤ 100000
section MTK
variable {g : Nat → Int32} {tp bt : Int64} {a : Nat → Nat → Int32} {b : Nat → Nat → Int64} {T : Nat → Nat} {n p : Nat}
theorem mtk_xp (hn : n ≤ 900) (h : mtk g T n p) : ∃ e, fm_xp g n e (sp_s T n p) ∧ (sp_k T n p ≠ 4 → e = sp_n T n p) := by
  obtain ⟨h1, h2, ⟨e, h3, h4, h5, h6⟩, h7, -, -, h8, h9⟩ := h
  refine ⟨e, ⟨h1, hn, h3, h5, h2, h4, ⟨mkd (sp_k T n p), ?_, h7⟩, h8, h9⟩, h6⟩
  have := sp_k4 (T := T) (n := n) (p := p)
  unfold mkd
  split
  · omega
  · split <;> omega
theorem mb_in (hT : mT a T n) {k : Nat} (h : k < n) : fm_byte a n k = nI (T k) := (if_pos h).trans (hT.2 k h).2
theorem mb_out {k : Nat} (h : ¬ k < n) : fm_byte a n k = -1 := if_neg h
/-- the loop over letters -/
theorem ma_81 {c : Int32} (hT : mT a T n) : ∀ (r k : Nat), n - k = r → k ≤ n → ∀ (g2 : Nat → Int32), g2 11 = nI n → g2 14 = nI k → fe_R 1 gk_m224 81 [(1, .int c), (0, .ref 0)] [] (fm g2 tp bt a b) (fun R => ∃ g' : Nat → Int32, fm_txt g2 g' ∧ g' 14 = nI (sp_e sp_sm T n k) ∧ g' 12 = 2 ∧ g' 13 = g2 13 ∧ g' 15 = g2 15 ∧ R = (none, fm g' tp bt a b)) := by
  intro r
  induction r with
  | zero =>
    intro k hr hk g2 h11 h14
    have hb := hT.1
    refine fe_s 3 (pc' := 86) (lc' := [(1, .int c), (0, .ref 0)]) (stk' := [.int (g2 14), .ref 0]) (mem' := fm g2 tp bt a b) (by intro _ _ _; eq_refl) ?_
    rw [h14]
    refine fe_ivV (fr_byteAt (S := n) (k := k) (g := g2) (tp := tp) (bt := bt) (a := a) (b := b) h11 hT.1 (by omega)) (by omega) (by rfl) (by rfl) (by rfl) (by rfl) (by rfl) (by rfl) ?_
    rw [mb_out (by omega)]
    refine fe_ivS fr_isSmallN (by omega) (by rfl) (by rfl) (by rfl) (by rfl) (by rfl) ?_
    refine fe_s 5 (pc' := 251) (lc' := [(1, .int c), (0, .ref 0)]) (stk' := []) (mem' := fm (upd g2 12 2) tp bt a b) (by intro _ _ _; eq_refl) ?_
    refine fe_ret ⟨_, fm_txt_12 fm_txt_rf, ?_, pk_us, pk_un (by decide), pk_un (by decide), rfl⟩ (by rfl) (by rfl) (by rfl)
    rw [pk_un (by decide), h14, sp_e_f (by omega)]
  | succ r ih =>
    intro k hr hk g2 h11 h14
    have hb := hT.1
    refine fe_s 3 (pc' := 86) (lc' := [(1, .int c), (0, .ref 0)]) (stk' := [.int (g2 14), .ref 0]) (mem' := fm g2 tp bt a b) (by intro _ _ _; eq_refl) ?_
    rw [h14]
    refine fe_ivV (fr_byteAt (S := n) (k := k) (g := g2) (tp := tp) (bt := bt) (a := a) (b := b) h11 hT.1 (by omega)) (by omega) (by rfl) (by rfl) (by rfl) (by rfl) (by rfl) (by rfl) ?_
    rw [mb_in hT (by omega)]
    have h255 := (hT.2 k (by omega)).1
    by_cases hs : sp_sm (T k) = true
    · have hs2 := sp_sm_i.mp hs
      refine fe_ivS (fr_isSmall1 hs2.1 hs2.2) (by omega) (by rfl) (by rfl) (by rfl) (by rfl) (by rfl) ?_
      refine fe_s 6 (pc' := 102) (lc' := [(1, .int c), (0, .ref 0)]) (stk' := [.int (g2 14 + 1), .ref 0]) (mem' := fm g2 tp bt a b) (by intro _ _ _; eq_refl) ?_
      rw [h14, show nI k + 1 = nI (k + 1) from nI_add k 1]
      refine fe_s 2 (pc' := 81) (lc' := [(1, .int c), (0, .ref 0)]) (stk' := []) (mem' := fm (upd g2 14 (nI (k + 1))) tp bt a b) (by intro _ _ _; eq_refl) ?_
      obtain ⟨R, ⟨g', k1, k2, k3, k4, k5, k6⟩, k7⟩ := ih (k + 1) (by omega) (by omega) (upd g2 14 (nI (k + 1))) ((pk_un (by decide)).trans h11) pk_us
      exact ⟨R, ⟨g', fm_txt_tr (fm_txt_14 fm_txt_rf) k1, by rw [k2, ← sp_e_t (by omega) hs], k3, k4.trans (pk_un (by decide)), k5.trans (pk_un (by decide)), k6⟩, k7⟩
    · refine fe_ivS (fr_isSmall0 (by omega) (fun z => hs (sp_sm_i.mpr z))) (by omega) (by rfl) (by rfl) (by rfl) (by rfl) (by rfl) ?_
      refine fe_s 5 (pc' := 251) (lc' := [(1, .int c), (0, .ref 0)]) (stk' := []) (mem' := fm (upd g2 12 2) tp bt a b) (by intro _ _ _; eq_refl) ?_
      refine fe_ret ⟨_, fm_txt_12 fm_txt_rf, ?_, pk_us, pk_un (by decide), pk_un (by decide), rfl⟩ (by rfl) (by rfl) (by rfl)
      rw [pk_un (by decide), h14, sp_e_f (fun z => hs z.2)]
/-- the loop over digits -/
theorem ma_128 {c : Int32} {s : Nat} (hT : mT a T n) : ∀ (r i : Nat), n - (s + i) = r → s + i ≤ n → ∀ (g2 : Nat → Int32), g2 11 = nI n → g2 14 = nI (s + i) → g2 13 = nI s → g2 15 = nI (sp_nv T s i) → fe_R 1 gk_m224 128 [(1, .int c), (0, .ref 0)] [] (fm g2 tp bt a b) (fun R => ∃ g' : Nat → Int32, fm_txt g2 g' ∧ g' 14 = nI (sp_e sp_dg T n (s + i)) ∧ g' 12 = (if sp_e sp_dg T n (s + i) ≤ s + 4 then 3 else 1) ∧ g' 13 = g2 13 ∧ g' 15 = nI (sp_nv T s (sp_e sp_dg T n (s + i) - s)) ∧ R = (none, fm g' tp bt a b)) := by
  have fin : ∀ (i : Nat) (g2 : Nat → Int32), s + i ≤ n → g2 14 = nI (s + i) → g2 13 = nI s → g2 15 = nI (sp_nv T s i) → sp_e sp_dg T n (s + i) = s + i → fe_R 1 gk_m224 183 [(1, .int c), (0, .ref 0)] [] (fm g2 tp bt a b) (fun R => ∃ g' : Nat → Int32, fm_txt g2 g' ∧ g' 14 = nI (sp_e sp_dg T n (s + i)) ∧ g' 12 = (if sp_e sp_dg T n (s + i) ≤ s + 4 then 3 else 1) ∧ g' 13 = g2 13 ∧ g' 15 = nI (sp_nv T s (sp_e sp_dg T n (s + i) - s)) ∧ R = (none, fm g' tp bt a b)) := by
    intro i g2 hi h14 h13 h15 he
    have hb := hT.1
    refine fe_s 6 (pc' := 193) (lc' := [(1, .int c), (0, .ref 0)]) (stk' := [.int (g2 14 - g2 13), .ref 0]) (mem' := fm g2 tp bt a b) (by intro _ _ _; eq_refl) ?_
    rw [h14, h13, tg_sub2 (x := s + i) (y := s) (by omega)]
    refine fe_s 2 (pc' := cond (fx_cb .le (nI (s + i - s)) 4) 201 197) (lc' := [(1, .int c), (0, .ref 0)]) (stk' := [.ref 0]) (mem' := fm g2 tp bt a b) (by intro _ _ _; eq_refl) ?_
    by_cases h4 : s + i - s ≤ 4
    · rw [show fx_cb .le (nI (s + i - s)) 4 = true from cb_leT (a := s + i - s) (b := 4) (by omega) (by omega) h4]
      dsimp only [cond]
      refine fe_s 3 (pc' := 251) (lc' := [(1, .int c), (0, .ref 0)]) (stk' := []) (mem' := fm (upd g2 12 3) tp bt a b) (by intro _ _ _; eq_refl) ?_
      refine fe_ret ⟨_, fm_txt_12 fm_txt_rf, ?_, ?_, ?_, ?_, rfl⟩ (by rfl) (by rfl) (by rfl)
      · rw [pk_un (by decide), h14, he]
      · rw [pk_us, he, if_pos (by omega)]
      · rw [pk_un (by decide)]; exact h13
      · rw [pk_un (by decide), h15, he, show s + i - s = i by omega]
    · rw [show fx_cb .le (nI (s + i - s)) 4 = false from cb_leF (a := s + i - s) (b := 4) (by omega) (by omega) h4]
      dsimp only [cond]
      refine fe_s 4 (pc' := 251) (lc' := [(1, .int c), (0, .ref 0)]) (stk' := []) (mem' := fm (upd g2 12 1) tp bt a b) (by intro _ _ _; eq_refl) ?_
      refine fe_ret ⟨_, fm_txt_12 fm_txt_rf, ?_, ?_, ?_, ?_, rfl⟩ (by rfl) (by rfl) (by rfl)
      · rw [pk_un (by decide), h14, he]
      · rw [pk_us, he, if_neg (by omega)]
      · rw [pk_un (by decide)]; exact h13
      · rw [pk_un (by decide), h15, he, show s + i - s = i by omega]
  intro r
  induction r with
  | zero =>
    intro i hr hi g2 h11 h14 h13 h15
    have hb := hT.1
    refine fe_s 3 (pc' := 133) (lc' := [(1, .int c), (0, .ref 0)]) (stk' := [.int (g2 14), .ref 0]) (mem' := fm g2 tp bt a b) (by intro _ _ _; eq_refl) ?_
    rw [h14]
    refine fe_ivV (fr_byteAt (S := n) (k := s + i) (g := g2) (tp := tp) (bt := bt) (a := a) (b := b) h11 hT.1 (by omega)) (by omega) (by rfl) (by rfl) (by rfl) (by rfl) (by rfl) (by rfl) ?_
    rw [mb_out (by omega)]
    refine fe_ivS fr_isDigitN (by omega) (by rfl) (by rfl) (by rfl) (by rfl) (by rfl) ?_
    refine fe_s 1 (pc' := 183) (lc' := [(1, .int c), (0, .ref 0)]) (stk' := []) (mem' := fm g2 tp bt a b) (by intro _ _ _; eq_refl) ?_
    exact fin i g2 hi h14 h13 h15 (sp_e_f (by omega))
  | succ r ih =>
    intro i hr hi g2 h11 h14 h13 h15
    have hb := hT.1
    refine fe_s 3 (pc' := 133) (lc' := [(1, .int c), (0, .ref 0)]) (stk' := [.int (g2 14), .ref 0]) (mem' := fm g2 tp bt a b) (by intro _ _ _; eq_refl) ?_
    rw [h14]
    refine fe_ivV (fr_byteAt (S := n) (k := s + i) (g := g2) (tp := tp) (bt := bt) (a := a) (b := b) h11 hT.1 (by omega)) (by omega) (by rfl) (by rfl) (by rfl) (by rfl) (by rfl) (by rfl) ?_
    rw [mb_in hT (by omega)]
    have h255 := (hT.2 (s + i) (by omega)).1
    by_cases hs : sp_dg (T (s + i)) = true
    · have hs2 := sp_dg_i.mp hs
      have hv := sp_nv_le (T := T) (s := s) i
      refine fe_ivS (fr_isDigit1 hs2.1 hs2.2) (by omega) (by rfl) (by rfl) (by rfl) (by rfl) (by rfl) ?_
      refine fe_s 10 (pc' := 157) (lc' := [(1, .int c), (0, .ref 0)]) (stk' := [.int (g2 14), .ref 0, .int (10 * g2 15), .int 100000, .ref 0]) (mem' := fm g2 tp bt a b) (by intro _ _ _; eq_refl) ?_
      rw [h14]
      refine fe_ivV (fr_byteAt (S := n) (k := s + i) (g := g2) (tp := tp) (bt := bt) (a := a) (b := b) h11 hT.1 (by omega)) (by omega) (by rfl) (by rfl) (by rfl) (by rfl) (by rfl) (by rfl) ?_
      rw [mb_in hT (by omega), h15]
      refine fe_s 3 (pc' := 164) (lc' := [(1, .int c), (0, .ref 0)]) (stk' := [.int (10 * nI (sp_nv T s i) + nI (T (s + i)) - 48), .int 100000, .ref 0]) (mem' := fm g2 tp bt a b) (by intro _ _ _; eq_refl) ?_
      rw [show (10 : Int32) = nI 10 from rfl, fm_mul, nI_add, show (48 : Int32) = nI 48 from rfl, tg_sub2 (x := 10 * sp_nv T s i + T (s + i)) (y := 48) (by omega)]
      refine fe_s 1 (pc' := 167) (lc' := [(1, .int c), (0, .ref 0)]) (stk' := [.int (if nI (10 * sp_nv T s i + T (s + i) - 48) < 100000 then nI (10 * sp_nv T s i + T (s + i) - 48) else 100000), .ref 0]) (mem' := fm g2 tp bt a b) (by intro _ _ _; eq_refl) ?_
      rw [show (if nI (10 * sp_nv T s i + T (s + i) - 48) < 100000 then nI (10 * sp_nv T s i + T (s + i) - 48) else 100000) = nI (sp_nv T s (i + 1)) from (fm_minI (a := 10 * sp_nv T s i + T (s + i) - 48) (b := 100000) (by omega) (by omega)).trans (by show _ = nI (min 100000 (10 * sp_nv T s i + T (s + i) - 48)); rw [Nat.min_comm])]
      refine fe_s 6 (pc' := 177) (lc' := [(1, .int c), (0, .ref 0)]) (stk' := [.int (g2 14 + 1), .ref 0]) (mem' := fm (upd g2 15 (nI (sp_nv T s (i + 1)))) tp bt a b) (by intro _ _ _; eq_refl) ?_
      rw [h14, show nI (s + i) + 1 = nI (s + (i + 1)) from nI_add (s + i) 1]
      refine fe_s 2 (pc' := 128) (lc' := [(1, .int c), (0, .ref 0)]) (stk' := []) (mem' := fm (upd (upd g2 15 (nI (sp_nv T s (i + 1)))) 14 (nI (s + (i + 1)))) tp bt a b) (by intro _ _ _; eq_refl) ?_
      obtain ⟨R, ⟨g', k1, k2, k3, k4, k5, k6⟩, k7⟩ := ih (i + 1) (by omega) (by omega) (upd (upd g2 15 (nI (sp_nv T s (i + 1)))) 14 (nI (s + (i + 1)))) ((pk_un (by decide)).trans ((pk_un (by decide)).trans h11)) pk_us ((pk_un (by decide)).trans ((pk_un (by decide)).trans h13)) ((pk_un (by decide)).trans pk_us)
      have ee : sp_e sp_dg T n (s + (i + 1)) = sp_e sp_dg T n (s + i) := (sp_e_t (k := s + i) (by omega) hs).symm
      rw [ee] at k2 k3 k5
      exact ⟨R, ⟨g', fm_txt_tr (fm_txt_14 (fm_txt_15 fm_txt_rf)) k1, k2, k3, k4.trans ((pk_un (by decide)).trans (pk_un (by decide))), k5, k6⟩, k7⟩
    · refine fe_ivS (fr_isDigit0 (by omega) (fun z => hs (sp_dg_i.mpr z))) (by omega) (by rfl) (by rfl) (by rfl) (by rfl) (by rfl) ?_
      refine fe_s 1 (pc' := 183) (lc' := [(1, .int c), (0, .ref 0)]) (stk' := []) (mem' := fm g2 tp bt a b) (by intro _ _ _; eq_refl) ?_
      exact fin i g2 hi h14 h13 h15 (sp_e_f (fun z => hs z.2))
theorem mkd_s {k : Nat} (h : k = 1 ∨ k = 2 ∨ k = 3) : mkd k = k + 1 := by
  rcases h with rfl | rfl | rfl <;> rfl
/-- from where the token begins -/
theorem ma_39 (hT : mT a T n) (hp : p ≤ n) {g2 : Nat → Int32} (h11 : g2 11 = nI n) (h14 : g2 14 = nI (sp_s T n p)) : fe_R 1 gk_m224 39 [(0, .ref 0)] [] (fm g2 tp bt a b) (fun R => ∃ g' : Nat → Int32, fm_txt g2 g' ∧ mtk g' T n p ∧ R = (none, fm g' tp bt a b)) := by
  have hb := hT.1
  have hs := sp_s_le (T := T) hp
  refine fe_s 4 (pc' := 47) (lc' := [(0, .ref 0)]) (stk' := []) (mem' := fm (upd g2 13 (g2 14)) tp bt a b) (by intro _ _ _; eq_refl) ?_
  rw [h14]
  refine fe_s 3 (pc' := 52) (lc' := [(0, .ref 0)]) (stk' := [.int (g2 14), .ref 0]) (mem' := fm (upd g2 13 (nI (sp_s T n p))) tp bt a b) (by intro _ _ _; eq_refl) ?_
  rw [h14]
  generalize hg3 : upd g2 13 (nI (sp_s T n p)) = g3
  have h11' : g3 11 = nI n := by rw [← hg3, pk_un (by decide)]; exact h11
  have h14' : g3 14 = nI (sp_s T n p) := by rw [← hg3, pk_un (by decide)]; exact h14
  have h13' : g3 13 = nI (sp_s T n p) := by rw [← hg3, pk_us]
  have hx : fm_txt g2 g3 := by rw [← hg3]; exact fm_txt_13 fm_txt_rf
  refine fe_ivV (fr_byteAt (S := n) (k := sp_s T n p) (g := g3) (tp := tp) (bt := bt) (a := a) (b := b) h11' hT.1 (by omega)) (by omega) (by rfl) (by rfl) (by rfl) (by rfl) (by rfl) (by rfl) ?_
  by_cases h : sp_s T n p < n
  · rw [mb_in hT h]
    obtain ⟨h255, -⟩ := hT.2 _ h
    have key : ∃ c, T (sp_s T n p) = c := ⟨_, rfl⟩
    obtain ⟨c, hc⟩ := key
    rw [hc] at h255
    rw [hc]
    refine fe_s 4 (pc' := 61) (lc' := [(1, .int (nI c)), (0, .ref 0)]) (stk' := []) (mem' := fm (upd g3 15 (nI c)) tp bt a b) (by intro _ _ _; eq_refl) ?_
    generalize hg4 : upd g3 15 (nI c) = g4
    have h11 : g4 11 = nI n := by rw [← hg4, pk_un (by decide)]; exact h11'
    have h14 : g4 14 = nI (sp_s T n p) := by rw [← hg4, pk_un (by decide)]; exact h14'
    have h13 : g4 13 = nI (sp_s T n p) := by rw [← hg4, pk_un (by decide)]; exact h13'
    have h15 : g4 15 = nI c := by rw [← hg4, pk_us]
    have hx : fm_txt g2 g4 := by rw [← hg4]; exact fm_txt_15 hx
    refine fe_s 3 (pc' := cond (fx_cb .ne (nI c) (-1)) 74 66) (lc' := [(1, .int (nI c)), (0, .ref 0)]) (stk' := []) (mem' := fm g4 tp bt a b) (by intro _ _ _; eq_refl) ?_
    rw [show fx_cb .ne (nI c) (-1) = true from cb_n_ne (by omega) (by decide)]
    dsimp only [cond]
    refine fe_s 1 (pc' := 75) (lc' := [(1, .int (nI c)), (0, .ref 0)]) (stk' := [.int (nI c)]) (mem' := fm g4 tp bt a b) (by intro _ _ _; eq_refl) ?_
    by_cases h1 : 97 ≤ c ∧ c ≤ 122
    · have hsm : sp_sm (T (sp_s T n p)) = true := sp_sm_i.mpr (by rw [hc]; exact h1)
      obtain ⟨t1, t2⟩ := sp_t1 h hsm
      refine fe_ivS (fr_isSmall1 h1.1 h1.2) (by omega) (by rfl) (by rfl) (by rfl) (by rfl) (by rfl) ?_
      refine fe_s 1 (pc' := 81) (lc' := [(1, .int (nI c)), (0, .ref 0)]) (stk' := []) (mem' := fm g4 tp bt a b) (by intro _ _ _; eq_refl) ?_
      obtain ⟨R, ⟨g', k1, k2, k3, k4, k5, k6⟩, k7⟩ := ma_81 (tp := tp) (bt := bt) (b := b) (c := nI c) hT (n - sp_s T n p) _ rfl hs g4 h11 h14
      refine ⟨R, ⟨g', fm_txt_tr hx k1, ⟨(k1 11 (by decide) (by decide) (by decide) (by decide)).trans h11, k4.trans h13, ⟨sp_n T n p, k2.trans (by rw [t2]), sp_n_ge, sp_n_le hp, fun _ => rfl⟩, k3.trans (by rw [t1]; rfl), fun z => absurd z (by omega), fun z => absurd z (by omega), ?_⟩, k6⟩, k7⟩
      rw [k5, h15]
      exact fm_vb (by omega)
    · refine fe_ivS (fr_isSmall0 (by omega) h1) (by omega) (by rfl) (by rfl) (by rfl) (by rfl) (by rfl) ?_
      refine fe_s 2 (pc' := 117) (lc' := [(1, .int (nI c)), (0, .ref 0)]) (stk' := [.int (nI c)]) (mem' := fm g4 tp bt a b) (by intro _ _ _; eq_refl) ?_
      by_cases h2 : 48 ≤ c ∧ c ≤ 57
      · have hdg : sp_dg (T (sp_s T n p)) = true := sp_dg_i.mpr (by rw [hc]; exact h2)
        obtain ⟨t1, t2⟩ := sp_t2 h hdg
        refine fe_ivS (fr_isDigit1 h2.1 h2.2) (by omega) (by rfl) (by rfl) (by rfl) (by rfl) (by rfl) ?_
        refine fe_s 4 (pc' := 128) (lc' := [(1, .int (nI c)), (0, .ref 0)]) (stk' := []) (mem' := fm (upd g4 15 0) tp bt a b) (by intro _ _ _; eq_refl) ?_
        obtain ⟨R, ⟨g', k1, k2, k3, k4, k5, k6⟩, k7⟩ := ma_128 (tp := tp) (bt := bt) (b := b) (c := nI c) (s := sp_s T n p) hT (n - (sp_s T n p + 0)) 0 rfl hs (upd g4 15 0) ((pk_un (by decide)).trans h11) ((pk_un (by decide)).trans h14) ((pk_un (by decide)).trans h13) pk_us
        rw [Nat.add_zero, ← t2] at k2 k3 k5
        refine ⟨R, ⟨g', fm_txt_tr (fm_txt_15 hx) k1, ⟨(k1 11 (by decide) (by decide) (by decide) (by decide)).trans ((pk_un (by decide)).trans h11), k4.trans ((pk_un (by decide)).trans h13), ⟨sp_n T n p, k2, sp_n_ge, sp_n_le hp, fun _ => rfl⟩, ?_, fun z => ?_, fun z => ?_, ?_⟩, k6⟩, k7⟩
        · rw [k3, t1]
          split <;> rfl
        · rw [k5]
          rw [t1] at z
          have h4 : sp_n T n p ≤ sp_s T n p + 4 := by
            by_cases h4 : sp_n T n p ≤ sp_s T n p + 4
            · exact h4
            · rw [if_neg h4] at z; omega
          rw [sp_nv_eq _ (by omega) (fun i hi => sp_dg_i.mp (sp_e_all (k := sp_s T n p) (by omega) (by rw [← t2]; omega)))]
          rfl
        · rw [t1] at z
          split at z <;> omega
        · rw [k5]
          exact fm_vb (sp_nv_le _)
      · refine fe_ivS (fr_isDigit0 (by omega) h2) (by omega) (by rfl) (by rfl) (by rfl) (by rfl) (by rfl) ?_
        refine fe_s 6 (pc' := 215) (lc' := [(1, .int (nI c)), (0, .ref 0)]) (stk' := [.int (g4 14 + 1), .ref 0]) (mem' := fm g4 tp bt a b) (by intro _ _ _; eq_refl) ?_
        rw [h14, show nI (sp_s T n p) + 1 = nI (sp_s T n p + 1) from nI_add _ 1]
        refine fe_s 4 (pc' := 222) (lc' := [(1, .int (nI c)), (0, .ref 0)]) (stk' := [.int 59, .int (nI c), .ref 0]) (mem' := fm (upd g4 14 (nI (sp_s T n p + 1))) tp bt a b) (by intro _ _ _; eq_refl) ?_
        generalize hg5 : upd g4 14 (nI (sp_s T n p + 1)) = g5
        have j11 : g5 11 = nI n := by rw [← hg5, pk_un (by decide)]; exact h11
        have j14 : g5 14 = nI (sp_s T n p + 1) := by rw [← hg5, pk_us]
        have j13 : g5 13 = nI (sp_s T n p) := by rw [← hg5, pk_un (by decide)]; exact h13
        have j15 : g5 15 = nI c := by rw [← hg5, pk_un (by decide)]; exact h15
        have hx : fm_txt g2 g5 := by rw [← hg5]; exact fm_txt_14 hx
        have good : 59 ≤ c ∧ c ≤ 62 → fe_R 1 gk_m224 243 [(1, .int (nI c)), (0, .ref 0)] [.ref 0] (fm g5 tp bt a b) (fun R => ∃ g' : Nat → Int32, fm_txt g2 g' ∧ mtk g' T n p ∧ R = (none, fm g' tp bt a b)) := fun h3 => by
          obtain ⟨t1, t2⟩ := sp_t3 h (sp_sg_i.mpr (by rw [hc]; exact h3))
          refine fe_s 3 (pc' := 251) (lc' := [(1, .int (nI c)), (0, .ref 0)]) (stk' := []) (mem' := fm (upd g5 12 4) tp bt a b) (by intro _ _ _; eq_refl) ?_
          refine fe_ret ⟨_, fm_txt_12 hx, ⟨(pk_un (by decide)).trans j11, (pk_un (by decide)).trans j13, ⟨sp_s T n p + 1, (pk_un (by decide)).trans j14, by omega, by omega, fun _ => t2.symm⟩, ?_, fun z => absurd z (by omega), fun _ => ?_, ?_⟩, rfl⟩ (by rfl) (by rfl) (by rfl)
          · rw [pk_us, t1]; rfl
          · rw [pk_un (by decide), j15, hc]
          · rw [pk_un (by decide), j15]; exact fm_vb (by omega)
        have badd : ¬ (59 ≤ c ∧ c ≤ 62) → fe_R 1 gk_m224 247 [(1, .int (nI c)), (0, .ref 0)] [.ref 0] (fm g5 tp bt a b) (fun R => ∃ g' : Nat → Int32, fm_txt g2 g' ∧ mtk g' T n p ∧ R = (none, fm g' tp bt a b)) := fun h3 => by
          obtain ⟨t1, t2⟩ := sp_t4 h (fun z => h1 (by rw [← hc]; exact sp_sm_i.mp z)) (fun z => h2 (by rw [← hc]; exact sp_dg_i.mp z)) (fun z => h3 (by rw [← hc]; exact sp_sg_i.mp z))
          refine fe_s 2 (pc' := 251) (lc' := [(1, .int (nI c)), (0, .ref 0)]) (stk' := []) (mem' := fm (upd g5 12 1) tp bt a b) (by intro _ _ _; eq_refl) ?_
          refine fe_ret ⟨_, fm_txt_12 hx, ⟨(pk_un (by decide)).trans j11, (pk_un (by decide)).trans j13, ⟨sp_s T n p + 1, (pk_un (by decide)).trans j14, by omega, by omega, fun z => absurd t1 z⟩, ?_, fun z => absurd z (by omega), fun z => absurd z (by omega), ?_⟩, rfl⟩ (by rfl) (by rfl) (by rfl)
          · rw [pk_us, t1]; rfl
          · rw [pk_un (by decide), j15]; exact fm_vb (by omega)
        refine fe_s 1 (pc' := cond (fx_cb .eq (nI c) 59) 243 225) (lc' := [(1, .int (nI c)), (0, .ref 0)]) (stk' := [.ref 0]) (mem' := fm g5 tp bt a b) (by intro _ _ _; eq_refl) ?_
        by_cases e1 : c = 59
        · rw [show fx_cb .eq (nI c) 59 = true from cb_eqT (a := c) (b := 59) (by omega) (by omega) e1]
          exact good (by omega)
        rw [show fx_cb .eq (nI c) 59 = false from cb_eqF (a := c) (b := 59) (by omega) (by omega) e1]
        refine fe_s 3 (pc' := cond (fx_cb .eq (nI c) 60) 243 231) (lc' := [(1, .int (nI c)), (0, .ref 0)]) (stk' := [.ref 0]) (mem' := fm g5 tp bt a b) (by intro _ _ _; eq_refl) ?_
        by_cases e2 : c = 60
        · rw [show fx_cb .eq (nI c) 60 = true from cb_eqT (a := c) (b := 60) (by omega) (by omega) e2]
          exact good (by omega)
        rw [show fx_cb .eq (nI c) 60 = false from cb_eqF (a := c) (b := 60) (by omega) (by omega) e2]
        refine fe_s 3 (pc' := cond (fx_cb .eq (nI c) 62) 243 237) (lc' := [(1, .int (nI c)), (0, .ref 0)]) (stk' := [.ref 0]) (mem' := fm g5 tp bt a b) (by intro _ _ _; eq_refl) ?_
        by_cases e3 : c = 62
        · rw [show fx_cb .eq (nI c) 62 = true from cb_eqT (a := c) (b := 62) (by omega) (by omega) e3]
          exact good (by omega)
        rw [show fx_cb .eq (nI c) 62 = false from cb_eqF (a := c) (b := 62) (by omega) (by omega) e3]
        refine fe_s 3 (pc' := cond (fx_cb .ne (nI c) 61) 247 243) (lc' := [(1, .int (nI c)), (0, .ref 0)]) (stk' := [.ref 0]) (mem' := fm g5 tp bt a b) (by intro _ _ _; eq_refl) ?_
        by_cases e4 : c = 61
        · rw [show fx_cb .ne (nI c) 61 = false from cb_neF (a := c) (b := 61) (by omega) (by omega) e4]
          exact good (by omega)
        rw [show fx_cb .ne (nI c) 61 = true from cb_neT (a := c) (b := 61) (by omega) (by omega) e4]
        exact badd (by omega)
  · rw [mb_out h]
    obtain ⟨t1, t2⟩ := sp_t0 h
    refine fe_s 11 (pc' := 251) (lc' := [(1, .int (-1)), (0, .ref 0)]) (stk' := []) (mem' := fm (upd (upd g3 15 (-1)) 12 0) tp bt a b) (by intro _ _ _; eq_refl) ?_
    refine fe_ret ⟨_, fm_txt_12 (fm_txt_15 hx), ⟨(pk_un (by decide)).trans ((pk_un (by decide)).trans h11'), (pk_un (by decide)).trans ((pk_un (by decide)).trans h13'), ⟨sp_s T n p, (pk_un (by decide)).trans ((pk_un (by decide)).trans h14'), Nat.le_refl _, hs, fun _ => t2.symm⟩, ?_, fun z => absurd z (by omega), fun z => absurd z (by omega), ?_⟩, rfl⟩ (by rfl) (by rfl) (by rfl)
    · rw [pk_us, t1]; rfl
    · rw [pk_un (by decide), pk_us]; decide
/-- ahead() from p -/
theorem ma_0 (hT : mT a T n) {s : Nat} (hs : sp_s T n p = s) (hp : p ≤ n) : ∀ (r k : Nat), n - k = r → k ≤ n → ∀ (g2 : Nat → Int32), fm_txt g g2 → g2 11 = nI n → g2 14 = nI k → sp_e sp_ws T n k = s → fe_R 1 gk_m224 0 [(0, .ref 0)] [] (fm g2 tp bt a b) (fun R => ∃ g' : Nat → Int32, fm_txt g g' ∧ mtk g' T n p ∧ R = (none, fm g' tp bt a b)) := by
  have fin : ∀ (k : Nat) (g2 : Nat → Int32), k ≤ n → fm_txt g g2 → g2 11 = nI n → g2 14 = nI k → sp_e sp_ws T n k = s → ¬ (k < n ∧ sp_ws (T k) = true) → fe_R 1 gk_m224 39 [(0, .ref 0)] [] (fm g2 tp bt a b) (fun R => ∃ g' : Nat → Int32, fm_txt g g' ∧ mtk g' T n p ∧ R = (none, fm g' tp bt a b)) := by
    intro k g2 hk hx h11 h14 he hno
    rw [sp_e_f hno] at he
    obtain ⟨R, ⟨g', k1, k2, k3⟩, k4⟩ := ma_39 (tp := tp) (bt := bt) (b := b) hT hp h11 (h14.trans (by rw [hs, he]))
    exact ⟨R, ⟨g', fm_txt_tr hx k1, k2, k3⟩, k4⟩
  intro r
  induction r with
  | zero =>
    intro k hr hk g2 hx h11 h14 he
    have hb := hT.1
    refine fe_s 3 (pc' := 5) (lc' := [(0, .ref 0)]) (stk' := [.int (g2 14), .ref 0]) (mem' := fm g2 tp bt a b) (by intro _ _ _; eq_refl) ?_
    rw [h14]
    refine fe_ivV (fr_byteAt (S := n) (k := k) (g := g2) (tp := tp) (bt := bt) (a := a) (b := b) h11 hT.1 (by omega)) (by omega) (by rfl) (by rfl) (by rfl) (by rfl) (by rfl) (by rfl) ?_
    rw [mb_out (by omega)]
    refine fe_s 5 (pc' := 18) (lc' := [(0, .ref 0)]) (stk' := [.int (g2 14), .ref 0]) (mem' := fm g2 tp bt a b) (by intro _ _ _; eq_refl) ?_
    rw [h14]
    refine fe_ivV (fr_byteAt (S := n) (k := k) (g := g2) (tp := tp) (bt := bt) (a := a) (b := b) h11 hT.1 (by omega)) (by omega) (by rfl) (by rfl) (by rfl) (by rfl) (by rfl) (by rfl) ?_
    rw [mb_out (by omega)]
    refine fe_s 2 (pc' := 39) (lc' := [(0, .ref 0)]) (stk' := []) (mem' := fm g2 tp bt a b) (by intro _ _ _; eq_refl) ?_
    exact fin k g2 hk hx h11 h14 he (by omega)
  | succ r ih =>
    intro k hr hk g2 hx h11 h14 he
    have hb := hT.1
    have h255 := (hT.2 k (by omega)).1
    have next : sp_ws (T k) = true → fe_R 1 gk_m224 26 [(0, .ref 0)] [] (fm g2 tp bt a b) (fun R => ∃ g' : Nat → Int32, fm_txt g g' ∧ mtk g' T n p ∧ R = (none, fm g' tp bt a b)) := fun hw => by
      refine fe_s 5 (pc' := 33) (lc' := [(0, .ref 0)]) (stk' := [.int (g2 14 + 1), .ref 0]) (mem' := fm g2 tp bt a b) (by intro _ _ _; eq_refl) ?_
      rw [h14, show nI k + 1 = nI (k + 1) from nI_add k 1]
      refine fe_s 2 (pc' := 0) (lc' := [(0, .ref 0)]) (stk' := []) (mem' := fm (upd g2 14 (nI (k + 1))) tp bt a b) (by intro _ _ _; eq_refl) ?_
      exact ih (k + 1) (by omega) (by omega) _ (fm_txt_14 hx) ((pk_un (by decide)).trans h11) pk_us (by rw [← he]; exact (sp_e_t (by omega) hw).symm)
    refine fe_s 3 (pc' := 5) (lc' := [(0, .ref 0)]) (stk' := [.int (g2 14), .ref 0]) (mem' := fm g2 tp bt a b) (by intro _ _ _; eq_refl) ?_
    rw [h14]
    refine fe_ivV (fr_byteAt (S := n) (k := k) (g := g2) (tp := tp) (bt := bt) (a := a) (b := b) h11 hT.1 (by omega)) (by omega) (by rfl) (by rfl) (by rfl) (by rfl) (by rfl) (by rfl) ?_
    rw [mb_in hT (by omega)]
    refine fe_s 2 (pc' := cond (fx_cb .eq (nI (T k)) 32) 26 13) (lc' := [(0, .ref 0)]) (stk' := []) (mem' := fm g2 tp bt a b) (by intro _ _ _; eq_refl) ?_
    by_cases e1 : T k = 32
    · rw [show fx_cb .eq (nI (T k)) 32 = true from cb_eqT (a := T k) (b := 32) (by omega) (by omega) e1]
      exact next (sp_ws_i.mpr (Or.inr e1))
    rw [show fx_cb .eq (nI (T k)) 32 = false from cb_eqF (a := T k) (b := 32) (by omega) (by omega) e1]
    refine fe_s 3 (pc' := 18) (lc' := [(0, .ref 0)]) (stk' := [.int (g2 14), .ref 0]) (mem' := fm g2 tp bt a b) (by intro _ _ _; eq_refl) ?_
    rw [h14]
    refine fe_ivV (fr_byteAt (S := n) (k := k) (g := g2) (tp := tp) (bt := bt) (a := a) (b := b) h11 hT.1 (by omega)) (by omega) (by rfl) (by rfl) (by rfl) (by rfl) (by rfl) (by rfl) ?_
    rw [mb_in hT (by omega)]
    refine fe_s 2 (pc' := cond (fx_cb .ne (nI (T k)) 10) 39 26) (lc' := [(0, .ref 0)]) (stk' := []) (mem' := fm g2 tp bt a b) (by intro _ _ _; eq_refl) ?_
    by_cases e2 : T k = 10
    · rw [show fx_cb .ne (nI (T k)) 10 = false from cb_neF (a := T k) (b := 10) (by omega) (by omega) e2]
      exact next (sp_ws_i.mpr (Or.inl e2))
    rw [show fx_cb .ne (nI (T k)) 10 = true from cb_neT (a := T k) (b := 10) (by omega) (by omega) e2]
    exact fin k g2 hk hx h11 h14 he (fun z => by have z2 := sp_ws_i.mp z.2; omega)
theorem mr_ahead (hT : mT a T n) (hp : p ≤ n) (h11 : g 11 = nI n) (h14 : g 14 = nI p) : ∃ g' : Nat → Int32, fr_T 2 224 [.ref 0] (fm g tp bt a b) none (fm g' tp bt a b) ∧ fm_txt g g' ∧ mtk g' T n p := by
  obtain ⟨v, mem', ⟨g', h1, h2, hR⟩, h3⟩ := fe_meth (k := 1) (f := 224) (as := [.ref 0]) (M := gk_m224) (by rfl) (by rfl) (ma_0 (g := g) (tp := tp) (bt := bt) (b := b) hT rfl hp (n - p) p rfl hp g fm_txt_rf h11 h14 rfl)
  cases hR
  exact ⟨g', h3, h1, h2⟩
end MTK
end MH20_2
section MH20_3
/-! ===== the model's words, names, signs, numbers (mw_s .. mw_one stand in 4770) ===== -/
/-- the class's number of each -/
def mw_i : List Nat := [0, 2, 3, 4, 5, 8, 9, 10, 1, 6, 7, 11, 13, 14, 15, 16, 12, 18, 17, 20, 21, 22, 19]
theorem mw_ok : ∀ j, j < 23 → mw_s.getD j 0 < mw_s.getD (j + 1) 0 - 1 ∧ mw_s.getD (j + 1) 0 ≤ 117 ∧ sk_b.getD (mw_s.getD (j + 1) 0 - 1) 0 = 32 ∧ mw_i.getD j 0 < 23 ∧ sp_pm.getD (mw_i.getD j 0) 0 = j := by decide +kernel
theorem mw_wd : ∀ j, j < 23 → sp_KW[mw_i.getD j 0]? = some ((List.range (mw_s.getD (j + 1) 0 - 1 - mw_s.getD j 0)).map (fun i => (sk_b.getD (mw_s.getD j 0 + i) 0).toInt.toNat)) := by decide +kernel
theorem mw_let : ∀ i, i < 117 → sk_b.getD i 0 = nI (sk_b.getD i 0).toInt.toNat ∧ (sk_b.getD i 0).toInt.toNat < 128 := by decide +kernel
theorem mw_all : ∀ k, k < 23 → sp_pm.getD k 0 < 23 ∧ mw_i.getD (sp_pm.getD k 0) 0 = k := by decide +kernel
/-- the model's number of the word behind p -/
def sp_mw (T : Nat → Nat) (n p : Nat) : Int32 := if sp_k T n p = 1 ∧ sp_kw (sp_wd T n p) < 23 then nI (sp_pm.getD (sp_kw (sp_wd T n p)) 0) else -1
section MIW
variable {g : Nat → Int32} {tp bt : Int64} {a : Nat → Nat → Int32} {b : Nat → Nat → Int64} {T : Nat → Nat} {n p : Nat}
theorem mw_word (hT : mT a T n) (hp : p ≤ n) (hk : sp_k T n p = 1) {j : Nat} (hj : j < 23) : (mw_s.getD (j + 1) 0 - 1 - mw_s.getD j 0 = sp_n T n p - sp_s T n p ∧ mw_eq a n (sp_s T n p) (mw_s.getD j 0) (mw_s.getD (j + 1) 0 - 1)) ↔ sp_KW[mw_i.getD j 0]? = some (sp_wd T n p) := by
  obtain ⟨o1, o2, o3, o4, o5⟩ := mw_ok j hj
  have hl := sp_n_lt (T := T) hp (Or.inl hk)
  have hle := sp_n_le (T := T) hp
  rw [mw_wd j hj]
  constructor
  · rintro ⟨h1, h2⟩
    unfold sp_wd sp_L
    rw [h1]
    congr 1
    refine List.map_congr_left (fun i hi => ?_)
    have hi := List.mem_range.mp hi
    have h3 := h2 i (by omega)
    rw [mb_in hT (by omega)] at h3
    rw [h3, nI_i32 (by have := (hT.2 (sp_s T n p + i) (by omega)).1; omega)]
    rfl
  · intro h
    have h := Option.some.inj h
    have h1 := congrArg List.length h
    rw [sp_wd_len, List.length_map, List.length_range] at h1
    refine ⟨h1, fun i hi => ?_⟩
    rw [mb_in hT (by omega), (mw_let _ (by omega)).1]
    congr 1
    unfold sp_wd sp_L at h
    have h2 := congrArg (fun l : List Nat => l[i]?) h
    rw [List.getElem?_map, List.getElem?_map, List.getElem?_range (by omega), List.getElem?_range (by omega)] at h2
    exact Option.some.inj h2
/-- inWords(KEYS) -/
theorem mr_inWords (hT : mT a T n) (hp : p ≤ n) (h : mtk g T n p) : fr_T 2 226 [.ref 0, .ref 22] (fm g tp bt a b) (some (.int (sp_mw T n p))) (fm g tp bt a b) := by
  suffices h : ∃ (v : Option Value) (mem' : fx_M), (fun R => R = (some (.int (sp_mw T n p)), fm g tp bt a b)) (v, mem') ∧ fr_T 2 226 [.ref 0, .ref 22] (fm g tp bt a b) v mem' by
    obtain ⟨v, mem', h1, h2⟩ := h
    cases h1
    exact h2
  obtain ⟨h11, h13, ⟨z, h14, hsz, hzn, hz⟩, h12, -, -, -, -⟩ := h
  have hk4 := sp_k4 (T := T) (n := n) (p := p)
  refine fe_meth (f := 226) (as := [.ref 0, .ref 22]) (F := fun R => R = (some (.int (sp_mw T n p)), fm g tp bt a b)) (M := gk_m226) (by rfl) (by rfl) ?_
  refine fe_s 3 (pc' := 5) (lc' := [(0, .ref 0), (1, .ref 22)]) (stk' := [.int 2, .int (g 12)]) (mem' := fm g tp bt a b) (by intro _ _ _; eq_refl) ?_
  rw [h12]
  refine fe_s 1 (pc' := cond (fx_cb .eq (nI (mkd (sp_k T n p))) 2) 10 8) (lc' := [(0, .ref 0), (1, .ref 22)]) (stk' := []) (mem' := fm g tp bt a b) (by intro _ _ _; eq_refl) ?_
  by_cases hk : sp_k T n p = 1
  · rw [hk, show fx_cb .eq (nI (mkd 1)) 2 = true from by decide]
    dsimp only [cond]
    refine fe_s 4 (pc' := 14) (lc' := [(3, .int (nI 1)), (2, .int (nI 0)), (0, .ref 0), (1, .ref 22)]) (stk' := []) (mem' := fm g tp bt a b) (by intro _ _ _; eq_refl) ?_
    have hz1 := hz (by omega)
    have main : ∀ (r j : Nat), j + r = 23 → (∀ i, i < j → sp_KW[mw_i.getD i 0]? ≠ some (sp_wd T n p)) → fe_R 1 gk_m226 14 [(3, .int (nI (mw_s.getD j 0))), (2, .int (nI j)), (0, .ref 0), (1, .ref 22)] [] (fm g tp bt a b) (fun R => R = (some (.int (sp_mw T n p)), fm g tp bt a b)) := by
      intro r
      induction r with
      | zero =>
        intro j hj hno
        obtain rfl : j = 23 := by omega
        refine fe_s 2 (pc' := 16) (lc' := [(3, .int (nI 117)), (2, .int (nI 23)), (0, .ref 0), (1, .ref 22)]) (stk' := [.ref 22, .int (nI 117)]) (mem' := fm g tp bt a b) (by intro _ _ _; eq_refl) ?_
        refine fe_s 1 (pc' := 19) (lc' := [(3, .int (nI 117)), (2, .int (nI 23)), (0, .ref 0), (1, .ref 22)]) (stk' := [.int 117, .int (nI 117)]) (mem' := fm g tp bt a b) (by intro _ _ _; eq_refl) ?_
        refine fe_s 1 (pc' := cond (fx_cb .ge (nI 117) 117) 133 22) (lc' := [(3, .int (nI 117)), (2, .int (nI 23)), (0, .ref 0), (1, .ref 22)]) (stk' := []) (mem' := fm g tp bt a b) (by intro _ _ _; eq_refl) ?_
        rw [show fx_cb .ge (nI 117) 117 = true from by decide]
        dsimp only [cond]
        refine fe_s 1 (pc' := 134) (lc' := [(3, .int (nI 117)), (2, .int (nI 23)), (0, .ref 0), (1, .ref 22)]) (stk' := [.int (-1)]) (mem' := fm g tp bt a b) (by intro _ _ _; eq_refl) ?_
        have hk23 : ¬ (sp_k T n p = 1 ∧ sp_kw (sp_wd T n p) < 23) := fun y => by
          obtain ⟨m1, m2⟩ := mw_all _ y.2
          exact hno _ m1 (by rw [m2]; exact sp_kw_get y.2)
        exact fe_ret (by show _ = (some (Value.int (if _ then _ else _)), _); rw [if_neg hk23]) (by rfl) (by rfl) (by rfl)
      | succ r ih =>
        intro j hj hno
        obtain ⟨o1, o2, o3, o4, o5⟩ := mw_ok j (by omega)
        have hw := mw_word (a := a) hT hp hk (j := j) (by omega)
        refine mw_one h11 hT.1 h13 h14 hsz hzn o1 (by omega) (by omega) o3 (mw_sp j (by omega)) (fun e1 e2 => ?_) (fun e1 => ?_)
        · rw [hz1] at e1
          have hkw := sp_kw_of (hw.mp ⟨e1, e2⟩)
          show _ = (some (Value.int (if _ then _ else _)), _)
          rw [if_pos ⟨hk, by rw [hkw]; exact o4⟩, hkw, o5]
        · rw [hz1] at e1
          have := ih (j + 1) (by omega) (fun i hi => by
            by_cases ei : i = j
            · rw [ei]; exact fun y => e1 (hw.mpr y)
            · exact hno i (by omega))
          rw [show mw_s.getD (j + 1) 0 - 1 + 1 = mw_s.getD (j + 1) 0 by omega]
          exact this
    exact main 23 0 rfl (fun i hi => absurd hi (by omega))
  · rw [show fx_cb .eq (nI (mkd (sp_k T n p))) 2 = false from cb_eqF (a := mkd (sp_k T n p)) (b := 2) (by unfold mkd; split; omega; split <;> omega) (by omega) (by unfold mkd; split; omega; split <;> omega)]
    dsimp only [cond]
    refine fe_s 1 (pc' := 9) (lc' := [(0, .ref 0), (1, .ref 22)]) (stk' := [.int (-1)]) (mem' := fm g tp bt a b) (by intro _ _ _; eq_refl) ?_
    exact fe_ret (by show _ = (some (Value.int (if _ then _ else _)), _); rw [if_neg (fun y => hk y.1)]) (by rfl) (by rfl) (by rfl)
end MIW
end MH20_3
section MH20_4
/-! ===== the model's reader: faults, signs, words, numbers, names ===== -/
theorem mc_step {v c : Nat} (hc : c < 256) : Int64.ofNat v <<< ((8 : Int32).toInt64 &&& 63) ||| (nI c).toInt64 = Int64.ofNat (v * 256 + c) := by
  rw [sp_nI64 (by omega)]
  apply Int64.toBitVec_inj.mp
  rw [Int64.toBitVec_or, Int64.toBitVec_shiftLeft]
  apply BitVec.eq_of_toNat_eq
  rw [BitVec.toNat_or]
  show (BitVec.ofNat 64 v <<< ((((8 : Int32).toInt64 &&& 63).toBitVec.smod 64#64).toNat)).toNat ||| (BitVec.ofNat 64 c).toNat = (BitVec.ofNat 64 (v * 256 + c)).toNat
  rw [show (((8 : Int32).toInt64 &&& 63).toBitVec.smod 64#64).toNat = 8 from by decide, BitVec.toNat_shiftLeft, BitVec.toNat_ofNat, BitVec.toNat_ofNat, BitVec.toNat_ofNat, Nat.mod_eq_of_lt (show c < 2 ^ 64 by omega)]
  have e : (v % 2 ^ 64) <<< 8 % 2 ^ 64 = (v % 2 ^ 56) <<< 8 := by
    rw [Nat.shiftLeft_eq, Nat.shiftLeft_eq]
    omega
  rw [e, ← Nat.shiftLeft_add_eq_or_of_lt (show c < 2 ^ 8 by omega), Nat.shiftLeft_eq]
  omega
/-- all is well with the model at p -/
def mo (g : Nat → Int32) (T : Nat → Nat) (n p : Nat) : Prop := p ≤ n ∧ mtk g T n p ∧ g 18 = 0 ∧ g 17 = -1
/-- there is a fault -/
def mf (g : Nat → Int32) (F : Int32) (P : Nat) : Prop := 0 < F.toInt ∧ g 18 = F ∧ g 17 = nI P
section MRD
variable {g : Nat → Int32} {tp bt : Int64} {a : Nat → Nat → Int32} {b : Nat → Nat → Int64} {T : Nat → Nat} {n p : Nat}
theorem mkd_1 {k : Nat} (h : k ≤ 4) : (mkd k = 1 ↔ k = 4) ∧ (mkd k = 2 ↔ k = 1) ∧ (mkd k = 3 ↔ k = 2) ∧ (mkd k = 4 ↔ k = 3) ∧ (mkd k = 0 ↔ k = 0) ∧ mkd k ≤ 4 := by
  rcases (by omega : k = 0 ∨ k = 1 ∨ k = 2 ∨ k = 3 ∨ k = 4) with rfl | rfl | rfl | rfl | rfl <;> decide
theorem mr_aheado (hT : mT a T n) (h : mo g T n p) (hk : sp_k T n p ≠ 4) : ∃ g' : Nat → Int32, fr_T 2 224 [.ref 0] (fm g tp bt a b) none (fm g' tp bt a b) ∧ fm_tx8 g g' ∧ mo g' T n (sp_n T n p) := by
  obtain ⟨h0, ⟨h11, h13, ⟨e, h14, h2, h3, h4⟩, -⟩, h18, h17⟩ := h
  rw [h4 hk] at h14
  obtain ⟨g', k1, k2, k3⟩ := mr_ahead (tp := tp) (bt := bt) (b := b) hT (sp_n_le h0) h11 h14
  exact ⟨g', k1, fm_tx8_of k2, sp_n_le h0, k3, (k2 18 (by decide) (by decide) (by decide) (by decide)).trans h18, (k2 17 (by decide) (by decide) (by decide) (by decide)).trans h17⟩
theorem mr_fails {x : Int32} (h : mo g T n p) (hx : 0 < x.toInt) : ∃ g' : Nat → Int32, fr_T 1 227 [.ref 0, .int x] (fm g tp bt a b) (some (.int 0)) (fm g' tp bt a b) ∧ fm_tx8 g g' ∧ mf g' (if sp_k T n p = 4 then 1 else x) (sp_s T n p) := by
  obtain ⟨h0, ⟨h11, h13, -, h12, -⟩, h18, h17⟩ := h
  have hm := mkd_1 (sp_k4 (T := T) (n := n) (p := p))
  have fin : ∀ y : Int32, 0 < y.toInt → (if sp_k T n p = 4 then 1 else x) = y → fm_tx8 g (upd (upd g 18 y) 17 (g 13)) ∧ mf (upd (upd g 18 y) 17 (g 13)) (if sp_k T n p = 4 then 1 else x) (sp_s T n p) := fun y hy e => by
    rw [e]
    exact ⟨fm_tx8_17 (fm_tx8_18 fm_tx8_rf), hy, by rw [pk_un (by decide), pk_us], by rw [pk_us]; exact h13⟩
  by_cases hk : sp_k T n p = 4
  · refine ⟨_, fr_meth (by rfl) (by rfl) ?_, fin 1 (by decide) (if_pos hk)⟩
    refine fr_s 2 (pc' := 4) (lc' := [(0, .ref 0), (1, .int x)]) (stk' := [.int (g 18)]) (mem' := fm g tp bt a b) (by intro _ _ _; eq_refl) ?_
    rw [h18]
    refine fr_s 5 (pc' := 13) (lc' := [(0, .ref 0), (1, .int x)]) (stk' := [.int 1, .int (g 12), .ref 0]) (mem' := fm g tp bt a b) (by intro _ _ _; eq_refl) ?_
    rw [h12, hk]
    refine fr_s 9 (pc' := 33) (lc' := [(0, .ref 0), (1, .int x)]) (stk' := [.int 0]) (mem' := fm (upd (upd g 18 1) 17 (g 13)) tp bt a b) (by intro _ _ _; eq_refl) ?_
    exact fr_ret (by rfl) (by rfl) (by rfl)
  · refine ⟨_, fr_meth (by rfl) (by rfl) ?_, fin x hx (if_neg hk)⟩
    refine fr_s 2 (pc' := 4) (lc' := [(0, .ref 0), (1, .int x)]) (stk' := [.int (g 18)]) (mem' := fm g tp bt a b) (by intro _ _ _; eq_refl) ?_
    rw [h18]
    refine fr_s 5 (pc' := 13) (lc' := [(0, .ref 0), (1, .int x)]) (stk' := [.int 1, .int (g 12), .ref 0]) (mem' := fm g tp bt a b) (by intro _ _ _; eq_refl) ?_
    rw [h12]
    refine fr_s 1 (pc' := cond (fx_cb .ne (nI (mkd (sp_k T n p))) 1) 20 16) (lc' := [(0, .ref 0), (1, .int x)]) (stk' := [.ref 0]) (mem' := fm g tp bt a b) (by intro _ _ _; eq_refl) ?_
    rw [show fx_cb .ne (nI (mkd (sp_k T n p))) 1 = true from cb_neT (a := mkd (sp_k T n p)) (b := 1) (by omega) (by omega) (fun z => hk (hm.1.mp z))]
    refine fr_s 7 (pc' := 33) (lc' := [(0, .ref 0), (1, .int x)]) (stk' := [.int 0]) (mem' := fm (upd (upd g 18 x) 17 (g 13)) tp bt a b) (by intro _ _ _; eq_refl) ?_
    exact fr_ret (by rfl) (by rfl) (by rfl)
theorem mr_fails2 (h : mo g T n p) : ∃ g' : Nat → Int32, fr_T 1 227 [.ref 0, .int 2] (fm g tp bt a b) (some (.int 0)) (fm g' tp bt a b) ∧ fm_tx8 g g' ∧ mf g' (sp_m T n p) (sp_s T n p) := mr_fails h (by decide)
theorem mr_failsx {x : Int32} (h : mo g T n p) (hx : 0 < x.toInt) (hk : sp_k T n p ≠ 4) : ∃ g' : Nat → Int32, fr_T 1 227 [.ref 0, .int x] (fm g tp bt a b) (some (.int 0)) (fm g' tp bt a b) ∧ fm_tx8 g g' ∧ mf g' x (sp_s T n p) := by
  have := mr_fails (tp := tp) (bt := bt) (a := a) (b := b) h hx
  rw [if_neg hk] at this
  exact this
theorem mr_isSign {w : Nat} (hT : mT a T n) (hw : w < 128) (h : mo g T n p) : fr_T 1 225 [.ref 0, .int (nI w)] (fm g tp bt a b) (some (.int (if sp_k T n p = 3 ∧ T (sp_s T n p) = w then 1 else 0))) (fm g tp bt a b) := by
  obtain ⟨h0, ⟨h11, h13, -, h12, -, h15, -⟩, h18, h17⟩ := h
  have hm := mkd_1 (sp_k4 (T := T) (n := n) (p := p))
  refine fr_meth (by rfl) (by rfl) ?_
  refine fr_s 3 (pc' := 5) (lc' := [(0, .ref 0), (1, .int (nI w))]) (stk' := [.int 4, .int (g 12)]) (mem' := fm g tp bt a b) (by intro _ _ _; eq_refl) ?_
  rw [h12]
  refine fr_s 1 (pc' := cond (fx_cb .ne (nI (mkd (sp_k T n p))) 4) 20 8) (lc' := [(0, .ref 0), (1, .int (nI w))]) (stk' := []) (mem' := fm g tp bt a b) (by intro _ _ _; eq_refl) ?_
  by_cases hk : sp_k T n p = 3
  · rw [show fx_cb .ne (nI (mkd (sp_k T n p))) 4 = false from cb_neF (a := mkd (sp_k T n p)) (b := 4) (by omega) (by omega) (by omega)]
    dsimp only [cond]
    refine fr_s 3 (pc' := 13) (lc' := [(0, .ref 0), (1, .int (nI w))]) (stk' := [.int (nI w), .int (g 15)]) (mem' := fm g tp bt a b) (by intro _ _ _; eq_refl) ?_
    rw [h15 hk]
    refine fr_s 1 (pc' := cond (fx_cb .ne (nI (T (sp_s T n p))) (nI w)) 20 16) (lc' := [(0, .ref 0), (1, .int (nI w))]) (stk' := []) (mem' := fm g tp bt a b) (by intro _ _ _; eq_refl) ?_
    have hlt : sp_s T n p < n := by rcases sp_cs (T := T) h0 with z | z | z | z | z <;> omega
    have h255 := (hT.2 _ hlt).1
    by_cases e : T (sp_s T n p) = w
    · rw [show fx_cb .ne (nI (T (sp_s T n p))) (nI w) = false from cb_neF (a := T (sp_s T n p)) (b := w) (by omega) (by omega) e, if_pos ⟨hk, e⟩]
      refine fr_s 2 (pc' := 21) (lc' := [(0, .ref 0), (1, .int (nI w))]) (stk' := [.int 1]) (mem' := fm g tp bt a b) (by intro _ _ _; eq_refl) ?_
      exact fr_ret (by rfl) (by rfl) (by rfl)
    · rw [show fx_cb .ne (nI (T (sp_s T n p))) (nI w) = true from cb_neT (a := T (sp_s T n p)) (b := w) (by omega) (by omega) e, if_neg (fun z => e z.2)]
      refine fr_s 1 (pc' := 21) (lc' := [(0, .ref 0), (1, .int (nI w))]) (stk' := [.int 0]) (mem' := fm g tp bt a b) (by intro _ _ _; eq_refl) ?_
      exact fr_ret (by rfl) (by rfl) (by rfl)
  · rw [show fx_cb .ne (nI (mkd (sp_k T n p))) 4 = true from cb_neT (a := mkd (sp_k T n p)) (b := 4) (by omega) (by omega) (by omega), if_neg (fun z => hk z.1)]
    refine fr_s 1 (pc' := 21) (lc' := [(0, .ref 0), (1, .int (nI w))]) (stk' := [.int 0]) (mem' := fm g tp bt a b) (by intro _ _ _; eq_refl) ?_
    exact fr_ret (by rfl) (by rfl) (by rfl)
theorem mr_wantSign {w : Nat} (hT : mT a T n) (hw : w < 128) (h : mo g T n p) : ∃ (v : Int32) (g' : Nat → Int32), fr_T 3 229 [.ref 0, .int (nI w)] (fm g tp bt a b) (some (.int v)) (fm g' tp bt a b) ∧ fm_tx8 g g' ∧ ((sp_k T n p = 3 ∧ T (sp_s T n p) = w) ∧ v = 1 ∧ mo g' T n (sp_n T n p) ∨ ¬ (sp_k T n p = 3 ∧ T (sp_s T n p) = w) ∧ v = 0 ∧ mf g' (sp_m T n p) (sp_s T n p)) := by
  have hs := mr_isSign (tp := tp) (bt := bt) (b := b) hT hw h
  by_cases e : sp_k T n p = 3 ∧ T (sp_s T n p) = w
  · rw [if_pos e] at hs
    obtain ⟨g', k1, k2, k3⟩ := mr_aheado (tp := tp) (bt := bt) (b := b) hT h (by omega)
    refine ⟨1, g', fr_meth (by rfl) (by rfl) ?_, k2, Or.inl ⟨e, rfl, k3⟩⟩
    refine fr_s 2 (pc' := 2) (lc' := [(0, .ref 0), (1, .int (nI w))]) (stk' := [.int (nI w), .ref 0]) (mem' := fm g tp bt a b) (by intro _ _ _; eq_refl) ?_
    refine fr_ivV hs (by omega) (by rfl) (by rfl) (by rfl) (by rfl) (by rfl) (by rfl) ?_
    refine fr_s 2 (pc' := 15) (lc' := [(0, .ref 0), (1, .int (nI w))]) (stk' := [.ref 0]) (mem' := fm g tp bt a b) (by intro _ _ _; eq_refl) ?_
    refine fr_ivV k1 (by omega) (by rfl) (by rfl) (by rfl) (by rfl) (by rfl) (by rfl) ?_
    refine fr_s 1 (pc' := 19) (lc' := [(0, .ref 0), (1, .int (nI w))]) (stk' := [.int 1]) (mem' := fm g' tp bt a b) (by intro _ _ _; eq_refl) ?_
    exact fr_ret (by rfl) (by rfl) (by rfl)
  · rw [if_neg e] at hs
    obtain ⟨g', k1, k2, k3⟩ := mr_fails2 (tp := tp) (bt := bt) (a := a) (b := b) h
    refine ⟨0, g', fr_meth (by rfl) (by rfl) ?_, k2, Or.inr ⟨e, rfl, k3⟩⟩
    refine fr_s 2 (pc' := 2) (lc' := [(0, .ref 0), (1, .int (nI w))]) (stk' := [.int (nI w), .ref 0]) (mem' := fm g tp bt a b) (by intro _ _ _; eq_refl) ?_
    refine fr_ivV hs (by omega) (by rfl) (by rfl) (by rfl) (by rfl) (by rfl) (by rfl) ?_
    refine fr_s 3 (pc' := 10) (lc' := [(0, .ref 0), (1, .int (nI w))]) (stk' := [.int 2, .ref 0]) (mem' := fm g tp bt a b) (by intro _ _ _; eq_refl) ?_
    refine fr_ivV k1 (by omega) (by rfl) (by rfl) (by rfl) (by rfl) (by rfl) (by rfl) ?_
    exact fr_ret (by rfl) (by rfl) (by rfl)
theorem sp_mw_eq {m c : Nat} (hm : m < 23) (hc : c < 23) (hmc : sp_pm.getD c 0 = m) : sp_mw T n p = nI m ↔ sp_k T n p = 1 ∧ sp_kw (sp_wd T n p) = c := by
  unfold sp_mw
  by_cases h : sp_k T n p = 1 ∧ sp_kw (sp_wd T n p) < 23
  · rw [if_pos h, nI_eq (by have := (mw_all _ h.2).1; omega) (by omega)]
    constructor
    · intro e
      refine ⟨h.1, ?_⟩
      rw [← (mw_all _ h.2).2, e, ← hmc, (mw_all _ hc).2]
    · intro e
      rw [e.2]; exact hmc
  · rw [if_neg h]
    refine ⟨fun e => ?_, fun e => absurd ⟨e.1, by omega⟩ h⟩
    have h1 : (-1 : Int32).toInt = (nI m).toInt := by rw [e]
    rw [nI_i32 (by omega), show (-1 : Int32).toInt = -1 from by decide] at h1
    omega
theorem mr_wantWord {m c : Nat} (hT : mT a T n) (hm : m < 23) (hc : c < 23) (hmc : sp_pm.getD c 0 = m) (h : mo g T n p) : ∃ (v : Int32) (g' : Nat → Int32), fr_T 3 230 [.ref 0, .ref 22, .int (nI m)] (fm g tp bt a b) (some (.int v)) (fm g' tp bt a b) ∧ fm_tx8 g g' ∧ ((sp_k T n p = 1 ∧ sp_kw (sp_wd T n p) = c) ∧ v = 1 ∧ mo g' T n (sp_n T n p) ∨ ¬ (sp_k T n p = 1 ∧ sp_kw (sp_wd T n p) = c) ∧ v = 0 ∧ mf g' (sp_m T n p) (sp_s T n p)) := by
  have hs := mr_inWords (tp := tp) (bt := bt) (b := b) hT h.1 h.2.1
  have hq := sp_mw_eq (T := T) (n := n) (p := p) hm hc hmc
  by_cases e : sp_k T n p = 1 ∧ sp_kw (sp_wd T n p) = c
  · obtain ⟨g', k1, k2, k3⟩ := mr_aheado (tp := tp) (bt := bt) (b := b) hT h (by omega)
    refine ⟨1, g', fr_meth (by rfl) (by rfl) ?_, k2, Or.inl ⟨e, rfl, k3⟩⟩
    refine fr_s 2 (pc' := 2) (lc' := [(0, .ref 0), (1, .ref 22), (2, .int (nI m))]) (stk' := [.ref 22, .ref 0]) (mem' := fm g tp bt a b) (by intro _ _ _; eq_refl) ?_
    refine fr_ivV hs (by omega) (by rfl) (by rfl) (by rfl) (by rfl) (by rfl) (by rfl) ?_
    refine fr_s 2 (pc' := cond (fx_cb .eq (sp_mw T n p) (nI m)) 15 9) (lc' := [(0, .ref 0), (1, .ref 22), (2, .int (nI m))]) (stk' := []) (mem' := fm g tp bt a b) (by intro _ _ _; eq_refl) ?_
    rw [show fx_cb .eq (sp_mw T n p) (nI m) = true from decide_eq_true (hq.mpr e)]
    refine fr_s 1 (pc' := 16) (lc' := [(0, .ref 0), (1, .ref 22), (2, .int (nI m))]) (stk' := [.ref 0]) (mem' := fm g tp bt a b) (by intro _ _ _; eq_refl) ?_
    refine fr_ivV k1 (by omega) (by rfl) (by rfl) (by rfl) (by rfl) (by rfl) (by rfl) ?_
    refine fr_s 1 (pc' := 20) (lc' := [(0, .ref 0), (1, .ref 22), (2, .int (nI m))]) (stk' := [.int 1]) (mem' := fm g' tp bt a b) (by intro _ _ _; eq_refl) ?_
    exact fr_ret (by rfl) (by rfl) (by rfl)
  · obtain ⟨g', k1, k2, k3⟩ := mr_fails2 (tp := tp) (bt := bt) (a := a) (b := b) h
    refine ⟨0, g', fr_meth (by rfl) (by rfl) ?_, k2, Or.inr ⟨e, rfl, k3⟩⟩
    refine fr_s 2 (pc' := 2) (lc' := [(0, .ref 0), (1, .ref 22), (2, .int (nI m))]) (stk' := [.ref 22, .ref 0]) (mem' := fm g tp bt a b) (by intro _ _ _; eq_refl) ?_
    refine fr_ivV hs (by omega) (by rfl) (by rfl) (by rfl) (by rfl) (by rfl) (by rfl) ?_
    refine fr_s 2 (pc' := cond (fx_cb .eq (sp_mw T n p) (nI m)) 15 9) (lc' := [(0, .ref 0), (1, .ref 22), (2, .int (nI m))]) (stk' := []) (mem' := fm g tp bt a b) (by intro _ _ _; eq_refl) ?_
    rw [show fx_cb .eq (sp_mw T n p) (nI m) = false from decide_eq_false (fun z => e (hq.mp z))]
    refine fr_s 2 (pc' := 11) (lc' := [(0, .ref 0), (1, .ref 22), (2, .int (nI m))]) (stk' := [.int 2, .ref 0]) (mem' := fm g tp bt a b) (by intro _ _ _; eq_refl) ?_
    refine fr_ivV k1 (by omega) (by rfl) (by rfl) (by rfl) (by rfl) (by rfl) (by rfl) ?_
    exact fr_ret (by rfl) (by rfl) (by rfl)
theorem mT_u {t i : Nat} {x : Int32} (ht : t ≠ 7) (h : mT a T n) : mT (fm_u a t i x) T n := ⟨h.1, fun k hk => by rw [show (fm_u a t i x) 7 = a 7 from if_neg (fun z => ht z.symm)]; exact h.2 k hk⟩
theorem mr_number {t lo hi : Nat} (hT : mT a T n) (ht : t < 5894) (hlo : lo < 10000) (hhi : hi < 10000) (h : mo g T n p) : ∃ (v : Int32) (g' : Nat → Int32) (a' : Nat → Nat → Int32), fr_T 4 231 [.ref 0, .int (nI t), .int (nI lo), .int (nI hi)] (fm g tp bt a b) (some (.int v)) (fm g' tp bt a' b) ∧ fm_tx8 g g' ∧ ((sp_k T n p = 2 ∧ (lo ≤ sp_v T n p ∧ sp_v T n p ≤ hi) ∧ v = 1 ∧ a' = fm_u a 1 t (nI (sp_v T n p)) ∧ mo g' T n (sp_n T n p)) ∨ (sp_k T n p = 2 ∧ ¬ (lo ≤ sp_v T n p ∧ sp_v T n p ≤ hi) ∧ v = 0 ∧ a' = a ∧ mf g' 4 (sp_s T n p)) ∨ (¬ sp_k T n p = 2 ∧ v = 0 ∧ a' = a ∧ mf g' (sp_m T n p) (sp_s T n p))) := by
  have hm := mkd_1 (sp_k4 (T := T) (n := n) (p := p))
  have h12 := h.2.1.2.2.2.1
  by_cases hk : sp_k T n p = 2
  · have hv := sp_v_lt (T := T) h.1 hk
    have h15 := h.2.1.2.2.2.2.1 hk
    obtain ⟨g4, k1, k2, k3⟩ := mr_failsx (tp := tp) (bt := bt) (a := a) (b := b) (x := 4) h (by decide) (by omega)
    have bad : fr_R 3 gk_m231 30 [(0, .ref 0), (1, .int (nI t)), (2, .int (nI lo)), (3, .int (nI hi))] [] (fm g tp bt a b) (some (.int 0), fm g4 tp bt a b) := by
      refine fr_s 2 (pc' := 32) (lc' := [(0, .ref 0), (1, .int (nI t)), (2, .int (nI lo)), (3, .int (nI hi))]) (stk' := [.int 4, .ref 0]) (mem' := fm g tp bt a b) (by intro _ _ _; eq_refl) ?_
      refine fr_ivV k1 (by omega) (by rfl) (by rfl) (by rfl) (by rfl) (by rfl) (by rfl) ?_
      exact fr_ret (by rfl) (by rfl) (by rfl)
    have start : ∀ R, fr_R 3 gk_m231 14 [(0, .ref 0), (1, .int (nI t)), (2, .int (nI lo)), (3, .int (nI hi))] [] (fm g tp bt a b) R → fr_R 3 gk_m231 0 (lv_args 0 [.ref 0, .int (nI t), .int (nI lo), .int (nI hi)]) [] (fm g tp bt a b) R := fun R hR => by
      refine fr_s 3 (pc' := 5) (lc' := [(0, .ref 0), (1, .int (nI t)), (2, .int (nI lo)), (3, .int (nI hi))]) (stk' := [.int 3, .int (g 12)]) (mem' := fm g tp bt a b) (by intro _ _ _; eq_refl) ?_
      rw [h12, hk]
      exact fr_s 1 (pc' := 14) (lc' := [(0, .ref 0), (1, .int (nI t)), (2, .int (nI lo)), (3, .int (nI hi))]) (stk' := []) (mem' := fm g tp bt a b) (fun _ _ _ => rfl) hR
    have two : ∀ R, (lo ≤ sp_v T n p → fr_R 3 gk_m231 22 [(0, .ref 0), (1, .int (nI t)), (2, .int (nI lo)), (3, .int (nI hi))] [] (fm g tp bt a b) R) → (¬ lo ≤ sp_v T n p → fr_R 3 gk_m231 30 [(0, .ref 0), (1, .int (nI t)), (2, .int (nI lo)), (3, .int (nI hi))] [] (fm g tp bt a b) R) → fr_R 3 gk_m231 14 [(0, .ref 0), (1, .int (nI t)), (2, .int (nI lo)), (3, .int (nI hi))] [] (fm g tp bt a b) R := fun R q1 q2 => by
      refine fr_s 3 (pc' := 19) (lc' := [(0, .ref 0), (1, .int (nI t)), (2, .int (nI lo)), (3, .int (nI hi))]) (stk' := [.int (nI lo), .int (g 15)]) (mem' := fm g tp bt a b) (by intro _ _ _; eq_refl) ?_
      rw [h15]
      refine fr_s 1 (pc' := cond (fx_cb .lt (nI (sp_v T n p)) (nI lo)) 30 22) (lc' := [(0, .ref 0), (1, .int (nI t)), (2, .int (nI lo)), (3, .int (nI hi))]) (stk' := []) (mem' := fm g tp bt a b) (by intro _ _ _; eq_refl) ?_
      by_cases e : lo ≤ sp_v T n p
      · rw [show fx_cb .lt (nI (sp_v T n p)) (nI lo) = false from cb_ltF (a := sp_v T n p) (b := lo) (by omega) (by omega) (by omega)]
        exact q1 e
      · rw [show fx_cb .lt (nI (sp_v T n p)) (nI lo) = true from cb_ltT (a := sp_v T n p) (b := lo) (by omega) (by omega) (by omega)]
        exact q2 e
    have three : ∀ R, (sp_v T n p ≤ hi → fr_R 3 gk_m231 36 [(0, .ref 0), (1, .int (nI t)), (2, .int (nI lo)), (3, .int (nI hi))] [] (fm g tp bt a b) R) → (¬ sp_v T n p ≤ hi → fr_R 3 gk_m231 30 [(0, .ref 0), (1, .int (nI t)), (2, .int (nI lo)), (3, .int (nI hi))] [] (fm g tp bt a b) R) → fr_R 3 gk_m231 22 [(0, .ref 0), (1, .int (nI t)), (2, .int (nI lo)), (3, .int (nI hi))] [] (fm g tp bt a b) R := fun R q1 q2 => by
      refine fr_s 3 (pc' := 27) (lc' := [(0, .ref 0), (1, .int (nI t)), (2, .int (nI lo)), (3, .int (nI hi))]) (stk' := [.int (nI hi), .int (g 15)]) (mem' := fm g tp bt a b) (by intro _ _ _; eq_refl) ?_
      rw [h15]
      refine fr_s 1 (pc' := cond (fx_cb .le (nI (sp_v T n p)) (nI hi)) 36 30) (lc' := [(0, .ref 0), (1, .int (nI t)), (2, .int (nI lo)), (3, .int (nI hi))]) (stk' := []) (mem' := fm g tp bt a b) (by intro _ _ _; eq_refl) ?_
      by_cases e : sp_v T n p ≤ hi
      · rw [show fx_cb .le (nI (sp_v T n p)) (nI hi) = true from cb_leT (a := sp_v T n p) (b := hi) (by omega) (by omega) e]
        exact q1 e
      · rw [show fx_cb .le (nI (sp_v T n p)) (nI hi) = false from cb_leF (a := sp_v T n p) (b := hi) (by omega) (by omega) e]
        exact q2 e
    by_cases hr : lo ≤ sp_v T n p ∧ sp_v T n p ≤ hi
    · obtain ⟨g', m1, m2, m3⟩ := mr_aheado (tp := tp) (bt := bt) (b := b) (mT_u (t := 1) (i := t) (x := nI (sp_v T n p)) (by decide) hT) h (by omega)
      refine ⟨1, g', fm_u a 1 t (nI (sp_v T n p)), fr_meth (by rfl) (by rfl) (start _ (two _ (fun _ => three _ (fun _ => ?_) (fun z => absurd hr.2 z)) (fun z => absurd hr.1 z))), m2, Or.inl ⟨hk, hr, rfl, rfl, m3⟩⟩
      refine fr_s 5 (pc' := 45) (lc' := [(0, .ref 0), (1, .int (nI t)), (2, .int (nI lo)), (3, .int (nI hi))]) (stk' := [.int (g 15), .int (nI t), .ref 1]) (mem' := fm g tp bt a b) (by intro _ _ _; eq_refl) ?_
      rw [h15]
      refine fr_stI (mem' := fm g tp bt (fm_u a 1 (nI t).toNatClampNeg (nI (sp_v T n p))) b) (by rfl) (by rfl) (fx_inN (i := t) (by omega) (by omega)) fm_si1 ?_
      rw [show (nI t).toNatClampNeg = t from nI_clamp (by omega)]
      refine fr_s 1 (pc' := 47) (lc' := [(0, .ref 0), (1, .int (nI t)), (2, .int (nI lo)), (3, .int (nI hi))]) (stk' := [.ref 0]) (mem' := fm g tp bt (fm_u a 1 t (nI (sp_v T n p))) b) (by intro _ _ _; eq_refl) ?_
      refine fr_ivV m1 (by omega) (by rfl) (by rfl) (by rfl) (by rfl) (by rfl) (by rfl) ?_
      refine fr_s 1 (pc' := 51) (lc' := [(0, .ref 0), (1, .int (nI t)), (2, .int (nI lo)), (3, .int (nI hi))]) (stk' := [.int 1]) (mem' := fm g' tp bt (fm_u a 1 t (nI (sp_v T n p))) b) (by intro _ _ _; eq_refl) ?_
      exact fr_ret (by rfl) (by rfl) (by rfl)
    · refine ⟨0, g4, a, fr_meth (by rfl) (by rfl) (start _ (two _ (fun z => three _ (fun z2 => absurd ⟨z, z2⟩ hr) (fun _ => bad)) (fun _ => bad))), k2, Or.inr (Or.inl ⟨hk, hr, rfl, rfl, k3⟩)⟩
  · obtain ⟨g', k1, k2, k3⟩ := mr_fails2 (tp := tp) (bt := bt) (a := a) (b := b) h
    refine ⟨0, g', a, fr_meth (by rfl) (by rfl) ?_, k2, Or.inr (Or.inr ⟨hk, rfl, rfl, k3⟩)⟩
    refine fr_s 3 (pc' := 5) (lc' := [(0, .ref 0), (1, .int (nI t)), (2, .int (nI lo)), (3, .int (nI hi))]) (stk' := [.int 3, .int (g 12)]) (mem' := fm g tp bt a b) (by intro _ _ _; eq_refl) ?_
    rw [h12]
    refine fr_s 1 (pc' := cond (fx_cb .eq (nI (mkd (sp_k T n p))) 3) 14 8) (lc' := [(0, .ref 0), (1, .int (nI t)), (2, .int (nI lo)), (3, .int (nI hi))]) (stk' := []) (mem' := fm g tp bt a b) (by intro _ _ _; eq_refl) ?_
    rw [show fx_cb .eq (nI (mkd (sp_k T n p))) 3 = false from cb_eqF (a := mkd (sp_k T n p)) (b := 3) (by omega) (by omega) (by omega)]
    refine fr_s 2 (pc' := 10) (lc' := [(0, .ref 0), (1, .int (nI t)), (2, .int (nI lo)), (3, .int (nI hi))]) (stk' := [.int 2, .ref 0]) (mem' := fm g tp bt a b) (by intro _ _ _; eq_refl) ?_
    refine fr_ivV k1 (by omega) (by rfl) (by rfl) (by rfl) (by rfl) (by rfl) (by rfl) ?_
    exact fr_ret (by rfl) (by rfl) (by rfl)
theorem sp_nm_dec : sp_nm T n p ∨ ¬ sp_nm T n p := Classical.em _
theorem mr_isName (hT : mT a T n) (h : mo g T n p) : ∃ v : Int32, fr_T 3 232 [.ref 0, .ref 22] (fm g tp bt a b) (some (.int v)) (fm g tp bt a b) ∧ (sp_nm T n p ∧ v = 1 ∨ ¬ sp_nm T n p ∧ v = 0) := by
  have hm := mkd_1 (sp_k4 (T := T) (n := n) (p := p))
  have hs := mr_inWords (tp := tp) (bt := bt) (b := b) hT h.1 h.2.1
  obtain ⟨h0, ⟨h11, h13, ⟨e, h14, h2, h3, h4⟩, h12, -⟩, h18, h17⟩ := h
  have hle := sp_kw_le (sp_wd T n p)
  have hb := hT.1
  by_cases hk : sp_k T n p = 1
  · have he := h4 (by omega)
    have hsn := sp_n_ge (T := T) (n := n) (p := p)
    have go : ∀ R, fr_R 2 gk_m232 19 [(0, .ref 0), (1, .ref 22)] [.int 8, .int (nI (sp_n T n p - sp_s T n p))] (fm g tp bt a b) R → fr_R 2 gk_m232 0 (lv_args 0 [.ref 0, .ref 22]) [] (fm g tp bt a b) R := fun R hR => by
      refine fr_s 3 (pc' := 5) (lc' := [(0, .ref 0), (1, .ref 22)]) (stk' := [.int 2, .int (g 12)]) (mem' := fm g tp bt a b) (by intro _ _ _; eq_refl) ?_
      rw [h12, hk]
      refine fr_s 6 (pc' := 17) (lc' := [(0, .ref 0), (1, .ref 22)]) (stk' := [.int (g 14 - g 13)]) (mem' := fm g tp bt a b) (by intro _ _ _; eq_refl) ?_
      rw [h14, h13, he, tg_sub2 (x := sp_n T n p) (y := sp_s T n p) (by omega)]
      exact fr_s 1 (pc' := 19) (lc' := [(0, .ref 0), (1, .ref 22)]) (stk' := [.int 8, .int (nI (sp_n T n p - sp_s T n p))]) (mem' := fm g tp bt a b) (fun _ _ _ => rfl) hR
    have hnn : sp_n T n p ≤ n := sp_n_le h0
    by_cases h8 : sp_n T n p ≤ sp_s T n p + 8
    · have mid : ∀ R, fr_R 2 gk_m232 27 [(0, .ref 0), (1, .ref 22)] [.int (sp_mw T n p)] (fm g tp bt a b) R → fr_R 2 gk_m232 0 (lv_args 0 [.ref 0, .ref 22]) [] (fm g tp bt a b) R := fun R hR => by
        refine go _ ?_
        refine fr_s 1 (pc' := cond (fx_cb .gt (nI (sp_n T n p - sp_s T n p)) 8) 35 22) (lc' := [(0, .ref 0), (1, .ref 22)]) (stk' := []) (mem' := fm g tp bt a b) (by intro _ _ _; eq_refl) ?_
        rw [show fx_cb .gt (nI (sp_n T n p - sp_s T n p)) 8 = false from cb_gtF (a := sp_n T n p - sp_s T n p) (b := 8) (by omega) (by omega) (by omega)]
        refine fr_s 2 (pc' := 24) (lc' := [(0, .ref 0), (1, .ref 22)]) (stk' := [.ref 22, .ref 0]) (mem' := fm g tp bt a b) (by intro _ _ _; eq_refl) ?_
        exact fr_ivV hs (by omega) (by rfl) (by rfl) (by rfl) (by rfl) (by rfl) (by rfl) hR
      by_cases hw : sp_kw (sp_wd T n p) < 23
      · refine ⟨0, fr_meth (by rfl) (by rfl) (mid _ ?_), Or.inr ⟨fun z => by have := z.2.2; omega, rfl⟩⟩
        rw [show sp_mw T n p = nI (sp_pm.getD (sp_kw (sp_wd T n p)) 0) from if_pos ⟨hk, hw⟩]
        have h23 := (mw_all _ hw).1
        refine fr_s 2 (pc' := cond (fx_cb .ne (nI (sp_pm.getD (sp_kw (sp_wd T n p)) 0)) (-1)) 35 31) (lc' := [(0, .ref 0), (1, .ref 22)]) (stk' := []) (mem' := fm g tp bt a b) (by intro _ _ _; eq_refl) ?_
        rw [show fx_cb .ne (nI (sp_pm.getD (sp_kw (sp_wd T n p)) 0)) (-1) = true from cb_n_ne (by omega) (by decide)]
        refine fr_s 1 (pc' := 36) (lc' := [(0, .ref 0), (1, .ref 22)]) (stk' := [.int 0]) (mem' := fm g tp bt a b) (by intro _ _ _; eq_refl) ?_
        exact fr_ret (by rfl) (by rfl) (by rfl)
      · refine ⟨1, fr_meth (by rfl) (by rfl) (mid _ ?_), Or.inl ⟨⟨hk, h8, by omega⟩, rfl⟩⟩
        rw [show sp_mw T n p = -1 from if_neg (fun z => hw z.2)]
        refine fr_s 4 (pc' := 36) (lc' := [(0, .ref 0), (1, .ref 22)]) (stk' := [.int 1]) (mem' := fm g tp bt a b) (by intro _ _ _; eq_refl) ?_
        exact fr_ret (by rfl) (by rfl) (by rfl)
    · refine ⟨0, fr_meth (by rfl) (by rfl) (go _ ?_), Or.inr ⟨fun z => h8 z.2.1, rfl⟩⟩
      refine fr_s 1 (pc' := cond (fx_cb .gt (nI (sp_n T n p - sp_s T n p)) 8) 35 22) (lc' := [(0, .ref 0), (1, .ref 22)]) (stk' := []) (mem' := fm g tp bt a b) (by intro _ _ _; eq_refl) ?_
      rw [show fx_cb .gt (nI (sp_n T n p - sp_s T n p)) 8 = true from cb_gtT (a := sp_n T n p - sp_s T n p) (b := 8) (by omega) (by omega) (by omega)]
      refine fr_s 1 (pc' := 36) (lc' := [(0, .ref 0), (1, .ref 22)]) (stk' := [.int 0]) (mem' := fm g tp bt a b) (by intro _ _ _; eq_refl) ?_
      exact fr_ret (by rfl) (by rfl) (by rfl)
  · refine ⟨0, fr_meth (by rfl) (by rfl) ?_, Or.inr ⟨fun z => hk z.1, rfl⟩⟩
    refine fr_s 3 (pc' := 5) (lc' := [(0, .ref 0), (1, .ref 22)]) (stk' := [.int 2, .int (g 12)]) (mem' := fm g tp bt a b) (by intro _ _ _; eq_refl) ?_
    rw [h12]
    refine fr_s 1 (pc' := cond (fx_cb .ne (nI (mkd (sp_k T n p))) 2) 35 8) (lc' := [(0, .ref 0), (1, .ref 22)]) (stk' := []) (mem' := fm g tp bt a b) (by intro _ _ _; eq_refl) ?_
    rw [show fx_cb .ne (nI (mkd (sp_k T n p))) 2 = true from cb_neT (a := mkd (sp_k T n p)) (b := 2) (by omega) (by omega) (by omega)]
    refine fr_s 1 (pc' := 36) (lc' := [(0, .ref 0), (1, .ref 22)]) (stk' := [.int 0]) (mem' := fm g tp bt a b) (by intro _ _ _; eq_refl) ?_
    exact fr_ret (by rfl) (by rfl) (by rfl)
theorem fm_nmf_c (hT : mT a T n) : ∀ (r k s : Nat), s ≤ k → k + r ≤ n → fm_nmf a n r k (Int64.ofNat (sp_c8 (sp_L T s (k - s)))) = Int64.ofNat (sp_c8 (sp_L T s (k + r - s))) := by
  intro r
  induction r with
  | zero => intro k s _ _; rfl
  | succ r ih =>
    intro k s hs hk
    show fm_nmf a n r (k + 1) (Int64.ofNat (sp_c8 (sp_L T s (k - s))) <<< ((8 : Int32).toInt64 &&& 63) ||| (fm_byte a n k).toInt64) = _
    have h255 := (hT.2 k (by omega)).1
    rw [mb_in hT (by omega), mc_step (by omega)]
    have e : sp_c8 (sp_L T s (k - s)) * 256 + T k = sp_c8 (sp_L T s (k + 1 - s)) := by
      rw [show k + 1 - s = (k - s) + 1 by omega, sp_L_s, sp_c8_s, show s + (k - s) = k by omega]
    rw [e, ih (k + 1) s (by omega) (by omega), show k + 1 + r - s = k + (r + 1) - s by omega]
theorem fm_nm_c (hT : mT a T n) (hp : p ≤ n) : fm_nm a n (sp_s T n p) (sp_n T n p) = Int64.ofNat (sp_c8 (sp_wd T n p)) := by
  have hge := sp_n_ge (T := T) (n := n) (p := p)
  have hle := sp_n_le (T := T) hp
  have h := fm_nmf_c hT (sp_n T n p - sp_s T n p) (sp_s T n p) (sp_s T n p) (Nat.le_refl _) (by omega)
  rw [Nat.sub_self, show sp_s T n p + (sp_n T n p - sp_s T n p) - sp_s T n p = sp_n T n p - sp_s T n p by omega] at h
  exact h
theorem mr_nameHere (hT : mT a T n) (h : mo g T n p) (hk : sp_nm T n p) : fr_T 2 233 [.ref 0] (fm g tp bt a b) (some (.long (Int64.ofNat (sp_c8 (sp_wd T n p))))) (fm g tp bt a b) := by
  obtain ⟨e, hx, he⟩ := mtk_xp hT.1 h.2.1
  have := fr_nameHere (tp := tp) (bt := bt) (a := a) (b := b) hx
  rw [he (by have := hk.1; omega), fm_nm_c hT h.1] at this
  exact this
theorem mr_findHere {base many : Nat} (hT : mT a T n) (h : mo g T n p) (hk : sp_nm T n p) (hbm : base + many ≤ 108) : ∃ v : Int32, fr_T 4 234 [.ref 0, .int (nI base), .int (nI many)] (fm g tp bt a b) (some (.int v)) (fm g tp bt a b) ∧ sp_is (fun k => b 2 (base + k)) many (Int64.ofNat (sp_c8 (sp_wd T n p))) v := by
  obtain ⟨e, hx, he⟩ := mtk_xp hT.1 h.2.1
  obtain ⟨v, mem', ⟨w, h1, hR⟩, h2⟩ := fr_findHere (tp := tp) (bt := bt) (a := a) (b := b) (base := base) (many := many) hx hbm
  cases hR
  rw [he (by have := hk.1; omega), fm_nm_c hT h.1] at h1
  exact ⟨w, h2, h1⟩
end MRD
end MH20_4
