/-! ===== the tape in both worlds: feed, lake, tales ===== -/
/-- how many bytes, and which -/
def tp_V (zl : Nat × Nat) (ja : Nat) (ws : va_W) (s : Nat) (f : Nat → Int32) : Prop := s ≤ 900 ∧ lw_at ws zl = some (.int (nI s)) ∧ ∀ i, i < 900 → lw_at ws (ja, i) = some (.int (f i))
abbrev tp_S : Type := List Value → Nat → (Nat → Int32) → Nat → (Nat → Int32) → Value → Prop
def tp_Q (zl : Nat × Nat) (ja : Nat) (S : tp_S) : List Value → va_W → va_W → Value → Prop := fun av ws ws' v => ∃ (s : Nat) (f : Nat → Int32) (s' : Nat) (f' : Nat → Int32), tp_V zl ja ws s f ∧ tp_V zl ja ws' s' f' ∧ S av s f s' f' v
def fe_S : tp_S := fun av s f s' f' v => ∃ v0 v1 v2 v3 v4 : Int32, av = [.int v0, .int v1, .int v2, .int v3, .int v4] ∧ ((s ≤ 880 ∧ s' = s + 20 ∧ v = .int (nI (s + 20)) ∧ ∀ i, i < 900 → f' i = t20 f s v0 v1 v2 v3 v4 i) ∨ (880 < s ∧ s' = s ∧ v = .int (-1) ∧ ∀ i, i < 900 → f' i = f i))
/-- what lake() answers -/
def sp_ans (r : sp_R) : Int32 := match r with
  | .inl _ => -1
  | .inr z => nI z.1.1.1.length
def la_S : tp_S := fun av s f s' f' v => ∃ n : Int32, av = [.int n] ∧ (∀ i, i < 900 → f' i = f i) ∧ ((¬ (0 ≤ n.toInt ∧ n.toInt ≤ (s : Int)) ∧ s' = s ∧ v = .int (-1)) ∨ ∃ N, n = nI N ∧ N ≤ s ∧ s' = 0 ∧ v = .int (sp_ans (sp_lake (sp_T f N) N)))
def ta_S : tp_S := fun av s f s' f' v => ∃ n : Int32, av = [.int n] ∧ lr_ty 0 v ∧ (∀ i, i < 900 → f' i = f i) ∧ ((¬ (0 ≤ n.toInt ∧ n.toInt ≤ (s : Int) ∧ n.toInt ≤ 300) ∧ s' = s) ∨ ((0 ≤ n.toInt ∧ n.toInt ≤ (s : Int) ∧ n.toInt ≤ 300) ∧ s' = 0))
/-- what binds the tapes -/
def tp_R (c m : va_W) : Prop := ∃ (s : Nat) (f h : Nat → Int32), tp_V (9, 2) 10 c s f ∧ tp_V (0, 10) 6 m s h ∧ ∀ i, i < s → f i = h i
section TPR
variable {zl : Nat × Nat} {ja : Nat} {ws c m : va_W} {s s2 s' s2' : Nat} {f f2 f' f2' h h' : Nat → Int32} {u w : Value} {av : List Value}
theorem tp_V_un (h1 : tp_V zl ja ws s f) (h2 : tp_V zl ja ws s2 f2) : s = s2 ∧ ∀ i, i < 900 → f i = f2 i := by
  obtain ⟨a1, a2, a3⟩ := h1
  obtain ⟨b1, b2, b3⟩ := h2
  refine ⟨nI_injS (by omega) (by omega) (a2.symm.trans b2), fun i hi => ?_⟩
  have e := (a3 i hi).symm.trans (b3 i hi)
  exact Value.int.inj (Option.some.inj e)
theorem tp_get (hR : tp_R c m) (h1 : tp_V (9, 2) 10 c s f) (h2 : tp_V (0, 10) 6 m s2 h) : s = s2 ∧ ∀ i, i < s → f i = h i := by
  obtain ⟨s0, f0, h0, a1, a2, a3⟩ := hR
  obtain ⟨e1, e2⟩ := tp_V_un h1 a1
  obtain ⟨e3, e4⟩ := tp_V_un h2 a2
  subst e1
  refine ⟨e3.symm, fun i hi => ?_⟩
  have := h1.1
  rw [e2 i (by omega), e4 i (by omega)]
  exact a3 i hi
theorem fe_int {c0 c1 : va_W} {v : Value} (h : tp_Q zl ja fe_S av c0 c1 v) : lr_ty 0 v := by
  obtain ⟨s, f, s', f', -, -, v0, v1, v2, v3, v4, -, ⟨-, -, rfl, -⟩ | ⟨-, -, rfl, -⟩⟩ := h
  · exact ⟨_, rfl⟩
  · exact ⟨_, rfl⟩
theorem la_int {c0 c1 : va_W} {v : Value} (h : tp_Q zl ja la_S av c0 c1 v) : lr_ty 0 v := by
  obtain ⟨s, f, s', f', -, -, n, -, -, ⟨-, -, rfl⟩ | ⟨N, -, -, -, rfl⟩⟩ := h
  · exact ⟨_, rfl⟩
  · exact ⟨_, rfl⟩
theorem ta_int {c0 c1 : va_W} {v : Value} (h : tp_Q zl ja ta_S av c0 c1 v) : lr_ty 0 v := by
  obtain ⟨s, f, s', f', -, -, n, -, hv, -⟩ := h
  exact hv
theorem fe_rel {c0 c1 m0 m1 : va_W} (hR : tp_R c0 m0) (h1 : tp_Q (9, 2) 10 fe_S av c0 c1 u) (h2 : tp_Q (0, 10) 6 fe_S av m0 m1 w) : u = w ∧ tp_R c1 m1 := by
  obtain ⟨s, f, s', f', a1, a2, v0, v1, v2, v3, v4, rfl, a3⟩ := h1
  obtain ⟨s2, f2, s2', f2', b1, b2, x0, x1, x2, x3, x4, e, b3⟩ := h2
  cases e
  obtain ⟨rfl, hf⟩ := tp_get hR a1 b1
  rcases a3 with ⟨p1, rfl, rfl, p4⟩ | ⟨p1, rfl, rfl, p4⟩ <;> rcases b3 with ⟨q1, rfl, rfl, q4⟩ | ⟨q1, rfl, rfl, q4⟩
  · refine ⟨rfl, _, f', f2', a2, b2, fun i hi => ?_⟩
    rw [p4 i (by omega), q4 i (by omega)]
    exact t20_eq hf i hi
  · omega
  · omega
  · refine ⟨rfl, _, f', f2', a2, b2, fun i hi => ?_⟩
    have := a1.1
    rw [p4 i (by omega), q4 i (by omega)]
    exact hf i hi
theorem la_rel {c0 c1 m0 m1 : va_W} (hR : tp_R c0 m0) (h1 : tp_Q (9, 2) 10 la_S av c0 c1 u) (h2 : tp_Q (0, 10) 6 la_S av m0 m1 w) : u = w ∧ tp_R c1 m1 := by
  obtain ⟨s, f, s', f', a1, a2, n, rfl, a0, a3⟩ := h1
  obtain ⟨s2, f2, s2', f2', b1, b2, n2, e, b0, b3⟩ := h2
  cases e
  obtain ⟨rfl, hf⟩ := tp_get hR a1 b1
  have h9 := a1.1
  rcases a3 with ⟨p1, rfl, rfl⟩ | ⟨N, rfl, p2, rfl, rfl⟩ <;> rcases b3 with ⟨q1, rfl, rfl⟩ | ⟨N2, e, q2, rfl, rfl⟩
  · refine ⟨rfl, _, f', f2', a2, b2, fun i hi => ?_⟩
    rw [a0 i (by omega), b0 i (by omega)]
    exact hf i hi
  · subst e
    exact absurd ⟨by rw [nI_i32 (by omega)]; omega, by rw [nI_i32 (by omega)]; omega⟩ p1
  · exact absurd ⟨by rw [nI_i32 (by omega)]; omega, by rw [nI_i32 (by omega)]; omega⟩ q1
  · have e2 : N = N2 := nI_injS (by omega) (by omega) (by rw [e])
    subst e2
    rw [sp_T_eq (f := f) (f' := f2) (n := N) (fun k hk => hf k (by omega))]
    exact ⟨rfl, 0, f', f2', a2, b2, fun i hi => absurd hi (Nat.not_lt_zero i)⟩
theorem ta_rel {c0 c1 m0 m1 : va_W} (hR : tp_R c0 m0) (h1 : tp_Q (9, 2) 10 ta_S av c0 c1 u) (h2 : tp_Q (0, 10) 6 ta_S av m0 m1 w) : tp_R c1 m1 := by
  obtain ⟨s, f, s', f', a1, a2, n, rfl, -, a0, a3⟩ := h1
  obtain ⟨s2, f2, s2', f2', b1, b2, n2, e, -, b0, b3⟩ := h2
  cases e
  obtain ⟨rfl, hf⟩ := tp_get hR a1 b1
  have h9 := a1.1
  rcases a3 with ⟨p1, rfl⟩ | ⟨p1, rfl⟩ <;> rcases b3 with ⟨q1, rfl⟩ | ⟨q1, rfl⟩
  · refine ⟨_, f', f2', a2, b2, fun i hi => ?_⟩
    rw [a0 i (by omega), b0 i (by omega)]
    exact hf i hi
  · exact absurd q1 p1
  · exact absurd p1 q1
  · exact ⟨0, f', f2', a2, b2, fun i hi => absurd hi (Nat.not_lt_zero i)⟩
def tp_WC : List (Nat × Nat) := (9, 2) :: (List.range 900).map (fun i => (10, i))
def tp_WM : List (Nat × Nat) := (0, 10) :: (List.range 900).map (fun i => (6, i))
theorem tp_V_keep {ws' : va_W} (hV : tp_V zl ja ws s f) (hk : ∀ z ∈ zl :: (List.range 900).map (fun i => (ja, i)), lw_at ws' z = lw_at ws z) : tp_V zl ja ws' s f := ⟨hV.1, (hk _ List.mem_cons_self).trans hV.2.1, fun i hi => (hk _ (List.mem_cons_of_mem _ (List.mem_map.mpr ⟨i, List.mem_range.mpr hi, rfl⟩))).trans (hV.2.2 i hi)⟩
theorem tp_un {c0 c1 m0 m1 : va_W} (hR : tp_R c0 m0) (hC : ∀ z ∈ tp_WC, lw_at c1 z = lw_at c0 z) (hM : ∀ z ∈ tp_WM, lw_at m1 z = lw_at m0 z) : tp_R c1 m1 := by
  obtain ⟨s, f, h, a1, a2, a3⟩ := hR
  exact ⟨s, f, h, tp_V_keep a1 hC, tp_V_keep a2 hM, a3⟩
end TPR
/-- the reserved words, as they stand in the class's world -/
def rwC (ws : va_W) : Prop := ∀ (k : Nat) (w : List Nat), sp_KW[k]? = some w → lw_at ws (11, k) = some (.long (Int64.ofNat (sp_cd w)))
/-- the references and the reserved words stand -/
def h2_X (ws : va_W) : Prop := hg_X ws ∧ rwC ws
def h2_W : List (Nat × Nat) := gs_L.map (fun z => (z.1, z.2.1)) ++ (List.range 23).map (fun i => (11, i))
theorem lw_sem_h2 {l : Launch} {D : va_G} {xt : tk_XT} {ads : List Nat} {d f : Nat} {kinds : List Nat} {envs : List tk_I} {Q : List Value → va_W → va_W → Value → Prop} (h : lw_sem l D xt gc_TY (gc_X lw_twC) ads lw_twC d f kinds envs Q) (hQ : ∀ av ws ws' v, Q av ws ws' v → ∀ z ∈ h2_W, lw_at ws' z = lw_at ws z) : lw_sem l D xt gc_TY h2_X ads lw_twC d f kinds envs Q := by
  have h0 := lw_sem_gs h (fun av ws ws' v hq z hz => hQ av ws ws' v hq _ (List.mem_append_left _ (List.mem_map.mpr ⟨z, hz, rfl⟩)))
  intro q hq
  obtain ⟨M, h1, h2, h3⟩ := h0 q hq
  refine ⟨M, h1, h2, fun ax ws av sz a1 a2 a3 a4 => rk_Met_case (fun aU U hP => ?_)⟩
  obtain ⟨p1, p2, p3, p4, p5, p6, p7, p8, p10⟩ := hP
  refine ⟨_, _, h3 ax ws av sz a1 a2 a3 a4, ⟨p1, p2, p3, p4, p5, p6, p7, p8, p10.1⟩, ?_⟩
  rintro oc t - ⟨⟨ws', v, b1, b2, b3, b4, b5, b6, b7⟩, hF⟩
  refine ⟨⟨ws', v, b1, b2, b3, b4, ⟨b5, fun k w hw => ?_⟩, b6, b7⟩, hF⟩
  rw [hQ _ _ _ _ b6 (11, k) (List.mem_append_right _ (List.mem_map.mpr ⟨k, List.mem_range.mpr (List.getElem?_eq_some_iff.mp hw).1, rfl⟩))]
  exact p10.2 k w hw
theorem hc_bdB {ads : List Nat} {U : State} {ws : va_W} (h5 : rk_A2 (fun b (q : Nat × va_E) => tk_cl gc_TY lc_ro ads lw_twC U b q.2) lw_twC ws) {j t n : Nat} {lo hi : Int} (ht : lw_twC[j]? = some t) (hk : gc_ty[t]? = some (.inr (.byte, n, (0, lo, hi)))) : ∀ i, i < n → lo ≤ (ca ws j i).toInt ∧ (ca ws j i).toInt ≤ hi := by
  obtain ⟨q, hq, hc⟩ := h5.get ht
  unfold tk_cl at hc
  rw [show gc_TY.1[t]? = _ from hk] at hc
  obtain ⟨cA, -, -, h3⟩ := hc
  obtain ⟨f, e, h3⟩ := (show ∃ f : Nat → Int32, q.2 = .inl (cA, n, .inl f) ∧ ∀ i, i < n → tk_fv lc_ro gc_TY.2.1 ads lw_twC t i (0, lo, hi) (.int (f i)) from h3)
  have e2 : ca ws j = f := by
    unfold ca
    rw [hq, show q = (q.1, q.2) from rfl, e]
  intro i hlt
  obtain ⟨x, hx, h1, h2⟩ := (show ∃ x : Int32, Value.int (f i) = .int x ∧ lo ≤ x.toInt ∧ x.toInt ≤ hi from h3 i hlt)
  cases hx
  rw [e2]
  exact ⟨h1, h2⟩
section TPS
variable {l : Launch} {D : va_G} {xt : tk_XT} {ads : List Nat}
/-- a call of the class, told of the tape -/
theorem tp_semC (hxt : tk_xtok xt) {k f : Nat} {kinds : List Nat} {envs : List tk_I} {S : tp_S} {Q0 : List Value → va_W → va_W → Value → Prop} (hd : k + 4 ≤ 20) (hK : lw_sem l D xt gc_TY h2_X ads lw_twC 20 f kinds envs Q0)
    (hex : ∀ (rest : List Value) (g : Nat → Nat → Int32) (l' : Nat → Nat → Int64) (a : Nat → Nat → Int32) (b : Nat → Nat → Int64) (R : fx_M) (s : Nat), rk_A2 lq_av (kinds.zip envs) rest → s ≤ 900 → g 9 2 = nI s → (∀ i, i < 900 → (-128 : Int) ≤ (a 10 i).toInt ∧ (a 10 i).toInt ≤ 127) → cr (b 11) → ∃ (v : Value) (g' : Nat → Nat → Int32) (l'' : Nat → Nat → Int64) (a' : Nat → Nat → Int32) (b' : Nat → Nat → Int64) (s' : Nat), fx_kd v ≤ 1 ∧ hr_T k f (.ref 0 :: rest) (cm g l' a b R) (some v) (cm g' l'' a' b' R) ∧ s' ≤ 900 ∧ g' 9 2 = nI s' ∧ S rest s (a 10) s' (a' 10) v) : lw_sem l D xt gc_TY h2_X ads lw_twC 20 f kinds envs (tp_Q (9, 2) 10 S) := by
  refine lw_sem_imp (hc_sem2 (Q1 := fun rest ws mem' v => ∃ (s : Nat) (f0 : Nat → Int32) (s' : Nat) (f' : Nat → Int32) (vs : List Value), tp_V (9, 2) 10 ws s f0 ∧ s' ≤ 900 ∧ mem'[9]? = some (.inl (8, vs)) ∧ vs.length = 12 ∧ vs[2]? = some (.int (nI s')) ∧ mem'[10]? = some (.inr (.byte, 900, .inl f')) ∧ S rest s f0 s' f' v) hxt hd hK (fun U ax rest ws hty hrest h5 h4 hD hX => ?_)) ?_
  · obtain ⟨e, e2, yr, s, hw, hat, hty2, hw2, hs, hat2⟩ := fd_wC hty h4 h5
    have hcm := hc_cm h4 h5 hD hX.1.2
    generalize (hc_mem ads lw_twC ws).drop 67 = R0 at hcm
    have hl : ws.length = lw_twC.length := h5.len.symm
    have gq : ∀ j, j < 67 → ∃ q, ws[j]? = some q := fun j hj => ⟨_, List.getElem?_eq_getElem (by rw [hl, lw_lenC]; omega)⟩
    obtain ⟨q9, k9⟩ := gq 9 (by decide)
    obtain ⟨q10, k10⟩ := gq 10 (by decide)
    obtain ⟨q11, k11⟩ := gq 11 (by decide)
    have m9 := hw_at0 (i := 2) h4 h5 k9 (by rw [hcm]; rfl)
    have m10 := fun i => hw_at0 (i := i) h4 h5 k10 (by rw [hcm]; rfl)
    have m11 := fun i => hw_at0 (i := i) h4 h5 k11 (by rw [hcm]; rfl)
    have e9 : cg ws 9 2 = nI s := by
      have h9 : lw_at ws (9, 2) = some (.int (cg ws 9 2)) := m9
      rw [hat2] at h9
      exact (Value.int.inj (Option.some.inj h9)).symm
    have e10 : ∀ i, i < 900 → lw_at ws (10, i) = some (.int (ca ws 10 i)) := fun i hi => by
      rw [m10 i]
      show (if i < 900 then some (Value.int (ca ws 10 i)) else none) = _
      rw [if_pos hi]
    have e11 : cr (cb ws 11) := fun k w hw => by
      have hk : k < 23 := (List.getElem?_eq_some_iff.mp hw).1
      have h1 := hX.2 k w hw
      rw [m11 k] at h1
      have h1 : (if k < 23 then some (Value.long (cb ws 11 k)) else none) = _ := h1
      rw [if_pos hk] at h1
      exact Value.long.inj (Option.some.inj h1)
    have b10 := hc_bdB h5 (show lw_twC[10]? = some 7 by decide +kernel) rfl
    obtain ⟨v, g', l'', a', b', s', z1, z2, z3, z4, z5⟩ := hex rest (cg ws) (cl_ ws) (ca ws) (cb ws) R0 s hrest hs e9 b10 e11
    exact ⟨v, cm g' l'' a' b' R0, z1, by rw [hcm]; exact z2, s, ca ws 10, s', a' 10, co9 (g' 9) (l'' 9), ⟨hs, hat2, e10⟩, z3, rfl, rfl, by show some (Value.int (g' 9 2)) = _; rw [z4], rfl, z5⟩
  · rintro av ws ws' v - ⟨-, mem', ⟨s, f0, s', f', vs, h1, h2, h3, h4, h5, h6, h7⟩, h8⟩
    exact ⟨s, f0, s', f', h1, ⟨h2, hc_two_O h8 (show lw_twC[9]? = some 6 by decide +kernel) rfl rfl rfl h4 h3 h5 (Nat.zero_le 1), fun i hi => hc_two_I h8 (show lw_twC[10]? = some 7 by decide +kernel) rfl (Or.inr rfl) h6 i hi⟩, h7⟩
/-- a call of the model -/
theorem tp_semM (hst : ∀ (Ad : Nat → Prop) (U : State) (H : Heap), xt Ad U H → ∃ pl v tx, sk_X pl v Ad U H ∧ vk_R "GooseIceModel" 189 tx pl U) {k f n : Nat} {mods : List (Nat × Nat)} (hM : fm_ms mods) {S : tp_S}
    (hex : ∀ (g : Nat → Int32) (tp bt : Int64) (a : Nat → Nat → Int32) (b : Nat → Nat → Int64) (xs : List Int32) (s : Nat), xs.length = n → fm_I g a → s ≤ 900 → g 10 = nI s → ∃ (v : Int32) (g' : Nat → Int32) (tp' bt' : Int64) (a' : Nat → Nat → Int32) (b' : Nat → Nat → Int64) (s' : Nat), fr_T k f (.ref 0 :: xs.map Value.int) (fm g tp bt a b) (some (.int v)) (fm g' tp' bt' a' b') ∧ fm_I g' a' ∧ fm_ffr mods g a b g' a' b' ∧ s' ≤ 900 ∧ g' 10 = nI s' ∧ S (xs.map Value.int) s (a 6) s' (a' 6) (.int v)) : lw_sem l D xt gn_TY (gn_X lw_twM) ads lw_twM (k + 4) f (List.replicate n 0) (List.replicate n gn_i) (tp_Q (0, 10) 6 S) := by
  refine lw_sem_imp (fm_sem (k := k) (f := f) (n := n) hst gn_fmTy hM (Q := fun xs g _ _ a _ g' _ _ a' _ v => ∃ s s' : Nat, s ≤ 900 ∧ g 10 = nI s ∧ s' ≤ 900 ∧ g' 10 = nI s' ∧ S (xs.map Value.int) s (a 6) s' (a' 6) (.int v)) (fun g tp bt a b xs hx hI => ?_)) ?_
  · obtain ⟨s, hs, es⟩ := fm_I_10 hI
    obtain ⟨v, g', tp', bt', a', b', s', z1, z2, z3, z4, z5, z6⟩ := hex g tp bt a b xs s hx hI hs es
    exact ⟨v, g', tp', bt', a', b', z1, z2, z3, s, s', hs, es, z4, z5, z6⟩
  · rintro av ws ws' v - ⟨xs, g, tp, bt, a, b, g', tp', bt', a', b', x, rfl, rfl, k1, k2, -, -, s, s', z1, z2, z3, z4, z5⟩
    refine ⟨s, a 6, s', a' 6, ⟨z1, ?_, fun i hi => k1.2.1 6 900 _ (a 6) i rfl hi⟩, ⟨z3, ?_, fun i hi => k2.2.1 6 900 _ (a' 6) i rfl hi⟩, z5⟩
    · rw [← z2]; exact k1.1 10 _ rfl (Nat.zero_le 1)
    · rw [← z4]; exact k2.1 10 _ rfl (Nat.zero_le 1)
/-! ===== feed ===== -/
theorem av5 {rest : List Value} (h : rk_A2 lq_av ([0, 0, 0, 0, 0].zip [gn_i, gn_i, gn_i, gn_i, gn_i]) rest) : ∃ v0 v1 v2 v3 v4 : Int32, rest = [.int v0, .int v1, .int v2, .int v3, .int v4] := by
  obtain ⟨x0, r0, rfl, k0⟩ := av_int h
  obtain ⟨x1, r1, rfl, k1⟩ := av_int k0
  obtain ⟨x2, r2, rfl, k2⟩ := av_int k1
  obtain ⟨x3, r3, rfl, k3⟩ := av_int k2
  obtain ⟨x4, r4, rfl, k4⟩ := av_int k3
  obtain rfl := k4.nil
  exact ⟨x0, x1, x2, x3, x4, rfl⟩
theorem fe_semC (hxt : tk_xtok xt) {Q0 : List Value → va_W → va_W → Value → Prop} (hK : lw_sem l D xt gc_TY h2_X ads lw_twC 20 134 [0, 0, 0, 0, 0] [gn_i, gn_i, gn_i, gn_i, gn_i] Q0) : lw_sem l D xt gc_TY h2_X ads lw_twC 20 134 [0, 0, 0, 0, 0] [gn_i, gn_i, gn_i, gn_i, gn_i] (tp_Q (9, 2) 10 fe_S) := by
  refine tp_semC (k := 2) hxt (by decide) hK (fun rest g l' a b R s hr hs hg hb hc => ?_)
  obtain ⟨v0, v1, v2, v3, v4, rfl⟩ := av5 hr
  by_cases h8 : s ≤ 880
  · obtain ⟨g', a', h1, h2, h3, -, -⟩ := ha_feed (g := g) (l := l') (a := a) (b := b) (R := R) (v0 := v0) (v1 := v1) (v2 := v2) (v3 := v3) (v4 := v4) hg h8
    exact ⟨.int (nI (s + 20)), g', l', a', b, s + 20, Nat.zero_le 1, h1, by omega, h2, v0, v1, v2, v3, v4, rfl, Or.inl ⟨h8, rfl, rfl, fun i _ => by rw [h3]⟩⟩
  · exact ⟨.int (-1), g, l', a, b, s, Nat.zero_le 1, ha_feedN hg (by omega) hs, hs, hg, v0, v1, v2, v3, v4, rfl, Or.inr ⟨by omega, rfl, rfl, fun i _ => rfl⟩⟩
def gn_MF : List (Nat × Nat) := (List.range 224).map (fun r => (1, r)) ++ [(0, 3), (0, 4), (0, 10), (6, 0)]
theorem gn_MF_ms : fm_ms gn_MF := ⟨gn_Mr _, List.mem_append_right _ (by decide), List.mem_append_right _ (by decide)⟩
theorem gm_gf10 : ∀ q ∈ gm_gf, q.1 = 10 → q = (10, 0, 900) := by decide
theorem gm_ar6 : ∀ q ∈ gm_ar, q.1 = 6 → q = (6, 900, (-128), 127) := by decide
theorem fe_semM (hst : ∀ (Ad : Nat → Prop) (U : State) (H : Heap), xt Ad U H → ∃ pl v tx, sk_X pl v Ad U H ∧ vk_R "GooseIceModel" 189 tx pl U) : lw_sem l D xt gn_TY (gn_X lw_twM) ads lw_twM 6 219 [0, 0, 0, 0, 0] [gn_i, gn_i, gn_i, gn_i, gn_i] (tp_Q (0, 10) 6 fe_S) := by
  refine tp_semM (k := 2) (n := 5) hst gn_MF_ms (fun g tp bt a b xs s hx hI hs es => ?_)
  obtain ⟨v0, r0, rfl, k0⟩ := fm_xsS hx
  obtain ⟨v1, r1, rfl, k1⟩ := fm_xsS k0
  obtain ⟨v2, r2, rfl, k2⟩ := fm_xsS k1
  obtain ⟨v3, r3, rfl, k3⟩ := fm_xsS k2
  obtain ⟨v4, r4, rfl, k4⟩ := fm_xsS k3
  obtain rfl := List.length_eq_zero_iff.mp k4
  by_cases h8 : s ≤ 880
  · obtain ⟨g', a', h1, h2, h3, h4, h5⟩ := ma_feed (g := g) (tp := tp) (bt := bt) (a := a) (b := b) (v0 := v0) (v1 := v1) (v2 := v2) (v3 := v3) (v4 := v4) es h8
    have hB : fm_B a' := fm_B_eq hI.2.1 (fun i => by rw [h5 1 (by decide)]) (fun i hi => by rw [h5 9 (by decide)]; exact hI.2.1.2.2 i hi)
    have hI2 : fm_I g' a' := ⟨fun q hq => by
      by_cases e : q.1 = 10
      · have e2 := gm_gf10 q hq e
        subst e2
        show (0 : Int) ≤ (g' 10).toInt ∧ (g' 10).toInt ≤ 900
        rw [h2, nI_i32 (by omega)]
        omega
      · rw [h3 q.1 e]
        exact hI.1 q hq, hB, fun q hq i hi => by
      by_cases e : q.1 = 6
      · have e2 := gm_ar6 q hq e
        subst e2
        show (-128 : Int) ≤ (a' 6 i).toInt ∧ (a' 6 i).toInt ≤ 127
        rw [h4]
        exact t20_bd (n := 900) (fun i hi => hI.2.2 (6, 900, (-128), 127) (by decide) i hi) i hi
      · rw [h5 q.1 e]
        exact hI.2.2 q hq i hi⟩
    have hF : fm_ffr gn_MF g a b g' a' b := ⟨fun k => by
      by_cases h : k = 10
      · subst h; exact Or.inl (List.mem_append_right _ (by decide))
      · exact Or.inr (h3 k h), fun t _ => by
      by_cases h : t = 6
      · subst h; exact Or.inl (List.mem_append_right _ (by decide))
      · exact Or.inr (h5 t h), fun t => Or.inr rfl⟩
    exact ⟨nI (s + 20), g', tp, bt, a', b, s + 20, h1, hI2, hF, by omega, h2, v0, v1, v2, v3, v4, rfl, Or.inl ⟨h8, rfl, rfl, fun i _ => by rw [h4]⟩⟩
  · exact ⟨-1, g, tp, bt, a, b, s, ma_feedN es (by omega) hs, hI, ⟨fun k => Or.inr rfl, fun t _ => Or.inr rfl, fun t => Or.inr rfl⟩, hs, es, v0, v1, v2, v3, v4, rfl, Or.inr ⟨by omega, rfl, rfl, fun i _ => rfl⟩⟩
/-! ===== lake ===== -/
theorem la_semC (hxt : tk_xtok xt) {Q0 : List Value → va_W → va_W → Value → Prop} (hK : lw_sem l D xt gc_TY h2_X ads lw_twC 20 135 [0] [gn_i] Q0) : lw_sem l D xt gc_TY h2_X ads lw_twC 20 135 [0] [gn_i] (tp_Q (9, 2) 10 la_S) := by
  refine tp_semC (k := 8) hxt (by decide) hK (fun rest g l' a b R s hr hs hg hb hc => ?_)
  obtain ⟨x, r0, rfl, k0⟩ := av_int hr
  obtain rfl := k0.nil
  obtain ⟨v, g', l'', a', b', hrun, hh⟩ := ha_lake (g := g) (l := l') (a := a) (b := b) (R := R) (x := x) (by rw [hg, nI_i32 (by omega)]; omega) hb hc
  rcases hh with ⟨hno, rfl, rfl, rfl, rfl, rfl⟩ | ⟨N, rfl, hN, h92, hm⟩
  · refine ⟨.int (-1), _, _, _, _, s, Nat.zero_le 1, hrun, hs, hg, x, rfl, fun _ _ => rfl, Or.inl ⟨fun z => hno ?_, rfl, rfl⟩⟩
    rw [hg, nI_i32 (by omega)]
    exact z
  · rw [hg, nI_i32 (by omega)] at hN
    refine ⟨.int v, _, _, _, _, 0, Nat.zero_le 1, hrun, Nat.zero_le _, h92, nI N, rfl, ?_, Or.inr ⟨N, rfl, by omega, rfl, ?_⟩⟩
    · cases hz : sp_lake (sp_T (a 10) N) N with
      | inl z =>
        rw [hz] at hm
        intro i _
        rw [(hm.2.2.2.2.2 10 (by decide) (by decide) (by decide) (by decide)).2.1]
      | inr z =>
        rw [hz] at hm
        intro i _
        rw [(hm.2.2.2.2.2.2 10 (by decide) (by decide) (by decide) (by decide)).2.1]
    · cases hz : sp_lake (sp_T (a 10) N) N with
      | inl z =>
        rw [hz] at hm
        exact congrArg Value.int hm.1
      | inr z =>
        rw [hz] at hm
        exact congrArg Value.int hm.1
theorem la_semM (hst : ∀ (Ad : Nat → Prop) (U : State) (H : Heap), xt Ad U H → ∃ pl v tx, sk_X pl v Ad U H ∧ vk_R "GooseIceModel" 189 tx pl U) : lw_sem l D xt gn_TY (gn_X lw_twM) ads lw_twM 14 246 [0] [gn_i] (tp_Q (0, 10) 6 la_S) := by
  refine tp_semM (k := 10) (n := 1) hst gn_M1_ms (fun g tp bt a b xs s hx hI hs es => ?_)
  obtain ⟨x, r0, rfl, k0⟩ := fm_xsS hx
  obtain rfl := List.length_eq_zero_iff.mp k0
  obtain ⟨v, mem', hP, hf⟩ := fr_lake (g := g) (tp := tp) (bt := bt) (a := a) (b := b) (n := x) ⟨s, hs, es⟩
  obtain ⟨v, g', tp', bt', a', b', e, h1, h2⟩ := fm_I_FL hI hP
  cases e
  obtain ⟨v2, g2, a2, b2, hrun, hh⟩ := mr_lake (g := g) (tp := tp) (bt := bt) (a := a) (b := b) (x := x) (by rw [es, nI_i32 (by omega)]; omega) (fun k hk => hI.2.2 (6, 900, (-128), 127) (by decide) k hk)
  obtain ⟨d1, d2⟩ := fr_det hf hrun
  have ev : v = v2 := Value.int.inj (Option.some.inj d1)
  have e10 : g' 10 = g2 10 := Value.int.inj (Option.some.inj (fm_o_inj 10 d2))
  have e6 : a' 6 = a 6 := (h2.2.1 6 (by decide)).resolve_left (by decide +kernel)
  rcases hh with ⟨hno, k1, k2, -, -⟩ | ⟨N, rfl, hN, h0, hm⟩
  · refine ⟨v, g', tp', bt', a', b', s, hf, h1, h2, hs, by rw [e10, k2, pk_un (by decide), es], x, rfl, fun i _ => by rw [e6], Or.inl ⟨fun z => hno ?_, rfl, by rw [ev, k1]⟩⟩
    rw [es, nI_i32 (by omega)]
    exact z
  · rw [es, nI_i32 (by omega)] at hN
    refine ⟨v, g', tp', bt', a', b', 0, hf, h1, h2, Nat.zero_le _, by rw [e10, h0]; rfl, nI N, rfl, fun i _ => by rw [e6], Or.inr ⟨N, rfl, by omega, rfl, ?_⟩⟩
    rw [ev]
    cases hz : sp_lake (sp_T (a 6) N) N with
    | inl z =>
      rw [hz] at hm
      exact congrArg Value.int hm.1
    | inr z =>
      rw [hz] at hm
      exact congrArg Value.int hm.1
/-! ===== tales: no more than the tape ===== -/
theorem tp_f10 {U : State} {ws : va_W} (h5 : rk_A2 (fun b (q : Nat × va_E) => tk_cl gc_TY lc_ro ads lw_twC U b q.2) lw_twC ws) : ∃ f : Nat → Int32, ∀ i, i < 900 → lw_at ws (10, i) = some (.int (f i)) := by
  obtain ⟨q, hq, hc⟩ := h5.get (show lw_twC[10]? = some 7 by decide +kernel)
  unfold tk_cl at hc
  rw [show gc_TY.1[7]? = some (.inr (.byte, 900, (0, (-128), 127))) from rfl] at hc
  obtain ⟨cA, -, -, h3⟩ := hc
  obtain ⟨f, e, h3⟩ := (show ∃ f : Nat → Int32, q.2 = .inl (cA, 900, .inl f) ∧ ∀ i, i < 900 → tk_fv lc_ro gc_TY.2.1 ads lw_twC 7 i (0, (-128), 127) (.int (f i)) from h3)
  refine ⟨f, fun i hi => ?_⟩
  unfold lw_at
  dsimp only
  rw [hq]
  show tk_pos q.2 i = _
  rw [e]
  show (if i < 900 then some (Value.int (f i)) else none) = _
  rw [if_pos hi]
theorem ta_semU (hxt : tk_xtok xt) {W : List (Nat × Nat)} (hW : lr_un lw_twC gc_TY gc_K61.2.2.2.2.2.2 W = true) : lw_sem l D xt gc_TY (gc_X lw_twC) ads lw_twC 13 136 [0] [gn_i] (fun av ws ws' v => lk_Q 300 (9, 2) av ws ws' v ∧ (∀ z ∈ W, lw_at ws' z = lw_at ws z) ∧ ∃ f : Nat → Int32, ∀ i, i < 900 → lw_at ws (10, i) = some (.int (f i))) := by
  refine lw_sem_K (fun U ax ws av a1 a2 a3 a4 a5 a6 => ?_)
  obtain ⟨e, e2, yr, s, hw, hat, hty, hw2, hs, hat2⟩ := fd_wC a1 a3 a4
  obtain ⟨v1, r1, rfl, h1, a2'⟩ := rk_A2.cons (show rk_A2 lq_av [(0, gn_i)] av from a2)
  obtain rfl := a2'.nil
  obtain ⟨n, rfl, hn1, hn2⟩ : ∃ n : Int32, v1 = .int n ∧ (-2147483648 : Int) ≤ n.toInt ∧ n.toInt ≤ 2147483647 := by
    rcases h1 with ⟨-, x, e, b1, b2⟩ | ⟨h1, -⟩
    · exact ⟨x, e, b1, b2⟩
    · cases h1
  refine ⟨_, _, [6], [yr], _, _, _, [n.toInt, (s : Int)], ta_C lw_gcU hxt, ⟨⟨⟨hn1, hn2⟩, ⟨by show (0 : Int) ≤ _; omega, by show _ ≤ (900 : Int); omega⟩, trivial⟩, fun q hq => absurd hq List.not_mem_nil⟩, ⟨hty, trivial⟩, ⟨⟨n, rfl, by show some (1 * n.toInt + 0) = _; congr 1; omega⟩, trivial⟩, ?_, ?_⟩
  · intro z hz
    rcases List.mem_cons.mp hz with hz | hz
    · rw [hz]
      exact lw_fk (r := 0) (j := 0) (i := 7) rfl hw hat ⟨yr, rfl, rfl⟩
    · rw [List.mem_singleton.mp hz]
      exact lw_fk (r := 1) (j := 9) (i := 2) rfl hw2 hat2 ⟨nI s, rfl, by show some (1 * (s : Int) + 0) = _; rw [nI_i32 (by omega)]; congr 1; omega⟩
  · intro y hy t vals' rads' ws' oc k1 k2 k3 k4 k5 k6 k7 k8
    have hv0 : vals'[0]? = some n.toInt := lw_vals k1 rfl
    have hv1 : vals'[1]? = some (s : Int) := lw_vals k1 rfl
    have hr1 : rads'[1]? = some yr := lw_rads (r := 1) k2 rfl
    have hE0 : ∀ (I : tk_I), y.2.1.1[0]? = some I → I.1 ≤ n.toInt ∧ n.toInt ≤ I.2 := fun I hI => by
      obtain ⟨z, hz, h⟩ := k3.1.get hI
      rw [hv0] at hz
      cases hz
      exact h
    have hC : ∀ q ∈ y.2.1.2, ∃ x y2 : Int, vals'[q.1]? = some x ∧ vals'[q.2.1]? = some y2 ∧ x ≤ y2 + q.2.2 := k3.2
    have keep : ∀ {v : Value}, tk_g vals' rads' (0, 2, 1, 0) v → v = .int (nI s) := fun {v} g2 => by
      obtain ⟨x, rfl, hx⟩ := tk_g0 g2 rfl
      have hx : (match vals'[1]? with
        | some z => some (((1 : Nat) : Int) * z + 0)
        | none => none) = some x.toInt := hx
      rw [hv1] at hx
      have hx : some (1 * (s : Int) + 0) = some x.toInt := hx
      exact congrArg Value.int (Int32.toInt_inj.mp (by rw [nI_i32 (by omega)]; have := Option.some.inj hx; omega))
    rcases List.mem_cons.mp hy with hy | hy
    · subst hy
      have hb := hE0 ((-2147483648), (-1)) rfl
      obtain ⟨v, g1, g2⟩ := lw_fk_at (j := 9) (i := 2) a5 (k5.trans a3.symm) hr1 hw2 (k4 _ (List.mem_singleton.mpr rfl))
      obtain ⟨u, hg, eu⟩ := k8
      obtain ⟨x2, rfl, hx2⟩ := tk_g_int hg
      exact ⟨_, eu, ⟨⟨_, rfl⟩, s, n, rfl, hs, hat2, Or.inl ⟨fun h => by have := hb.2; have := h.1; omega, by rw [g1, keep g2]⟩⟩, lw_un_at a4.len.symm hW k7, tp_f10 a4⟩
    rcases List.mem_cons.mp hy with hy | hy
    · subst hy
      obtain ⟨p, q, hp, hq, hpq⟩ := hC (1, 0, (-1)) (List.mem_singleton.mpr rfl)
      rw [hv1] at hp
      rw [hv0] at hq
      cases hp
      cases hq
      obtain ⟨v, g1, g2⟩ := lw_fk_at (j := 9) (i := 2) a5 (k5.trans a3.symm) hr1 hw2 (k4 _ (List.mem_singleton.mpr rfl))
      obtain ⟨u, hg, eu⟩ := k8
      obtain ⟨x2, rfl, hx2⟩ := tk_g_int hg
      exact ⟨_, eu, ⟨⟨_, rfl⟩, s, n, rfl, hs, hat2, Or.inl ⟨fun h => by have q1 : (s : Int) ≤ n.toInt + (-1) := hpq; have := h.2.1; omega, by rw [g1, keep g2]⟩⟩, lw_un_at a4.len.symm hW k7, tp_f10 a4⟩
    rcases List.mem_cons.mp hy with hy | hy
    · subst hy
      have hb := hE0 (301, 2147483647) rfl
      obtain ⟨v, g1, g2⟩ := lw_fk_at (j := 9) (i := 2) a5 (k5.trans a3.symm) hr1 hw2 (k4 _ (List.mem_singleton.mpr rfl))
      obtain ⟨u, hg, eu⟩ := k8
      obtain ⟨x2, rfl, hx2⟩ := tk_g_int hg
      exact ⟨_, eu, ⟨⟨_, rfl⟩, s, n, rfl, hs, hat2, Or.inl ⟨fun h => by have := hb.1; have := h.2.2; omega, by rw [g1, keep g2]⟩⟩, lw_un_at a4.len.symm hW k7, tp_f10 a4⟩
    · rw [List.mem_singleton.mp hy] at hE0 hC k4 k8
      have hb := hE0 (0, 300) rfl
      obtain ⟨p, q, hp, hq, hpq⟩ := hC (0, 1, 0) (List.mem_singleton.mpr rfl)
      rw [hv0] at hp
      rw [hv1] at hq
      cases hp
      cases hq
      obtain ⟨v, g1, g2⟩ := lw_fk_at (j := 9) (i := 2) a5 (k5.trans a3.symm) hr1 hw2 (k4 _ (List.mem_singleton.mpr rfl))
      obtain ⟨u, hg, eu⟩ := k8
      obtain ⟨x2, rfl, -⟩ := tk_g0 hg rfl
      exact ⟨_, eu, ⟨⟨_, rfl⟩, s, n, rfl, hs, hat2, Or.inr ⟨⟨hb.1, by have q1 : n.toInt ≤ (s : Int) + 0 := hpq; omega, hb.2⟩, by rw [g1, tk_g_nI (k := 0) (by decide) g2]⟩⟩, lw_un_at a4.len.symm hW k7, tp_f10 a4⟩
theorem tp_f6 {U : State} {ws : va_W} (h5 : rk_A2 (fun b (q : Nat × va_E) => tk_cl gn_TY lc_ro ads lw_twM U b q.2) lw_twM ws) : ∃ f : Nat → Int32, ∀ i, i < 900 → lw_at ws (6, i) = some (.int (f i)) := by
  obtain ⟨q, hq, hc⟩ := h5.get (show lw_twM[6]? = some 6 by decide +kernel)
  unfold tk_cl at hc
  rw [show gn_TY.1[6]? = some (.inr (.byte, 900, (0, (-128), 127))) from rfl] at hc
  obtain ⟨cA, -, -, h3⟩ := hc
  obtain ⟨f, e, h3⟩ := (show ∃ f : Nat → Int32, q.2 = .inl (cA, 900, .inl f) ∧ ∀ i, i < 900 → tk_fv lc_ro gn_TY.2.1 ads lw_twM 6 i (0, (-128), 127) (.int (f i)) from h3)
  refine ⟨f, fun i hi => ?_⟩
  unfold lw_at
  dsimp only
  rw [hq]
  show tk_pos q.2 i = _
  rw [e]
  show (if i < 900 then some (Value.int (f i)) else none) = _
  rw [if_pos hi]
theorem ta_tpC (hxt : tk_xtok xt) : lw_sem l D xt gc_TY h2_X ads lw_twC 20 136 [0] [gn_i] (tp_Q (9, 2) 10 ta_S) := by
  refine lw_sem_imp (lw_sem_h2 (lw_sem_up (by decide) (ta_semU (W := h2_W ++ (List.range 900).map (fun i => (10, i))) hxt (by decide +kernel))) (fun av ws ws' v h z hz => h.2.1 z (List.mem_append_left _ hz))) ?_
  rintro av ws ws' v - ⟨⟨hv, s, n, rfl, hs, h1, h2⟩, hu, f, hf⟩
  have hf' : ∀ i, i < 900 → lw_at ws' (10, i) = some (.int (f i)) := fun i hi => (hu _ (List.mem_append_right _ (List.mem_map.mpr ⟨i, List.mem_range.mpr hi, rfl⟩))).trans (hf i hi)
  rcases h2 with ⟨p1, p2⟩ | ⟨p1, p2⟩
  · exact ⟨s, f, s, f, ⟨hs, h1, hf⟩, ⟨hs, p2, hf'⟩, n, rfl, hv, fun _ _ => rfl, Or.inl ⟨p1, rfl⟩⟩
  · exact ⟨s, f, 0, f, ⟨hs, h1, hf⟩, ⟨Nat.zero_le _, p2, hf'⟩, n, rfl, hv, fun _ _ => rfl, Or.inr ⟨p1, rfl⟩⟩
theorem ta_tpM (hst : ∀ (Ad : Nat → Prop) (U : State) (H : Heap), xt Ad U H → ∃ pl v tx, sk_X pl v Ad U H ∧ vk_R "GooseIceModel" 189 tx pl U) : lw_sem l D xt gn_TY (gn_X lw_twM) ads lw_twM 17 252 [0] [gn_i] (tp_Q (0, 10) 6 ta_S) := by
  refine tp_semM (k := 13) (n := 1) hst gn_M1_ms (fun g tp bt a b xs s hx hI hs es => ?_)
  obtain ⟨x0, xs0, rfl, hx0⟩ := fm_xsS hx
  obtain rfl := List.length_eq_zero_iff.mp hx0
  obtain ⟨v, mem', hP, hf⟩ := fr_tales (g := g) (tp := tp) (bt := bt) (a := a) (b := b) (n := x0) (fm_I_TH hI)
  obtain ⟨v, g', tp', bt', a', b', e, h1, h2⟩ := fm_I_FTA hI hP
  cases e
  have e6 : a' 6 = a 6 := (h2.2.1 6 (by decide)).resolve_left (by decide +kernel)
  obtain ⟨v2, g2, a2, e, hz⟩ := hP
  have e2 : g' 10 = g2 10 := Value.int.inj (Option.some.inj (fm_o_inj 10 (congrArg Prod.snd e)))
  have cv : (0 ≤ x0 ∧ x0 ≤ g 10 ∧ x0 ≤ 300) ↔ (0 ≤ x0.toInt ∧ x0.toInt ≤ (s : Int) ∧ x0.toInt ≤ 300) := by
    rw [Int32.le_iff_toInt_le, Int32.le_iff_toInt_le, Int32.le_iff_toInt_le, es, nI_i32 (by omega), show (300 : Int32).toInt = 300 from rfl, show (0 : Int32).toInt = 0 from rfl]
  rcases hz with ⟨z1, -, z3, -⟩ | ⟨z1, z2⟩
  · exact ⟨v, g', tp', bt', a', b', s, hf, h1, h2, hs, by rw [e2, z3, ← es]; rfl, x0, rfl, ⟨_, rfl⟩, fun i _ => by rw [e6], Or.inl ⟨fun h => z1 (cv.mpr h), rfl⟩⟩
  · exact ⟨v, g', tp', bt', a', b', 0, hf, h1, h2, Nat.zero_le _, by rw [e2]; exact z2.2.1, x0, rfl, ⟨_, rfl⟩, fun i _ => by rw [e6], Or.inr ⟨cv.mp z1, rfl⟩⟩
end TPS
