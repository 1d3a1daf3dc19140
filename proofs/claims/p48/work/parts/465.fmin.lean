/-! ===== fx and tk: the model's memory out of a typed world ===== -/
def fm_Ty (TY : tk_TT) : Prop := TY.1 = gm_ty ∧ TY.2.1 = gm_reg ∧ TY.2.2.1 = gm_rgn
/-- the model's cells stand in a world -/
def fm_at (s : State) (tw : List Nat) (ws : va_W) (h0 : Nat) (ps : fx_P) (σ : List Nat) (mem : fx_M) : Prop := ps.length = 23 ∧ σ.length = 22 ∧ (∃ c, ps[0]? = some (h0, c)) ∧ fx_ok s ps mem ∧ ∀ (t j : Nat), σ[t]? = some j → tw[j]? = some t ∧ ∃ (q : Nat × ClassId) (e : fx_E), ps[t]? = some q ∧ mem[t]? = some e ∧ ws[j]? = some (q.1, fx_c ps q.2 e)
def fm_gi (vs : List Value) (k : Nat) : Int32 := match vs[k]? with
  | some (.int x) => x
  | _ => 0
def fm_gl (vs : List Value) (k : Nat) : Int64 := match vs[k]? with
  | some (.long x) => x
  | _ => 0
theorem fm_fi {ro : Nat → Nat → Int → Prop} {reg : Nat → Nat → tk_I} {ads tw : List Nat} {vs : List Value} {k t : Nat} {lo hi : Int} {o2 : List tk_F} (hl : vs.length = o2.length) (hvs : ∀ (i : Nat) (f : tk_F) (v : Value), o2[i]? = some f → vs[i]? = some v → tk_fv ro reg ads tw t i f v) (hf : o2[k]? = some (0, lo, hi)) : vs[k]? = some (.int (fm_gi vs k)) := by
  have hk : k < vs.length := by rw [hl]; exact (List.getElem?_eq_some_iff.mp hf).1
  obtain ⟨x, hx, -⟩ := hvs k _ _ hf (List.getElem?_eq_getElem hk)
  unfold fm_gi
  rw [List.getElem?_eq_getElem hk, hx]
theorem fm_fl {ro : Nat → Nat → Int → Prop} {reg : Nat → Nat → tk_I} {ads tw : List Nat} {vs : List Value} {k t : Nat} {lo hi : Int} {o2 : List tk_F} (hl : vs.length = o2.length) (hvs : ∀ (i : Nat) (f : tk_F) (v : Value), o2[i]? = some f → vs[i]? = some v → tk_fv ro reg ads tw t i f v) (hf : o2[k]? = some (1, lo, hi)) : vs[k]? = some (.long (fm_gl vs k)) := by
  have hk : k < vs.length := by rw [hl]; exact (List.getElem?_eq_some_iff.mp hf).1
  obtain ⟨x, hx, -⟩ := hvs k _ _ hf (List.getElem?_eq_getElem hk)
  unfold fm_gl
  rw [List.getElem?_eq_getElem hk, hx]
theorem fm_fr {ro : Nat → Nat → Int → Prop} {reg : Nat → Nat → tk_I} {ads tw : List Nat} {vs : List Value} {k t : Nat} {lo : Int} {o2 : List tk_F} (hl : vs.length = o2.length) (hvs : ∀ (i : Nat) (f : tk_F) (v : Value), o2[i]? = some f → vs[i]? = some v → tk_fv ro reg ads tw t i f v) (hf : o2[k]? = some (2, lo, 0)) : ∃ y, vs[k]? = some (.ref y) ∧ tk_ty ads tw lo.toNat y := by
  have hk : k < vs.length := by rw [hl]; exact (List.getElem?_eq_some_iff.mp hf).1
  obtain ⟨y, hy, ht⟩ := hvs k _ _ hf (List.getElem?_eq_getElem hk)
  refine ⟨y, by rw [List.getElem?_eq_getElem hk, hy], ?_⟩
  have e : lo.toNat + k * (0 : Int).toNat = lo.toNat := by
    show lo.toNat + k * 0 = lo.toNat
    omega
  rw [← e]
  exact ht
def fm_s2 (L : List (Nat → Int32)) (t : Nat) : Nat → Int32 := L.getD t (fun _ => 0)
def fm_s3 (L : List (Nat → Int64)) (t : Nat) : Nat → Int64 := L.getD t (fun _ => 0)
set_option maxHeartbeats 8000000 in
theorem fm_in (z : Nat) {TY : tk_TT} {ro : Nat → Nat → Int → Prop} {ads tw : List Nat} {s : State} {ws : va_W} {h0 : Nat} (hT : fm_Ty TY) (h4 : ws.map Prod.fst = ads) (h5 : rk_A2 (fun t (q : Nat × va_E) => tk_cl TY ro ads tw s t q.2) tw ws) (hty : tk_ty ads tw 0 h0) : ∃ (g : Nat → Int32) (tp bt : Int64) (a : Nat → Nat → Int32) (b : Nat → Nat → Int64) (ps : fx_P) (σ : List Nat), fm_at s tw ws h0 ps σ (fm g tp bt a b) ∧ fx_ad ps 22 = z := by
  obtain ⟨T1, T2, T3, T4⟩ := TY
  obtain ⟨hT1, hT2, hT3⟩ := hT
  dsimp only at hT1 hT2 hT3
  subst hT1 hT2 hT3
  obtain ⟨j0, e0, hw0, hj0, hc0⟩ := tk_cell h4 h5 hty
  unfold tk_cl at hc0
  rw [show gm_ty[0]? = some (.inl (12, _)) from rfl] at hc0
  obtain ⟨vs, rfl, hvl, hvs⟩ := hc0
  dsimp only at hw0
  obtain ⟨y1, f0, ty1⟩ := fm_fr (k := 0) hvl hvs rfl
  obtain ⟨j1, e1, hw1, hj1, hc1⟩ := tk_cell h4 h5 ty1
  unfold tk_cl at hc1
  rw [show gm_ty[(1 : Int).toNat]? = some (.inr (.int, 5894, _)) from rfl] at hc1
  obtain ⟨c1, hA1, hR1, F1, rfl, hf1⟩ := hc1
  dsimp only at hw1 hA1 hR1
  obtain ⟨y2, f1, ty2⟩ := fm_fr (k := 1) hvl hvs rfl
  obtain ⟨j2, e2, hw2, hj2, hc2⟩ := tk_cell h4 h5 ty2
  unfold tk_cl at hc2
  rw [show gm_ty[(2 : Int).toNat]? = some (.inr (.long, 108, _)) from rfl] at hc2
  obtain ⟨c2, hA2, hR2, F2, rfl, hf2⟩ := hc2
  dsimp only at hw2 hA2 hR2
  have f2 := fm_fi (k := 2) hvl hvs rfl
  have f3 := fm_fl (k := 3) hvl hvs rfl
  have f4 := fm_fl (k := 4) hvl hvs rfl
  obtain ⟨y3, f5, ty3⟩ := fm_fr (k := 5) hvl hvs rfl
  obtain ⟨j3, e3, hw3, hj3, hc3⟩ := tk_cell h4 h5 ty3
  unfold tk_cl at hc3
  rw [show gm_ty[(3 : Int).toNat]? = some (.inr (.int, 4, _)) from rfl] at hc3
  obtain ⟨c3, hA3, hR3, F3, rfl, hf3⟩ := hc3
  dsimp only at hw3 hA3 hR3
  obtain ⟨y4, f6, ty4⟩ := fm_fr (k := 6) hvl hvs rfl
  obtain ⟨j4, e4, hw4, hj4, hc4⟩ := tk_cell h4 h5 ty4
  unfold tk_cl at hc4
  rw [show gm_ty[(4 : Int).toNat]? = some (.inr (.int, 4, _)) from rfl] at hc4
  obtain ⟨c4, hA4, hR4, F4, rfl, hf4⟩ := hc4
  dsimp only at hw4 hA4 hR4
  obtain ⟨y5, f7, ty5⟩ := fm_fr (k := 7) hvl hvs rfl
  obtain ⟨j5, e5, hw5, hj5, hc5⟩ := tk_cell h4 h5 ty5
  unfold tk_cl at hc5
  rw [show gm_ty[(5 : Int).toNat]? = some (.inr (.long, 240, _)) from rfl] at hc5
  obtain ⟨c5, hA5, hR5, F5, rfl, hf5⟩ := hc5
  dsimp only at hw5 hA5 hR5
  obtain ⟨y6, f8, ty6⟩ := fm_fr (k := 8) hvl hvs rfl
  obtain ⟨j6, e6, hw6, hj6, hc6⟩ := tk_cell h4 h5 ty6
  unfold tk_cl at hc6
  rw [show gm_ty[(6 : Int).toNat]? = some (.inr (.byte, 900, _)) from rfl] at hc6
  obtain ⟨c6, hA6, hR6, F6, rfl, hf6⟩ := hc6
  dsimp only at hw6 hA6 hR6
  obtain ⟨y7, f9, ty7⟩ := fm_fr (k := 9) hvl hvs rfl
  obtain ⟨j7, e7, hw7, hj7, hc7⟩ := tk_cell h4 h5 ty7
  unfold tk_cl at hc7
  rw [show gm_ty[(7 : Int).toNat]? = some (.inr (.byte, 900, _)) from rfl] at hc7
  obtain ⟨c7, hA7, hR7, F7, rfl, hf7⟩ := hc7
  dsimp only at hw7 hA7 hR7
  have f10 := fm_fi (k := 10) hvl hvs rfl
  have f11 := fm_fi (k := 11) hvl hvs rfl
  have f12 := fm_fi (k := 12) hvl hvs rfl
  have f13 := fm_fi (k := 13) hvl hvs rfl
  have f14 := fm_fi (k := 14) hvl hvs rfl
  have f15 := fm_fi (k := 15) hvl hvs rfl
  have f16 := fm_fi (k := 16) hvl hvs rfl
  have f17 := fm_fi (k := 17) hvl hvs rfl
  have f18 := fm_fi (k := 18) hvl hvs rfl
  have f19 := fm_fi (k := 19) hvl hvs rfl
  have f20 := fm_fi (k := 20) hvl hvs rfl
  obtain ⟨y8, f21, ty8⟩ := fm_fr (k := 21) hvl hvs rfl
  obtain ⟨j8, e8, hw8, hj8, hc8⟩ := tk_cell h4 h5 ty8
  unfold tk_cl at hc8
  rw [show gm_ty[(8 : Int).toNat]? = some (.inr (.int, 3, _)) from rfl] at hc8
  obtain ⟨c8, hA8, hR8, F8, rfl, hf8⟩ := hc8
  dsimp only at hw8 hA8 hR8
  have f22 := fm_fi (k := 22) hvl hvs rfl
  have f23 := fm_fi (k := 23) hvl hvs rfl
  obtain ⟨y9, f24, ty9⟩ := fm_fr (k := 24) hvl hvs rfl
  obtain ⟨j9, e9, hw9, hj9, hc9⟩ := tk_cell h4 h5 ty9
  unfold tk_cl at hc9
  rw [show gm_ty[(9 : Int).toNat]? = some (.inr (.int, 10, _)) from rfl] at hc9
  obtain ⟨c9, hA9, hR9, F9, rfl, hf9⟩ := hc9
  dsimp only at hw9 hA9 hR9
  have f25 := fm_fi (k := 25) hvl hvs rfl
  obtain ⟨y10, f26, ty10⟩ := fm_fr (k := 26) hvl hvs rfl
  obtain ⟨j10, e10, hw10, hj10, hc10⟩ := tk_cell h4 h5 ty10
  unfold tk_cl at hc10
  rw [show gm_ty[(10 : Int).toNat]? = some (.inr (.int, 4, _)) from rfl] at hc10
  obtain ⟨c10, hA10, hR10, F10, rfl, hf10⟩ := hc10
  dsimp only at hw10 hA10 hR10
  obtain ⟨y11, f27, ty11⟩ := fm_fr (k := 27) hvl hvs rfl
  obtain ⟨j11, e11, hw11, hj11, hc11⟩ := tk_cell h4 h5 ty11
  unfold tk_cl at hc11
  rw [show gm_ty[(11 : Int).toNat]? = some (.inr (.int, 4, _)) from rfl] at hc11
  obtain ⟨c11, hA11, hR11, F11, rfl, hf11⟩ := hc11
  dsimp only at hw11 hA11 hR11
  obtain ⟨y12, f28, ty12⟩ := fm_fr (k := 28) hvl hvs rfl
  obtain ⟨j12, e12, hw12, hj12, hc12⟩ := tk_cell h4 h5 ty12
  unfold tk_cl at hc12
  rw [show gm_ty[(12 : Int).toNat]? = some (.inr (.int, 4, _)) from rfl] at hc12
  obtain ⟨c12, hA12, hR12, F12, rfl, hf12⟩ := hc12
  dsimp only at hw12 hA12 hR12
  obtain ⟨y13, f29, ty13⟩ := fm_fr (k := 29) hvl hvs rfl
  obtain ⟨j13, e13, hw13, hj13, hc13⟩ := tk_cell h4 h5 ty13
  unfold tk_cl at hc13
  rw [show gm_ty[(13 : Int).toNat]? = some (.inr (.int, 4, _)) from rfl] at hc13
  obtain ⟨c13, hA13, hR13, F13, rfl, hf13⟩ := hc13
  dsimp only at hw13 hA13 hR13
  have f30 := fm_fi (k := 30) hvl hvs rfl
  obtain ⟨y14, f31, ty14⟩ := fm_fr (k := 31) hvl hvs rfl
  obtain ⟨j14, e14, hw14, hj14, hc14⟩ := tk_cell h4 h5 ty14
  unfold tk_cl at hc14
  rw [show gm_ty[(14 : Int).toNat]? = some (.inr (.int, 256, _)) from rfl] at hc14
  obtain ⟨c14, hA14, hR14, F14, rfl, hf14⟩ := hc14
  dsimp only at hw14 hA14 hR14
  obtain ⟨y15, f32, ty15⟩ := fm_fr (k := 32) hvl hvs rfl
  obtain ⟨j15, e15, hw15, hj15, hc15⟩ := tk_cell h4 h5 ty15
  unfold tk_cl at hc15
  rw [show gm_ty[(15 : Int).toNat]? = some (.inr (.int, 427, _)) from rfl] at hc15
  obtain ⟨c15, hA15, hR15, F15, rfl, hf15⟩ := hc15
  dsimp only at hw15 hA15 hR15
  obtain ⟨y16, f33, ty16⟩ := fm_fr (k := 33) hvl hvs rfl
  obtain ⟨j16, e16, hw16, hj16, hc16⟩ := tk_cell h4 h5 ty16
  unfold tk_cl at hc16
  rw [show gm_ty[(16 : Int).toNat]? = some (.inr (.int, 10, _)) from rfl] at hc16
  obtain ⟨c16, hA16, hR16, F16, rfl, hf16⟩ := hc16
  dsimp only at hw16 hA16 hR16
  obtain ⟨y17, f34, ty17⟩ := fm_fr (k := 34) hvl hvs rfl
  obtain ⟨j17, e17, hw17, hj17, hc17⟩ := tk_cell h4 h5 ty17
  unfold tk_cl at hc17
  rw [show gm_ty[(17 : Int).toNat]? = some (.inr (.long, 21, _)) from rfl] at hc17
  obtain ⟨c17, hA17, hR17, F17, rfl, hf17⟩ := hc17
  dsimp only at hw17 hA17 hR17
  obtain ⟨y18, f35, ty18⟩ := fm_fr (k := 35) hvl hvs rfl
  obtain ⟨j18, e18, hw18, hj18, hc18⟩ := tk_cell h4 h5 ty18
  unfold tk_cl at hc18
  rw [show gm_ty[(18 : Int).toNat]? = some (.inr (.long, 21, _)) from rfl] at hc18
  obtain ⟨c18, hA18, hR18, F18, rfl, hf18⟩ := hc18
  dsimp only at hw18 hA18 hR18
  have f36 := fm_fi (k := 36) hvl hvs rfl
  have f37 := fm_fi (k := 37) hvl hvs rfl
  obtain ⟨y19, f38, ty19⟩ := fm_fr (k := 38) hvl hvs rfl
  obtain ⟨j19, e19, hw19, hj19, hc19⟩ := tk_cell h4 h5 ty19
  unfold tk_cl at hc19
  rw [show gm_ty[(19 : Int).toNat]? = some (.inr (.int, 80, _)) from rfl] at hc19
  obtain ⟨c19, hA19, hR19, F19, rfl, hf19⟩ := hc19
  dsimp only at hw19 hA19 hR19
  obtain ⟨y20, f39, ty20⟩ := fm_fr (k := 39) hvl hvs rfl
  obtain ⟨j20, e20, hw20, hj20, hc20⟩ := tk_cell h4 h5 ty20
  unfold tk_cl at hc20
  rw [show gm_ty[(20 : Int).toNat]? = some (.inr (.int, 5, _)) from rfl] at hc20
  obtain ⟨c20, hA20, hR20, F20, rfl, hf20⟩ := hc20
  dsimp only at hw20 hA20 hR20
  obtain ⟨y21, f40, ty21⟩ := fm_fr (k := 40) hvl hvs rfl
  obtain ⟨j21, e21, hw21, hj21, hc21⟩ := tk_cell h4 h5 ty21
  unfold tk_cl at hc21
  rw [show gm_ty[(21 : Int).toNat]? = some (.inr (.int, 5, _)) from rfl] at hc21
  obtain ⟨c21, hA21, hR21, F21, rfl, hf21⟩ := hc21
  dsimp only at hw21 hA21 hR21
  have f41 := fm_fi (k := 41) hvl hvs rfl
  have f42 := fm_fi (k := 42) hvl hvs rfl
  let ps : fx_P := [(h0, 0), (y1, c1), (y2, c2), (y3, c3), (y4, c4), (y5, c5), (y6, c6), (y7, c7), (y8, c8), (y9, c9), (y10, c10), (y11, c11), (y12, c12), (y13, c13), (y14, c14), (y15, c15), (y16, c16), (y17, c17), (y18, c18), (y19, c19), (y20, c20), (y21, c21), (z, 0)]
  let a : Nat → Nat → Int32 := fm_s2 [(fun _ => 0), F1, (fun _ => 0), F3, F4, (fun _ => 0), F6, F7, F8, F9, F10, F11, F12, F13, F14, F15, F16, (fun _ => 0), (fun _ => 0), F19, F20, F21]
  let b : Nat → Nat → Int64 := fm_s3 [(fun _ => 0), (fun _ => 0), F2, (fun _ => 0), (fun _ => 0), F5, (fun _ => 0), (fun _ => 0), (fun _ => 0), (fun _ => 0), (fun _ => 0), (fun _ => 0), (fun _ => 0), (fun _ => 0), (fun _ => 0), (fun _ => 0), (fun _ => 0), F17, F18, (fun _ => 0), (fun _ => 0), (fun _ => 0)]
  have hobj : vs = (fm_o (fm_gi vs) (fm_gl vs 3) (fm_gl vs 4)).map (fx_v ps) := by
    apply List.ext_getElem?
    intro k
    match k with
    | 0 => exact f0
    | 1 => exact f1
    | 2 => exact f2
    | 3 => exact f3
    | 4 => exact f4
    | 5 => exact f5
    | 6 => exact f6
    | 7 => exact f7
    | 8 => exact f8
    | 9 => exact f9
    | 10 => exact f10
    | 11 => exact f11
    | 12 => exact f12
    | 13 => exact f13
    | 14 => exact f14
    | 15 => exact f15
    | 16 => exact f16
    | 17 => exact f17
    | 18 => exact f18
    | 19 => exact f19
    | 20 => exact f20
    | 21 => exact f21
    | 22 => exact f22
    | 23 => exact f23
    | 24 => exact f24
    | 25 => exact f25
    | 26 => exact f26
    | 27 => exact f27
    | 28 => exact f28
    | 29 => exact f29
    | 30 => exact f30
    | 31 => exact f31
    | 32 => exact f32
    | 33 => exact f33
    | 34 => exact f34
    | 35 => exact f35
    | 36 => exact f36
    | 37 => exact f37
    | 38 => exact f38
    | 39 => exact f39
    | 40 => exact f40
    | 41 => exact f41
    | 42 => exact f42
    | k + 43 =>
      rw [List.getElem?_eq_none (by rw [hvl]; show 43 ≤ k + 43; omega), List.getElem?_eq_none (by rw [List.length_map]; show 43 ≤ k + 43; omega)]
  refine ⟨fm_gi vs, fm_gl vs 3, fm_gl vs 4, a, b, ps, [j0, j1, j2, j3, j4, j5, j6, j7, j8, j9, j10, j11, j12, j13, j14, j15, j16, j17, j18, j19, j20, j21], ⟨rfl, rfl, ⟨0, rfl⟩, ⟨rfl, fun j q ty z hq hm => ?_⟩, fun t j hs => ?_⟩, rfl⟩
  · match j with
    | 0 => cases hm
    | 1 => cases hq; cases hm; exact ⟨hA1, hR1⟩
    | 2 => cases hq; cases hm; exact ⟨hA2, hR2⟩
    | 3 => cases hq; cases hm; exact ⟨hA3, hR3⟩
    | 4 => cases hq; cases hm; exact ⟨hA4, hR4⟩
    | 5 => cases hq; cases hm; exact ⟨hA5, hR5⟩
    | 6 => cases hq; cases hm; exact ⟨hA6, hR6⟩
    | 7 => cases hq; cases hm; exact ⟨hA7, hR7⟩
    | 8 => cases hq; cases hm; exact ⟨hA8, hR8⟩
    | 9 => cases hq; cases hm; exact ⟨hA9, hR9⟩
    | 10 => cases hq; cases hm; exact ⟨hA10, hR10⟩
    | 11 => cases hq; cases hm; exact ⟨hA11, hR11⟩
    | 12 => cases hq; cases hm; exact ⟨hA12, hR12⟩
    | 13 => cases hq; cases hm; exact ⟨hA13, hR13⟩
    | 14 => cases hq; cases hm; exact ⟨hA14, hR14⟩
    | 15 => cases hq; cases hm; exact ⟨hA15, hR15⟩
    | 16 => cases hq; cases hm; exact ⟨hA16, hR16⟩
    | 17 => cases hq; cases hm; exact ⟨hA17, hR17⟩
    | 18 => cases hq; cases hm; exact ⟨hA18, hR18⟩
    | 19 => cases hq; cases hm; exact ⟨hA19, hR19⟩
    | 20 => cases hq; cases hm; exact ⟨hA20, hR20⟩
    | 21 => cases hq; cases hm; exact ⟨hA21, hR21⟩
    | j + 22 => cases hm
  · match t with
    | 0 => cases hs; exact ⟨hj0, _, _, rfl, rfl, by rw [hw0]; show some (h0, Sum.inr (12, vs)) = some (h0, Sum.inr (12, (fm_o (fm_gi vs) (fm_gl vs 3) (fm_gl vs 4)).map (fx_v ps))); rw [← hobj]⟩
    | 1 => cases hs; exact ⟨hj1, _, _, rfl, rfl, hw1⟩
    | 2 => cases hs; exact ⟨hj2, _, _, rfl, rfl, hw2⟩
    | 3 => cases hs; exact ⟨hj3, _, _, rfl, rfl, hw3⟩
    | 4 => cases hs; exact ⟨hj4, _, _, rfl, rfl, hw4⟩
    | 5 => cases hs; exact ⟨hj5, _, _, rfl, rfl, hw5⟩
    | 6 => cases hs; exact ⟨hj6, _, _, rfl, rfl, hw6⟩
    | 7 => cases hs; exact ⟨hj7, _, _, rfl, rfl, hw7⟩
    | 8 => cases hs; exact ⟨hj8, _, _, rfl, rfl, hw8⟩
    | 9 => cases hs; exact ⟨hj9, _, _, rfl, rfl, hw9⟩
    | 10 => cases hs; exact ⟨hj10, _, _, rfl, rfl, hw10⟩
    | 11 => cases hs; exact ⟨hj11, _, _, rfl, rfl, hw11⟩
    | 12 => cases hs; exact ⟨hj12, _, _, rfl, rfl, hw12⟩
    | 13 => cases hs; exact ⟨hj13, _, _, rfl, rfl, hw13⟩
    | 14 => cases hs; exact ⟨hj14, _, _, rfl, rfl, hw14⟩
    | 15 => cases hs; exact ⟨hj15, _, _, rfl, rfl, hw15⟩
    | 16 => cases hs; exact ⟨hj16, _, _, rfl, rfl, hw16⟩
    | 17 => cases hs; exact ⟨hj17, _, _, rfl, rfl, hw17⟩
    | 18 => cases hs; exact ⟨hj18, _, _, rfl, rfl, hw18⟩
    | 19 => cases hs; exact ⟨hj19, _, _, rfl, rfl, hw19⟩
    | 20 => cases hs; exact ⟨hj20, _, _, rfl, rfl, hw20⟩
    | 21 => cases hs; exact ⟨hj21, _, _, rfl, rfl, hw21⟩
    | t + 22 => cases hs
