/-! ===== the class reads the parts of a lake's text ===== -/
theorem cd_12 {g : Nat → Nat → Int32} {a : Nat → Nat → Int32} {b : Nat → Nat → Int64} {A : sp_A} {j k : Nat} {x : Int32} (h : cd_L 41 A g a b) (h1 : j ≠ 41 ∨ k ≠ 8 ∧ k ≠ 9) (h2 : j ≠ 52 ∨ k ≠ 7) : cd_L 41 A (fm_u g j k x) a b := by
  have e8 : (fm_u g j k x) 41 8 = g 41 8 := by
    by_cases e : j = 41
    · rw [e]; exact fm_uo (by omega)
    · rw [fm_un (by omega)]
  have e9 : (fm_u g j k x) 41 9 = g 41 9 := by
    by_cases e : j = 41
    · rw [e]; exact fm_uo (by omega)
    · rw [fm_un (by omega)]
  have e7 : (fm_u g j k x) 52 7 = g 52 7 := by
    by_cases e : j = 52
    · rw [e]; exact fm_uo (by omega)
    · rw [fm_un (by omega)]
  exact ⟨⟨e8.trans h.1.1, h.1.2.1, e7.trans h.1.2.2.1, h.1.2.2.2⟩, fun c hc => by rw [e9]; exact h.2.1 c hc, h.2.2⟩
/-- the settings told already, as the class counts them -/
def cst (g : Nat → Nat → Int32) (st : Nat) : Prop := st < 8 ∧ g 12 1 = nI (256 * st)
/-- the class reads: all is well at p; the lake so far -/
def cK (g : Nat → Nat → Int32) (l : Nat → Nat → Int64) (a : Nat → Nat → Int32) (b : Nat → Nat → Int64) (T : Nat → Nat) (n : Nat) (A : sp_A) (st p : Nat) : Prop := co g l T n p ∧ cd_L 41 A g a b ∧ cst g st
/-- or there is a fault -/
def cKq (g : Nat → Nat → Int32) (l : Nat → Nat → Int64) (T : Nat → Nat) (n : Nat) (z : Int32 × Nat) : Prop := cq g l T n z.1 z.2
/-- what may change -/
def cfd (g : Nat → Nat → Int32) (a : Nat → Nat → Int32) (b : Nat → Nat → Int64) (l : Nat → Nat → Int64) (g' : Nat → Nat → Int32) (a' : Nat → Nat → Int32) (b' : Nat → Nat → Int64) (l' : Nat → Nat → Int64) : Prop := (∀ j, j ≠ 9 → j ≠ 12 → ¬ (41 ≤ j ∧ j ≤ 66) → g' j = g j ∧ l' j = l j) ∧ (∀ j, ¬ (41 ≤ j ∧ j ≤ 66) → a' j = a j ∧ b' j = b j) ∧ ∀ k, k < 4 → g' 9 k = g 9 k
/-- what a part's reading came to -/
def cRes (g : Nat → Nat → Int32) (l : Nat → Nat → Int64) (a : Nat → Nat → Int32) (b : Nat → Nat → Int64) (T : Nat → Nat) (n : Nat) : sp_R → Prop
  | .inl z => cq g l T n z.1 z.2
  | .inr z => cK g l a b T n z.1 z.2.1 z.2.2
section CPT
variable {g : Nat → Nat → Int32} {l : Nat → Nat → Int64} {a : Nat → Nat → Int32} {b : Nat → Nat → Int64} {R : fx_M} {T : Nat → Nat} {n p : Nat}
variable {F : Int32} {P : Nat} {A : sp_A} {s : Nat}
theorem cfd_rf : cfd g a b l g a b l := ⟨fun _ _ _ _ => ⟨rfl, rfl⟩, fun _ _ => ⟨rfl, rfl⟩, fun _ _ => rfl⟩
section CFD
variable {g1 g2 a1 a2 : Nat → Nat → Int32} {b1 b2 l1 l2 : Nat → Nat → Int64}
theorem cfd_tr (h : cfd g a b l g1 a1 b1 l1) (h2 : cfd g1 a1 b1 l1 g2 a2 b2 l2) : cfd g a b l g2 a2 b2 l2 := ⟨fun j q1 q2 q3 => ⟨(h2.1 j q1 q2 q3).1.trans (h.1 j q1 q2 q3).1, (h2.1 j q1 q2 q3).2.trans (h.1 j q1 q2 q3).2⟩, fun j q => ⟨(h2.2.1 j q).1.trans (h.2.1 j q).1, (h2.2.1 j q).2.trans (h.2.1 j q).2⟩, fun k hk => (h2.2.2 k hk).trans (h.2.2 k hk)⟩
theorem cfd_c (h : cfr g l g1 l1) : cfd g a b l g1 a b l1 := ⟨fun j q1 _ _ => ⟨h.1 j q1, h.2.2 j q1⟩, fun _ _ => ⟨rfl, rfl⟩, h.2.1⟩
theorem cfd_d (h : cdr g a b g1 a1 b1) : cfd g a b l g1 a1 b1 l := ⟨fun j _ _ q => ⟨(h j q).1, rfl⟩, fun j q => ⟨(h j q).2.1, (h j q).2.2⟩, fun k _ => congrFun (h 9 (by omega)).1 k⟩
theorem cfd_u {j k : Nat} {x : Int32} (hj : j = 12 ∨ 41 ≤ j ∧ j ≤ 66) : cfd g a b l (fm_u g j k x) a b l := ⟨fun i _ q2 q3 => ⟨fm_un (by omega), rfl⟩, fun _ _ => ⟨rfl, rfl⟩, fun k' _ => by rw [fm_un (by omega)]⟩
theorem co_u {j k : Nat} {x : Int32} (h : co g l T n p) (hj : j ≠ 9) : co (fm_u g j k x) l T n p := by
  have e : (fm_u g j k x) 9 = g 9 := fm_un (by omega)
  exact ⟨h.1, ck_f h.2.1 (fun i _ => by rw [e]), by rw [e]; exact h.2.2.1, by rw [e]; exact h.2.2.2⟩
theorem cq_u {j k : Nat} {x : Int32} (h : cq g l T n F P) (hj : j ≠ 9) : cq (fm_u g j k x) l T n F P := by
  have e : (fm_u g j k x) 9 = g 9 := fm_un (by omega)
  obtain ⟨p, h0, h1⟩ := h.2.1
  exact ⟨h.1, ⟨p, h0, ck_f h1 (fun i _ => by rw [e])⟩, by rw [e]; exact h.2.2.1, by rw [e]; exact h.2.2.2⟩
theorem co_d (h : co g l T n p) (hd : cdr g a b g1 a1 b1) : co g1 l T n p := by
  have e : g1 9 = g 9 := (hd 9 (by omega)).1
  exact ⟨h.1, ck_f h.2.1 (fun i _ => by rw [e]), by rw [e]; exact h.2.2.1, by rw [e]; exact h.2.2.2⟩
end CFD

theorem ha_nn0 (hg : ctx a b T n) (hD : cd_L 41 A g a b) (hs : cst g s) (h : co g l T n p) : ∃ (v : Option Value) (mem' : fx_M), (fun R1 => ∃ (v : Int64) (g' : Nat → Nat → Int32) (l' : Nat → Nat → Int64), cfr g l g' l' ∧ ((sp_nm T n p ∧ ¬ (sp_iC A.1.1 (sp_wd T n p) < A.1.1.length ∨ sp_iW A.1.2 (sp_wd T n p) < A.1.2.length) ∧ v = Int64.ofNat (sp_cd (sp_wd T n p)) ∧ co g' l' T n (sp_n T n p)) ∨ (sp_nm T n p ∧ (sp_iC A.1.1 (sp_wd T n p) < A.1.1.length ∨ sp_iW A.1.2 (sp_wd T n p) < A.1.2.length) ∧ cq g' l' T n 3 (sp_s T n p)) ∨ (¬ sp_nm T n p ∧ cq g' l' T n (sp_m T n p) (sp_s T n p))) ∧ R1 = (some (.long v), cm g' l' a b R)) (v, mem') ∧ hr_T 4 66 [.ref 12, .ref 41] (cm g l a b R) v mem' := by
  refine he_meth (F := fun R1 => ∃ (v : Int64) (g' : Nat → Nat → Int32) (l' : Nat → Nat → Int64), cfr g l g' l' ∧ ((sp_nm T n p ∧ ¬ (sp_iC A.1.1 (sp_wd T n p) < A.1.1.length ∨ sp_iW A.1.2 (sp_wd T n p) < A.1.2.length) ∧ v = Int64.ofNat (sp_cd (sp_wd T n p)) ∧ co g' l' T n (sp_n T n p)) ∨ (sp_nm T n p ∧ (sp_iC A.1.1 (sp_wd T n p) < A.1.1.length ∨ sp_iW A.1.2 (sp_wd T n p) < A.1.2.length) ∧ cq g' l' T n 3 (sp_s T n p)) ∨ (¬ sp_nm T n p ∧ cq g' l' T n (sp_m T n p) (sp_s T n p))) ∧ R1 = (some (.long v), cm g' l' a b R)) (M := gk_m66) (by rfl) (by rfl) ?_
  refine he_s 2 (pc' := 4) (lc' := [(0, .ref 12), (1, .ref 41)]) (stk' := [.ref 9]) (mem' := cm g l a b R) (by intro _ _ _; eq_refl) ?_
  obtain ⟨vc1, memc1, ⟨xc1, gc1, frc1, hxc1, hRc1⟩, hrc1⟩ := ha_nh0 (R := R) hg h
  cases hRc1
  refine he_ivV hrc1 (by omega) (by rfl) (by rfl) (by rfl) (by rfl) (by rfl) (by rfl) ?_
  have hfc1 := cfr_tr cfr_rf frc1
  have hDc1 := cd_fr hD frc1 (by decide) (by decide)
  have hsc1 : cst gc1 s := ⟨hs.1, (congrFun (frc1.1 12 (by decide)) 1).trans hs.2⟩
  rcases hxc1 with ⟨hwc1, rfl, hmc1⟩ | ⟨hwc1, rfl, hmc1⟩
  · obtain ⟨lo1, lo2⟩ := sp_nm_lt hmc1.1 hwc1
    have hpos : ¬ Int64.ofNat (sp_cd (sp_wd T n p)) = 0 := fun e => by
      have hl := sp_n_lt hmc1.1 (Or.inl hwc1.1)
      have h1 := sp_cd_pos lo1 (fun y => by have := sp_wd_len (T := T) (n := n) (p := p); rw [y] at this; have : 0 = _ := this; omega)
      have := sp_i64 (sp_cd_63 lo1 lo2) (by decide) (show Int64.ofNat (sp_cd (sp_wd T n p)) = Int64.ofNat 0 from e)
      omega
    refine he_s 4 (pc' := 11) (lc' := [(2, .long (Int64.ofNat (sp_cd (sp_wd T n p)))), (0, .ref 12), (1, .ref 41)]) (stk' := [.int (lg_cmp (Int64.ofNat (sp_cd (sp_wd T n p))) 0)]) (mem' := cm gc1 l a b R) (by intro _ _ _; eq_refl) ?_
    refine he_s 1 (pc' := cond (fx_cb .eq (lg_cmp (Int64.ofNat (sp_cd (sp_wd T n p))) 0) 0) 41 14) (lc' := [(2, .long (Int64.ofNat (sp_cd (sp_wd T n p)))), (0, .ref 12), (1, .ref 41)]) (stk' := []) (mem' := cm gc1 l a b R) (by intro _ _ _; eq_refl) ?_
    rw [show (fx_cb .eq (lg_cmp (Int64.ofNat (sp_cd (sp_wd T n p))) 0) 0) = false from lg_eqF hpos]
    dsimp only [cond]
    refine he_s 2 (pc' := 16) (lc' := [(2, .long (Int64.ofNat (sp_cd (sp_wd T n p)))), (0, .ref 12), (1, .ref 41)]) (stk' := [.long (Int64.ofNat (sp_cd (sp_wd T n p))), .ref 41]) (mem' := cm gc1 l a b R) (by intro _ _ _; eq_refl) ?_
    obtain ⟨wc2, hrc2, hic2⟩ := ha_nam41 (g := gc1) (l := l) (a := a) (b := b) (R := R) (x := Int64.ofNat (sp_cd (sp_wd T n p))) hDc1.1.1 hDc1.1.2.1
    refine he_ivV hrc2 (by omega) (by rfl) (by rfl) (by rfl) (by rfl) (by rfl) (by rfl) ?_
    have hzc2 := sp_fxC hDc1.1.2.2.2.2.1 lo1 lo2 (by rw [List.length_map]; exact hic2)
    rw [List.length_map, sp_iC_map] at hzc2
    rcases hzc2 with ⟨hzc2, rfl⟩ | ⟨hzc2, rfl⟩
    · refine he_s 1 (pc' := cond (fx_cb .ge (-1) 0) 33 22) (lc' := [(2, .long (Int64.ofNat (sp_cd (sp_wd T n p)))), (0, .ref 12), (1, .ref 41)]) (stk' := []) (mem' := cm gc1 l a b R) (by intro _ _ _; eq_refl) ?_
      rw [show (fx_cb .ge (-1) 0) = false from by decide]
      dsimp only [cond]
      refine he_s 3 (pc' := 27) (lc' := [(2, .long (Int64.ofNat (sp_cd (sp_wd T n p)))), (0, .ref 12), (1, .ref 41)]) (stk' := [.long (Int64.ofNat (sp_cd (sp_wd T n p))), .ref 52]) (mem' := cm gc1 l a b R) (by intro _ _ _; eq_refl) ?_
      obtain ⟨wc3, hrc3, hic3⟩ := ha_cnam41 (g := gc1) (l := l) (a := a) (b := b) (R := R) (x := Int64.ofNat (sp_cd (sp_wd T n p))) hDc1.1.2.2.1 hDc1.1.2.2.2.1
      refine he_ivV hrc3 (by omega) (by rfl) (by rfl) (by rfl) (by rfl) (by rfl) (by rfl) ?_
      have hzc3 := sp_fxC hDc1.1.2.2.2.2.2 lo1 lo2 (by rw [List.length_map]; exact hic3)
      rw [List.length_map, sp_iW_map] at hzc3
      rcases hzc3 with ⟨hzc3, rfl⟩ | ⟨hzc3, rfl⟩
      · refine he_s 1 (pc' := cond (fx_cb .lt (-1) 0) 41 33) (lc' := [(2, .long (Int64.ofNat (sp_cd (sp_wd T n p)))), (0, .ref 12), (1, .ref 41)]) (stk' := []) (mem' := cm gc1 l a b R) (by intro _ _ _; eq_refl) ?_
        rw [show (fx_cb .lt (-1) 0) = true from by decide]
        dsimp only [cond]
        refine he_s 2 (pc' := 45) (lc' := [(2, .long (Int64.ofNat (sp_cd (sp_wd T n p)))), (0, .ref 12), (1, .ref 41)]) (stk' := [.ref 9]) (mem' := cm gc1 l a b R) (by intro _ _ _; eq_refl) ?_
        obtain ⟨gc4, lc4, hrc4, hmc4, frc4⟩ := ha_scano (R := R) hg hmc1
        refine he_ivV hrc4 (by omega) (by rfl) (by rfl) (by rfl) (by rfl) (by rfl) (by rfl) ?_
        have hfc4 := cfr_tr hfc1 frc4
        have hDc4 := cd_fr hDc1 frc4 (by decide) (by decide)
        have hsc4 : cst gc4 s := ⟨hsc1.1, (congrFun (frc4.1 12 (by decide)) 1).trans hsc1.2⟩
        refine he_s 1 (pc' := 49) (lc' := [(2, .long (Int64.ofNat (sp_cd (sp_wd T n p)))), (0, .ref 12), (1, .ref 41)]) (stk' := [.long (Int64.ofNat (sp_cd (sp_wd T n p)))]) (mem' := cm gc4 lc4 a b R) (by intro _ _ _; eq_refl) ?_
        exact he_ret ⟨_, _, _, hfc4, Or.inl ⟨hwc1, by omega, rfl, hmc4⟩, rfl⟩ (by rfl) (by rfl) (by rfl)
      · have hqc3 := hDc1.1.2.2.2.1
        refine he_s 1 (pc' := cond (fx_cb .lt (nI (sp_iW A.1.2 (sp_wd T n p))) 0) 41 33) (lc' := [(2, .long (Int64.ofNat (sp_cd (sp_wd T n p)))), (0, .ref 12), (1, .ref 41)]) (stk' := []) (mem' := cm gc1 l a b R) (by intro _ _ _; eq_refl) ?_
        rw [show (fx_cb .lt (nI (sp_iW A.1.2 (sp_wd T n p))) 0) = false from cb_ltF (a := (sp_iW A.1.2 (sp_wd T n p))) (b := 0) (by omega) (by omega) (by omega)]
        dsimp only [cond]
        refine he_s 3 (pc' := 38) (lc' := [(2, .long (Int64.ofNat (sp_cd (sp_wd T n p)))), (0, .ref 12), (1, .ref 41)]) (stk' := [.int 3, .ref 9]) (mem' := cm gc1 l a b R) (by intro _ _ _; eq_refl) ?_
        obtain ⟨gc5, hrc5, hmc5, frc5⟩ := ha_fail (a := a) (b := b) (R := R) (x := 3) hmc1 (by decide)
        refine he_ivV hrc5 (by omega) (by rfl) (by rfl) (by rfl) (by rfl) (by rfl) (by rfl) ?_
        have hfc5 := cfr_tr hfc1 frc5
        have hDc5 := cd_fr hDc1 frc5 (by decide) (by decide)
        have hsc5 : cst gc5 s := ⟨hsc1.1, (congrFun (frc5.1 12 (by decide)) 1).trans hsc1.2⟩
        refine he_s 2 (pc' := 45) (lc' := [(2, .long (Int64.ofNat (sp_cd (sp_wd T n p)))), (0, .ref 12), (1, .ref 41)]) (stk' := [.ref 9]) (mem' := cm gc5 l a b R) (by intro _ _ _; eq_refl) ?_
        obtain ⟨gc6, lc6, hrc6, hmc6, frc6⟩ := ha_scanq (R := R) hg hmc5
        refine he_ivV hrc6 (by omega) (by rfl) (by rfl) (by rfl) (by rfl) (by rfl) (by rfl) ?_
        have hfc6 := cfr_tr hfc5 frc6
        have hDc6 := cd_fr hDc5 frc6 (by decide) (by decide)
        have hsc6 : cst gc6 s := ⟨hsc5.1, (congrFun (frc6.1 12 (by decide)) 1).trans hsc5.2⟩
        refine he_s 1 (pc' := 49) (lc' := [(2, .long (Int64.ofNat (sp_cd (sp_wd T n p)))), (0, .ref 12), (1, .ref 41)]) (stk' := [.long (Int64.ofNat (sp_cd (sp_wd T n p)))]) (mem' := cm gc6 lc6 a b R) (by intro _ _ _; eq_refl) ?_
        exact he_ret ⟨_, _, _, hfc6, Or.inr (Or.inl ⟨hwc1, by omega, hmc6⟩), rfl⟩ (by rfl) (by rfl) (by rfl)
    · have hqc2 := hDc1.1.2.1
      refine he_s 1 (pc' := cond (fx_cb .ge (nI (sp_iC A.1.1 (sp_wd T n p))) 0) 33 22) (lc' := [(2, .long (Int64.ofNat (sp_cd (sp_wd T n p)))), (0, .ref 12), (1, .ref 41)]) (stk' := []) (mem' := cm gc1 l a b R) (by intro _ _ _; eq_refl) ?_
      rw [show (fx_cb .ge (nI (sp_iC A.1.1 (sp_wd T n p))) 0) = true from cb_geT (a := (sp_iC A.1.1 (sp_wd T n p))) (b := 0) (by omega) (by omega) (by omega)]
      dsimp only [cond]
      refine he_s 3 (pc' := 38) (lc' := [(2, .long (Int64.ofNat (sp_cd (sp_wd T n p)))), (0, .ref 12), (1, .ref 41)]) (stk' := [.int 3, .ref 9]) (mem' := cm gc1 l a b R) (by intro _ _ _; eq_refl) ?_
      obtain ⟨gc7, hrc7, hmc7, frc7⟩ := ha_fail (a := a) (b := b) (R := R) (x := 3) hmc1 (by decide)
      refine he_ivV hrc7 (by omega) (by rfl) (by rfl) (by rfl) (by rfl) (by rfl) (by rfl) ?_
      have hfc7 := cfr_tr hfc1 frc7
      have hDc7 := cd_fr hDc1 frc7 (by decide) (by decide)
      have hsc7 : cst gc7 s := ⟨hsc1.1, (congrFun (frc7.1 12 (by decide)) 1).trans hsc1.2⟩
      refine he_s 2 (pc' := 45) (lc' := [(2, .long (Int64.ofNat (sp_cd (sp_wd T n p)))), (0, .ref 12), (1, .ref 41)]) (stk' := [.ref 9]) (mem' := cm gc7 l a b R) (by intro _ _ _; eq_refl) ?_
      obtain ⟨gc8, lc8, hrc8, hmc8, frc8⟩ := ha_scanq (R := R) hg hmc7
      refine he_ivV hrc8 (by omega) (by rfl) (by rfl) (by rfl) (by rfl) (by rfl) (by rfl) ?_
      have hfc8 := cfr_tr hfc7 frc8
      have hDc8 := cd_fr hDc7 frc8 (by decide) (by decide)
      have hsc8 : cst gc8 s := ⟨hsc7.1, (congrFun (frc8.1 12 (by decide)) 1).trans hsc7.2⟩
      refine he_s 1 (pc' := 49) (lc' := [(2, .long (Int64.ofNat (sp_cd (sp_wd T n p)))), (0, .ref 12), (1, .ref 41)]) (stk' := [.long (Int64.ofNat (sp_cd (sp_wd T n p)))]) (mem' := cm gc8 lc8 a b R) (by intro _ _ _; eq_refl) ?_
      exact he_ret ⟨_, _, _, hfc8, Or.inr (Or.inl ⟨hwc1, by omega, hmc8⟩), rfl⟩ (by rfl) (by rfl) (by rfl)
  · refine he_s 4 (pc' := 11) (lc' := [(2, .long 0), (0, .ref 12), (1, .ref 41)]) (stk' := [.int (lg_cmp 0 0)]) (mem' := cm gc1 l a b R) (by intro _ _ _; eq_refl) ?_
    refine he_s 1 (pc' := cond (fx_cb .eq (lg_cmp 0 0) 0) 41 14) (lc' := [(2, .long 0), (0, .ref 12), (1, .ref 41)]) (stk' := []) (mem' := cm gc1 l a b R) (by intro _ _ _; eq_refl) ?_
    rw [show (fx_cb .eq (lg_cmp 0 0) 0) = true from (by decide)]
    dsimp only [cond]
    refine he_s 2 (pc' := 45) (lc' := [(2, .long 0), (0, .ref 12), (1, .ref 41)]) (stk' := [.ref 9]) (mem' := cm gc1 l a b R) (by intro _ _ _; eq_refl) ?_
    obtain ⟨gc9, lc9, hrc9, hmc9, frc9⟩ := ha_scanq (R := R) hg hmc1
    refine he_ivV hrc9 (by omega) (by rfl) (by rfl) (by rfl) (by rfl) (by rfl) (by rfl) ?_
    have hfc9 := cfr_tr hfc1 frc9
    have hDc9 := cd_fr hDc1 frc9 (by decide) (by decide)
    have hsc9 : cst gc9 s := ⟨hsc1.1, (congrFun (frc9.1 12 (by decide)) 1).trans hsc1.2⟩
    refine he_s 1 (pc' := 49) (lc' := [(2, .long 0), (0, .ref 12), (1, .ref 41)]) (stk' := [.long 0]) (mem' := cm gc9 lc9 a b R) (by intro _ _ _; eq_refl) ?_
    exact he_ret ⟨_, _, _, hfc9, Or.inr (Or.inr ⟨hwc1, hmc9⟩), rfl⟩ (by rfl) (by rfl) (by rfl)
theorem ha_nnq0 (hg : ctx a b T n) (hD : cd_L 41 A g a b) (hs : cst g s) (h : cq g l T n F P) : ∃ (v : Option Value) (mem' : fx_M), (fun R1 => ∃ (g' : Nat → Nat → Int32) (l' : Nat → Nat → Int64) (v : Int64), cfr g l g' l' ∧ cq g' l' T n F P ∧ R1 = (some (.long v), cm g' l' a b R)) (v, mem') ∧ hr_T 4 66 [.ref 12, .ref 41] (cm g l a b R) v mem' := by
  refine he_meth (F := fun R1 => ∃ (g' : Nat → Nat → Int32) (l' : Nat → Nat → Int64) (v : Int64), cfr g l g' l' ∧ cq g' l' T n F P ∧ R1 = (some (.long v), cm g' l' a b R)) (M := gk_m66) (by rfl) (by rfl) ?_
  refine he_s 2 (pc' := 4) (lc' := [(0, .ref 12), (1, .ref 41)]) (stk' := [.ref 9]) (mem' := cm g l a b R) (by intro _ _ _; eq_refl) ?_
  obtain ⟨vc1, memc1, ⟨gc1, lc1, xc1, frc1, hmc1, hRc1⟩, hrc1⟩ := ha_nhq0 (R := R) hg h
  cases hRc1
  refine he_ivV hrc1 (by omega) (by rfl) (by rfl) (by rfl) (by rfl) (by rfl) (by rfl) ?_
  have hfc1 := cfr_tr cfr_rf frc1
  have hDc1 := cd_fr hD frc1 (by decide) (by decide)
  have hsc1 : cst gc1 s := ⟨hs.1, (congrFun (frc1.1 12 (by decide)) 1).trans hs.2⟩
  refine he_s 4 (pc' := 11) (lc' := [(2, .long xc1), (0, .ref 12), (1, .ref 41)]) (stk' := [.int (lg_cmp xc1 0)]) (mem' := cm gc1 lc1 a b R) (by intro _ _ _; eq_refl) ?_
  refine he_s 1 (pc' := cond (fx_cb .eq (lg_cmp xc1 0) 0) 41 14) (lc' := [(2, .long xc1), (0, .ref 12), (1, .ref 41)]) (stk' := []) (mem' := cm gc1 lc1 a b R) (by intro _ _ _; eq_refl) ?_
  cases y2 : fx_cb .eq (lg_cmp xc1 0) 0
  · refine he_s 2 (pc' := 16) (lc' := [(2, .long xc1), (0, .ref 12), (1, .ref 41)]) (stk' := [.long xc1, .ref 41]) (mem' := cm gc1 lc1 a b R) (by intro _ _ _; eq_refl) ?_
    obtain ⟨wc3, hrc3, hic3⟩ := ha_nam41 (g := gc1) (l := lc1) (a := a) (b := b) (R := R) (x := xc1) hDc1.1.1 hDc1.1.2.1
    refine he_ivV hrc3 (by omega) (by rfl) (by rfl) (by rfl) (by rfl) (by rfl) (by rfl) ?_
    refine he_s 1 (pc' := cond (fx_cb .ge wc3 0) 33 22) (lc' := [(2, .long xc1), (0, .ref 12), (1, .ref 41)]) (stk' := []) (mem' := cm gc1 lc1 a b R) (by intro _ _ _; eq_refl) ?_
    cases y4 : fx_cb .ge wc3 0
    · refine he_s 3 (pc' := 27) (lc' := [(2, .long xc1), (0, .ref 12), (1, .ref 41)]) (stk' := [.long xc1, .ref 52]) (mem' := cm gc1 lc1 a b R) (by intro _ _ _; eq_refl) ?_
      obtain ⟨wc5, hrc5, hic5⟩ := ha_cnam41 (g := gc1) (l := lc1) (a := a) (b := b) (R := R) (x := xc1) hDc1.1.2.2.1 hDc1.1.2.2.2.1
      refine he_ivV hrc5 (by omega) (by rfl) (by rfl) (by rfl) (by rfl) (by rfl) (by rfl) ?_
      refine he_s 1 (pc' := cond (fx_cb .lt wc5 0) 41 33) (lc' := [(2, .long xc1), (0, .ref 12), (1, .ref 41)]) (stk' := []) (mem' := cm gc1 lc1 a b R) (by intro _ _ _; eq_refl) ?_
      cases y6 : fx_cb .lt wc5 0
      · refine he_s 3 (pc' := 38) (lc' := [(2, .long xc1), (0, .ref 12), (1, .ref 41)]) (stk' := [.int 3, .ref 9]) (mem' := cm gc1 lc1 a b R) (by intro _ _ _; eq_refl) ?_
        refine he_ivV (ha_failq (a := a) (b := b) (R := R) (x := 3) hmc1) (by omega) (by rfl) (by rfl) (by rfl) (by rfl) (by rfl) (by rfl) ?_
        refine he_s 2 (pc' := 45) (lc' := [(2, .long xc1), (0, .ref 12), (1, .ref 41)]) (stk' := [.ref 9]) (mem' := cm gc1 lc1 a b R) (by intro _ _ _; eq_refl) ?_
        obtain ⟨gc8, lc8, hrc8, hmc8, frc8⟩ := ha_scanq (R := R) hg hmc1
        refine he_ivV hrc8 (by omega) (by rfl) (by rfl) (by rfl) (by rfl) (by rfl) (by rfl) ?_
        have hfc8 := cfr_tr hfc1 frc8
        have hDc8 := cd_fr hDc1 frc8 (by decide) (by decide)
        have hsc8 : cst gc8 s := ⟨hsc1.1, (congrFun (frc8.1 12 (by decide)) 1).trans hsc1.2⟩
        refine he_s 1 (pc' := 49) (lc' := [(2, .long xc1), (0, .ref 12), (1, .ref 41)]) (stk' := [.long xc1]) (mem' := cm gc8 lc8 a b R) (by intro _ _ _; eq_refl) ?_
        exact he_ret ⟨_, _, _, hfc8, hmc8, rfl⟩ (by rfl) (by rfl) (by rfl)
      · refine he_s 2 (pc' := 45) (lc' := [(2, .long xc1), (0, .ref 12), (1, .ref 41)]) (stk' := [.ref 9]) (mem' := cm gc1 lc1 a b R) (by intro _ _ _; eq_refl) ?_
        obtain ⟨gc9, lc9, hrc9, hmc9, frc9⟩ := ha_scanq (R := R) hg hmc1
        refine he_ivV hrc9 (by omega) (by rfl) (by rfl) (by rfl) (by rfl) (by rfl) (by rfl) ?_
        have hfc9 := cfr_tr hfc1 frc9
        have hDc9 := cd_fr hDc1 frc9 (by decide) (by decide)
        have hsc9 : cst gc9 s := ⟨hsc1.1, (congrFun (frc9.1 12 (by decide)) 1).trans hsc1.2⟩
        refine he_s 1 (pc' := 49) (lc' := [(2, .long xc1), (0, .ref 12), (1, .ref 41)]) (stk' := [.long xc1]) (mem' := cm gc9 lc9 a b R) (by intro _ _ _; eq_refl) ?_
        exact he_ret ⟨_, _, _, hfc9, hmc9, rfl⟩ (by rfl) (by rfl) (by rfl)
    · refine he_s 3 (pc' := 38) (lc' := [(2, .long xc1), (0, .ref 12), (1, .ref 41)]) (stk' := [.int 3, .ref 9]) (mem' := cm gc1 lc1 a b R) (by intro _ _ _; eq_refl) ?_
      refine he_ivV (ha_failq (a := a) (b := b) (R := R) (x := 3) hmc1) (by omega) (by rfl) (by rfl) (by rfl) (by rfl) (by rfl) (by rfl) ?_
      refine he_s 2 (pc' := 45) (lc' := [(2, .long xc1), (0, .ref 12), (1, .ref 41)]) (stk' := [.ref 9]) (mem' := cm gc1 lc1 a b R) (by intro _ _ _; eq_refl) ?_
      obtain ⟨gc11, lc11, hrc11, hmc11, frc11⟩ := ha_scanq (R := R) hg hmc1
      refine he_ivV hrc11 (by omega) (by rfl) (by rfl) (by rfl) (by rfl) (by rfl) (by rfl) ?_
      have hfc11 := cfr_tr hfc1 frc11
      have hDc11 := cd_fr hDc1 frc11 (by decide) (by decide)
      have hsc11 : cst gc11 s := ⟨hsc1.1, (congrFun (frc11.1 12 (by decide)) 1).trans hsc1.2⟩
      refine he_s 1 (pc' := 49) (lc' := [(2, .long xc1), (0, .ref 12), (1, .ref 41)]) (stk' := [.long xc1]) (mem' := cm gc11 lc11 a b R) (by intro _ _ _; eq_refl) ?_
      exact he_ret ⟨_, _, _, hfc11, hmc11, rfl⟩ (by rfl) (by rfl) (by rfl)
  · refine he_s 2 (pc' := 45) (lc' := [(2, .long xc1), (0, .ref 12), (1, .ref 41)]) (stk' := [.ref 9]) (mem' := cm gc1 lc1 a b R) (by intro _ _ _; eq_refl) ?_
    obtain ⟨gc12, lc12, hrc12, hmc12, frc12⟩ := ha_scanq (R := R) hg hmc1
    refine he_ivV hrc12 (by omega) (by rfl) (by rfl) (by rfl) (by rfl) (by rfl) (by rfl) ?_
    have hfc12 := cfr_tr hfc1 frc12
    have hDc12 := cd_fr hDc1 frc12 (by decide) (by decide)
    have hsc12 : cst gc12 s := ⟨hsc1.1, (congrFun (frc12.1 12 (by decide)) 1).trans hsc1.2⟩
    refine he_s 1 (pc' := 49) (lc' := [(2, .long xc1), (0, .ref 12), (1, .ref 41)]) (stk' := [.long xc1]) (mem' := cm gc12 lc12 a b R) (by intro _ _ _; eq_refl) ?_
    exact he_ret ⟨_, _, _, hfc12, hmc12, rfl⟩ (by rfl) (by rfl) (by rfl)
theorem sp_fin_t {T : Nat → Nat} {n p st : Nat} {A : sp_A} (h : sp_k T n p = 3 ∧ T (sp_s T n p) = 59) : sp_fin T n A st p = .inr (A, st, sp_n T n p) := sp_sign_t h
theorem sp_fin_f {T : Nat → Nat} {n p st : Nat} {A : sp_A} (h : ¬ (sp_k T n p = 3 ∧ T (sp_s T n p) = 59)) : sp_fin T n A st p = .inl (sp_m T n p, sp_s T n p) := sp_sign_f h
theorem cRes_u {z : sp_R} {k : Nat} {x : Int32} (h : cRes g l a b T n z) (hk : 10 ≤ k) : cRes (fm_u g 41 k x) l a b T n z := by
  cases z with
  | inl z => exact cq_u h (by decide)
  | inr z => exact ⟨co_u h.1 (by decide), cd_12 h.2.1 (Or.inr (by omega)) (Or.inl (by decide)), h.2.2.1, (congrFun (fm_un (by decide)) 1).trans h.2.2.2⟩
theorem cst_b0 : ∀ s, s < 8 → ∀ k, k < 3 → s / 2 ^ k % 2 = 1 → nI (256 * s) &&& ((1 : Int32) <<< (nI (8 + k) &&& 31)) ≠ 0 ∧ nI (256 * s) ||| ((1 : Int32) <<< (nI (8 + k) &&& 31)) = nI (256 * s) := by decide +kernel
theorem cst_b1 : ∀ s, s < 8 → ∀ k, k < 3 → ¬ s / 2 ^ k % 2 = 1 → nI (256 * s) &&& ((1 : Int32) <<< (nI (8 + k) &&& 31)) = 0 ∧ nI (256 * s) ||| ((1 : Int32) <<< (nI (8 + k) &&& 31)) = nI (256 * (s + 2 ^ k)) ∧ s + 2 ^ k < 8 := by decide +kernel
theorem ha_rc0 (hg : ctx a b T n) (hD : cd_L 41 A g a b) (hs : cst g s) (h : co g l T n p) : ∃ (v : Option Value) (mem' : fx_M), (fun R1 => ∃ (g' : Nat → Nat → Int32) (l' : Nat → Nat → Int64) (a' : Nat → Nat → Int32) (b' : Nat → Nat → Int64), cfd g a b l g' a' b' l' ∧ cRes g' l' a' b' T n (sp_pCell T n A s p false) ∧ R1 = (none, cm g' l' a' b' R)) (v, mem') ∧ hr_T 5 67 [.ref 12, .ref 41, .int 0] (cm g l a b R) v mem' := by
  refine he_meth (F := fun R1 => ∃ (g' : Nat → Nat → Int32) (l' : Nat → Nat → Int64) (a' : Nat → Nat → Int32) (b' : Nat → Nat → Int64), cfd g a b l g' a' b' l' ∧ cRes g' l' a' b' T n (sp_pCell T n A s p false) ∧ R1 = (none, cm g' l' a' b' R)) (M := gk_m67) (by rfl) (by rfl) ?_
  have hq0 := hD.1.2.1
  refine he_s 3 (pc' := 6) (lc' := [(0, .ref 12), (1, .ref 41), (2, .int 0)]) (stk' := [.int 10, .int (g 41 8)]) (mem' := cm g l a b R) (by intro _ _ _; eq_refl) ?_
  try rw [hD.1.1]
  refine he_s 1 (pc' := cond (fx_cb .lt (nI (A.1.1.length)) 10) 18 9) (lc' := [(0, .ref 12), (1, .ref 41), (2, .int 0)]) (stk' := []) (mem' := cm g l a b R) (by intro _ _ _; eq_refl) ?_
  by_cases y1 : (A.1.1.length) < 10
  · rw [show (fx_cb .lt (nI (A.1.1.length)) 10) = true from cb_ltT (a := (A.1.1.length)) (b := 10) (by omega) (by omega) (by omega)]
    dsimp only [cond]
    refine he_s 2 (pc' := 22) (lc' := [(0, .ref 12), (1, .ref 41), (2, .int 0)]) (stk' := [.ref 9]) (mem' := cm g l a b R) (by intro _ _ _; eq_refl) ?_
    obtain ⟨gc2, lc2, hrc2, hmc2, frc2⟩ := ha_scano (R := R) hg h
    refine he_ivV hrc2 (by omega) (by rfl) (by rfl) (by rfl) (by rfl) (by rfl) (by rfl) ?_
    have fc2_41_8 : gc2 41 8 = nI (A.1.1.length) := (congrFun (frc2.1 41 (by decide)) 8).trans hD.1.1
    have hfc2 := cfr_tr cfr_rf frc2
    have hDc2 := cd_fr hD frc2 (by decide) (by decide)
    have hsc2 : cst gc2 s := ⟨hs.1, (congrFun (frc2.1 12 (by decide)) 1).trans hs.2⟩
    refine he_s 2 (pc' := 27) (lc' := [(0, .ref 12), (1, .ref 41), (2, .int 0)]) (stk' := [.ref 41, .ref 12]) (mem' := cm gc2 lc2 a b R) (by intro _ _ _; eq_refl) ?_
    obtain ⟨vc3, memc3, ⟨xc3, gc3, lc3, frc3, hxc3, hRc3⟩, hrc3⟩ := ha_nn0 (R := R) hg hDc2 hsc2 hmc2
    cases hRc3
    refine he_ivV hrc3 (by omega) (by rfl) (by rfl) (by rfl) (by rfl) (by rfl) (by rfl) ?_
    have fc3_41_8 : gc3 41 8 = nI (A.1.1.length) := (congrFun (frc3.1 41 (by decide)) 8).trans fc2_41_8
    have hfc3 := cfr_tr hfc2 frc3
    have hDc3 := cd_fr hDc2 frc3 (by decide) (by decide)
    have hsc3 : cst gc3 s := ⟨hsc2.1, (congrFun (frc3.1 12 (by decide)) 1).trans hsc2.2⟩
    rcases hxc3 with ⟨hwc3, hvc3, rfl, hmc3⟩ | ⟨hwc3, hvc3, hmc3⟩ | ⟨hwc3, hmc3⟩
    · refine he_s 4 (pc' := 35) (lc' := [(5, .int 0), (3, .long (Int64.ofNat (sp_cd (sp_wd T n (sp_n T n p))))), (0, .ref 12), (1, .ref 41), (2, .int 0)]) (stk' := [.int 0]) (mem' := cm gc3 lc3 a b R) (by intro _ _ _; eq_refl) ?_
      refine he_s 1 (pc' := cond (fx_cb .ne 0 0) 59 38) (lc' := [(5, .int 0), (3, .long (Int64.ofNat (sp_cd (sp_wd T n (sp_n T n p))))), (0, .ref 12), (1, .ref 41), (2, .int 0)]) (stk' := []) (mem' := cm gc3 lc3 a b R) (by intro _ _ _; eq_refl) ?_
      rw [show (fx_cb .ne 0 0) = false from by decide]
      dsimp only [cond]
      refine he_s 3 (pc' := 43) (lc' := [(5, .int 0), (3, .long (Int64.ofNat (sp_cd (sp_wd T n (sp_n T n p))))), (0, .ref 12), (1, .ref 41), (2, .int 0)]) (stk' := [.int 1, .ref 9]) (mem' := cm gc3 lc3 a b R) (by intro _ _ _; eq_refl) ?_
      obtain ⟨vc4, memc4, ⟨gc4, lc4, frc4, hxc4, hRc4⟩, hrc4⟩ := ha_pw0 (w := 1) (R := R) hg (by decide) hmc3
      cases hRc4
      refine he_ivV hrc4 (by omega) (by rfl) (by rfl) (by rfl) (by rfl) (by rfl) (by rfl) ?_
      have fc4_41_8 : gc4 41 8 = nI (A.1.1.length) := (congrFun (frc4.1 41 (by decide)) 8).trans fc3_41_8
      have hfc4 := cfr_tr hfc3 frc4
      have hDc4 := cd_fr hDc3 frc4 (by decide) (by decide)
      have hsc4 : cst gc4 s := ⟨hsc3.1, (congrFun (frc4.1 12 (by decide)) 1).trans hsc3.2⟩
      rcases hxc4 with ⟨hwc4, hmc4⟩ | ⟨hwc4, hmc4⟩
      · refine he_s 4 (pc' := 54) (lc' := [(5, .int 0), (3, .long (Int64.ofNat (sp_cd (sp_wd T n (sp_n T n p))))), (0, .ref 12), (1, .ref 41), (2, .int 0)]) (stk' := [.int 200, .int 0, .ref 9]) (mem' := cm gc4 lc4 a b R) (by intro _ _ _; eq_refl) ?_
        obtain ⟨vc5, memc5, ⟨xc5, gc5, lc5, frc5, hxc5, hRc5⟩, hrc5⟩ := ha_pn0 (lo := 0) (hi := 200) (R := R) hg (by omega) (by decide) hmc4
        cases hRc5
        refine he_ivV hrc5 (by omega) (by rfl) (by rfl) (by rfl) (by rfl) (by rfl) (by rfl) ?_
        have fc5_41_8 : gc5 41 8 = nI (A.1.1.length) := (congrFun (frc5.1 41 (by decide)) 8).trans fc4_41_8
        have hfc5 := cfr_tr hfc4 frc5
        have hDc5 := cd_fr hDc4 frc5 (by decide) (by decide)
        have hsc5 : cst gc5 s := ⟨hsc4.1, (congrFun (frc5.1 12 (by decide)) 1).trans hsc4.2⟩
        rcases hxc5 with ⟨hwc5, hvc5, rfl, hmc5⟩ | ⟨hwc5, hvc5, hmc5⟩ | ⟨hwc5, hmc5⟩
        · refine he_s 4 (pc' := 65) (lc' := [(5, .int (nI (sp_v T n (sp_n T n (sp_n T n (sp_n T n p)))))), (3, .long (Int64.ofNat (sp_cd (sp_wd T n (sp_n T n p))))), (0, .ref 12), (1, .ref 41), (2, .int 0)]) (stk' := [.int 59, .ref 9]) (mem' := cm gc5 lc5 a b R) (by intro _ _ _; eq_refl) ?_
          obtain ⟨vc6, memc6, ⟨xc6, gc6, lc6, frc6, hxc6, hRc6⟩, hrc6⟩ := ha_ps0 (w := 59) (R := R) hg (by decide) hmc5
          cases hRc6
          refine he_ivV hrc6 (by omega) (by rfl) (by rfl) (by rfl) (by rfl) (by rfl) (by rfl) ?_
          have fc6_41_8 : gc6 41 8 = nI (A.1.1.length) := (congrFun (frc6.1 41 (by decide)) 8).trans fc5_41_8
          have hfc6 := cfr_tr hfc5 frc6
          have hDc6 := cd_fr hDc5 frc6 (by decide) (by decide)
          have hsc6 : cst gc6 s := ⟨hsc5.1, (congrFun (frc6.1 12 (by decide)) 1).trans hsc5.2⟩
          rcases hxc6 with ⟨hwc6, rfl, hmc6⟩ | ⟨hwc6, rfl, hmc6⟩
          · refine he_s 1 (pc' := cond (fx_cb .eq 1 0) 79 71) (lc' := [(5, .int (nI (sp_v T n (sp_n T n (sp_n T n (sp_n T n p)))))), (3, .long (Int64.ofNat (sp_cd (sp_wd T n (sp_n T n p))))), (0, .ref 12), (1, .ref 41), (2, .int 0)]) (stk' := []) (mem' := cm gc6 lc6 a b R) (by intro _ _ _; eq_refl) ?_
            rw [show (fx_cb .eq 1 0) = false from by decide]
            dsimp only [cond]
            refine he_s 4 (pc' := 76) (lc' := [(5, .int (nI (sp_v T n (sp_n T n (sp_n T n (sp_n T n p)))))), (3, .long (Int64.ofNat (sp_cd (sp_wd T n (sp_n T n p))))), (0, .ref 12), (1, .ref 41), (2, .int 0)]) (stk' := [.int (nI (sp_v T n (sp_n T n (sp_n T n (sp_n T n p))))), .int 0, .long (Int64.ofNat (sp_cd (sp_wd T n (sp_n T n p)))), .ref 41]) (mem' := cm gc6 lc6 a b R) (by intro _ _ _; eq_refl) ?_
            obtain ⟨gc7, ac7, bc7, hrc7, hDc7, hdc7⟩ := ha_add0 (l := lc6) (R := R) (m := nI (sp_v T n (sp_n T n (sp_n T n (sp_n T n p))))) hDc6 (by omega) (sp_nm_lt (n := n) (p := (sp_n T n p)) (sp_n_le h.1) hwc3).1 (sp_nm_lt (n := n) (p := (sp_n T n p)) (sp_n_le h.1) hwc3).2
            refine he_ivV hrc7 (by omega) (by rfl) (by rfl) (by rfl) (by rfl) (by rfl) (by rfl) ?_
            have hsc7 : cst gc7 s := ⟨hsc6.1, (congrFun (hdc7 12 (by decide)).1 1).trans hsc6.2⟩
            refine he_ret ⟨_, _, _, _, cfd_tr (cfd_c hfc6) (cfd_d hdc7), ?_, rfl⟩ (by rfl) (by rfl) (by rfl)
            unfold sp_pCell
            rw [if_neg (by omega), sp_new_t hwc3 hvc3, if_neg (by decide), sp_word_t hwc4, sp_num_t hwc5 hvc5, sp_fin_t hwc6]
            exact ⟨co_d hmc6 hdc7, hDc7, hsc7⟩
          · refine he_s 1 (pc' := cond (fx_cb .eq 0 0) 79 71) (lc' := [(5, .int (nI (sp_v T n (sp_n T n (sp_n T n (sp_n T n p)))))), (3, .long (Int64.ofNat (sp_cd (sp_wd T n (sp_n T n p))))), (0, .ref 12), (1, .ref 41), (2, .int 0)]) (stk' := []) (mem' := cm gc6 lc6 a b R) (by intro _ _ _; eq_refl) ?_
            rw [show (fx_cb .eq 0 0) = true from by decide]
            dsimp only [cond]
            refine he_ret ⟨_, _, _, _, cfd_c hfc6, ?_, rfl⟩ (by rfl) (by rfl) (by rfl)
            unfold sp_pCell
            rw [if_neg (by omega), sp_new_t hwc3 hvc3, if_neg (by decide), sp_word_t hwc4, sp_num_t hwc5 hvc5, sp_fin_f hwc6]
            exact hmc6
        · refine he_s 4 (pc' := 65) (lc' := [(5, .int xc5), (3, .long (Int64.ofNat (sp_cd (sp_wd T n (sp_n T n p))))), (0, .ref 12), (1, .ref 41), (2, .int 0)]) (stk' := [.int 59, .ref 9]) (mem' := cm gc5 lc5 a b R) (by intro _ _ _; eq_refl) ?_
          obtain ⟨vc8, memc8, ⟨gc8, lc8, frc8, hmc8, hRc8⟩, hrc8⟩ := ha_psq0 (x := 59) (R := R) hg hmc5
          cases hRc8
          refine he_ivV hrc8 (by omega) (by rfl) (by rfl) (by rfl) (by rfl) (by rfl) (by rfl) ?_
          have fc8_41_8 : gc8 41 8 = nI (A.1.1.length) := (congrFun (frc8.1 41 (by decide)) 8).trans fc5_41_8
          have hfc8 := cfr_tr hfc5 frc8
          have hDc8 := cd_fr hDc5 frc8 (by decide) (by decide)
          have hsc8 : cst gc8 s := ⟨hsc5.1, (congrFun (frc8.1 12 (by decide)) 1).trans hsc5.2⟩
          refine he_s 1 (pc' := cond (fx_cb .eq 0 0) 79 71) (lc' := [(5, .int xc5), (3, .long (Int64.ofNat (sp_cd (sp_wd T n (sp_n T n p))))), (0, .ref 12), (1, .ref 41), (2, .int 0)]) (stk' := []) (mem' := cm gc8 lc8 a b R) (by intro _ _ _; eq_refl) ?_
          rw [show (fx_cb .eq 0 0) = true from by decide]
          dsimp only [cond]
          refine he_ret ⟨_, _, _, _, cfd_c hfc8, ?_, rfl⟩ (by rfl) (by rfl) (by rfl)
          unfold sp_pCell
          rw [if_neg (by omega), sp_new_t hwc3 hvc3, if_neg (by decide), sp_word_t hwc4, sp_num_4 hwc5 hvc5]
          exact hmc8
        · refine he_s 4 (pc' := 65) (lc' := [(5, .int xc5), (3, .long (Int64.ofNat (sp_cd (sp_wd T n (sp_n T n p))))), (0, .ref 12), (1, .ref 41), (2, .int 0)]) (stk' := [.int 59, .ref 9]) (mem' := cm gc5 lc5 a b R) (by intro _ _ _; eq_refl) ?_
          obtain ⟨vc9, memc9, ⟨gc9, lc9, frc9, hmc9, hRc9⟩, hrc9⟩ := ha_psq0 (x := 59) (R := R) hg hmc5
          cases hRc9
          refine he_ivV hrc9 (by omega) (by rfl) (by rfl) (by rfl) (by rfl) (by rfl) (by rfl) ?_
          have fc9_41_8 : gc9 41 8 = nI (A.1.1.length) := (congrFun (frc9.1 41 (by decide)) 8).trans fc5_41_8
          have hfc9 := cfr_tr hfc5 frc9
          have hDc9 := cd_fr hDc5 frc9 (by decide) (by decide)
          have hsc9 : cst gc9 s := ⟨hsc5.1, (congrFun (frc9.1 12 (by decide)) 1).trans hsc5.2⟩
          refine he_s 1 (pc' := cond (fx_cb .eq 0 0) 79 71) (lc' := [(5, .int xc5), (3, .long (Int64.ofNat (sp_cd (sp_wd T n (sp_n T n p))))), (0, .ref 12), (1, .ref 41), (2, .int 0)]) (stk' := []) (mem' := cm gc9 lc9 a b R) (by intro _ _ _; eq_refl) ?_
          rw [show (fx_cb .eq 0 0) = true from by decide]
          dsimp only [cond]
          refine he_ret ⟨_, _, _, _, cfd_c hfc9, ?_, rfl⟩ (by rfl) (by rfl) (by rfl)
          unfold sp_pCell
          rw [if_neg (by omega), sp_new_t hwc3 hvc3, if_neg (by decide), sp_word_t hwc4, sp_num_f hwc5]
          exact hmc9
      · refine he_s 4 (pc' := 54) (lc' := [(5, .int 0), (3, .long (Int64.ofNat (sp_cd (sp_wd T n (sp_n T n p))))), (0, .ref 12), (1, .ref 41), (2, .int 0)]) (stk' := [.int 200, .int 0, .ref 9]) (mem' := cm gc4 lc4 a b R) (by intro _ _ _; eq_refl) ?_
        obtain ⟨vc10, memc10, ⟨gc10, lc10, xc10, frc10, hmc10, hRc10⟩, hrc10⟩ := ha_pnq0 (x := 0) (y := 200) (R := R) hg hmc4
        cases hRc10
        refine he_ivV hrc10 (by omega) (by rfl) (by rfl) (by rfl) (by rfl) (by rfl) (by rfl) ?_
        have fc10_41_8 : gc10 41 8 = nI (A.1.1.length) := (congrFun (frc10.1 41 (by decide)) 8).trans fc4_41_8
        have hfc10 := cfr_tr hfc4 frc10
        have hDc10 := cd_fr hDc4 frc10 (by decide) (by decide)
        have hsc10 : cst gc10 s := ⟨hsc4.1, (congrFun (frc10.1 12 (by decide)) 1).trans hsc4.2⟩
        refine he_s 4 (pc' := 65) (lc' := [(5, .int xc10), (3, .long (Int64.ofNat (sp_cd (sp_wd T n (sp_n T n p))))), (0, .ref 12), (1, .ref 41), (2, .int 0)]) (stk' := [.int 59, .ref 9]) (mem' := cm gc10 lc10 a b R) (by intro _ _ _; eq_refl) ?_
        obtain ⟨vc11, memc11, ⟨gc11, lc11, frc11, hmc11, hRc11⟩, hrc11⟩ := ha_psq0 (x := 59) (R := R) hg hmc10
        cases hRc11
        refine he_ivV hrc11 (by omega) (by rfl) (by rfl) (by rfl) (by rfl) (by rfl) (by rfl) ?_
        have fc11_41_8 : gc11 41 8 = nI (A.1.1.length) := (congrFun (frc11.1 41 (by decide)) 8).trans fc10_41_8
        have hfc11 := cfr_tr hfc10 frc11
        have hDc11 := cd_fr hDc10 frc11 (by decide) (by decide)
        have hsc11 : cst gc11 s := ⟨hsc10.1, (congrFun (frc11.1 12 (by decide)) 1).trans hsc10.2⟩
        refine he_s 1 (pc' := cond (fx_cb .eq 0 0) 79 71) (lc' := [(5, .int xc10), (3, .long (Int64.ofNat (sp_cd (sp_wd T n (sp_n T n p))))), (0, .ref 12), (1, .ref 41), (2, .int 0)]) (stk' := []) (mem' := cm gc11 lc11 a b R) (by intro _ _ _; eq_refl) ?_
        rw [show (fx_cb .eq 0 0) = true from by decide]
        dsimp only [cond]
        refine he_ret ⟨_, _, _, _, cfd_c hfc11, ?_, rfl⟩ (by rfl) (by rfl) (by rfl)
        unfold sp_pCell
        rw [if_neg (by omega), sp_new_t hwc3 hvc3, if_neg (by decide), sp_word_f hwc4]
        exact hmc11
    · refine he_s 4 (pc' := 35) (lc' := [(5, .int 0), (3, .long xc3), (0, .ref 12), (1, .ref 41), (2, .int 0)]) (stk' := [.int 0]) (mem' := cm gc3 lc3 a b R) (by intro _ _ _; eq_refl) ?_
      refine he_s 1 (pc' := cond (fx_cb .ne 0 0) 59 38) (lc' := [(5, .int 0), (3, .long xc3), (0, .ref 12), (1, .ref 41), (2, .int 0)]) (stk' := []) (mem' := cm gc3 lc3 a b R) (by intro _ _ _; eq_refl) ?_
      rw [show (fx_cb .ne 0 0) = false from by decide]
      dsimp only [cond]
      refine he_s 3 (pc' := 43) (lc' := [(5, .int 0), (3, .long xc3), (0, .ref 12), (1, .ref 41), (2, .int 0)]) (stk' := [.int 1, .ref 9]) (mem' := cm gc3 lc3 a b R) (by intro _ _ _; eq_refl) ?_
      obtain ⟨vc12, memc12, ⟨gc12, lc12, frc12, hmc12, hRc12⟩, hrc12⟩ := ha_pwq0 (x := 1) (R := R) hg hmc3
      cases hRc12
      refine he_ivV hrc12 (by omega) (by rfl) (by rfl) (by rfl) (by rfl) (by rfl) (by rfl) ?_
      have fc12_41_8 : gc12 41 8 = nI (A.1.1.length) := (congrFun (frc12.1 41 (by decide)) 8).trans fc3_41_8
      have hfc12 := cfr_tr hfc3 frc12
      have hDc12 := cd_fr hDc3 frc12 (by decide) (by decide)
      have hsc12 : cst gc12 s := ⟨hsc3.1, (congrFun (frc12.1 12 (by decide)) 1).trans hsc3.2⟩
      refine he_s 4 (pc' := 54) (lc' := [(5, .int 0), (3, .long xc3), (0, .ref 12), (1, .ref 41), (2, .int 0)]) (stk' := [.int 200, .int 0, .ref 9]) (mem' := cm gc12 lc12 a b R) (by intro _ _ _; eq_refl) ?_
      obtain ⟨vc13, memc13, ⟨gc13, lc13, xc13, frc13, hmc13, hRc13⟩, hrc13⟩ := ha_pnq0 (x := 0) (y := 200) (R := R) hg hmc12
      cases hRc13
      refine he_ivV hrc13 (by omega) (by rfl) (by rfl) (by rfl) (by rfl) (by rfl) (by rfl) ?_
      have fc13_41_8 : gc13 41 8 = nI (A.1.1.length) := (congrFun (frc13.1 41 (by decide)) 8).trans fc12_41_8
      have hfc13 := cfr_tr hfc12 frc13
      have hDc13 := cd_fr hDc12 frc13 (by decide) (by decide)
      have hsc13 : cst gc13 s := ⟨hsc12.1, (congrFun (frc13.1 12 (by decide)) 1).trans hsc12.2⟩
      refine he_s 4 (pc' := 65) (lc' := [(5, .int xc13), (3, .long xc3), (0, .ref 12), (1, .ref 41), (2, .int 0)]) (stk' := [.int 59, .ref 9]) (mem' := cm gc13 lc13 a b R) (by intro _ _ _; eq_refl) ?_
      obtain ⟨vc14, memc14, ⟨gc14, lc14, frc14, hmc14, hRc14⟩, hrc14⟩ := ha_psq0 (x := 59) (R := R) hg hmc13
      cases hRc14
      refine he_ivV hrc14 (by omega) (by rfl) (by rfl) (by rfl) (by rfl) (by rfl) (by rfl) ?_
      have fc14_41_8 : gc14 41 8 = nI (A.1.1.length) := (congrFun (frc14.1 41 (by decide)) 8).trans fc13_41_8
      have hfc14 := cfr_tr hfc13 frc14
      have hDc14 := cd_fr hDc13 frc14 (by decide) (by decide)
      have hsc14 : cst gc14 s := ⟨hsc13.1, (congrFun (frc14.1 12 (by decide)) 1).trans hsc13.2⟩
      refine he_s 1 (pc' := cond (fx_cb .eq 0 0) 79 71) (lc' := [(5, .int xc13), (3, .long xc3), (0, .ref 12), (1, .ref 41), (2, .int 0)]) (stk' := []) (mem' := cm gc14 lc14 a b R) (by intro _ _ _; eq_refl) ?_
      rw [show (fx_cb .eq 0 0) = true from by decide]
      dsimp only [cond]
      refine he_ret ⟨_, _, _, _, cfd_c hfc14, ?_, rfl⟩ (by rfl) (by rfl) (by rfl)
      unfold sp_pCell
      rw [if_neg (by omega), sp_new_3 hwc3 hvc3]
      exact hmc14
    · refine he_s 4 (pc' := 35) (lc' := [(5, .int 0), (3, .long xc3), (0, .ref 12), (1, .ref 41), (2, .int 0)]) (stk' := [.int 0]) (mem' := cm gc3 lc3 a b R) (by intro _ _ _; eq_refl) ?_
      refine he_s 1 (pc' := cond (fx_cb .ne 0 0) 59 38) (lc' := [(5, .int 0), (3, .long xc3), (0, .ref 12), (1, .ref 41), (2, .int 0)]) (stk' := []) (mem' := cm gc3 lc3 a b R) (by intro _ _ _; eq_refl) ?_
      rw [show (fx_cb .ne 0 0) = false from by decide]
      dsimp only [cond]
      refine he_s 3 (pc' := 43) (lc' := [(5, .int 0), (3, .long xc3), (0, .ref 12), (1, .ref 41), (2, .int 0)]) (stk' := [.int 1, .ref 9]) (mem' := cm gc3 lc3 a b R) (by intro _ _ _; eq_refl) ?_
      obtain ⟨vc15, memc15, ⟨gc15, lc15, frc15, hmc15, hRc15⟩, hrc15⟩ := ha_pwq0 (x := 1) (R := R) hg hmc3
      cases hRc15
      refine he_ivV hrc15 (by omega) (by rfl) (by rfl) (by rfl) (by rfl) (by rfl) (by rfl) ?_
      have fc15_41_8 : gc15 41 8 = nI (A.1.1.length) := (congrFun (frc15.1 41 (by decide)) 8).trans fc3_41_8
      have hfc15 := cfr_tr hfc3 frc15
      have hDc15 := cd_fr hDc3 frc15 (by decide) (by decide)
      have hsc15 : cst gc15 s := ⟨hsc3.1, (congrFun (frc15.1 12 (by decide)) 1).trans hsc3.2⟩
      refine he_s 4 (pc' := 54) (lc' := [(5, .int 0), (3, .long xc3), (0, .ref 12), (1, .ref 41), (2, .int 0)]) (stk' := [.int 200, .int 0, .ref 9]) (mem' := cm gc15 lc15 a b R) (by intro _ _ _; eq_refl) ?_
      obtain ⟨vc16, memc16, ⟨gc16, lc16, xc16, frc16, hmc16, hRc16⟩, hrc16⟩ := ha_pnq0 (x := 0) (y := 200) (R := R) hg hmc15
      cases hRc16
      refine he_ivV hrc16 (by omega) (by rfl) (by rfl) (by rfl) (by rfl) (by rfl) (by rfl) ?_
      have fc16_41_8 : gc16 41 8 = nI (A.1.1.length) := (congrFun (frc16.1 41 (by decide)) 8).trans fc15_41_8
      have hfc16 := cfr_tr hfc15 frc16
      have hDc16 := cd_fr hDc15 frc16 (by decide) (by decide)
      have hsc16 : cst gc16 s := ⟨hsc15.1, (congrFun (frc16.1 12 (by decide)) 1).trans hsc15.2⟩
      refine he_s 4 (pc' := 65) (lc' := [(5, .int xc16), (3, .long xc3), (0, .ref 12), (1, .ref 41), (2, .int 0)]) (stk' := [.int 59, .ref 9]) (mem' := cm gc16 lc16 a b R) (by intro _ _ _; eq_refl) ?_
      obtain ⟨vc17, memc17, ⟨gc17, lc17, frc17, hmc17, hRc17⟩, hrc17⟩ := ha_psq0 (x := 59) (R := R) hg hmc16
      cases hRc17
      refine he_ivV hrc17 (by omega) (by rfl) (by rfl) (by rfl) (by rfl) (by rfl) (by rfl) ?_
      have fc17_41_8 : gc17 41 8 = nI (A.1.1.length) := (congrFun (frc17.1 41 (by decide)) 8).trans fc16_41_8
      have hfc17 := cfr_tr hfc16 frc17
      have hDc17 := cd_fr hDc16 frc17 (by decide) (by decide)
      have hsc17 : cst gc17 s := ⟨hsc16.1, (congrFun (frc17.1 12 (by decide)) 1).trans hsc16.2⟩
      refine he_s 1 (pc' := cond (fx_cb .eq 0 0) 79 71) (lc' := [(5, .int xc16), (3, .long xc3), (0, .ref 12), (1, .ref 41), (2, .int 0)]) (stk' := []) (mem' := cm gc17 lc17 a b R) (by intro _ _ _; eq_refl) ?_
      rw [show (fx_cb .eq 0 0) = true from by decide]
      dsimp only [cond]
      refine he_ret ⟨_, _, _, _, cfd_c hfc17, ?_, rfl⟩ (by rfl) (by rfl) (by rfl)
      unfold sp_pCell
      rw [if_neg (by omega), sp_new_f hwc3]
      exact hmc17
  · rw [show (fx_cb .lt (nI (A.1.1.length)) 10) = false from cb_ltF (a := (A.1.1.length)) (b := 10) (by omega) (by omega) (by omega)]
    dsimp only [cond]
    refine he_s 3 (pc' := 15) (lc' := [(0, .ref 12), (1, .ref 41), (2, .int 0)]) (stk' := [.int 6, .ref 9]) (mem' := cm g l a b R) (by intro _ _ _; eq_refl) ?_
    obtain ⟨gc18, hrc18, hmc18, frc18⟩ := ha_fail (a := a) (b := b) (R := R) (x := 6) h (by decide)
    refine he_ivV hrc18 (by omega) (by rfl) (by rfl) (by rfl) (by rfl) (by rfl) (by rfl) ?_
    have fc18_41_8 : gc18 41 8 = nI (A.1.1.length) := (congrFun (frc18.1 41 (by decide)) 8).trans hD.1.1
    have hfc18 := cfr_tr cfr_rf frc18
    have hDc18 := cd_fr hD frc18 (by decide) (by decide)
    have hsc18 : cst gc18 s := ⟨hs.1, (congrFun (frc18.1 12 (by decide)) 1).trans hs.2⟩
    refine he_s 2 (pc' := 22) (lc' := [(0, .ref 12), (1, .ref 41), (2, .int 0)]) (stk' := [.ref 9]) (mem' := cm gc18 l a b R) (by intro _ _ _; eq_refl) ?_
    obtain ⟨gc19, lc19, hrc19, hmc19, frc19⟩ := ha_scanq (R := R) hg hmc18
    refine he_ivV hrc19 (by omega) (by rfl) (by rfl) (by rfl) (by rfl) (by rfl) (by rfl) ?_
    have fc19_41_8 : gc19 41 8 = nI (A.1.1.length) := (congrFun (frc19.1 41 (by decide)) 8).trans fc18_41_8
    have hfc19 := cfr_tr hfc18 frc19
    have hDc19 := cd_fr hDc18 frc19 (by decide) (by decide)
    have hsc19 : cst gc19 s := ⟨hsc18.1, (congrFun (frc19.1 12 (by decide)) 1).trans hsc18.2⟩
    refine he_s 2 (pc' := 27) (lc' := [(0, .ref 12), (1, .ref 41), (2, .int 0)]) (stk' := [.ref 41, .ref 12]) (mem' := cm gc19 lc19 a b R) (by intro _ _ _; eq_refl) ?_
    obtain ⟨vc20, memc20, ⟨gc20, lc20, xc20, frc20, hmc20, hRc20⟩, hrc20⟩ := ha_nnq0 (R := R) hg hDc19 hsc19 hmc19
    cases hRc20
    refine he_ivV hrc20 (by omega) (by rfl) (by rfl) (by rfl) (by rfl) (by rfl) (by rfl) ?_
    have fc20_41_8 : gc20 41 8 = nI (A.1.1.length) := (congrFun (frc20.1 41 (by decide)) 8).trans fc19_41_8
    have hfc20 := cfr_tr hfc19 frc20
    have hDc20 := cd_fr hDc19 frc20 (by decide) (by decide)
    have hsc20 : cst gc20 s := ⟨hsc19.1, (congrFun (frc20.1 12 (by decide)) 1).trans hsc19.2⟩
    refine he_s 4 (pc' := 35) (lc' := [(5, .int 0), (3, .long xc20), (0, .ref 12), (1, .ref 41), (2, .int 0)]) (stk' := [.int 0]) (mem' := cm gc20 lc20 a b R) (by intro _ _ _; eq_refl) ?_
    refine he_s 1 (pc' := cond (fx_cb .ne 0 0) 59 38) (lc' := [(5, .int 0), (3, .long xc20), (0, .ref 12), (1, .ref 41), (2, .int 0)]) (stk' := []) (mem' := cm gc20 lc20 a b R) (by intro _ _ _; eq_refl) ?_
    rw [show (fx_cb .ne 0 0) = false from by decide]
    dsimp only [cond]
    refine he_s 3 (pc' := 43) (lc' := [(5, .int 0), (3, .long xc20), (0, .ref 12), (1, .ref 41), (2, .int 0)]) (stk' := [.int 1, .ref 9]) (mem' := cm gc20 lc20 a b R) (by intro _ _ _; eq_refl) ?_
    obtain ⟨vc21, memc21, ⟨gc21, lc21, frc21, hmc21, hRc21⟩, hrc21⟩ := ha_pwq0 (x := 1) (R := R) hg hmc20
    cases hRc21
    refine he_ivV hrc21 (by omega) (by rfl) (by rfl) (by rfl) (by rfl) (by rfl) (by rfl) ?_
    have fc21_41_8 : gc21 41 8 = nI (A.1.1.length) := (congrFun (frc21.1 41 (by decide)) 8).trans fc20_41_8
    have hfc21 := cfr_tr hfc20 frc21
    have hDc21 := cd_fr hDc20 frc21 (by decide) (by decide)
    have hsc21 : cst gc21 s := ⟨hsc20.1, (congrFun (frc21.1 12 (by decide)) 1).trans hsc20.2⟩
    refine he_s 4 (pc' := 54) (lc' := [(5, .int 0), (3, .long xc20), (0, .ref 12), (1, .ref 41), (2, .int 0)]) (stk' := [.int 200, .int 0, .ref 9]) (mem' := cm gc21 lc21 a b R) (by intro _ _ _; eq_refl) ?_
    obtain ⟨vc22, memc22, ⟨gc22, lc22, xc22, frc22, hmc22, hRc22⟩, hrc22⟩ := ha_pnq0 (x := 0) (y := 200) (R := R) hg hmc21
    cases hRc22
    refine he_ivV hrc22 (by omega) (by rfl) (by rfl) (by rfl) (by rfl) (by rfl) (by rfl) ?_
    have fc22_41_8 : gc22 41 8 = nI (A.1.1.length) := (congrFun (frc22.1 41 (by decide)) 8).trans fc21_41_8
    have hfc22 := cfr_tr hfc21 frc22
    have hDc22 := cd_fr hDc21 frc22 (by decide) (by decide)
    have hsc22 : cst gc22 s := ⟨hsc21.1, (congrFun (frc22.1 12 (by decide)) 1).trans hsc21.2⟩
    refine he_s 4 (pc' := 65) (lc' := [(5, .int xc22), (3, .long xc20), (0, .ref 12), (1, .ref 41), (2, .int 0)]) (stk' := [.int 59, .ref 9]) (mem' := cm gc22 lc22 a b R) (by intro _ _ _; eq_refl) ?_
    obtain ⟨vc23, memc23, ⟨gc23, lc23, frc23, hmc23, hRc23⟩, hrc23⟩ := ha_psq0 (x := 59) (R := R) hg hmc22
    cases hRc23
    refine he_ivV hrc23 (by omega) (by rfl) (by rfl) (by rfl) (by rfl) (by rfl) (by rfl) ?_
    have fc23_41_8 : gc23 41 8 = nI (A.1.1.length) := (congrFun (frc23.1 41 (by decide)) 8).trans fc22_41_8
    have hfc23 := cfr_tr hfc22 frc23
    have hDc23 := cd_fr hDc22 frc23 (by decide) (by decide)
    have hsc23 : cst gc23 s := ⟨hsc22.1, (congrFun (frc23.1 12 (by decide)) 1).trans hsc22.2⟩
    refine he_s 1 (pc' := cond (fx_cb .eq 0 0) 79 71) (lc' := [(5, .int xc22), (3, .long xc20), (0, .ref 12), (1, .ref 41), (2, .int 0)]) (stk' := []) (mem' := cm gc23 lc23 a b R) (by intro _ _ _; eq_refl) ?_
    rw [show (fx_cb .eq 0 0) = true from by decide]
    dsimp only [cond]
    refine he_ret ⟨_, _, _, _, cfd_c hfc23, ?_, rfl⟩ (by rfl) (by rfl) (by rfl)
    unfold sp_pCell
    rw [if_pos (by omega)]
    exact hmc23
theorem ha_rc1 (hg : ctx a b T n) (hD : cd_L 41 A g a b) (hs : cst g s) (h : co g l T n p) : ∃ (v : Option Value) (mem' : fx_M), (fun R1 => ∃ (g' : Nat → Nat → Int32) (l' : Nat → Nat → Int64) (a' : Nat → Nat → Int32) (b' : Nat → Nat → Int64), cfd g a b l g' a' b' l' ∧ cRes g' l' a' b' T n (sp_pCell T n A s p true) ∧ R1 = (none, cm g' l' a' b' R)) (v, mem') ∧ hr_T 5 67 [.ref 12, .ref 41, .int 1] (cm g l a b R) v mem' := by
  refine he_meth (F := fun R1 => ∃ (g' : Nat → Nat → Int32) (l' : Nat → Nat → Int64) (a' : Nat → Nat → Int32) (b' : Nat → Nat → Int64), cfd g a b l g' a' b' l' ∧ cRes g' l' a' b' T n (sp_pCell T n A s p true) ∧ R1 = (none, cm g' l' a' b' R)) (M := gk_m67) (by rfl) (by rfl) ?_
  have hq0 := hD.1.2.1
  refine he_s 3 (pc' := 6) (lc' := [(0, .ref 12), (1, .ref 41), (2, .int 1)]) (stk' := [.int 10, .int (g 41 8)]) (mem' := cm g l a b R) (by intro _ _ _; eq_refl) ?_
  try rw [hD.1.1]
  refine he_s 1 (pc' := cond (fx_cb .lt (nI (A.1.1.length)) 10) 18 9) (lc' := [(0, .ref 12), (1, .ref 41), (2, .int 1)]) (stk' := []) (mem' := cm g l a b R) (by intro _ _ _; eq_refl) ?_
  by_cases y1 : (A.1.1.length) < 10
  · rw [show (fx_cb .lt (nI (A.1.1.length)) 10) = true from cb_ltT (a := (A.1.1.length)) (b := 10) (by omega) (by omega) (by omega)]
    dsimp only [cond]
    refine he_s 2 (pc' := 22) (lc' := [(0, .ref 12), (1, .ref 41), (2, .int 1)]) (stk' := [.ref 9]) (mem' := cm g l a b R) (by intro _ _ _; eq_refl) ?_
    obtain ⟨gc2, lc2, hrc2, hmc2, frc2⟩ := ha_scano (R := R) hg h
    refine he_ivV hrc2 (by omega) (by rfl) (by rfl) (by rfl) (by rfl) (by rfl) (by rfl) ?_
    have fc2_41_8 : gc2 41 8 = nI (A.1.1.length) := (congrFun (frc2.1 41 (by decide)) 8).trans hD.1.1
    have hfc2 := cfr_tr cfr_rf frc2
    have hDc2 := cd_fr hD frc2 (by decide) (by decide)
    have hsc2 : cst gc2 s := ⟨hs.1, (congrFun (frc2.1 12 (by decide)) 1).trans hs.2⟩
    refine he_s 2 (pc' := 27) (lc' := [(0, .ref 12), (1, .ref 41), (2, .int 1)]) (stk' := [.ref 41, .ref 12]) (mem' := cm gc2 lc2 a b R) (by intro _ _ _; eq_refl) ?_
    obtain ⟨vc3, memc3, ⟨xc3, gc3, lc3, frc3, hxc3, hRc3⟩, hrc3⟩ := ha_nn0 (R := R) hg hDc2 hsc2 hmc2
    cases hRc3
    refine he_ivV hrc3 (by omega) (by rfl) (by rfl) (by rfl) (by rfl) (by rfl) (by rfl) ?_
    have fc3_41_8 : gc3 41 8 = nI (A.1.1.length) := (congrFun (frc3.1 41 (by decide)) 8).trans fc2_41_8
    have hfc3 := cfr_tr hfc2 frc3
    have hDc3 := cd_fr hDc2 frc3 (by decide) (by decide)
    have hsc3 : cst gc3 s := ⟨hsc2.1, (congrFun (frc3.1 12 (by decide)) 1).trans hsc2.2⟩
    rcases hxc3 with ⟨hwc3, hvc3, rfl, hmc3⟩ | ⟨hwc3, hvc3, hmc3⟩ | ⟨hwc3, hmc3⟩
    · refine he_s 4 (pc' := 35) (lc' := [(5, .int 0), (3, .long (Int64.ofNat (sp_cd (sp_wd T n (sp_n T n p))))), (0, .ref 12), (1, .ref 41), (2, .int 1)]) (stk' := [.int 1]) (mem' := cm gc3 lc3 a b R) (by intro _ _ _; eq_refl) ?_
      refine he_s 1 (pc' := cond (fx_cb .ne 1 0) 59 38) (lc' := [(5, .int 0), (3, .long (Int64.ofNat (sp_cd (sp_wd T n (sp_n T n p))))), (0, .ref 12), (1, .ref 41), (2, .int 1)]) (stk' := []) (mem' := cm gc3 lc3 a b R) (by intro _ _ _; eq_refl) ?_
      rw [show (fx_cb .ne 1 0) = true from by decide]
      dsimp only [cond]
      refine he_s 3 (pc' := 65) (lc' := [(5, .int 0), (3, .long (Int64.ofNat (sp_cd (sp_wd T n (sp_n T n p))))), (0, .ref 12), (1, .ref 41), (2, .int 1)]) (stk' := [.int 59, .ref 9]) (mem' := cm gc3 lc3 a b R) (by intro _ _ _; eq_refl) ?_
      obtain ⟨vc4, memc4, ⟨xc4, gc4, lc4, frc4, hxc4, hRc4⟩, hrc4⟩ := ha_ps0 (w := 59) (R := R) hg (by decide) hmc3
      cases hRc4
      refine he_ivV hrc4 (by omega) (by rfl) (by rfl) (by rfl) (by rfl) (by rfl) (by rfl) ?_
      have fc4_41_8 : gc4 41 8 = nI (A.1.1.length) := (congrFun (frc4.1 41 (by decide)) 8).trans fc3_41_8
      have hfc4 := cfr_tr hfc3 frc4
      have hDc4 := cd_fr hDc3 frc4 (by decide) (by decide)
      have hsc4 : cst gc4 s := ⟨hsc3.1, (congrFun (frc4.1 12 (by decide)) 1).trans hsc3.2⟩
      rcases hxc4 with ⟨hwc4, rfl, hmc4⟩ | ⟨hwc4, rfl, hmc4⟩
      · refine he_s 1 (pc' := cond (fx_cb .eq 1 0) 79 71) (lc' := [(5, .int 0), (3, .long (Int64.ofNat (sp_cd (sp_wd T n (sp_n T n p))))), (0, .ref 12), (1, .ref 41), (2, .int 1)]) (stk' := []) (mem' := cm gc4 lc4 a b R) (by intro _ _ _; eq_refl) ?_
        rw [show (fx_cb .eq 1 0) = false from by decide]
        dsimp only [cond]
        refine he_s 4 (pc' := 76) (lc' := [(5, .int 0), (3, .long (Int64.ofNat (sp_cd (sp_wd T n (sp_n T n p))))), (0, .ref 12), (1, .ref 41), (2, .int 1)]) (stk' := [.int 0, .int 1, .long (Int64.ofNat (sp_cd (sp_wd T n (sp_n T n p)))), .ref 41]) (mem' := cm gc4 lc4 a b R) (by intro _ _ _; eq_refl) ?_
        obtain ⟨gc5, ac5, bc5, hrc5, hDc5, hdc5⟩ := ha_add1 (l := lc4) (R := R) (m := 0) hDc4 (by omega) (sp_nm_lt (n := n) (p := (sp_n T n p)) (sp_n_le h.1) hwc3).1 (sp_nm_lt (n := n) (p := (sp_n T n p)) (sp_n_le h.1) hwc3).2
        refine he_ivV hrc5 (by omega) (by rfl) (by rfl) (by rfl) (by rfl) (by rfl) (by rfl) ?_
        have hsc5 : cst gc5 s := ⟨hsc4.1, (congrFun (hdc5 12 (by decide)).1 1).trans hsc4.2⟩
        refine he_ret ⟨_, _, _, _, cfd_tr (cfd_c hfc4) (cfd_d hdc5), ?_, rfl⟩ (by rfl) (by rfl) (by rfl)
        unfold sp_pCell
        rw [if_neg (by omega), sp_new_t hwc3 hvc3, if_pos rfl, sp_fin_t hwc4]
        exact ⟨co_d hmc4 hdc5, hDc5, hsc5⟩
      · refine he_s 1 (pc' := cond (fx_cb .eq 0 0) 79 71) (lc' := [(5, .int 0), (3, .long (Int64.ofNat (sp_cd (sp_wd T n (sp_n T n p))))), (0, .ref 12), (1, .ref 41), (2, .int 1)]) (stk' := []) (mem' := cm gc4 lc4 a b R) (by intro _ _ _; eq_refl) ?_
        rw [show (fx_cb .eq 0 0) = true from by decide]
        dsimp only [cond]
        refine he_ret ⟨_, _, _, _, cfd_c hfc4, ?_, rfl⟩ (by rfl) (by rfl) (by rfl)
        unfold sp_pCell
        rw [if_neg (by omega), sp_new_t hwc3 hvc3, if_pos rfl, sp_fin_f hwc4]
        exact hmc4
    · refine he_s 4 (pc' := 35) (lc' := [(5, .int 0), (3, .long xc3), (0, .ref 12), (1, .ref 41), (2, .int 1)]) (stk' := [.int 1]) (mem' := cm gc3 lc3 a b R) (by intro _ _ _; eq_refl) ?_
      refine he_s 1 (pc' := cond (fx_cb .ne 1 0) 59 38) (lc' := [(5, .int 0), (3, .long xc3), (0, .ref 12), (1, .ref 41), (2, .int 1)]) (stk' := []) (mem' := cm gc3 lc3 a b R) (by intro _ _ _; eq_refl) ?_
      rw [show (fx_cb .ne 1 0) = true from by decide]
      dsimp only [cond]
      refine he_s 3 (pc' := 65) (lc' := [(5, .int 0), (3, .long xc3), (0, .ref 12), (1, .ref 41), (2, .int 1)]) (stk' := [.int 59, .ref 9]) (mem' := cm gc3 lc3 a b R) (by intro _ _ _; eq_refl) ?_
      obtain ⟨vc6, memc6, ⟨gc6, lc6, frc6, hmc6, hRc6⟩, hrc6⟩ := ha_psq0 (x := 59) (R := R) hg hmc3
      cases hRc6
      refine he_ivV hrc6 (by omega) (by rfl) (by rfl) (by rfl) (by rfl) (by rfl) (by rfl) ?_
      have fc6_41_8 : gc6 41 8 = nI (A.1.1.length) := (congrFun (frc6.1 41 (by decide)) 8).trans fc3_41_8
      have hfc6 := cfr_tr hfc3 frc6
      have hDc6 := cd_fr hDc3 frc6 (by decide) (by decide)
      have hsc6 : cst gc6 s := ⟨hsc3.1, (congrFun (frc6.1 12 (by decide)) 1).trans hsc3.2⟩
      refine he_s 1 (pc' := cond (fx_cb .eq 0 0) 79 71) (lc' := [(5, .int 0), (3, .long xc3), (0, .ref 12), (1, .ref 41), (2, .int 1)]) (stk' := []) (mem' := cm gc6 lc6 a b R) (by intro _ _ _; eq_refl) ?_
      rw [show (fx_cb .eq 0 0) = true from by decide]
      dsimp only [cond]
      refine he_ret ⟨_, _, _, _, cfd_c hfc6, ?_, rfl⟩ (by rfl) (by rfl) (by rfl)
      unfold sp_pCell
      rw [if_neg (by omega), sp_new_3 hwc3 hvc3]
      exact hmc6
    · refine he_s 4 (pc' := 35) (lc' := [(5, .int 0), (3, .long xc3), (0, .ref 12), (1, .ref 41), (2, .int 1)]) (stk' := [.int 1]) (mem' := cm gc3 lc3 a b R) (by intro _ _ _; eq_refl) ?_
      refine he_s 1 (pc' := cond (fx_cb .ne 1 0) 59 38) (lc' := [(5, .int 0), (3, .long xc3), (0, .ref 12), (1, .ref 41), (2, .int 1)]) (stk' := []) (mem' := cm gc3 lc3 a b R) (by intro _ _ _; eq_refl) ?_
      rw [show (fx_cb .ne 1 0) = true from by decide]
      dsimp only [cond]
      refine he_s 3 (pc' := 65) (lc' := [(5, .int 0), (3, .long xc3), (0, .ref 12), (1, .ref 41), (2, .int 1)]) (stk' := [.int 59, .ref 9]) (mem' := cm gc3 lc3 a b R) (by intro _ _ _; eq_refl) ?_
      obtain ⟨vc7, memc7, ⟨gc7, lc7, frc7, hmc7, hRc7⟩, hrc7⟩ := ha_psq0 (x := 59) (R := R) hg hmc3
      cases hRc7
      refine he_ivV hrc7 (by omega) (by rfl) (by rfl) (by rfl) (by rfl) (by rfl) (by rfl) ?_
      have fc7_41_8 : gc7 41 8 = nI (A.1.1.length) := (congrFun (frc7.1 41 (by decide)) 8).trans fc3_41_8
      have hfc7 := cfr_tr hfc3 frc7
      have hDc7 := cd_fr hDc3 frc7 (by decide) (by decide)
      have hsc7 : cst gc7 s := ⟨hsc3.1, (congrFun (frc7.1 12 (by decide)) 1).trans hsc3.2⟩
      refine he_s 1 (pc' := cond (fx_cb .eq 0 0) 79 71) (lc' := [(5, .int 0), (3, .long xc3), (0, .ref 12), (1, .ref 41), (2, .int 1)]) (stk' := []) (mem' := cm gc7 lc7 a b R) (by intro _ _ _; eq_refl) ?_
      rw [show (fx_cb .eq 0 0) = true from by decide]
      dsimp only [cond]
      refine he_ret ⟨_, _, _, _, cfd_c hfc7, ?_, rfl⟩ (by rfl) (by rfl) (by rfl)
      unfold sp_pCell
      rw [if_neg (by omega), sp_new_f hwc3]
      exact hmc7
  · rw [show (fx_cb .lt (nI (A.1.1.length)) 10) = false from cb_ltF (a := (A.1.1.length)) (b := 10) (by omega) (by omega) (by omega)]
    dsimp only [cond]
    refine he_s 3 (pc' := 15) (lc' := [(0, .ref 12), (1, .ref 41), (2, .int 1)]) (stk' := [.int 6, .ref 9]) (mem' := cm g l a b R) (by intro _ _ _; eq_refl) ?_
    obtain ⟨gc8, hrc8, hmc8, frc8⟩ := ha_fail (a := a) (b := b) (R := R) (x := 6) h (by decide)
    refine he_ivV hrc8 (by omega) (by rfl) (by rfl) (by rfl) (by rfl) (by rfl) (by rfl) ?_
    have fc8_41_8 : gc8 41 8 = nI (A.1.1.length) := (congrFun (frc8.1 41 (by decide)) 8).trans hD.1.1
    have hfc8 := cfr_tr cfr_rf frc8
    have hDc8 := cd_fr hD frc8 (by decide) (by decide)
    have hsc8 : cst gc8 s := ⟨hs.1, (congrFun (frc8.1 12 (by decide)) 1).trans hs.2⟩
    refine he_s 2 (pc' := 22) (lc' := [(0, .ref 12), (1, .ref 41), (2, .int 1)]) (stk' := [.ref 9]) (mem' := cm gc8 l a b R) (by intro _ _ _; eq_refl) ?_
    obtain ⟨gc9, lc9, hrc9, hmc9, frc9⟩ := ha_scanq (R := R) hg hmc8
    refine he_ivV hrc9 (by omega) (by rfl) (by rfl) (by rfl) (by rfl) (by rfl) (by rfl) ?_
    have fc9_41_8 : gc9 41 8 = nI (A.1.1.length) := (congrFun (frc9.1 41 (by decide)) 8).trans fc8_41_8
    have hfc9 := cfr_tr hfc8 frc9
    have hDc9 := cd_fr hDc8 frc9 (by decide) (by decide)
    have hsc9 : cst gc9 s := ⟨hsc8.1, (congrFun (frc9.1 12 (by decide)) 1).trans hsc8.2⟩
    refine he_s 2 (pc' := 27) (lc' := [(0, .ref 12), (1, .ref 41), (2, .int 1)]) (stk' := [.ref 41, .ref 12]) (mem' := cm gc9 lc9 a b R) (by intro _ _ _; eq_refl) ?_
    obtain ⟨vc10, memc10, ⟨gc10, lc10, xc10, frc10, hmc10, hRc10⟩, hrc10⟩ := ha_nnq0 (R := R) hg hDc9 hsc9 hmc9
    cases hRc10
    refine he_ivV hrc10 (by omega) (by rfl) (by rfl) (by rfl) (by rfl) (by rfl) (by rfl) ?_
    have fc10_41_8 : gc10 41 8 = nI (A.1.1.length) := (congrFun (frc10.1 41 (by decide)) 8).trans fc9_41_8
    have hfc10 := cfr_tr hfc9 frc10
    have hDc10 := cd_fr hDc9 frc10 (by decide) (by decide)
    have hsc10 : cst gc10 s := ⟨hsc9.1, (congrFun (frc10.1 12 (by decide)) 1).trans hsc9.2⟩
    refine he_s 4 (pc' := 35) (lc' := [(5, .int 0), (3, .long xc10), (0, .ref 12), (1, .ref 41), (2, .int 1)]) (stk' := [.int 1]) (mem' := cm gc10 lc10 a b R) (by intro _ _ _; eq_refl) ?_
    refine he_s 1 (pc' := cond (fx_cb .ne 1 0) 59 38) (lc' := [(5, .int 0), (3, .long xc10), (0, .ref 12), (1, .ref 41), (2, .int 1)]) (stk' := []) (mem' := cm gc10 lc10 a b R) (by intro _ _ _; eq_refl) ?_
    rw [show (fx_cb .ne 1 0) = true from by decide]
    dsimp only [cond]
    refine he_s 3 (pc' := 65) (lc' := [(5, .int 0), (3, .long xc10), (0, .ref 12), (1, .ref 41), (2, .int 1)]) (stk' := [.int 59, .ref 9]) (mem' := cm gc10 lc10 a b R) (by intro _ _ _; eq_refl) ?_
    obtain ⟨vc11, memc11, ⟨gc11, lc11, frc11, hmc11, hRc11⟩, hrc11⟩ := ha_psq0 (x := 59) (R := R) hg hmc10
    cases hRc11
    refine he_ivV hrc11 (by omega) (by rfl) (by rfl) (by rfl) (by rfl) (by rfl) (by rfl) ?_
    have fc11_41_8 : gc11 41 8 = nI (A.1.1.length) := (congrFun (frc11.1 41 (by decide)) 8).trans fc10_41_8
    have hfc11 := cfr_tr hfc10 frc11
    have hDc11 := cd_fr hDc10 frc11 (by decide) (by decide)
    have hsc11 : cst gc11 s := ⟨hsc10.1, (congrFun (frc11.1 12 (by decide)) 1).trans hsc10.2⟩
    refine he_s 1 (pc' := cond (fx_cb .eq 0 0) 79 71) (lc' := [(5, .int 0), (3, .long xc10), (0, .ref 12), (1, .ref 41), (2, .int 1)]) (stk' := []) (mem' := cm gc11 lc11 a b R) (by intro _ _ _; eq_refl) ?_
    rw [show (fx_cb .eq 0 0) = true from by decide]
    dsimp only [cond]
    refine he_ret ⟨_, _, _, _, cfd_c hfc11, ?_, rfl⟩ (by rfl) (by rfl) (by rfl)
    unfold sp_pCell
    rw [if_pos (by omega)]
    exact hmc11
theorem cdr_2a {t i j : Nat} {x y : Int32} (ht : 41 ≤ t ∧ t ≤ 66) : cdr g a b g (fm_u (fm_u a t i x) t j y) b := fun k hk => ⟨rfl, (fm_un (by omega)).trans (fm_un (by omega)), rfl⟩
theorem cd_way {i j : Nat} (hi : i < 10) (hj : j < 10) (h : cd_L 41 A g a b) : cd_L 41 (A.1, sp_pr A.2.1 i j, A.2.2) g (fm_u (fm_u a 43 i (a 43 i ||| ((1 : Int32) <<< (nI j &&& 31)))) 43 j ((fm_u a 43 i (a 43 i ||| ((1 : Int32) <<< (nI j &&& 31)))) 43 j ||| ((1 : Int32) <<< (nI i &&& 31)))) b := by
  refine ⟨h.1, h.2.1, fun k hk => ?_, h.2.2.2⟩
  show upd (upd (a 43) i (a 43 i ||| ((1 : Int32) <<< (nI j &&& 31)))) j (upd (a 43) i (a 43 i ||| ((1 : Int32) <<< (nI j &&& 31))) j ||| ((1 : Int32) <<< (nI i &&& 31))) k = sp_pr A.2.1 i j k
  have e1 : ∀ k, k < 10 → a 43 k = A.2.1 k := h.2.2.1
  have e2 : ∀ k, k < 10 → upd (a 43) i (a 43 i ||| ((1 : Int32) <<< (nI j &&& 31))) k = upd A.2.1 i (A.2.1 i ||| ((1 : Int32) <<< (nI j &&& 31))) k := fun k hk => by
    unfold upd
    rw [e1 i hi, e1 k hk]
  unfold sp_pr
  rw [e2 j hj]
  by_cases e : k = j
  · rw [e, pk_us, pk_us]
  · rw [pk_un e, pk_un e]; exact e2 k hk
theorem cd_bes {i j : Nat} (hi : i < 10) (hj : j < 10) (h : cd_L 41 A g a b) : cd_L 41 (A.1, A.2.1, sp_pr A.2.2 i j) g (fm_u (fm_u a 44 i (a 44 i ||| ((1 : Int32) <<< (nI j &&& 31)))) 44 j ((fm_u a 44 i (a 44 i ||| ((1 : Int32) <<< (nI j &&& 31)))) 44 j ||| ((1 : Int32) <<< (nI i &&& 31)))) b := by
  refine ⟨h.1, h.2.1, h.2.2.1, fun k hk => ?_, h.2.2.2.2⟩
  show upd (upd (a 44) i (a 44 i ||| ((1 : Int32) <<< (nI j &&& 31)))) j (upd (a 44) i (a 44 i ||| ((1 : Int32) <<< (nI j &&& 31))) j ||| ((1 : Int32) <<< (nI i &&& 31))) k = sp_pr A.2.2 i j k
  have e1 : ∀ k, k < 10 → a 44 k = A.2.2 k := h.2.2.2.1
  have e2 : ∀ k, k < 10 → upd (a 44) i (a 44 i ||| ((1 : Int32) <<< (nI j &&& 31))) k = upd A.2.2 i (A.2.2 i ||| ((1 : Int32) <<< (nI j &&& 31))) k := fun k hk => by
    unfold upd
    rw [e1 i hi, e1 k hk]
  unfold sp_pr
  rw [e2 j hj]
  by_cases e : k = j
  · rw [e, pk_us, pk_us]
  · rw [pk_un e, pk_un e]; exact e2 k hk
theorem ha_rp0 (hg : ctx a b T n) (hD : cd_L 41 A g a b) (hs : cst g s) (h : co g l T n p) : ∃ (v : Option Value) (mem' : fx_M), (fun R1 => ∃ (g' : Nat → Nat → Int32) (l' : Nat → Nat → Int64) (a' : Nat → Nat → Int32) (b' : Nat → Nat → Int64), cfd g a b l g' a' b' l' ∧ cRes g' l' a' b' T n (sp_pPair T n A s p false) ∧ R1 = (none, cm g' l' a' b' R)) (v, mem') ∧ hr_T 5 68 [.ref 12, .ref 41, .int 0] (cm g l a b R) v mem' := by
  refine he_meth (F := fun R1 => ∃ (g' : Nat → Nat → Int32) (l' : Nat → Nat → Int64) (a' : Nat → Nat → Int32) (b' : Nat → Nat → Int64), cfd g a b l g' a' b' l' ∧ cRes g' l' a' b' T n (sp_pPair T n A s p false) ∧ R1 = (none, cm g' l' a' b' R)) (M := gk_m68) (by rfl) (by rfl) ?_
  have hq0 := hD.1.2.1
  refine he_s 2 (pc' := 4) (lc' := [(0, .ref 12), (1, .ref 41), (2, .int 0)]) (stk' := [.ref 9]) (mem' := cm g l a b R) (by intro _ _ _; eq_refl) ?_
  obtain ⟨gc1, lc1, hrc1, hmc1, frc1⟩ := ha_scano (R := R) hg h
  refine he_ivV hrc1 (by omega) (by rfl) (by rfl) (by rfl) (by rfl) (by rfl) (by rfl) ?_
  have hfc1 := cfr_tr cfr_rf frc1
  have hDc1 := cd_fr hD frc1 (by decide) (by decide)
  have hsc1 : cst gc1 s := ⟨hs.1, (congrFun (frc1.1 12 (by decide)) 1).trans hs.2⟩
  refine he_s 3 (pc' := 12) (lc' := [(0, .ref 12), (1, .ref 41), (2, .int 0)]) (stk' := [.ref 41, .ref 9]) (mem' := cm gc1 lc1 a b R) (by intro _ _ _; eq_refl) ?_
  obtain ⟨vc2, memc2, ⟨xc2, gc2, frc2, hxc2, hRc2⟩, hrc2⟩ := ha_ch410 (R := R) hg hDc1.1 hmc1
  cases hRc2
  refine he_ivV hrc2 (by omega) (by rfl) (by rfl) (by rfl) (by rfl) (by rfl) (by rfl) ?_
  have hfc2 := cfr_tr hfc1 frc2
  have hDc2 := cd_fr hDc1 frc2 (by decide) (by decide)
  have hsc2 : cst gc2 s := ⟨hsc1.1, (congrFun (frc2.1 12 (by decide)) 1).trans hsc1.2⟩
  rcases hxc2 with ⟨hwc2, hvc2, rfl, hmc2⟩ | ⟨hwc2, hvc2, rfl, hmc2⟩ | ⟨hwc2, rfl, hmc2⟩
  · have hqc2 := hDc2.1.2.1
    refine he_s 2 (pc' := 17) (lc' := [(3, .int (nI (sp_iC A.1.1 (sp_wd T n (sp_n T n p))))), (0, .ref 12), (1, .ref 41), (2, .int 0)]) (stk' := [.int 0]) (mem' := cm gc2 lc1 a b R) (by intro _ _ _; eq_refl) ?_
    refine he_s 1 (pc' := cond (fx_cb .eq 0 0) 36 20) (lc' := [(3, .int (nI (sp_iC A.1.1 (sp_wd T n (sp_n T n p))))), (0, .ref 12), (1, .ref 41), (2, .int 0)]) (stk' := []) (mem' := cm gc2 lc1 a b R) (by intro _ _ _; eq_refl) ?_
    rw [show (fx_cb .eq 0 0) = true from by decide]
    dsimp only [cond]
    refine he_s 2 (pc' := 40) (lc' := [(3, .int (nI (sp_iC A.1.1 (sp_wd T n (sp_n T n p))))), (0, .ref 12), (1, .ref 41), (2, .int 0)]) (stk' := [.ref 9]) (mem' := cm gc2 lc1 a b R) (by intro _ _ _; eq_refl) ?_
    obtain ⟨gc3, lc3, hrc3, hmc3, frc3⟩ := ha_scano (R := R) hg hmc2
    refine he_ivV hrc3 (by omega) (by rfl) (by rfl) (by rfl) (by rfl) (by rfl) (by rfl) ?_
    have hfc3 := cfr_tr hfc2 frc3
    have hDc3 := cd_fr hDc2 frc3 (by decide) (by decide)
    have hsc3 : cst gc3 s := ⟨hsc2.1, (congrFun (frc3.1 12 (by decide)) 1).trans hsc2.2⟩
    refine he_s 3 (pc' := 48) (lc' := [(3, .int (nI (sp_iC A.1.1 (sp_wd T n (sp_n T n p))))), (0, .ref 12), (1, .ref 41), (2, .int 0)]) (stk' := [.ref 41, .ref 9]) (mem' := cm gc3 lc3 a b R) (by intro _ _ _; eq_refl) ?_
    obtain ⟨vc4, memc4, ⟨xc4, gc4, frc4, hxc4, hRc4⟩, hrc4⟩ := ha_ch410 (R := R) hg hDc3.1 hmc3
    cases hRc4
    refine he_ivV hrc4 (by omega) (by rfl) (by rfl) (by rfl) (by rfl) (by rfl) (by rfl) ?_
    have hfc4 := cfr_tr hfc3 frc4
    have hDc4 := cd_fr hDc3 frc4 (by decide) (by decide)
    have hsc4 : cst gc4 s := ⟨hsc3.1, (congrFun (frc4.1 12 (by decide)) 1).trans hsc3.2⟩
    rcases hxc4 with ⟨hwc4, hvc4, rfl, hmc4⟩ | ⟨hwc4, hvc4, rfl, hmc4⟩ | ⟨hwc4, rfl, hmc4⟩
    · have hqc4 := hDc4.1.2.1
      refine he_s 3 (pc' := 56) (lc' := [(4, .int (nI (sp_iC A.1.1 (sp_wd T n (sp_n T n (sp_n T n p)))))), (3, .int (nI (sp_iC A.1.1 (sp_wd T n (sp_n T n p))))), (0, .ref 12), (1, .ref 41), (2, .int 0)]) (stk' := [.int (nI (sp_iC A.1.1 (sp_wd T n (sp_n T n (sp_n T n p))))), .int (nI (sp_iC A.1.1 (sp_wd T n (sp_n T n p))))]) (mem' := cm gc4 lc3 a b R) (by intro _ _ _; eq_refl) ?_
      refine he_s 1 (pc' := cond (fx_cb .eq (nI (sp_iC A.1.1 (sp_wd T n (sp_n T n p)))) (nI (sp_iC A.1.1 (sp_wd T n (sp_n T n (sp_n T n p)))))) 72 59) (lc' := [(4, .int (nI (sp_iC A.1.1 (sp_wd T n (sp_n T n (sp_n T n p)))))), (3, .int (nI (sp_iC A.1.1 (sp_wd T n (sp_n T n p))))), (0, .ref 12), (1, .ref 41), (2, .int 0)]) (stk' := []) (mem' := cm gc4 lc3 a b R) (by intro _ _ _; eq_refl) ?_
      by_cases y5 : (sp_iC A.1.1 (sp_wd T n (sp_n T n p))) = (sp_iC A.1.1 (sp_wd T n (sp_n T n (sp_n T n p))))
      · rw [show (fx_cb .eq (nI (sp_iC A.1.1 (sp_wd T n (sp_n T n p)))) (nI (sp_iC A.1.1 (sp_wd T n (sp_n T n (sp_n T n p)))))) = true from cb_eqT (a := (sp_iC A.1.1 (sp_wd T n (sp_n T n p)))) (b := (sp_iC A.1.1 (sp_wd T n (sp_n T n (sp_n T n p))))) (by omega) (by omega) (by omega)]
        dsimp only [cond]
        refine he_s 3 (pc' := 77) (lc' := [(4, .int (nI (sp_iC A.1.1 (sp_wd T n (sp_n T n (sp_n T n p)))))), (3, .int (nI (sp_iC A.1.1 (sp_wd T n (sp_n T n p))))), (0, .ref 12), (1, .ref 41), (2, .int 0)]) (stk' := [.int 5, .ref 9]) (mem' := cm gc4 lc3 a b R) (by intro _ _ _; eq_refl) ?_
        obtain ⟨gc6, hrc6, hmc6, frc6⟩ := ha_fail (a := a) (b := b) (R := R) (x := 5) hmc4 (by decide)
        refine he_ivV hrc6 (by omega) (by rfl) (by rfl) (by rfl) (by rfl) (by rfl) (by rfl) ?_
        have hfc6 := cfr_tr hfc4 frc6
        have hDc6 := cd_fr hDc4 frc6 (by decide) (by decide)
        have hsc6 : cst gc6 s := ⟨hsc4.1, (congrFun (frc6.1 12 (by decide)) 1).trans hsc4.2⟩
        refine he_s 2 (pc' := 84) (lc' := [(4, .int (nI (sp_iC A.1.1 (sp_wd T n (sp_n T n (sp_n T n p)))))), (3, .int (nI (sp_iC A.1.1 (sp_wd T n (sp_n T n p))))), (0, .ref 12), (1, .ref 41), (2, .int 0)]) (stk' := [.ref 9]) (mem' := cm gc6 lc3 a b R) (by intro _ _ _; eq_refl) ?_
        obtain ⟨gc7, lc7, hrc7, hmc7, frc7⟩ := ha_scanq (R := R) hg hmc6
        refine he_ivV hrc7 (by omega) (by rfl) (by rfl) (by rfl) (by rfl) (by rfl) (by rfl) ?_
        have hfc7 := cfr_tr hfc6 frc7
        have hDc7 := cd_fr hDc6 frc7 (by decide) (by decide)
        have hsc7 : cst gc7 s := ⟨hsc6.1, (congrFun (frc7.1 12 (by decide)) 1).trans hsc6.2⟩
        refine he_s 3 (pc' := 93) (lc' := [(4, .int (nI (sp_iC A.1.1 (sp_wd T n (sp_n T n (sp_n T n p)))))), (3, .int (nI (sp_iC A.1.1 (sp_wd T n (sp_n T n p))))), (0, .ref 12), (1, .ref 41), (2, .int 0)]) (stk' := [.int 59, .ref 9]) (mem' := cm gc7 lc7 a b R) (by intro _ _ _; eq_refl) ?_
        obtain ⟨vc8, memc8, ⟨gc8, lc8, frc8, hmc8, hRc8⟩, hrc8⟩ := ha_psq0 (x := 59) (R := R) hg hmc7
        cases hRc8
        refine he_ivV hrc8 (by omega) (by rfl) (by rfl) (by rfl) (by rfl) (by rfl) (by rfl) ?_
        have hfc8 := cfr_tr hfc7 frc8
        have hDc8 := cd_fr hDc7 frc8 (by decide) (by decide)
        have hsc8 : cst gc8 s := ⟨hsc7.1, (congrFun (frc8.1 12 (by decide)) 1).trans hsc7.2⟩
        refine he_s 1 (pc' := cond (fx_cb .eq 0 0) 148 99) (lc' := [(4, .int (nI (sp_iC A.1.1 (sp_wd T n (sp_n T n (sp_n T n p)))))), (3, .int (nI (sp_iC A.1.1 (sp_wd T n (sp_n T n p))))), (0, .ref 12), (1, .ref 41), (2, .int 0)]) (stk' := []) (mem' := cm gc8 lc8 a b R) (by intro _ _ _; eq_refl) ?_
        rw [show (fx_cb .eq 0 0) = true from by decide]
        dsimp only [cond]
        refine he_ret ⟨_, _, _, _, cfd_c hfc8, ?_, rfl⟩ (by rfl) (by rfl) (by rfl)
        unfold sp_pPair
        rw [sp_cell_t hwc2 hvc2, if_neg (fun z => absurd z.1 (by decide)), sp_cell_t hwc4 hvc4, if_pos (Or.inl (by omega))]
        exact hmc8
      · rw [show (fx_cb .eq (nI (sp_iC A.1.1 (sp_wd T n (sp_n T n p)))) (nI (sp_iC A.1.1 (sp_wd T n (sp_n T n (sp_n T n p)))))) = false from cb_eqF (a := (sp_iC A.1.1 (sp_wd T n (sp_n T n p)))) (b := (sp_iC A.1.1 (sp_wd T n (sp_n T n (sp_n T n p))))) (by omega) (by omega) (by omega)]
        dsimp only [cond]
        refine he_s 1 (pc' := 60) (lc' := [(4, .int (nI (sp_iC A.1.1 (sp_wd T n (sp_n T n (sp_n T n p)))))), (3, .int (nI (sp_iC A.1.1 (sp_wd T n (sp_n T n p))))), (0, .ref 12), (1, .ref 41), (2, .int 0)]) (stk' := [.int 0]) (mem' := cm gc4 lc3 a b R) (by intro _ _ _; eq_refl) ?_
        refine he_s 1 (pc' := cond (fx_cb .eq 0 0) 80 63) (lc' := [(4, .int (nI (sp_iC A.1.1 (sp_wd T n (sp_n T n (sp_n T n p)))))), (3, .int (nI (sp_iC A.1.1 (sp_wd T n (sp_n T n p))))), (0, .ref 12), (1, .ref 41), (2, .int 0)]) (stk' := []) (mem' := cm gc4 lc3 a b R) (by intro _ _ _; eq_refl) ?_
        rw [show (fx_cb .eq 0 0) = true from by decide]
        dsimp only [cond]
        refine he_s 2 (pc' := 84) (lc' := [(4, .int (nI (sp_iC A.1.1 (sp_wd T n (sp_n T n (sp_n T n p)))))), (3, .int (nI (sp_iC A.1.1 (sp_wd T n (sp_n T n p))))), (0, .ref 12), (1, .ref 41), (2, .int 0)]) (stk' := [.ref 9]) (mem' := cm gc4 lc3 a b R) (by intro _ _ _; eq_refl) ?_
        obtain ⟨gc9, lc9, hrc9, hmc9, frc9⟩ := ha_scano (R := R) hg hmc4
        refine he_ivV hrc9 (by omega) (by rfl) (by rfl) (by rfl) (by rfl) (by rfl) (by rfl) ?_
        have hfc9 := cfr_tr hfc4 frc9
        have hDc9 := cd_fr hDc4 frc9 (by decide) (by decide)
        have hsc9 : cst gc9 s := ⟨hsc4.1, (congrFun (frc9.1 12 (by decide)) 1).trans hsc4.2⟩
        refine he_s 3 (pc' := 93) (lc' := [(4, .int (nI (sp_iC A.1.1 (sp_wd T n (sp_n T n (sp_n T n p)))))), (3, .int (nI (sp_iC A.1.1 (sp_wd T n (sp_n T n p))))), (0, .ref 12), (1, .ref 41), (2, .int 0)]) (stk' := [.int 59, .ref 9]) (mem' := cm gc9 lc9 a b R) (by intro _ _ _; eq_refl) ?_
        obtain ⟨vc10, memc10, ⟨xc10, gc10, lc10, frc10, hxc10, hRc10⟩, hrc10⟩ := ha_ps0 (w := 59) (R := R) hg (by decide) hmc9
        cases hRc10
        refine he_ivV hrc10 (by omega) (by rfl) (by rfl) (by rfl) (by rfl) (by rfl) (by rfl) ?_
        have hfc10 := cfr_tr hfc9 frc10
        have hDc10 := cd_fr hDc9 frc10 (by decide) (by decide)
        have hsc10 : cst gc10 s := ⟨hsc9.1, (congrFun (frc10.1 12 (by decide)) 1).trans hsc9.2⟩
        rcases hxc10 with ⟨hwc10, rfl, hmc10⟩ | ⟨hwc10, rfl, hmc10⟩
        · refine he_s 1 (pc' := cond (fx_cb .eq 1 0) 148 99) (lc' := [(4, .int (nI (sp_iC A.1.1 (sp_wd T n (sp_n T n (sp_n T n p)))))), (3, .int (nI (sp_iC A.1.1 (sp_wd T n (sp_n T n p))))), (0, .ref 12), (1, .ref 41), (2, .int 0)]) (stk' := []) (mem' := cm gc10 lc10 a b R) (by intro _ _ _; eq_refl) ?_
          rw [show (fx_cb .eq 1 0) = false from by decide]
          dsimp only [cond]
          refine he_s 3 (pc' := 103) (lc' := [(4, .int (nI (sp_iC A.1.1 (sp_wd T n (sp_n T n (sp_n T n p)))))), (3, .int (nI (sp_iC A.1.1 (sp_wd T n (sp_n T n p))))), (0, .ref 12), (1, .ref 41), (2, .int 0)]) (stk' := [.int (nI (sp_iC A.1.1 (sp_wd T n (sp_n T n (sp_n T n p))))), .int (nI (sp_iC A.1.1 (sp_wd T n (sp_n T n p)))), .ref 41]) (mem' := cm gc10 lc10 a b R) (by intro _ _ _; eq_refl) ?_
          refine he_ivV (ha_ip41 (l := lc10) (a := a) (b := b) (R := R) hDc10.1.1 hDc10.1.2.1 hvc2 hvc4 (by omega)) (by omega) (by rfl) (by rfl) (by rfl) (by rfl) (by rfl) (by rfl) ?_
          refine he_s 1 (pc' := cond (fx_cb .eq 1 0) 148 109) (lc' := [(4, .int (nI (sp_iC A.1.1 (sp_wd T n (sp_n T n (sp_n T n p)))))), (3, .int (nI (sp_iC A.1.1 (sp_wd T n (sp_n T n p))))), (0, .ref 12), (1, .ref 41), (2, .int 0)]) (stk' := []) (mem' := cm gc10 lc10 a b R) (by intro _ _ _; eq_refl) ?_
          rw [show (fx_cb .eq 1 0) = false from by decide]
          dsimp only [cond]
          refine he_s 1 (pc' := 110) (lc' := [(4, .int (nI (sp_iC A.1.1 (sp_wd T n (sp_n T n (sp_n T n p)))))), (3, .int (nI (sp_iC A.1.1 (sp_wd T n (sp_n T n p))))), (0, .ref 12), (1, .ref 41), (2, .int 0)]) (stk' := [.int 0]) (mem' := cm gc10 lc10 a b R) (by intro _ _ _; eq_refl) ?_
          refine he_s 1 (pc' := cond (fx_cb .eq 0 0) 120 113) (lc' := [(4, .int (nI (sp_iC A.1.1 (sp_wd T n (sp_n T n (sp_n T n p)))))), (3, .int (nI (sp_iC A.1.1 (sp_wd T n (sp_n T n p))))), (0, .ref 12), (1, .ref 41), (2, .int 0)]) (stk' := []) (mem' := cm gc10 lc10 a b R) (by intro _ _ _; eq_refl) ?_
          rw [show (fx_cb .eq 0 0) = true from by decide]
          dsimp only [cond]
          refine he_s 6 (pc' := 130) (lc' := [(5, .ref 43), (4, .int (nI (sp_iC A.1.1 (sp_wd T n (sp_n T n (sp_n T n p)))))), (3, .int (nI (sp_iC A.1.1 (sp_wd T n (sp_n T n p))))), (0, .ref 12), (1, .ref 41), (2, .int 0)]) (stk' := [.int (nI (sp_iC A.1.1 (sp_wd T n (sp_n T n p)))), .ref 43, .int (nI (sp_iC A.1.1 (sp_wd T n (sp_n T n p)))), .ref 43]) (mem' := cm gc10 lc10 a b R) (by intro _ _ _; eq_refl) ?_
          refine he_ldI (by rfl) (by rfl) (fx_inN (i := (sp_iC A.1.1 (sp_wd T n (sp_n T n p)))) (by omega) (by omega)) ?_
          rw [show Int32.toNatClampNeg (nI (sp_iC A.1.1 (sp_wd T n (sp_n T n p)))) = (sp_iC A.1.1 (sp_wd T n (sp_n T n p))) from nI_clamp (by omega)]
          refine he_s 4 (pc' := 136) (lc' := [(5, .ref 43), (4, .int (nI (sp_iC A.1.1 (sp_wd T n (sp_n T n (sp_n T n p)))))), (3, .int (nI (sp_iC A.1.1 (sp_wd T n (sp_n T n p))))), (0, .ref 12), (1, .ref 41), (2, .int 0)]) (stk' := [.int ((a 43 (sp_iC A.1.1 (sp_wd T n (sp_n T n p)))) ||| ((1 : Int32) <<< ((nI (sp_iC A.1.1 (sp_wd T n (sp_n T n (sp_n T n p))))) &&& 31))), .int (nI (sp_iC A.1.1 (sp_wd T n (sp_n T n p)))), .ref 43]) (mem' := cm gc10 lc10 a b R) (by intro _ _ _; eq_refl) ?_
          refine he_stI (mem' := cm gc10 lc10 (fm_u a 43 (nI (sp_iC A.1.1 (sp_wd T n (sp_n T n p))) : Int32).toNatClampNeg ((a 43 (sp_iC A.1.1 (sp_wd T n (sp_n T n p)))) ||| ((1 : Int32) <<< ((nI (sp_iC A.1.1 (sp_wd T n (sp_n T n (sp_n T n p))))) &&& 31)))) b R) (by rfl) (by rfl) (fx_inN (i := (sp_iC A.1.1 (sp_wd T n (sp_n T n p)))) (by omega) (by omega)) cm_si43 ?_
          rw [show Int32.toNatClampNeg (nI (sp_iC A.1.1 (sp_wd T n (sp_n T n p)))) = (sp_iC A.1.1 (sp_wd T n (sp_n T n p))) from nI_clamp (by omega)]
          refine he_s 3 (pc' := 142) (lc' := [(5, .ref 43), (4, .int (nI (sp_iC A.1.1 (sp_wd T n (sp_n T n (sp_n T n p)))))), (3, .int (nI (sp_iC A.1.1 (sp_wd T n (sp_n T n p))))), (0, .ref 12), (1, .ref 41), (2, .int 0)]) (stk' := [.int (nI (sp_iC A.1.1 (sp_wd T n (sp_n T n (sp_n T n p))))), .ref 43, .int (nI (sp_iC A.1.1 (sp_wd T n (sp_n T n (sp_n T n p))))), .ref 43]) (mem' := cm gc10 lc10 (fm_u a 43 (sp_iC A.1.1 (sp_wd T n (sp_n T n p))) ((a 43 (sp_iC A.1.1 (sp_wd T n (sp_n T n p)))) ||| ((1 : Int32) <<< ((nI (sp_iC A.1.1 (sp_wd T n (sp_n T n (sp_n T n p))))) &&& 31)))) b R) (by intro _ _ _; eq_refl) ?_
          refine he_ldI (by rfl) (by rfl) (fx_inN (i := (sp_iC A.1.1 (sp_wd T n (sp_n T n (sp_n T n p))))) (by omega) (by omega)) ?_
          rw [show Int32.toNatClampNeg (nI (sp_iC A.1.1 (sp_wd T n (sp_n T n (sp_n T n p))))) = (sp_iC A.1.1 (sp_wd T n (sp_n T n (sp_n T n p)))) from nI_clamp (by omega)]
          refine he_s 4 (pc' := 147) (lc' := [(5, .ref 43), (4, .int (nI (sp_iC A.1.1 (sp_wd T n (sp_n T n (sp_n T n p)))))), (3, .int (nI (sp_iC A.1.1 (sp_wd T n (sp_n T n p))))), (0, .ref 12), (1, .ref 41), (2, .int 0)]) (stk' := [.int (((fm_u a 43 (sp_iC A.1.1 (sp_wd T n (sp_n T n p))) ((a 43 (sp_iC A.1.1 (sp_wd T n (sp_n T n p)))) ||| ((1 : Int32) <<< ((nI (sp_iC A.1.1 (sp_wd T n (sp_n T n (sp_n T n p))))) &&& 31)))) 43 (sp_iC A.1.1 (sp_wd T n (sp_n T n (sp_n T n p))))) ||| ((1 : Int32) <<< ((nI (sp_iC A.1.1 (sp_wd T n (sp_n T n p)))) &&& 31))), .int (nI (sp_iC A.1.1 (sp_wd T n (sp_n T n (sp_n T n p))))), .ref 43]) (mem' := cm gc10 lc10 (fm_u a 43 (sp_iC A.1.1 (sp_wd T n (sp_n T n p))) ((a 43 (sp_iC A.1.1 (sp_wd T n (sp_n T n p)))) ||| ((1 : Int32) <<< ((nI (sp_iC A.1.1 (sp_wd T n (sp_n T n (sp_n T n p))))) &&& 31)))) b R) (by intro _ _ _; eq_refl) ?_
          refine he_stI (mem' := cm gc10 lc10 (fm_u (fm_u a 43 (sp_iC A.1.1 (sp_wd T n (sp_n T n p))) ((a 43 (sp_iC A.1.1 (sp_wd T n (sp_n T n p)))) ||| ((1 : Int32) <<< ((nI (sp_iC A.1.1 (sp_wd T n (sp_n T n (sp_n T n p))))) &&& 31)))) 43 (nI (sp_iC A.1.1 (sp_wd T n (sp_n T n (sp_n T n p)))) : Int32).toNatClampNeg (((fm_u a 43 (sp_iC A.1.1 (sp_wd T n (sp_n T n p))) ((a 43 (sp_iC A.1.1 (sp_wd T n (sp_n T n p)))) ||| ((1 : Int32) <<< ((nI (sp_iC A.1.1 (sp_wd T n (sp_n T n (sp_n T n p))))) &&& 31)))) 43 (sp_iC A.1.1 (sp_wd T n (sp_n T n (sp_n T n p))))) ||| ((1 : Int32) <<< ((nI (sp_iC A.1.1 (sp_wd T n (sp_n T n p)))) &&& 31)))) b R) (by rfl) (by rfl) (fx_inN (i := (sp_iC A.1.1 (sp_wd T n (sp_n T n (sp_n T n p))))) (by omega) (by omega)) cm_si43 ?_
          rw [show Int32.toNatClampNeg (nI (sp_iC A.1.1 (sp_wd T n (sp_n T n (sp_n T n p))))) = (sp_iC A.1.1 (sp_wd T n (sp_n T n (sp_n T n p)))) from nI_clamp (by omega)]
          refine he_ret ⟨_, _, _, _, cfd_tr (cfd_c hfc10) (cfd_d (cdr_2a (by decide))), ?_, rfl⟩ (by rfl) (by rfl) (by rfl)
          unfold sp_pPair
          rw [sp_cell_t hwc2 hvc2, if_neg (fun z => absurd z.1 (by decide)), sp_cell_t hwc4 hvc4, if_neg (fun z => by rcases z with z | z; exact absurd z (by omega); exact absurd z.1 (by decide)), sp_fin_t hwc10]
          rw [if_neg (by decide)]
          exact ⟨hmc10, cd_way (by omega) (by omega) hDc10, hsc10⟩
        · refine he_s 1 (pc' := cond (fx_cb .eq 0 0) 148 99) (lc' := [(4, .int (nI (sp_iC A.1.1 (sp_wd T n (sp_n T n (sp_n T n p)))))), (3, .int (nI (sp_iC A.1.1 (sp_wd T n (sp_n T n p))))), (0, .ref 12), (1, .ref 41), (2, .int 0)]) (stk' := []) (mem' := cm gc10 lc10 a b R) (by intro _ _ _; eq_refl) ?_
          rw [show (fx_cb .eq 0 0) = true from by decide]
          dsimp only [cond]
          refine he_ret ⟨_, _, _, _, cfd_c hfc10, ?_, rfl⟩ (by rfl) (by rfl) (by rfl)
          unfold sp_pPair
          rw [sp_cell_t hwc2 hvc2, if_neg (fun z => absurd z.1 (by decide)), sp_cell_t hwc4 hvc4, if_neg (fun z => by rcases z with z | z; exact absurd z (by omega); exact absurd z.1 (by decide)), sp_fin_f hwc10]
          exact hmc10
    · refine he_s 3 (pc' := 56) (lc' := [(4, .int (-1)), (3, .int (nI (sp_iC A.1.1 (sp_wd T n (sp_n T n p))))), (0, .ref 12), (1, .ref 41), (2, .int 0)]) (stk' := [.int (-1), .int (nI (sp_iC A.1.1 (sp_wd T n (sp_n T n p))))]) (mem' := cm gc4 lc3 a b R) (by intro _ _ _; eq_refl) ?_
      refine he_s 1 (pc' := cond (fx_cb .eq (nI (sp_iC A.1.1 (sp_wd T n (sp_n T n p)))) (-1)) 72 59) (lc' := [(4, .int (-1)), (3, .int (nI (sp_iC A.1.1 (sp_wd T n (sp_n T n p))))), (0, .ref 12), (1, .ref 41), (2, .int 0)]) (stk' := []) (mem' := cm gc4 lc3 a b R) (by intro _ _ _; eq_refl) ?_
      rw [show (fx_cb .eq (nI (sp_iC A.1.1 (sp_wd T n (sp_n T n p)))) (-1)) = false from cb_n_eq (by omega) (by decide)]
      dsimp only [cond]
      refine he_s 1 (pc' := 60) (lc' := [(4, .int (-1)), (3, .int (nI (sp_iC A.1.1 (sp_wd T n (sp_n T n p))))), (0, .ref 12), (1, .ref 41), (2, .int 0)]) (stk' := [.int 0]) (mem' := cm gc4 lc3 a b R) (by intro _ _ _; eq_refl) ?_
      refine he_s 1 (pc' := cond (fx_cb .eq 0 0) 80 63) (lc' := [(4, .int (-1)), (3, .int (nI (sp_iC A.1.1 (sp_wd T n (sp_n T n p))))), (0, .ref 12), (1, .ref 41), (2, .int 0)]) (stk' := []) (mem' := cm gc4 lc3 a b R) (by intro _ _ _; eq_refl) ?_
      rw [show (fx_cb .eq 0 0) = true from by decide]
      dsimp only [cond]
      refine he_s 2 (pc' := 84) (lc' := [(4, .int (-1)), (3, .int (nI (sp_iC A.1.1 (sp_wd T n (sp_n T n p))))), (0, .ref 12), (1, .ref 41), (2, .int 0)]) (stk' := [.ref 9]) (mem' := cm gc4 lc3 a b R) (by intro _ _ _; eq_refl) ?_
      obtain ⟨gc11, lc11, hrc11, hmc11, frc11⟩ := ha_scanq (R := R) hg hmc4
      refine he_ivV hrc11 (by omega) (by rfl) (by rfl) (by rfl) (by rfl) (by rfl) (by rfl) ?_
      have hfc11 := cfr_tr hfc4 frc11
      have hDc11 := cd_fr hDc4 frc11 (by decide) (by decide)
      have hsc11 : cst gc11 s := ⟨hsc4.1, (congrFun (frc11.1 12 (by decide)) 1).trans hsc4.2⟩
      refine he_s 3 (pc' := 93) (lc' := [(4, .int (-1)), (3, .int (nI (sp_iC A.1.1 (sp_wd T n (sp_n T n p))))), (0, .ref 12), (1, .ref 41), (2, .int 0)]) (stk' := [.int 59, .ref 9]) (mem' := cm gc11 lc11 a b R) (by intro _ _ _; eq_refl) ?_
      obtain ⟨vc12, memc12, ⟨gc12, lc12, frc12, hmc12, hRc12⟩, hrc12⟩ := ha_psq0 (x := 59) (R := R) hg hmc11
      cases hRc12
      refine he_ivV hrc12 (by omega) (by rfl) (by rfl) (by rfl) (by rfl) (by rfl) (by rfl) ?_
      have hfc12 := cfr_tr hfc11 frc12
      have hDc12 := cd_fr hDc11 frc12 (by decide) (by decide)
      have hsc12 : cst gc12 s := ⟨hsc11.1, (congrFun (frc12.1 12 (by decide)) 1).trans hsc11.2⟩
      refine he_s 1 (pc' := cond (fx_cb .eq 0 0) 148 99) (lc' := [(4, .int (-1)), (3, .int (nI (sp_iC A.1.1 (sp_wd T n (sp_n T n p))))), (0, .ref 12), (1, .ref 41), (2, .int 0)]) (stk' := []) (mem' := cm gc12 lc12 a b R) (by intro _ _ _; eq_refl) ?_
      rw [show (fx_cb .eq 0 0) = true from by decide]
      dsimp only [cond]
      refine he_ret ⟨_, _, _, _, cfd_c hfc12, ?_, rfl⟩ (by rfl) (by rfl) (by rfl)
      unfold sp_pPair
      rw [sp_cell_t hwc2 hvc2, if_neg (fun z => absurd z.1 (by decide)), sp_cell_3 hwc4 hvc4]
      exact hmc12
    · refine he_s 3 (pc' := 56) (lc' := [(4, .int (-1)), (3, .int (nI (sp_iC A.1.1 (sp_wd T n (sp_n T n p))))), (0, .ref 12), (1, .ref 41), (2, .int 0)]) (stk' := [.int (-1), .int (nI (sp_iC A.1.1 (sp_wd T n (sp_n T n p))))]) (mem' := cm gc4 lc3 a b R) (by intro _ _ _; eq_refl) ?_
      refine he_s 1 (pc' := cond (fx_cb .eq (nI (sp_iC A.1.1 (sp_wd T n (sp_n T n p)))) (-1)) 72 59) (lc' := [(4, .int (-1)), (3, .int (nI (sp_iC A.1.1 (sp_wd T n (sp_n T n p))))), (0, .ref 12), (1, .ref 41), (2, .int 0)]) (stk' := []) (mem' := cm gc4 lc3 a b R) (by intro _ _ _; eq_refl) ?_
      rw [show (fx_cb .eq (nI (sp_iC A.1.1 (sp_wd T n (sp_n T n p)))) (-1)) = false from cb_n_eq (by omega) (by decide)]
      dsimp only [cond]
      refine he_s 1 (pc' := 60) (lc' := [(4, .int (-1)), (3, .int (nI (sp_iC A.1.1 (sp_wd T n (sp_n T n p))))), (0, .ref 12), (1, .ref 41), (2, .int 0)]) (stk' := [.int 0]) (mem' := cm gc4 lc3 a b R) (by intro _ _ _; eq_refl) ?_
      refine he_s 1 (pc' := cond (fx_cb .eq 0 0) 80 63) (lc' := [(4, .int (-1)), (3, .int (nI (sp_iC A.1.1 (sp_wd T n (sp_n T n p))))), (0, .ref 12), (1, .ref 41), (2, .int 0)]) (stk' := []) (mem' := cm gc4 lc3 a b R) (by intro _ _ _; eq_refl) ?_
      rw [show (fx_cb .eq 0 0) = true from by decide]
      dsimp only [cond]
      refine he_s 2 (pc' := 84) (lc' := [(4, .int (-1)), (3, .int (nI (sp_iC A.1.1 (sp_wd T n (sp_n T n p))))), (0, .ref 12), (1, .ref 41), (2, .int 0)]) (stk' := [.ref 9]) (mem' := cm gc4 lc3 a b R) (by intro _ _ _; eq_refl) ?_
      obtain ⟨gc13, lc13, hrc13, hmc13, frc13⟩ := ha_scanq (R := R) hg hmc4
      refine he_ivV hrc13 (by omega) (by rfl) (by rfl) (by rfl) (by rfl) (by rfl) (by rfl) ?_
      have hfc13 := cfr_tr hfc4 frc13
      have hDc13 := cd_fr hDc4 frc13 (by decide) (by decide)
      have hsc13 : cst gc13 s := ⟨hsc4.1, (congrFun (frc13.1 12 (by decide)) 1).trans hsc4.2⟩
      refine he_s 3 (pc' := 93) (lc' := [(4, .int (-1)), (3, .int (nI (sp_iC A.1.1 (sp_wd T n (sp_n T n p))))), (0, .ref 12), (1, .ref 41), (2, .int 0)]) (stk' := [.int 59, .ref 9]) (mem' := cm gc13 lc13 a b R) (by intro _ _ _; eq_refl) ?_
      obtain ⟨vc14, memc14, ⟨gc14, lc14, frc14, hmc14, hRc14⟩, hrc14⟩ := ha_psq0 (x := 59) (R := R) hg hmc13
      cases hRc14
      refine he_ivV hrc14 (by omega) (by rfl) (by rfl) (by rfl) (by rfl) (by rfl) (by rfl) ?_
      have hfc14 := cfr_tr hfc13 frc14
      have hDc14 := cd_fr hDc13 frc14 (by decide) (by decide)
      have hsc14 : cst gc14 s := ⟨hsc13.1, (congrFun (frc14.1 12 (by decide)) 1).trans hsc13.2⟩
      refine he_s 1 (pc' := cond (fx_cb .eq 0 0) 148 99) (lc' := [(4, .int (-1)), (3, .int (nI (sp_iC A.1.1 (sp_wd T n (sp_n T n p))))), (0, .ref 12), (1, .ref 41), (2, .int 0)]) (stk' := []) (mem' := cm gc14 lc14 a b R) (by intro _ _ _; eq_refl) ?_
      rw [show (fx_cb .eq 0 0) = true from by decide]
      dsimp only [cond]
      refine he_ret ⟨_, _, _, _, cfd_c hfc14, ?_, rfl⟩ (by rfl) (by rfl) (by rfl)
      unfold sp_pPair
      rw [sp_cell_t hwc2 hvc2, if_neg (fun z => absurd z.1 (by decide)), sp_cell_f hwc4]
      exact hmc14
  · refine he_s 2 (pc' := 17) (lc' := [(3, .int (-1)), (0, .ref 12), (1, .ref 41), (2, .int 0)]) (stk' := [.int 0]) (mem' := cm gc2 lc1 a b R) (by intro _ _ _; eq_refl) ?_
    refine he_s 1 (pc' := cond (fx_cb .eq 0 0) 36 20) (lc' := [(3, .int (-1)), (0, .ref 12), (1, .ref 41), (2, .int 0)]) (stk' := []) (mem' := cm gc2 lc1 a b R) (by intro _ _ _; eq_refl) ?_
    rw [show (fx_cb .eq 0 0) = true from by decide]
    dsimp only [cond]
    refine he_s 2 (pc' := 40) (lc' := [(3, .int (-1)), (0, .ref 12), (1, .ref 41), (2, .int 0)]) (stk' := [.ref 9]) (mem' := cm gc2 lc1 a b R) (by intro _ _ _; eq_refl) ?_
    obtain ⟨gc15, lc15, hrc15, hmc15, frc15⟩ := ha_scanq (R := R) hg hmc2
    refine he_ivV hrc15 (by omega) (by rfl) (by rfl) (by rfl) (by rfl) (by rfl) (by rfl) ?_
    have hfc15 := cfr_tr hfc2 frc15
    have hDc15 := cd_fr hDc2 frc15 (by decide) (by decide)
    have hsc15 : cst gc15 s := ⟨hsc2.1, (congrFun (frc15.1 12 (by decide)) 1).trans hsc2.2⟩
    refine he_s 3 (pc' := 48) (lc' := [(3, .int (-1)), (0, .ref 12), (1, .ref 41), (2, .int 0)]) (stk' := [.ref 41, .ref 9]) (mem' := cm gc15 lc15 a b R) (by intro _ _ _; eq_refl) ?_
    obtain ⟨vc16, memc16, ⟨xc16, gc16, lc16, frc16, hmc16, hbc16, hRc16⟩, hrc16⟩ := ha_ch41q0 (R := R) hg hDc15.1 hmc15
    cases hRc16
    refine he_ivV hrc16 (by omega) (by rfl) (by rfl) (by rfl) (by rfl) (by rfl) (by rfl) ?_
    have hfc16 := cfr_tr hfc15 frc16
    have hDc16 := cd_fr hDc15 frc16 (by decide) (by decide)
    have hsc16 : cst gc16 s := ⟨hsc15.1, (congrFun (frc16.1 12 (by decide)) 1).trans hsc15.2⟩
    refine he_s 3 (pc' := 56) (lc' := [(4, .int xc16), (3, .int (-1)), (0, .ref 12), (1, .ref 41), (2, .int 0)]) (stk' := [.int xc16, .int (-1)]) (mem' := cm gc16 lc16 a b R) (by intro _ _ _; eq_refl) ?_
    refine he_s 1 (pc' := cond (fx_cb .eq (-1) xc16) 72 59) (lc' := [(4, .int xc16), (3, .int (-1)), (0, .ref 12), (1, .ref 41), (2, .int 0)]) (stk' := []) (mem' := cm gc16 lc16 a b R) (by intro _ _ _; eq_refl) ?_
    cases y17 : fx_cb .eq (-1) xc16
    · refine he_s 1 (pc' := 60) (lc' := [(4, .int xc16), (3, .int (-1)), (0, .ref 12), (1, .ref 41), (2, .int 0)]) (stk' := [.int 0]) (mem' := cm gc16 lc16 a b R) (by intro _ _ _; eq_refl) ?_
      refine he_s 1 (pc' := cond (fx_cb .eq 0 0) 80 63) (lc' := [(4, .int xc16), (3, .int (-1)), (0, .ref 12), (1, .ref 41), (2, .int 0)]) (stk' := []) (mem' := cm gc16 lc16 a b R) (by intro _ _ _; eq_refl) ?_
      rw [show (fx_cb .eq 0 0) = true from by decide]
      dsimp only [cond]
      refine he_s 2 (pc' := 84) (lc' := [(4, .int xc16), (3, .int (-1)), (0, .ref 12), (1, .ref 41), (2, .int 0)]) (stk' := [.ref 9]) (mem' := cm gc16 lc16 a b R) (by intro _ _ _; eq_refl) ?_
      obtain ⟨gc18, lc18, hrc18, hmc18, frc18⟩ := ha_scanq (R := R) hg hmc16
      refine he_ivV hrc18 (by omega) (by rfl) (by rfl) (by rfl) (by rfl) (by rfl) (by rfl) ?_
      have hfc18 := cfr_tr hfc16 frc18
      have hDc18 := cd_fr hDc16 frc18 (by decide) (by decide)
      have hsc18 : cst gc18 s := ⟨hsc16.1, (congrFun (frc18.1 12 (by decide)) 1).trans hsc16.2⟩
      refine he_s 3 (pc' := 93) (lc' := [(4, .int xc16), (3, .int (-1)), (0, .ref 12), (1, .ref 41), (2, .int 0)]) (stk' := [.int 59, .ref 9]) (mem' := cm gc18 lc18 a b R) (by intro _ _ _; eq_refl) ?_
      obtain ⟨vc19, memc19, ⟨gc19, lc19, frc19, hmc19, hRc19⟩, hrc19⟩ := ha_psq0 (x := 59) (R := R) hg hmc18
      cases hRc19
      refine he_ivV hrc19 (by omega) (by rfl) (by rfl) (by rfl) (by rfl) (by rfl) (by rfl) ?_
      have hfc19 := cfr_tr hfc18 frc19
      have hDc19 := cd_fr hDc18 frc19 (by decide) (by decide)
      have hsc19 : cst gc19 s := ⟨hsc18.1, (congrFun (frc19.1 12 (by decide)) 1).trans hsc18.2⟩
      refine he_s 1 (pc' := cond (fx_cb .eq 0 0) 148 99) (lc' := [(4, .int xc16), (3, .int (-1)), (0, .ref 12), (1, .ref 41), (2, .int 0)]) (stk' := []) (mem' := cm gc19 lc19 a b R) (by intro _ _ _; eq_refl) ?_
      rw [show (fx_cb .eq 0 0) = true from by decide]
      dsimp only [cond]
      refine he_ret ⟨_, _, _, _, cfd_c hfc19, ?_, rfl⟩ (by rfl) (by rfl) (by rfl)
      unfold sp_pPair
      rw [sp_cell_3 hwc2 hvc2]
      exact hmc19
    · refine he_s 3 (pc' := 77) (lc' := [(4, .int xc16), (3, .int (-1)), (0, .ref 12), (1, .ref 41), (2, .int 0)]) (stk' := [.int 5, .ref 9]) (mem' := cm gc16 lc16 a b R) (by intro _ _ _; eq_refl) ?_
      refine he_ivV (ha_failq (a := a) (b := b) (R := R) (x := 5) hmc16) (by omega) (by rfl) (by rfl) (by rfl) (by rfl) (by rfl) (by rfl) ?_
      refine he_s 2 (pc' := 84) (lc' := [(4, .int xc16), (3, .int (-1)), (0, .ref 12), (1, .ref 41), (2, .int 0)]) (stk' := [.ref 9]) (mem' := cm gc16 lc16 a b R) (by intro _ _ _; eq_refl) ?_
      obtain ⟨gc21, lc21, hrc21, hmc21, frc21⟩ := ha_scanq (R := R) hg hmc16
      refine he_ivV hrc21 (by omega) (by rfl) (by rfl) (by rfl) (by rfl) (by rfl) (by rfl) ?_
      have hfc21 := cfr_tr hfc16 frc21
      have hDc21 := cd_fr hDc16 frc21 (by decide) (by decide)
      have hsc21 : cst gc21 s := ⟨hsc16.1, (congrFun (frc21.1 12 (by decide)) 1).trans hsc16.2⟩
      refine he_s 3 (pc' := 93) (lc' := [(4, .int xc16), (3, .int (-1)), (0, .ref 12), (1, .ref 41), (2, .int 0)]) (stk' := [.int 59, .ref 9]) (mem' := cm gc21 lc21 a b R) (by intro _ _ _; eq_refl) ?_
      obtain ⟨vc22, memc22, ⟨gc22, lc22, frc22, hmc22, hRc22⟩, hrc22⟩ := ha_psq0 (x := 59) (R := R) hg hmc21
      cases hRc22
      refine he_ivV hrc22 (by omega) (by rfl) (by rfl) (by rfl) (by rfl) (by rfl) (by rfl) ?_
      have hfc22 := cfr_tr hfc21 frc22
      have hDc22 := cd_fr hDc21 frc22 (by decide) (by decide)
      have hsc22 : cst gc22 s := ⟨hsc21.1, (congrFun (frc22.1 12 (by decide)) 1).trans hsc21.2⟩
      refine he_s 1 (pc' := cond (fx_cb .eq 0 0) 148 99) (lc' := [(4, .int xc16), (3, .int (-1)), (0, .ref 12), (1, .ref 41), (2, .int 0)]) (stk' := []) (mem' := cm gc22 lc22 a b R) (by intro _ _ _; eq_refl) ?_
      rw [show (fx_cb .eq 0 0) = true from by decide]
      dsimp only [cond]
      refine he_ret ⟨_, _, _, _, cfd_c hfc22, ?_, rfl⟩ (by rfl) (by rfl) (by rfl)
      unfold sp_pPair
      rw [sp_cell_3 hwc2 hvc2]
      exact hmc22
  · refine he_s 2 (pc' := 17) (lc' := [(3, .int (-1)), (0, .ref 12), (1, .ref 41), (2, .int 0)]) (stk' := [.int 0]) (mem' := cm gc2 lc1 a b R) (by intro _ _ _; eq_refl) ?_
    refine he_s 1 (pc' := cond (fx_cb .eq 0 0) 36 20) (lc' := [(3, .int (-1)), (0, .ref 12), (1, .ref 41), (2, .int 0)]) (stk' := []) (mem' := cm gc2 lc1 a b R) (by intro _ _ _; eq_refl) ?_
    rw [show (fx_cb .eq 0 0) = true from by decide]
    dsimp only [cond]
    refine he_s 2 (pc' := 40) (lc' := [(3, .int (-1)), (0, .ref 12), (1, .ref 41), (2, .int 0)]) (stk' := [.ref 9]) (mem' := cm gc2 lc1 a b R) (by intro _ _ _; eq_refl) ?_
    obtain ⟨gc23, lc23, hrc23, hmc23, frc23⟩ := ha_scanq (R := R) hg hmc2
    refine he_ivV hrc23 (by omega) (by rfl) (by rfl) (by rfl) (by rfl) (by rfl) (by rfl) ?_
    have hfc23 := cfr_tr hfc2 frc23
    have hDc23 := cd_fr hDc2 frc23 (by decide) (by decide)
    have hsc23 : cst gc23 s := ⟨hsc2.1, (congrFun (frc23.1 12 (by decide)) 1).trans hsc2.2⟩
    refine he_s 3 (pc' := 48) (lc' := [(3, .int (-1)), (0, .ref 12), (1, .ref 41), (2, .int 0)]) (stk' := [.ref 41, .ref 9]) (mem' := cm gc23 lc23 a b R) (by intro _ _ _; eq_refl) ?_
    obtain ⟨vc24, memc24, ⟨xc24, gc24, lc24, frc24, hmc24, hbc24, hRc24⟩, hrc24⟩ := ha_ch41q0 (R := R) hg hDc23.1 hmc23
    cases hRc24
    refine he_ivV hrc24 (by omega) (by rfl) (by rfl) (by rfl) (by rfl) (by rfl) (by rfl) ?_
    have hfc24 := cfr_tr hfc23 frc24
    have hDc24 := cd_fr hDc23 frc24 (by decide) (by decide)
    have hsc24 : cst gc24 s := ⟨hsc23.1, (congrFun (frc24.1 12 (by decide)) 1).trans hsc23.2⟩
    refine he_s 3 (pc' := 56) (lc' := [(4, .int xc24), (3, .int (-1)), (0, .ref 12), (1, .ref 41), (2, .int 0)]) (stk' := [.int xc24, .int (-1)]) (mem' := cm gc24 lc24 a b R) (by intro _ _ _; eq_refl) ?_
    refine he_s 1 (pc' := cond (fx_cb .eq (-1) xc24) 72 59) (lc' := [(4, .int xc24), (3, .int (-1)), (0, .ref 12), (1, .ref 41), (2, .int 0)]) (stk' := []) (mem' := cm gc24 lc24 a b R) (by intro _ _ _; eq_refl) ?_
    cases y25 : fx_cb .eq (-1) xc24
    · refine he_s 1 (pc' := 60) (lc' := [(4, .int xc24), (3, .int (-1)), (0, .ref 12), (1, .ref 41), (2, .int 0)]) (stk' := [.int 0]) (mem' := cm gc24 lc24 a b R) (by intro _ _ _; eq_refl) ?_
      refine he_s 1 (pc' := cond (fx_cb .eq 0 0) 80 63) (lc' := [(4, .int xc24), (3, .int (-1)), (0, .ref 12), (1, .ref 41), (2, .int 0)]) (stk' := []) (mem' := cm gc24 lc24 a b R) (by intro _ _ _; eq_refl) ?_
      rw [show (fx_cb .eq 0 0) = true from by decide]
      dsimp only [cond]
      refine he_s 2 (pc' := 84) (lc' := [(4, .int xc24), (3, .int (-1)), (0, .ref 12), (1, .ref 41), (2, .int 0)]) (stk' := [.ref 9]) (mem' := cm gc24 lc24 a b R) (by intro _ _ _; eq_refl) ?_
      obtain ⟨gc26, lc26, hrc26, hmc26, frc26⟩ := ha_scanq (R := R) hg hmc24
      refine he_ivV hrc26 (by omega) (by rfl) (by rfl) (by rfl) (by rfl) (by rfl) (by rfl) ?_
      have hfc26 := cfr_tr hfc24 frc26
      have hDc26 := cd_fr hDc24 frc26 (by decide) (by decide)
      have hsc26 : cst gc26 s := ⟨hsc24.1, (congrFun (frc26.1 12 (by decide)) 1).trans hsc24.2⟩
      refine he_s 3 (pc' := 93) (lc' := [(4, .int xc24), (3, .int (-1)), (0, .ref 12), (1, .ref 41), (2, .int 0)]) (stk' := [.int 59, .ref 9]) (mem' := cm gc26 lc26 a b R) (by intro _ _ _; eq_refl) ?_
      obtain ⟨vc27, memc27, ⟨gc27, lc27, frc27, hmc27, hRc27⟩, hrc27⟩ := ha_psq0 (x := 59) (R := R) hg hmc26
      cases hRc27
      refine he_ivV hrc27 (by omega) (by rfl) (by rfl) (by rfl) (by rfl) (by rfl) (by rfl) ?_
      have hfc27 := cfr_tr hfc26 frc27
      have hDc27 := cd_fr hDc26 frc27 (by decide) (by decide)
      have hsc27 : cst gc27 s := ⟨hsc26.1, (congrFun (frc27.1 12 (by decide)) 1).trans hsc26.2⟩
      refine he_s 1 (pc' := cond (fx_cb .eq 0 0) 148 99) (lc' := [(4, .int xc24), (3, .int (-1)), (0, .ref 12), (1, .ref 41), (2, .int 0)]) (stk' := []) (mem' := cm gc27 lc27 a b R) (by intro _ _ _; eq_refl) ?_
      rw [show (fx_cb .eq 0 0) = true from by decide]
      dsimp only [cond]
      refine he_ret ⟨_, _, _, _, cfd_c hfc27, ?_, rfl⟩ (by rfl) (by rfl) (by rfl)
      unfold sp_pPair
      rw [sp_cell_f hwc2]
      exact hmc27
    · refine he_s 3 (pc' := 77) (lc' := [(4, .int xc24), (3, .int (-1)), (0, .ref 12), (1, .ref 41), (2, .int 0)]) (stk' := [.int 5, .ref 9]) (mem' := cm gc24 lc24 a b R) (by intro _ _ _; eq_refl) ?_
      refine he_ivV (ha_failq (a := a) (b := b) (R := R) (x := 5) hmc24) (by omega) (by rfl) (by rfl) (by rfl) (by rfl) (by rfl) (by rfl) ?_
      refine he_s 2 (pc' := 84) (lc' := [(4, .int xc24), (3, .int (-1)), (0, .ref 12), (1, .ref 41), (2, .int 0)]) (stk' := [.ref 9]) (mem' := cm gc24 lc24 a b R) (by intro _ _ _; eq_refl) ?_
      obtain ⟨gc29, lc29, hrc29, hmc29, frc29⟩ := ha_scanq (R := R) hg hmc24
      refine he_ivV hrc29 (by omega) (by rfl) (by rfl) (by rfl) (by rfl) (by rfl) (by rfl) ?_
      have hfc29 := cfr_tr hfc24 frc29
      have hDc29 := cd_fr hDc24 frc29 (by decide) (by decide)
      have hsc29 : cst gc29 s := ⟨hsc24.1, (congrFun (frc29.1 12 (by decide)) 1).trans hsc24.2⟩
      refine he_s 3 (pc' := 93) (lc' := [(4, .int xc24), (3, .int (-1)), (0, .ref 12), (1, .ref 41), (2, .int 0)]) (stk' := [.int 59, .ref 9]) (mem' := cm gc29 lc29 a b R) (by intro _ _ _; eq_refl) ?_
      obtain ⟨vc30, memc30, ⟨gc30, lc30, frc30, hmc30, hRc30⟩, hrc30⟩ := ha_psq0 (x := 59) (R := R) hg hmc29
      cases hRc30
      refine he_ivV hrc30 (by omega) (by rfl) (by rfl) (by rfl) (by rfl) (by rfl) (by rfl) ?_
      have hfc30 := cfr_tr hfc29 frc30
      have hDc30 := cd_fr hDc29 frc30 (by decide) (by decide)
      have hsc30 : cst gc30 s := ⟨hsc29.1, (congrFun (frc30.1 12 (by decide)) 1).trans hsc29.2⟩
      refine he_s 1 (pc' := cond (fx_cb .eq 0 0) 148 99) (lc' := [(4, .int xc24), (3, .int (-1)), (0, .ref 12), (1, .ref 41), (2, .int 0)]) (stk' := []) (mem' := cm gc30 lc30 a b R) (by intro _ _ _; eq_refl) ?_
      rw [show (fx_cb .eq 0 0) = true from by decide]
      dsimp only [cond]
      refine he_ret ⟨_, _, _, _, cfd_c hfc30, ?_, rfl⟩ (by rfl) (by rfl) (by rfl)
      unfold sp_pPair
      rw [sp_cell_f hwc2]
      exact hmc30
theorem ha_rp1 (hg : ctx a b T n) (hD : cd_L 41 A g a b) (hs : cst g s) (h : co g l T n p) : ∃ (v : Option Value) (mem' : fx_M), (fun R1 => ∃ (g' : Nat → Nat → Int32) (l' : Nat → Nat → Int64) (a' : Nat → Nat → Int32) (b' : Nat → Nat → Int64), cfd g a b l g' a' b' l' ∧ cRes g' l' a' b' T n (sp_pPair T n A s p true) ∧ R1 = (none, cm g' l' a' b' R)) (v, mem') ∧ hr_T 5 68 [.ref 12, .ref 41, .int 1] (cm g l a b R) v mem' := by
  refine he_meth (F := fun R1 => ∃ (g' : Nat → Nat → Int32) (l' : Nat → Nat → Int64) (a' : Nat → Nat → Int32) (b' : Nat → Nat → Int64), cfd g a b l g' a' b' l' ∧ cRes g' l' a' b' T n (sp_pPair T n A s p true) ∧ R1 = (none, cm g' l' a' b' R)) (M := gk_m68) (by rfl) (by rfl) ?_
  have hq0 := hD.1.2.1
  refine he_s 2 (pc' := 4) (lc' := [(0, .ref 12), (1, .ref 41), (2, .int 1)]) (stk' := [.ref 9]) (mem' := cm g l a b R) (by intro _ _ _; eq_refl) ?_
  obtain ⟨gc1, lc1, hrc1, hmc1, frc1⟩ := ha_scano (R := R) hg h
  refine he_ivV hrc1 (by omega) (by rfl) (by rfl) (by rfl) (by rfl) (by rfl) (by rfl) ?_
  have hfc1 := cfr_tr cfr_rf frc1
  have hDc1 := cd_fr hD frc1 (by decide) (by decide)
  have hsc1 : cst gc1 s := ⟨hs.1, (congrFun (frc1.1 12 (by decide)) 1).trans hs.2⟩
  refine he_s 3 (pc' := 12) (lc' := [(0, .ref 12), (1, .ref 41), (2, .int 1)]) (stk' := [.ref 41, .ref 9]) (mem' := cm gc1 lc1 a b R) (by intro _ _ _; eq_refl) ?_
  obtain ⟨vc2, memc2, ⟨xc2, gc2, frc2, hxc2, hRc2⟩, hrc2⟩ := ha_ch410 (R := R) hg hDc1.1 hmc1
  cases hRc2
  refine he_ivV hrc2 (by omega) (by rfl) (by rfl) (by rfl) (by rfl) (by rfl) (by rfl) ?_
  have hfc2 := cfr_tr hfc1 frc2
  have hDc2 := cd_fr hDc1 frc2 (by decide) (by decide)
  have hsc2 : cst gc2 s := ⟨hsc1.1, (congrFun (frc2.1 12 (by decide)) 1).trans hsc1.2⟩
  rcases hxc2 with ⟨hwc2, hvc2, rfl, hmc2⟩ | ⟨hwc2, hvc2, rfl, hmc2⟩ | ⟨hwc2, rfl, hmc2⟩
  · have hqc2 := hDc2.1.2.1
    refine he_s 2 (pc' := 17) (lc' := [(3, .int (nI (sp_iC A.1.1 (sp_wd T n (sp_n T n p))))), (0, .ref 12), (1, .ref 41), (2, .int 1)]) (stk' := [.int 1]) (mem' := cm gc2 lc1 a b R) (by intro _ _ _; eq_refl) ?_
    refine he_s 1 (pc' := cond (fx_cb .eq 1 0) 36 20) (lc' := [(3, .int (nI (sp_iC A.1.1 (sp_wd T n (sp_n T n p))))), (0, .ref 12), (1, .ref 41), (2, .int 1)]) (stk' := []) (mem' := cm gc2 lc1 a b R) (by intro _ _ _; eq_refl) ?_
    rw [show (fx_cb .eq 1 0) = false from by decide]
    dsimp only [cond]
    refine he_s 2 (pc' := 22) (lc' := [(3, .int (nI (sp_iC A.1.1 (sp_wd T n (sp_n T n p))))), (0, .ref 12), (1, .ref 41), (2, .int 1)]) (stk' := [.int (nI (sp_iC A.1.1 (sp_wd T n (sp_n T n p)))), .ref 41]) (mem' := cm gc2 lc1 a b R) (by intro _ _ _; eq_refl) ?_
    have hbc3 := hDc2.2.1 (sp_iC A.1.1 (sp_wd T n (sp_n T n p))) (by omega)
    cases hsc3 : sp_sh A (sp_iC A.1.1 (sp_wd T n (sp_n T n p)))
    · rw [hsc3, if_neg (by decide)] at hbc3
      refine he_ivV (ha_is410 (g := gc2) (l := lc1) (a := a) (b := b) (R := R) hDc2.1.1 hDc2.1.2.1 hvc2 hbc3) (by omega) (by rfl) (by rfl) (by rfl) (by rfl) (by rfl) (by rfl) ?_
      refine he_s 1 (pc' := cond (fx_cb .eq 0 0) 36 28) (lc' := [(3, .int (nI (sp_iC A.1.1 (sp_wd T n (sp_n T n p))))), (0, .ref 12), (1, .ref 41), (2, .int 1)]) (stk' := []) (mem' := cm gc2 lc1 a b R) (by intro _ _ _; eq_refl) ?_
      rw [show (fx_cb .eq 0 0) = true from by decide]
      dsimp only [cond]
      refine he_s 2 (pc' := 40) (lc' := [(3, .int (nI (sp_iC A.1.1 (sp_wd T n (sp_n T n p))))), (0, .ref 12), (1, .ref 41), (2, .int 1)]) (stk' := [.ref 9]) (mem' := cm gc2 lc1 a b R) (by intro _ _ _; eq_refl) ?_
      obtain ⟨gc4, lc4, hrc4, hmc4, frc4⟩ := ha_scano (R := R) hg hmc2
      refine he_ivV hrc4 (by omega) (by rfl) (by rfl) (by rfl) (by rfl) (by rfl) (by rfl) ?_
      have hfc4 := cfr_tr hfc2 frc4
      have hDc4 := cd_fr hDc2 frc4 (by decide) (by decide)
      have hsc4 : cst gc4 s := ⟨hsc2.1, (congrFun (frc4.1 12 (by decide)) 1).trans hsc2.2⟩
      refine he_s 3 (pc' := 48) (lc' := [(3, .int (nI (sp_iC A.1.1 (sp_wd T n (sp_n T n p))))), (0, .ref 12), (1, .ref 41), (2, .int 1)]) (stk' := [.ref 41, .ref 9]) (mem' := cm gc4 lc4 a b R) (by intro _ _ _; eq_refl) ?_
      obtain ⟨vc5, memc5, ⟨xc5, gc5, frc5, hxc5, hRc5⟩, hrc5⟩ := ha_ch410 (R := R) hg hDc4.1 hmc4
      cases hRc5
      refine he_ivV hrc5 (by omega) (by rfl) (by rfl) (by rfl) (by rfl) (by rfl) (by rfl) ?_
      have hfc5 := cfr_tr hfc4 frc5
      have hDc5 := cd_fr hDc4 frc5 (by decide) (by decide)
      have hsc5 : cst gc5 s := ⟨hsc4.1, (congrFun (frc5.1 12 (by decide)) 1).trans hsc4.2⟩
      rcases hxc5 with ⟨hwc5, hvc5, rfl, hmc5⟩ | ⟨hwc5, hvc5, rfl, hmc5⟩ | ⟨hwc5, rfl, hmc5⟩
      · have hqc5 := hDc5.1.2.1
        refine he_s 3 (pc' := 56) (lc' := [(4, .int (nI (sp_iC A.1.1 (sp_wd T n (sp_n T n (sp_n T n p)))))), (3, .int (nI (sp_iC A.1.1 (sp_wd T n (sp_n T n p))))), (0, .ref 12), (1, .ref 41), (2, .int 1)]) (stk' := [.int (nI (sp_iC A.1.1 (sp_wd T n (sp_n T n (sp_n T n p))))), .int (nI (sp_iC A.1.1 (sp_wd T n (sp_n T n p))))]) (mem' := cm gc5 lc4 a b R) (by intro _ _ _; eq_refl) ?_
        refine he_s 1 (pc' := cond (fx_cb .eq (nI (sp_iC A.1.1 (sp_wd T n (sp_n T n p)))) (nI (sp_iC A.1.1 (sp_wd T n (sp_n T n (sp_n T n p)))))) 72 59) (lc' := [(4, .int (nI (sp_iC A.1.1 (sp_wd T n (sp_n T n (sp_n T n p)))))), (3, .int (nI (sp_iC A.1.1 (sp_wd T n (sp_n T n p))))), (0, .ref 12), (1, .ref 41), (2, .int 1)]) (stk' := []) (mem' := cm gc5 lc4 a b R) (by intro _ _ _; eq_refl) ?_
        by_cases y6 : (sp_iC A.1.1 (sp_wd T n (sp_n T n p))) = (sp_iC A.1.1 (sp_wd T n (sp_n T n (sp_n T n p))))
        · rw [show (fx_cb .eq (nI (sp_iC A.1.1 (sp_wd T n (sp_n T n p)))) (nI (sp_iC A.1.1 (sp_wd T n (sp_n T n (sp_n T n p)))))) = true from cb_eqT (a := (sp_iC A.1.1 (sp_wd T n (sp_n T n p)))) (b := (sp_iC A.1.1 (sp_wd T n (sp_n T n (sp_n T n p))))) (by omega) (by omega) (by omega)]
          dsimp only [cond]
          refine he_s 3 (pc' := 77) (lc' := [(4, .int (nI (sp_iC A.1.1 (sp_wd T n (sp_n T n (sp_n T n p)))))), (3, .int (nI (sp_iC A.1.1 (sp_wd T n (sp_n T n p))))), (0, .ref 12), (1, .ref 41), (2, .int 1)]) (stk' := [.int 5, .ref 9]) (mem' := cm gc5 lc4 a b R) (by intro _ _ _; eq_refl) ?_
          obtain ⟨gc7, hrc7, hmc7, frc7⟩ := ha_fail (a := a) (b := b) (R := R) (x := 5) hmc5 (by decide)
          refine he_ivV hrc7 (by omega) (by rfl) (by rfl) (by rfl) (by rfl) (by rfl) (by rfl) ?_
          have hfc7 := cfr_tr hfc5 frc7
          have hDc7 := cd_fr hDc5 frc7 (by decide) (by decide)
          have hsc7 : cst gc7 s := ⟨hsc5.1, (congrFun (frc7.1 12 (by decide)) 1).trans hsc5.2⟩
          refine he_s 2 (pc' := 84) (lc' := [(4, .int (nI (sp_iC A.1.1 (sp_wd T n (sp_n T n (sp_n T n p)))))), (3, .int (nI (sp_iC A.1.1 (sp_wd T n (sp_n T n p))))), (0, .ref 12), (1, .ref 41), (2, .int 1)]) (stk' := [.ref 9]) (mem' := cm gc7 lc4 a b R) (by intro _ _ _; eq_refl) ?_
          obtain ⟨gc8, lc8, hrc8, hmc8, frc8⟩ := ha_scanq (R := R) hg hmc7
          refine he_ivV hrc8 (by omega) (by rfl) (by rfl) (by rfl) (by rfl) (by rfl) (by rfl) ?_
          have hfc8 := cfr_tr hfc7 frc8
          have hDc8 := cd_fr hDc7 frc8 (by decide) (by decide)
          have hsc8 : cst gc8 s := ⟨hsc7.1, (congrFun (frc8.1 12 (by decide)) 1).trans hsc7.2⟩
          refine he_s 3 (pc' := 93) (lc' := [(4, .int (nI (sp_iC A.1.1 (sp_wd T n (sp_n T n (sp_n T n p)))))), (3, .int (nI (sp_iC A.1.1 (sp_wd T n (sp_n T n p))))), (0, .ref 12), (1, .ref 41), (2, .int 1)]) (stk' := [.int 59, .ref 9]) (mem' := cm gc8 lc8 a b R) (by intro _ _ _; eq_refl) ?_
          obtain ⟨vc9, memc9, ⟨gc9, lc9, frc9, hmc9, hRc9⟩, hrc9⟩ := ha_psq0 (x := 59) (R := R) hg hmc8
          cases hRc9
          refine he_ivV hrc9 (by omega) (by rfl) (by rfl) (by rfl) (by rfl) (by rfl) (by rfl) ?_
          have hfc9 := cfr_tr hfc8 frc9
          have hDc9 := cd_fr hDc8 frc9 (by decide) (by decide)
          have hsc9 : cst gc9 s := ⟨hsc8.1, (congrFun (frc9.1 12 (by decide)) 1).trans hsc8.2⟩
          refine he_s 1 (pc' := cond (fx_cb .eq 0 0) 148 99) (lc' := [(4, .int (nI (sp_iC A.1.1 (sp_wd T n (sp_n T n (sp_n T n p)))))), (3, .int (nI (sp_iC A.1.1 (sp_wd T n (sp_n T n p))))), (0, .ref 12), (1, .ref 41), (2, .int 1)]) (stk' := []) (mem' := cm gc9 lc9 a b R) (by intro _ _ _; eq_refl) ?_
          rw [show (fx_cb .eq 0 0) = true from by decide]
          dsimp only [cond]
          refine he_ret ⟨_, _, _, _, cfd_c hfc9, ?_, rfl⟩ (by rfl) (by rfl) (by rfl)
          unfold sp_pPair
          rw [sp_cell_t hwc2 hvc2, if_neg (fun z => by rw [hsc3] at z; exact absurd z.2 (by decide)), sp_cell_t hwc5 hvc5, if_pos (Or.inl (by omega))]
          exact hmc9
        · rw [show (fx_cb .eq (nI (sp_iC A.1.1 (sp_wd T n (sp_n T n p)))) (nI (sp_iC A.1.1 (sp_wd T n (sp_n T n (sp_n T n p)))))) = false from cb_eqF (a := (sp_iC A.1.1 (sp_wd T n (sp_n T n p)))) (b := (sp_iC A.1.1 (sp_wd T n (sp_n T n (sp_n T n p))))) (by omega) (by omega) (by omega)]
          dsimp only [cond]
          refine he_s 1 (pc' := 60) (lc' := [(4, .int (nI (sp_iC A.1.1 (sp_wd T n (sp_n T n (sp_n T n p)))))), (3, .int (nI (sp_iC A.1.1 (sp_wd T n (sp_n T n p))))), (0, .ref 12), (1, .ref 41), (2, .int 1)]) (stk' := [.int 1]) (mem' := cm gc5 lc4 a b R) (by intro _ _ _; eq_refl) ?_
          refine he_s 1 (pc' := cond (fx_cb .eq 1 0) 80 63) (lc' := [(4, .int (nI (sp_iC A.1.1 (sp_wd T n (sp_n T n (sp_n T n p)))))), (3, .int (nI (sp_iC A.1.1 (sp_wd T n (sp_n T n p))))), (0, .ref 12), (1, .ref 41), (2, .int 1)]) (stk' := []) (mem' := cm gc5 lc4 a b R) (by intro _ _ _; eq_refl) ?_
          rw [show (fx_cb .eq 1 0) = false from by decide]
          dsimp only [cond]
          refine he_s 2 (pc' := 66) (lc' := [(4, .int (nI (sp_iC A.1.1 (sp_wd T n (sp_n T n (sp_n T n p)))))), (3, .int (nI (sp_iC A.1.1 (sp_wd T n (sp_n T n p))))), (0, .ref 12), (1, .ref 41), (2, .int 1)]) (stk' := [.int (nI (sp_iC A.1.1 (sp_wd T n (sp_n T n (sp_n T n p))))), .ref 41]) (mem' := cm gc5 lc4 a b R) (by intro _ _ _; eq_refl) ?_
          have hbc10 := hDc5.2.1 (sp_iC A.1.1 (sp_wd T n (sp_n T n (sp_n T n p)))) (by omega)
          cases hsc10 : sp_sh A (sp_iC A.1.1 (sp_wd T n (sp_n T n (sp_n T n p))))
          · rw [hsc10, if_neg (by decide)] at hbc10
            refine he_ivV (ha_is410 (g := gc5) (l := lc4) (a := a) (b := b) (R := R) hDc5.1.1 hDc5.1.2.1 hvc5 hbc10) (by omega) (by rfl) (by rfl) (by rfl) (by rfl) (by rfl) (by rfl) ?_
            refine he_s 1 (pc' := cond (fx_cb .eq 0 0) 80 72) (lc' := [(4, .int (nI (sp_iC A.1.1 (sp_wd T n (sp_n T n (sp_n T n p)))))), (3, .int (nI (sp_iC A.1.1 (sp_wd T n (sp_n T n p))))), (0, .ref 12), (1, .ref 41), (2, .int 1)]) (stk' := []) (mem' := cm gc5 lc4 a b R) (by intro _ _ _; eq_refl) ?_
            rw [show (fx_cb .eq 0 0) = true from by decide]
            dsimp only [cond]
            refine he_s 2 (pc' := 84) (lc' := [(4, .int (nI (sp_iC A.1.1 (sp_wd T n (sp_n T n (sp_n T n p)))))), (3, .int (nI (sp_iC A.1.1 (sp_wd T n (sp_n T n p))))), (0, .ref 12), (1, .ref 41), (2, .int 1)]) (stk' := [.ref 9]) (mem' := cm gc5 lc4 a b R) (by intro _ _ _; eq_refl) ?_
            obtain ⟨gc11, lc11, hrc11, hmc11, frc11⟩ := ha_scano (R := R) hg hmc5
            refine he_ivV hrc11 (by omega) (by rfl) (by rfl) (by rfl) (by rfl) (by rfl) (by rfl) ?_
            have hfc11 := cfr_tr hfc5 frc11
            have hDc11 := cd_fr hDc5 frc11 (by decide) (by decide)
            have hsc11 : cst gc11 s := ⟨hsc5.1, (congrFun (frc11.1 12 (by decide)) 1).trans hsc5.2⟩
            refine he_s 3 (pc' := 93) (lc' := [(4, .int (nI (sp_iC A.1.1 (sp_wd T n (sp_n T n (sp_n T n p)))))), (3, .int (nI (sp_iC A.1.1 (sp_wd T n (sp_n T n p))))), (0, .ref 12), (1, .ref 41), (2, .int 1)]) (stk' := [.int 59, .ref 9]) (mem' := cm gc11 lc11 a b R) (by intro _ _ _; eq_refl) ?_
            obtain ⟨vc12, memc12, ⟨xc12, gc12, lc12, frc12, hxc12, hRc12⟩, hrc12⟩ := ha_ps0 (w := 59) (R := R) hg (by decide) hmc11
            cases hRc12
            refine he_ivV hrc12 (by omega) (by rfl) (by rfl) (by rfl) (by rfl) (by rfl) (by rfl) ?_
            have hfc12 := cfr_tr hfc11 frc12
            have hDc12 := cd_fr hDc11 frc12 (by decide) (by decide)
            have hsc12 : cst gc12 s := ⟨hsc11.1, (congrFun (frc12.1 12 (by decide)) 1).trans hsc11.2⟩
            rcases hxc12 with ⟨hwc12, rfl, hmc12⟩ | ⟨hwc12, rfl, hmc12⟩
            · refine he_s 1 (pc' := cond (fx_cb .eq 1 0) 148 99) (lc' := [(4, .int (nI (sp_iC A.1.1 (sp_wd T n (sp_n T n (sp_n T n p)))))), (3, .int (nI (sp_iC A.1.1 (sp_wd T n (sp_n T n p))))), (0, .ref 12), (1, .ref 41), (2, .int 1)]) (stk' := []) (mem' := cm gc12 lc12 a b R) (by intro _ _ _; eq_refl) ?_
              rw [show (fx_cb .eq 1 0) = false from by decide]
              dsimp only [cond]
              refine he_s 3 (pc' := 103) (lc' := [(4, .int (nI (sp_iC A.1.1 (sp_wd T n (sp_n T n (sp_n T n p)))))), (3, .int (nI (sp_iC A.1.1 (sp_wd T n (sp_n T n p))))), (0, .ref 12), (1, .ref 41), (2, .int 1)]) (stk' := [.int (nI (sp_iC A.1.1 (sp_wd T n (sp_n T n (sp_n T n p))))), .int (nI (sp_iC A.1.1 (sp_wd T n (sp_n T n p)))), .ref 41]) (mem' := cm gc12 lc12 a b R) (by intro _ _ _; eq_refl) ?_
              refine he_ivV (ha_ip41 (l := lc12) (a := a) (b := b) (R := R) hDc12.1.1 hDc12.1.2.1 hvc2 hvc5 (by omega)) (by omega) (by rfl) (by rfl) (by rfl) (by rfl) (by rfl) (by rfl) ?_
              refine he_s 1 (pc' := cond (fx_cb .eq 1 0) 148 109) (lc' := [(4, .int (nI (sp_iC A.1.1 (sp_wd T n (sp_n T n (sp_n T n p)))))), (3, .int (nI (sp_iC A.1.1 (sp_wd T n (sp_n T n p))))), (0, .ref 12), (1, .ref 41), (2, .int 1)]) (stk' := []) (mem' := cm gc12 lc12 a b R) (by intro _ _ _; eq_refl) ?_
              rw [show (fx_cb .eq 1 0) = false from by decide]
              dsimp only [cond]
              refine he_s 1 (pc' := 110) (lc' := [(4, .int (nI (sp_iC A.1.1 (sp_wd T n (sp_n T n (sp_n T n p)))))), (3, .int (nI (sp_iC A.1.1 (sp_wd T n (sp_n T n p))))), (0, .ref 12), (1, .ref 41), (2, .int 1)]) (stk' := [.int 1]) (mem' := cm gc12 lc12 a b R) (by intro _ _ _; eq_refl) ?_
              refine he_s 1 (pc' := cond (fx_cb .eq 1 0) 120 113) (lc' := [(4, .int (nI (sp_iC A.1.1 (sp_wd T n (sp_n T n (sp_n T n p)))))), (3, .int (nI (sp_iC A.1.1 (sp_wd T n (sp_n T n p))))), (0, .ref 12), (1, .ref 41), (2, .int 1)]) (stk' := []) (mem' := cm gc12 lc12 a b R) (by intro _ _ _; eq_refl) ?_
              rw [show (fx_cb .eq 1 0) = false from by decide]
              dsimp only [cond]
              refine he_s 7 (pc' := 130) (lc' := [(5, .ref 44), (4, .int (nI (sp_iC A.1.1 (sp_wd T n (sp_n T n (sp_n T n p)))))), (3, .int (nI (sp_iC A.1.1 (sp_wd T n (sp_n T n p))))), (0, .ref 12), (1, .ref 41), (2, .int 1)]) (stk' := [.int (nI (sp_iC A.1.1 (sp_wd T n (sp_n T n p)))), .ref 44, .int (nI (sp_iC A.1.1 (sp_wd T n (sp_n T n p)))), .ref 44]) (mem' := cm gc12 lc12 a b R) (by intro _ _ _; eq_refl) ?_
              refine he_ldI (by rfl) (by rfl) (fx_inN (i := (sp_iC A.1.1 (sp_wd T n (sp_n T n p)))) (by omega) (by omega)) ?_
              rw [show Int32.toNatClampNeg (nI (sp_iC A.1.1 (sp_wd T n (sp_n T n p)))) = (sp_iC A.1.1 (sp_wd T n (sp_n T n p))) from nI_clamp (by omega)]
              refine he_s 4 (pc' := 136) (lc' := [(5, .ref 44), (4, .int (nI (sp_iC A.1.1 (sp_wd T n (sp_n T n (sp_n T n p)))))), (3, .int (nI (sp_iC A.1.1 (sp_wd T n (sp_n T n p))))), (0, .ref 12), (1, .ref 41), (2, .int 1)]) (stk' := [.int ((a 44 (sp_iC A.1.1 (sp_wd T n (sp_n T n p)))) ||| ((1 : Int32) <<< ((nI (sp_iC A.1.1 (sp_wd T n (sp_n T n (sp_n T n p))))) &&& 31))), .int (nI (sp_iC A.1.1 (sp_wd T n (sp_n T n p)))), .ref 44]) (mem' := cm gc12 lc12 a b R) (by intro _ _ _; eq_refl) ?_
              refine he_stI (mem' := cm gc12 lc12 (fm_u a 44 (nI (sp_iC A.1.1 (sp_wd T n (sp_n T n p))) : Int32).toNatClampNeg ((a 44 (sp_iC A.1.1 (sp_wd T n (sp_n T n p)))) ||| ((1 : Int32) <<< ((nI (sp_iC A.1.1 (sp_wd T n (sp_n T n (sp_n T n p))))) &&& 31)))) b R) (by rfl) (by rfl) (fx_inN (i := (sp_iC A.1.1 (sp_wd T n (sp_n T n p)))) (by omega) (by omega)) cm_si44 ?_
              rw [show Int32.toNatClampNeg (nI (sp_iC A.1.1 (sp_wd T n (sp_n T n p)))) = (sp_iC A.1.1 (sp_wd T n (sp_n T n p))) from nI_clamp (by omega)]
              refine he_s 3 (pc' := 142) (lc' := [(5, .ref 44), (4, .int (nI (sp_iC A.1.1 (sp_wd T n (sp_n T n (sp_n T n p)))))), (3, .int (nI (sp_iC A.1.1 (sp_wd T n (sp_n T n p))))), (0, .ref 12), (1, .ref 41), (2, .int 1)]) (stk' := [.int (nI (sp_iC A.1.1 (sp_wd T n (sp_n T n (sp_n T n p))))), .ref 44, .int (nI (sp_iC A.1.1 (sp_wd T n (sp_n T n (sp_n T n p))))), .ref 44]) (mem' := cm gc12 lc12 (fm_u a 44 (sp_iC A.1.1 (sp_wd T n (sp_n T n p))) ((a 44 (sp_iC A.1.1 (sp_wd T n (sp_n T n p)))) ||| ((1 : Int32) <<< ((nI (sp_iC A.1.1 (sp_wd T n (sp_n T n (sp_n T n p))))) &&& 31)))) b R) (by intro _ _ _; eq_refl) ?_
              refine he_ldI (by rfl) (by rfl) (fx_inN (i := (sp_iC A.1.1 (sp_wd T n (sp_n T n (sp_n T n p))))) (by omega) (by omega)) ?_
              rw [show Int32.toNatClampNeg (nI (sp_iC A.1.1 (sp_wd T n (sp_n T n (sp_n T n p))))) = (sp_iC A.1.1 (sp_wd T n (sp_n T n (sp_n T n p)))) from nI_clamp (by omega)]
              refine he_s 4 (pc' := 147) (lc' := [(5, .ref 44), (4, .int (nI (sp_iC A.1.1 (sp_wd T n (sp_n T n (sp_n T n p)))))), (3, .int (nI (sp_iC A.1.1 (sp_wd T n (sp_n T n p))))), (0, .ref 12), (1, .ref 41), (2, .int 1)]) (stk' := [.int (((fm_u a 44 (sp_iC A.1.1 (sp_wd T n (sp_n T n p))) ((a 44 (sp_iC A.1.1 (sp_wd T n (sp_n T n p)))) ||| ((1 : Int32) <<< ((nI (sp_iC A.1.1 (sp_wd T n (sp_n T n (sp_n T n p))))) &&& 31)))) 44 (sp_iC A.1.1 (sp_wd T n (sp_n T n (sp_n T n p))))) ||| ((1 : Int32) <<< ((nI (sp_iC A.1.1 (sp_wd T n (sp_n T n p)))) &&& 31))), .int (nI (sp_iC A.1.1 (sp_wd T n (sp_n T n (sp_n T n p))))), .ref 44]) (mem' := cm gc12 lc12 (fm_u a 44 (sp_iC A.1.1 (sp_wd T n (sp_n T n p))) ((a 44 (sp_iC A.1.1 (sp_wd T n (sp_n T n p)))) ||| ((1 : Int32) <<< ((nI (sp_iC A.1.1 (sp_wd T n (sp_n T n (sp_n T n p))))) &&& 31)))) b R) (by intro _ _ _; eq_refl) ?_
              refine he_stI (mem' := cm gc12 lc12 (fm_u (fm_u a 44 (sp_iC A.1.1 (sp_wd T n (sp_n T n p))) ((a 44 (sp_iC A.1.1 (sp_wd T n (sp_n T n p)))) ||| ((1 : Int32) <<< ((nI (sp_iC A.1.1 (sp_wd T n (sp_n T n (sp_n T n p))))) &&& 31)))) 44 (nI (sp_iC A.1.1 (sp_wd T n (sp_n T n (sp_n T n p)))) : Int32).toNatClampNeg (((fm_u a 44 (sp_iC A.1.1 (sp_wd T n (sp_n T n p))) ((a 44 (sp_iC A.1.1 (sp_wd T n (sp_n T n p)))) ||| ((1 : Int32) <<< ((nI (sp_iC A.1.1 (sp_wd T n (sp_n T n (sp_n T n p))))) &&& 31)))) 44 (sp_iC A.1.1 (sp_wd T n (sp_n T n (sp_n T n p))))) ||| ((1 : Int32) <<< ((nI (sp_iC A.1.1 (sp_wd T n (sp_n T n p)))) &&& 31)))) b R) (by rfl) (by rfl) (fx_inN (i := (sp_iC A.1.1 (sp_wd T n (sp_n T n (sp_n T n p))))) (by omega) (by omega)) cm_si44 ?_
              rw [show Int32.toNatClampNeg (nI (sp_iC A.1.1 (sp_wd T n (sp_n T n (sp_n T n p))))) = (sp_iC A.1.1 (sp_wd T n (sp_n T n (sp_n T n p)))) from nI_clamp (by omega)]
              refine he_ret ⟨_, _, _, _, cfd_tr (cfd_c hfc12) (cfd_d (cdr_2a (by decide))), ?_, rfl⟩ (by rfl) (by rfl) (by rfl)
              unfold sp_pPair
              rw [sp_cell_t hwc2 hvc2, if_neg (fun z => by rw [hsc3] at z; exact absurd z.2 (by decide)), sp_cell_t hwc5 hvc5, if_neg (fun z => by rcases z with z | z; exact absurd z (by omega); rw [hsc10] at z; exact absurd z.2 (by decide)), sp_fin_t hwc12]
              rw [if_pos rfl]
              exact ⟨hmc12, cd_bes (by omega) (by omega) hDc12, hsc12⟩
            · refine he_s 1 (pc' := cond (fx_cb .eq 0 0) 148 99) (lc' := [(4, .int (nI (sp_iC A.1.1 (sp_wd T n (sp_n T n (sp_n T n p)))))), (3, .int (nI (sp_iC A.1.1 (sp_wd T n (sp_n T n p))))), (0, .ref 12), (1, .ref 41), (2, .int 1)]) (stk' := []) (mem' := cm gc12 lc12 a b R) (by intro _ _ _; eq_refl) ?_
              rw [show (fx_cb .eq 0 0) = true from by decide]
              dsimp only [cond]
              refine he_ret ⟨_, _, _, _, cfd_c hfc12, ?_, rfl⟩ (by rfl) (by rfl) (by rfl)
              unfold sp_pPair
              rw [sp_cell_t hwc2 hvc2, if_neg (fun z => by rw [hsc3] at z; exact absurd z.2 (by decide)), sp_cell_t hwc5 hvc5, if_neg (fun z => by rcases z with z | z; exact absurd z (by omega); rw [hsc10] at z; exact absurd z.2 (by decide)), sp_fin_f hwc12]
              exact hmc12
          · rw [hsc10, if_pos rfl] at hbc10
            refine he_ivV (ha_is411 (g := gc5) (l := lc4) (a := a) (b := b) (R := R) hDc5.1.1 hDc5.1.2.1 hvc5 hbc10) (by omega) (by rfl) (by rfl) (by rfl) (by rfl) (by rfl) (by rfl) ?_
            refine he_s 1 (pc' := cond (fx_cb .eq 1 0) 80 72) (lc' := [(4, .int (nI (sp_iC A.1.1 (sp_wd T n (sp_n T n (sp_n T n p)))))), (3, .int (nI (sp_iC A.1.1 (sp_wd T n (sp_n T n p))))), (0, .ref 12), (1, .ref 41), (2, .int 1)]) (stk' := []) (mem' := cm gc5 lc4 a b R) (by intro _ _ _; eq_refl) ?_
            rw [show (fx_cb .eq 1 0) = false from by decide]
            dsimp only [cond]
            refine he_s 3 (pc' := 77) (lc' := [(4, .int (nI (sp_iC A.1.1 (sp_wd T n (sp_n T n (sp_n T n p)))))), (3, .int (nI (sp_iC A.1.1 (sp_wd T n (sp_n T n p))))), (0, .ref 12), (1, .ref 41), (2, .int 1)]) (stk' := [.int 5, .ref 9]) (mem' := cm gc5 lc4 a b R) (by intro _ _ _; eq_refl) ?_
            obtain ⟨gc13, hrc13, hmc13, frc13⟩ := ha_fail (a := a) (b := b) (R := R) (x := 5) hmc5 (by decide)
            refine he_ivV hrc13 (by omega) (by rfl) (by rfl) (by rfl) (by rfl) (by rfl) (by rfl) ?_
            have hfc13 := cfr_tr hfc5 frc13
            have hDc13 := cd_fr hDc5 frc13 (by decide) (by decide)
            have hsc13 : cst gc13 s := ⟨hsc5.1, (congrFun (frc13.1 12 (by decide)) 1).trans hsc5.2⟩
            refine he_s 2 (pc' := 84) (lc' := [(4, .int (nI (sp_iC A.1.1 (sp_wd T n (sp_n T n (sp_n T n p)))))), (3, .int (nI (sp_iC A.1.1 (sp_wd T n (sp_n T n p))))), (0, .ref 12), (1, .ref 41), (2, .int 1)]) (stk' := [.ref 9]) (mem' := cm gc13 lc4 a b R) (by intro _ _ _; eq_refl) ?_
            obtain ⟨gc14, lc14, hrc14, hmc14, frc14⟩ := ha_scanq (R := R) hg hmc13
            refine he_ivV hrc14 (by omega) (by rfl) (by rfl) (by rfl) (by rfl) (by rfl) (by rfl) ?_
            have hfc14 := cfr_tr hfc13 frc14
            have hDc14 := cd_fr hDc13 frc14 (by decide) (by decide)
            have hsc14 : cst gc14 s := ⟨hsc13.1, (congrFun (frc14.1 12 (by decide)) 1).trans hsc13.2⟩
            refine he_s 3 (pc' := 93) (lc' := [(4, .int (nI (sp_iC A.1.1 (sp_wd T n (sp_n T n (sp_n T n p)))))), (3, .int (nI (sp_iC A.1.1 (sp_wd T n (sp_n T n p))))), (0, .ref 12), (1, .ref 41), (2, .int 1)]) (stk' := [.int 59, .ref 9]) (mem' := cm gc14 lc14 a b R) (by intro _ _ _; eq_refl) ?_
            obtain ⟨vc15, memc15, ⟨gc15, lc15, frc15, hmc15, hRc15⟩, hrc15⟩ := ha_psq0 (x := 59) (R := R) hg hmc14
            cases hRc15
            refine he_ivV hrc15 (by omega) (by rfl) (by rfl) (by rfl) (by rfl) (by rfl) (by rfl) ?_
            have hfc15 := cfr_tr hfc14 frc15
            have hDc15 := cd_fr hDc14 frc15 (by decide) (by decide)
            have hsc15 : cst gc15 s := ⟨hsc14.1, (congrFun (frc15.1 12 (by decide)) 1).trans hsc14.2⟩
            refine he_s 1 (pc' := cond (fx_cb .eq 0 0) 148 99) (lc' := [(4, .int (nI (sp_iC A.1.1 (sp_wd T n (sp_n T n (sp_n T n p)))))), (3, .int (nI (sp_iC A.1.1 (sp_wd T n (sp_n T n p))))), (0, .ref 12), (1, .ref 41), (2, .int 1)]) (stk' := []) (mem' := cm gc15 lc15 a b R) (by intro _ _ _; eq_refl) ?_
            rw [show (fx_cb .eq 0 0) = true from by decide]
            dsimp only [cond]
            refine he_ret ⟨_, _, _, _, cfd_c hfc15, ?_, rfl⟩ (by rfl) (by rfl) (by rfl)
            unfold sp_pPair
            rw [sp_cell_t hwc2 hvc2, if_neg (fun z => by rw [hsc3] at z; exact absurd z.2 (by decide)), sp_cell_t hwc5 hvc5, if_pos (Or.inr ⟨rfl, hsc10⟩)]
            exact hmc15
      · refine he_s 3 (pc' := 56) (lc' := [(4, .int (-1)), (3, .int (nI (sp_iC A.1.1 (sp_wd T n (sp_n T n p))))), (0, .ref 12), (1, .ref 41), (2, .int 1)]) (stk' := [.int (-1), .int (nI (sp_iC A.1.1 (sp_wd T n (sp_n T n p))))]) (mem' := cm gc5 lc4 a b R) (by intro _ _ _; eq_refl) ?_
        refine he_s 1 (pc' := cond (fx_cb .eq (nI (sp_iC A.1.1 (sp_wd T n (sp_n T n p)))) (-1)) 72 59) (lc' := [(4, .int (-1)), (3, .int (nI (sp_iC A.1.1 (sp_wd T n (sp_n T n p))))), (0, .ref 12), (1, .ref 41), (2, .int 1)]) (stk' := []) (mem' := cm gc5 lc4 a b R) (by intro _ _ _; eq_refl) ?_
        rw [show (fx_cb .eq (nI (sp_iC A.1.1 (sp_wd T n (sp_n T n p)))) (-1)) = false from cb_n_eq (by omega) (by decide)]
        dsimp only [cond]
        refine he_s 1 (pc' := 60) (lc' := [(4, .int (-1)), (3, .int (nI (sp_iC A.1.1 (sp_wd T n (sp_n T n p))))), (0, .ref 12), (1, .ref 41), (2, .int 1)]) (stk' := [.int 1]) (mem' := cm gc5 lc4 a b R) (by intro _ _ _; eq_refl) ?_
        refine he_s 1 (pc' := cond (fx_cb .eq 1 0) 80 63) (lc' := [(4, .int (-1)), (3, .int (nI (sp_iC A.1.1 (sp_wd T n (sp_n T n p))))), (0, .ref 12), (1, .ref 41), (2, .int 1)]) (stk' := []) (mem' := cm gc5 lc4 a b R) (by intro _ _ _; eq_refl) ?_
        rw [show (fx_cb .eq 1 0) = false from by decide]
        dsimp only [cond]
        refine he_s 2 (pc' := 66) (lc' := [(4, .int (-1)), (3, .int (nI (sp_iC A.1.1 (sp_wd T n (sp_n T n p))))), (0, .ref 12), (1, .ref 41), (2, .int 1)]) (stk' := [.int (-1), .ref 41]) (mem' := cm gc5 lc4 a b R) (by intro _ _ _; eq_refl) ?_
        obtain ⟨vc16, memc16, ⟨xc16, hxc16, hRc16⟩, hrc16⟩ := ha_isq41 (g := gc5) (l := lc4) (a := a) (b := b) (R := R) (x := (-1))
        cases hRc16
        refine he_ivV hrc16 (by omega) (by rfl) (by rfl) (by rfl) (by rfl) (by rfl) (by rfl) ?_
        rcases hxc16 with rfl | rfl
        · refine he_s 1 (pc' := cond (fx_cb .eq 0 0) 80 72) (lc' := [(4, .int (-1)), (3, .int (nI (sp_iC A.1.1 (sp_wd T n (sp_n T n p))))), (0, .ref 12), (1, .ref 41), (2, .int 1)]) (stk' := []) (mem' := cm gc5 lc4 a b R) (by intro _ _ _; eq_refl) ?_
          rw [show (fx_cb .eq 0 0) = true from by decide]
          dsimp only [cond]
          refine he_s 2 (pc' := 84) (lc' := [(4, .int (-1)), (3, .int (nI (sp_iC A.1.1 (sp_wd T n (sp_n T n p))))), (0, .ref 12), (1, .ref 41), (2, .int 1)]) (stk' := [.ref 9]) (mem' := cm gc5 lc4 a b R) (by intro _ _ _; eq_refl) ?_
          obtain ⟨gc17, lc17, hrc17, hmc17, frc17⟩ := ha_scanq (R := R) hg hmc5
          refine he_ivV hrc17 (by omega) (by rfl) (by rfl) (by rfl) (by rfl) (by rfl) (by rfl) ?_
          have hfc17 := cfr_tr hfc5 frc17
          have hDc17 := cd_fr hDc5 frc17 (by decide) (by decide)
          have hsc17 : cst gc17 s := ⟨hsc5.1, (congrFun (frc17.1 12 (by decide)) 1).trans hsc5.2⟩
          refine he_s 3 (pc' := 93) (lc' := [(4, .int (-1)), (3, .int (nI (sp_iC A.1.1 (sp_wd T n (sp_n T n p))))), (0, .ref 12), (1, .ref 41), (2, .int 1)]) (stk' := [.int 59, .ref 9]) (mem' := cm gc17 lc17 a b R) (by intro _ _ _; eq_refl) ?_
          obtain ⟨vc18, memc18, ⟨gc18, lc18, frc18, hmc18, hRc18⟩, hrc18⟩ := ha_psq0 (x := 59) (R := R) hg hmc17
          cases hRc18
          refine he_ivV hrc18 (by omega) (by rfl) (by rfl) (by rfl) (by rfl) (by rfl) (by rfl) ?_
          have hfc18 := cfr_tr hfc17 frc18
          have hDc18 := cd_fr hDc17 frc18 (by decide) (by decide)
          have hsc18 : cst gc18 s := ⟨hsc17.1, (congrFun (frc18.1 12 (by decide)) 1).trans hsc17.2⟩
          refine he_s 1 (pc' := cond (fx_cb .eq 0 0) 148 99) (lc' := [(4, .int (-1)), (3, .int (nI (sp_iC A.1.1 (sp_wd T n (sp_n T n p))))), (0, .ref 12), (1, .ref 41), (2, .int 1)]) (stk' := []) (mem' := cm gc18 lc18 a b R) (by intro _ _ _; eq_refl) ?_
          rw [show (fx_cb .eq 0 0) = true from by decide]
          dsimp only [cond]
          refine he_ret ⟨_, _, _, _, cfd_c hfc18, ?_, rfl⟩ (by rfl) (by rfl) (by rfl)
          unfold sp_pPair
          rw [sp_cell_t hwc2 hvc2, if_neg (fun z => by rw [hsc3] at z; exact absurd z.2 (by decide)), sp_cell_3 hwc5 hvc5]
          exact hmc18
        · refine he_s 1 (pc' := cond (fx_cb .eq 1 0) 80 72) (lc' := [(4, .int (-1)), (3, .int (nI (sp_iC A.1.1 (sp_wd T n (sp_n T n p))))), (0, .ref 12), (1, .ref 41), (2, .int 1)]) (stk' := []) (mem' := cm gc5 lc4 a b R) (by intro _ _ _; eq_refl) ?_
          rw [show (fx_cb .eq 1 0) = false from by decide]
          dsimp only [cond]
          refine he_s 3 (pc' := 77) (lc' := [(4, .int (-1)), (3, .int (nI (sp_iC A.1.1 (sp_wd T n (sp_n T n p))))), (0, .ref 12), (1, .ref 41), (2, .int 1)]) (stk' := [.int 5, .ref 9]) (mem' := cm gc5 lc4 a b R) (by intro _ _ _; eq_refl) ?_
          refine he_ivV (ha_failq (a := a) (b := b) (R := R) (x := 5) hmc5) (by omega) (by rfl) (by rfl) (by rfl) (by rfl) (by rfl) (by rfl) ?_
          refine he_s 2 (pc' := 84) (lc' := [(4, .int (-1)), (3, .int (nI (sp_iC A.1.1 (sp_wd T n (sp_n T n p))))), (0, .ref 12), (1, .ref 41), (2, .int 1)]) (stk' := [.ref 9]) (mem' := cm gc5 lc4 a b R) (by intro _ _ _; eq_refl) ?_
          obtain ⟨gc20, lc20, hrc20, hmc20, frc20⟩ := ha_scanq (R := R) hg hmc5
          refine he_ivV hrc20 (by omega) (by rfl) (by rfl) (by rfl) (by rfl) (by rfl) (by rfl) ?_
          have hfc20 := cfr_tr hfc5 frc20
          have hDc20 := cd_fr hDc5 frc20 (by decide) (by decide)
          have hsc20 : cst gc20 s := ⟨hsc5.1, (congrFun (frc20.1 12 (by decide)) 1).trans hsc5.2⟩
          refine he_s 3 (pc' := 93) (lc' := [(4, .int (-1)), (3, .int (nI (sp_iC A.1.1 (sp_wd T n (sp_n T n p))))), (0, .ref 12), (1, .ref 41), (2, .int 1)]) (stk' := [.int 59, .ref 9]) (mem' := cm gc20 lc20 a b R) (by intro _ _ _; eq_refl) ?_
          obtain ⟨vc21, memc21, ⟨gc21, lc21, frc21, hmc21, hRc21⟩, hrc21⟩ := ha_psq0 (x := 59) (R := R) hg hmc20
          cases hRc21
          refine he_ivV hrc21 (by omega) (by rfl) (by rfl) (by rfl) (by rfl) (by rfl) (by rfl) ?_
          have hfc21 := cfr_tr hfc20 frc21
          have hDc21 := cd_fr hDc20 frc21 (by decide) (by decide)
          have hsc21 : cst gc21 s := ⟨hsc20.1, (congrFun (frc21.1 12 (by decide)) 1).trans hsc20.2⟩
          refine he_s 1 (pc' := cond (fx_cb .eq 0 0) 148 99) (lc' := [(4, .int (-1)), (3, .int (nI (sp_iC A.1.1 (sp_wd T n (sp_n T n p))))), (0, .ref 12), (1, .ref 41), (2, .int 1)]) (stk' := []) (mem' := cm gc21 lc21 a b R) (by intro _ _ _; eq_refl) ?_
          rw [show (fx_cb .eq 0 0) = true from by decide]
          dsimp only [cond]
          refine he_ret ⟨_, _, _, _, cfd_c hfc21, ?_, rfl⟩ (by rfl) (by rfl) (by rfl)
          unfold sp_pPair
          rw [sp_cell_t hwc2 hvc2, if_neg (fun z => by rw [hsc3] at z; exact absurd z.2 (by decide)), sp_cell_3 hwc5 hvc5]
          exact hmc21
      · refine he_s 3 (pc' := 56) (lc' := [(4, .int (-1)), (3, .int (nI (sp_iC A.1.1 (sp_wd T n (sp_n T n p))))), (0, .ref 12), (1, .ref 41), (2, .int 1)]) (stk' := [.int (-1), .int (nI (sp_iC A.1.1 (sp_wd T n (sp_n T n p))))]) (mem' := cm gc5 lc4 a b R) (by intro _ _ _; eq_refl) ?_
        refine he_s 1 (pc' := cond (fx_cb .eq (nI (sp_iC A.1.1 (sp_wd T n (sp_n T n p)))) (-1)) 72 59) (lc' := [(4, .int (-1)), (3, .int (nI (sp_iC A.1.1 (sp_wd T n (sp_n T n p))))), (0, .ref 12), (1, .ref 41), (2, .int 1)]) (stk' := []) (mem' := cm gc5 lc4 a b R) (by intro _ _ _; eq_refl) ?_
        rw [show (fx_cb .eq (nI (sp_iC A.1.1 (sp_wd T n (sp_n T n p)))) (-1)) = false from cb_n_eq (by omega) (by decide)]
        dsimp only [cond]
        refine he_s 1 (pc' := 60) (lc' := [(4, .int (-1)), (3, .int (nI (sp_iC A.1.1 (sp_wd T n (sp_n T n p))))), (0, .ref 12), (1, .ref 41), (2, .int 1)]) (stk' := [.int 1]) (mem' := cm gc5 lc4 a b R) (by intro _ _ _; eq_refl) ?_
        refine he_s 1 (pc' := cond (fx_cb .eq 1 0) 80 63) (lc' := [(4, .int (-1)), (3, .int (nI (sp_iC A.1.1 (sp_wd T n (sp_n T n p))))), (0, .ref 12), (1, .ref 41), (2, .int 1)]) (stk' := []) (mem' := cm gc5 lc4 a b R) (by intro _ _ _; eq_refl) ?_
        rw [show (fx_cb .eq 1 0) = false from by decide]
        dsimp only [cond]
        refine he_s 2 (pc' := 66) (lc' := [(4, .int (-1)), (3, .int (nI (sp_iC A.1.1 (sp_wd T n (sp_n T n p))))), (0, .ref 12), (1, .ref 41), (2, .int 1)]) (stk' := [.int (-1), .ref 41]) (mem' := cm gc5 lc4 a b R) (by intro _ _ _; eq_refl) ?_
        obtain ⟨vc22, memc22, ⟨xc22, hxc22, hRc22⟩, hrc22⟩ := ha_isq41 (g := gc5) (l := lc4) (a := a) (b := b) (R := R) (x := (-1))
        cases hRc22
        refine he_ivV hrc22 (by omega) (by rfl) (by rfl) (by rfl) (by rfl) (by rfl) (by rfl) ?_
        rcases hxc22 with rfl | rfl
        · refine he_s 1 (pc' := cond (fx_cb .eq 0 0) 80 72) (lc' := [(4, .int (-1)), (3, .int (nI (sp_iC A.1.1 (sp_wd T n (sp_n T n p))))), (0, .ref 12), (1, .ref 41), (2, .int 1)]) (stk' := []) (mem' := cm gc5 lc4 a b R) (by intro _ _ _; eq_refl) ?_
          rw [show (fx_cb .eq 0 0) = true from by decide]
          dsimp only [cond]
          refine he_s 2 (pc' := 84) (lc' := [(4, .int (-1)), (3, .int (nI (sp_iC A.1.1 (sp_wd T n (sp_n T n p))))), (0, .ref 12), (1, .ref 41), (2, .int 1)]) (stk' := [.ref 9]) (mem' := cm gc5 lc4 a b R) (by intro _ _ _; eq_refl) ?_
          obtain ⟨gc23, lc23, hrc23, hmc23, frc23⟩ := ha_scanq (R := R) hg hmc5
          refine he_ivV hrc23 (by omega) (by rfl) (by rfl) (by rfl) (by rfl) (by rfl) (by rfl) ?_
          have hfc23 := cfr_tr hfc5 frc23
          have hDc23 := cd_fr hDc5 frc23 (by decide) (by decide)
          have hsc23 : cst gc23 s := ⟨hsc5.1, (congrFun (frc23.1 12 (by decide)) 1).trans hsc5.2⟩
          refine he_s 3 (pc' := 93) (lc' := [(4, .int (-1)), (3, .int (nI (sp_iC A.1.1 (sp_wd T n (sp_n T n p))))), (0, .ref 12), (1, .ref 41), (2, .int 1)]) (stk' := [.int 59, .ref 9]) (mem' := cm gc23 lc23 a b R) (by intro _ _ _; eq_refl) ?_
          obtain ⟨vc24, memc24, ⟨gc24, lc24, frc24, hmc24, hRc24⟩, hrc24⟩ := ha_psq0 (x := 59) (R := R) hg hmc23
          cases hRc24
          refine he_ivV hrc24 (by omega) (by rfl) (by rfl) (by rfl) (by rfl) (by rfl) (by rfl) ?_
          have hfc24 := cfr_tr hfc23 frc24
          have hDc24 := cd_fr hDc23 frc24 (by decide) (by decide)
          have hsc24 : cst gc24 s := ⟨hsc23.1, (congrFun (frc24.1 12 (by decide)) 1).trans hsc23.2⟩
          refine he_s 1 (pc' := cond (fx_cb .eq 0 0) 148 99) (lc' := [(4, .int (-1)), (3, .int (nI (sp_iC A.1.1 (sp_wd T n (sp_n T n p))))), (0, .ref 12), (1, .ref 41), (2, .int 1)]) (stk' := []) (mem' := cm gc24 lc24 a b R) (by intro _ _ _; eq_refl) ?_
          rw [show (fx_cb .eq 0 0) = true from by decide]
          dsimp only [cond]
          refine he_ret ⟨_, _, _, _, cfd_c hfc24, ?_, rfl⟩ (by rfl) (by rfl) (by rfl)
          unfold sp_pPair
          rw [sp_cell_t hwc2 hvc2, if_neg (fun z => by rw [hsc3] at z; exact absurd z.2 (by decide)), sp_cell_f hwc5]
          exact hmc24
        · refine he_s 1 (pc' := cond (fx_cb .eq 1 0) 80 72) (lc' := [(4, .int (-1)), (3, .int (nI (sp_iC A.1.1 (sp_wd T n (sp_n T n p))))), (0, .ref 12), (1, .ref 41), (2, .int 1)]) (stk' := []) (mem' := cm gc5 lc4 a b R) (by intro _ _ _; eq_refl) ?_
          rw [show (fx_cb .eq 1 0) = false from by decide]
          dsimp only [cond]
          refine he_s 3 (pc' := 77) (lc' := [(4, .int (-1)), (3, .int (nI (sp_iC A.1.1 (sp_wd T n (sp_n T n p))))), (0, .ref 12), (1, .ref 41), (2, .int 1)]) (stk' := [.int 5, .ref 9]) (mem' := cm gc5 lc4 a b R) (by intro _ _ _; eq_refl) ?_
          refine he_ivV (ha_failq (a := a) (b := b) (R := R) (x := 5) hmc5) (by omega) (by rfl) (by rfl) (by rfl) (by rfl) (by rfl) (by rfl) ?_
          refine he_s 2 (pc' := 84) (lc' := [(4, .int (-1)), (3, .int (nI (sp_iC A.1.1 (sp_wd T n (sp_n T n p))))), (0, .ref 12), (1, .ref 41), (2, .int 1)]) (stk' := [.ref 9]) (mem' := cm gc5 lc4 a b R) (by intro _ _ _; eq_refl) ?_
          obtain ⟨gc26, lc26, hrc26, hmc26, frc26⟩ := ha_scanq (R := R) hg hmc5
          refine he_ivV hrc26 (by omega) (by rfl) (by rfl) (by rfl) (by rfl) (by rfl) (by rfl) ?_
          have hfc26 := cfr_tr hfc5 frc26
          have hDc26 := cd_fr hDc5 frc26 (by decide) (by decide)
          have hsc26 : cst gc26 s := ⟨hsc5.1, (congrFun (frc26.1 12 (by decide)) 1).trans hsc5.2⟩
          refine he_s 3 (pc' := 93) (lc' := [(4, .int (-1)), (3, .int (nI (sp_iC A.1.1 (sp_wd T n (sp_n T n p))))), (0, .ref 12), (1, .ref 41), (2, .int 1)]) (stk' := [.int 59, .ref 9]) (mem' := cm gc26 lc26 a b R) (by intro _ _ _; eq_refl) ?_
          obtain ⟨vc27, memc27, ⟨gc27, lc27, frc27, hmc27, hRc27⟩, hrc27⟩ := ha_psq0 (x := 59) (R := R) hg hmc26
          cases hRc27
          refine he_ivV hrc27 (by omega) (by rfl) (by rfl) (by rfl) (by rfl) (by rfl) (by rfl) ?_
          have hfc27 := cfr_tr hfc26 frc27
          have hDc27 := cd_fr hDc26 frc27 (by decide) (by decide)
          have hsc27 : cst gc27 s := ⟨hsc26.1, (congrFun (frc27.1 12 (by decide)) 1).trans hsc26.2⟩
          refine he_s 1 (pc' := cond (fx_cb .eq 0 0) 148 99) (lc' := [(4, .int (-1)), (3, .int (nI (sp_iC A.1.1 (sp_wd T n (sp_n T n p))))), (0, .ref 12), (1, .ref 41), (2, .int 1)]) (stk' := []) (mem' := cm gc27 lc27 a b R) (by intro _ _ _; eq_refl) ?_
          rw [show (fx_cb .eq 0 0) = true from by decide]
          dsimp only [cond]
          refine he_ret ⟨_, _, _, _, cfd_c hfc27, ?_, rfl⟩ (by rfl) (by rfl) (by rfl)
          unfold sp_pPair
          rw [sp_cell_t hwc2 hvc2, if_neg (fun z => by rw [hsc3] at z; exact absurd z.2 (by decide)), sp_cell_f hwc5]
          exact hmc27
    · rw [hsc3, if_pos rfl] at hbc3
      refine he_ivV (ha_is411 (g := gc2) (l := lc1) (a := a) (b := b) (R := R) hDc2.1.1 hDc2.1.2.1 hvc2 hbc3) (by omega) (by rfl) (by rfl) (by rfl) (by rfl) (by rfl) (by rfl) ?_
      refine he_s 1 (pc' := cond (fx_cb .eq 1 0) 36 28) (lc' := [(3, .int (nI (sp_iC A.1.1 (sp_wd T n (sp_n T n p))))), (0, .ref 12), (1, .ref 41), (2, .int 1)]) (stk' := []) (mem' := cm gc2 lc1 a b R) (by intro _ _ _; eq_refl) ?_
      rw [show (fx_cb .eq 1 0) = false from by decide]
      dsimp only [cond]
      refine he_s 3 (pc' := 33) (lc' := [(3, .int (nI (sp_iC A.1.1 (sp_wd T n (sp_n T n p))))), (0, .ref 12), (1, .ref 41), (2, .int 1)]) (stk' := [.int 5, .ref 9]) (mem' := cm gc2 lc1 a b R) (by intro _ _ _; eq_refl) ?_
      obtain ⟨gc28, hrc28, hmc28, frc28⟩ := ha_fail (a := a) (b := b) (R := R) (x := 5) hmc2 (by decide)
      refine he_ivV hrc28 (by omega) (by rfl) (by rfl) (by rfl) (by rfl) (by rfl) (by rfl) ?_
      have hfc28 := cfr_tr hfc2 frc28
      have hDc28 := cd_fr hDc2 frc28 (by decide) (by decide)
      have hsc28 : cst gc28 s := ⟨hsc2.1, (congrFun (frc28.1 12 (by decide)) 1).trans hsc2.2⟩
      refine he_s 2 (pc' := 40) (lc' := [(3, .int (nI (sp_iC A.1.1 (sp_wd T n (sp_n T n p))))), (0, .ref 12), (1, .ref 41), (2, .int 1)]) (stk' := [.ref 9]) (mem' := cm gc28 lc1 a b R) (by intro _ _ _; eq_refl) ?_
      obtain ⟨gc29, lc29, hrc29, hmc29, frc29⟩ := ha_scanq (R := R) hg hmc28
      refine he_ivV hrc29 (by omega) (by rfl) (by rfl) (by rfl) (by rfl) (by rfl) (by rfl) ?_
      have hfc29 := cfr_tr hfc28 frc29
      have hDc29 := cd_fr hDc28 frc29 (by decide) (by decide)
      have hsc29 : cst gc29 s := ⟨hsc28.1, (congrFun (frc29.1 12 (by decide)) 1).trans hsc28.2⟩
      refine he_s 3 (pc' := 48) (lc' := [(3, .int (nI (sp_iC A.1.1 (sp_wd T n (sp_n T n p))))), (0, .ref 12), (1, .ref 41), (2, .int 1)]) (stk' := [.ref 41, .ref 9]) (mem' := cm gc29 lc29 a b R) (by intro _ _ _; eq_refl) ?_
      obtain ⟨vc30, memc30, ⟨xc30, gc30, lc30, frc30, hmc30, hbc30, hRc30⟩, hrc30⟩ := ha_ch41q0 (R := R) hg hDc29.1 hmc29
      cases hRc30
      refine he_ivV hrc30 (by omega) (by rfl) (by rfl) (by rfl) (by rfl) (by rfl) (by rfl) ?_
      have hfc30 := cfr_tr hfc29 frc30
      have hDc30 := cd_fr hDc29 frc30 (by decide) (by decide)
      have hsc30 : cst gc30 s := ⟨hsc29.1, (congrFun (frc30.1 12 (by decide)) 1).trans hsc29.2⟩
      refine he_s 3 (pc' := 56) (lc' := [(4, .int xc30), (3, .int (nI (sp_iC A.1.1 (sp_wd T n (sp_n T n p))))), (0, .ref 12), (1, .ref 41), (2, .int 1)]) (stk' := [.int xc30, .int (nI (sp_iC A.1.1 (sp_wd T n (sp_n T n p))))]) (mem' := cm gc30 lc30 a b R) (by intro _ _ _; eq_refl) ?_
      refine he_s 1 (pc' := cond (fx_cb .eq (nI (sp_iC A.1.1 (sp_wd T n (sp_n T n p)))) xc30) 72 59) (lc' := [(4, .int xc30), (3, .int (nI (sp_iC A.1.1 (sp_wd T n (sp_n T n p))))), (0, .ref 12), (1, .ref 41), (2, .int 1)]) (stk' := []) (mem' := cm gc30 lc30 a b R) (by intro _ _ _; eq_refl) ?_
      cases y31 : fx_cb .eq (nI (sp_iC A.1.1 (sp_wd T n (sp_n T n p)))) xc30
      · refine he_s 1 (pc' := 60) (lc' := [(4, .int xc30), (3, .int (nI (sp_iC A.1.1 (sp_wd T n (sp_n T n p))))), (0, .ref 12), (1, .ref 41), (2, .int 1)]) (stk' := [.int 1]) (mem' := cm gc30 lc30 a b R) (by intro _ _ _; eq_refl) ?_
        refine he_s 1 (pc' := cond (fx_cb .eq 1 0) 80 63) (lc' := [(4, .int xc30), (3, .int (nI (sp_iC A.1.1 (sp_wd T n (sp_n T n p))))), (0, .ref 12), (1, .ref 41), (2, .int 1)]) (stk' := []) (mem' := cm gc30 lc30 a b R) (by intro _ _ _; eq_refl) ?_
        rw [show (fx_cb .eq 1 0) = false from by decide]
        dsimp only [cond]
        refine he_s 2 (pc' := 66) (lc' := [(4, .int xc30), (3, .int (nI (sp_iC A.1.1 (sp_wd T n (sp_n T n p))))), (0, .ref 12), (1, .ref 41), (2, .int 1)]) (stk' := [.int xc30, .ref 41]) (mem' := cm gc30 lc30 a b R) (by intro _ _ _; eq_refl) ?_
        obtain ⟨vc32, memc32, ⟨xc32, hxc32, hRc32⟩, hrc32⟩ := ha_isq41 (g := gc30) (l := lc30) (a := a) (b := b) (R := R) (x := xc30)
        cases hRc32
        refine he_ivV hrc32 (by omega) (by rfl) (by rfl) (by rfl) (by rfl) (by rfl) (by rfl) ?_
        rcases hxc32 with rfl | rfl
        · refine he_s 1 (pc' := cond (fx_cb .eq 0 0) 80 72) (lc' := [(4, .int xc30), (3, .int (nI (sp_iC A.1.1 (sp_wd T n (sp_n T n p))))), (0, .ref 12), (1, .ref 41), (2, .int 1)]) (stk' := []) (mem' := cm gc30 lc30 a b R) (by intro _ _ _; eq_refl) ?_
          rw [show (fx_cb .eq 0 0) = true from by decide]
          dsimp only [cond]
          refine he_s 2 (pc' := 84) (lc' := [(4, .int xc30), (3, .int (nI (sp_iC A.1.1 (sp_wd T n (sp_n T n p))))), (0, .ref 12), (1, .ref 41), (2, .int 1)]) (stk' := [.ref 9]) (mem' := cm gc30 lc30 a b R) (by intro _ _ _; eq_refl) ?_
          obtain ⟨gc33, lc33, hrc33, hmc33, frc33⟩ := ha_scanq (R := R) hg hmc30
          refine he_ivV hrc33 (by omega) (by rfl) (by rfl) (by rfl) (by rfl) (by rfl) (by rfl) ?_
          have hfc33 := cfr_tr hfc30 frc33
          have hDc33 := cd_fr hDc30 frc33 (by decide) (by decide)
          have hsc33 : cst gc33 s := ⟨hsc30.1, (congrFun (frc33.1 12 (by decide)) 1).trans hsc30.2⟩
          refine he_s 3 (pc' := 93) (lc' := [(4, .int xc30), (3, .int (nI (sp_iC A.1.1 (sp_wd T n (sp_n T n p))))), (0, .ref 12), (1, .ref 41), (2, .int 1)]) (stk' := [.int 59, .ref 9]) (mem' := cm gc33 lc33 a b R) (by intro _ _ _; eq_refl) ?_
          obtain ⟨vc34, memc34, ⟨gc34, lc34, frc34, hmc34, hRc34⟩, hrc34⟩ := ha_psq0 (x := 59) (R := R) hg hmc33
          cases hRc34
          refine he_ivV hrc34 (by omega) (by rfl) (by rfl) (by rfl) (by rfl) (by rfl) (by rfl) ?_
          have hfc34 := cfr_tr hfc33 frc34
          have hDc34 := cd_fr hDc33 frc34 (by decide) (by decide)
          have hsc34 : cst gc34 s := ⟨hsc33.1, (congrFun (frc34.1 12 (by decide)) 1).trans hsc33.2⟩
          refine he_s 1 (pc' := cond (fx_cb .eq 0 0) 148 99) (lc' := [(4, .int xc30), (3, .int (nI (sp_iC A.1.1 (sp_wd T n (sp_n T n p))))), (0, .ref 12), (1, .ref 41), (2, .int 1)]) (stk' := []) (mem' := cm gc34 lc34 a b R) (by intro _ _ _; eq_refl) ?_
          rw [show (fx_cb .eq 0 0) = true from by decide]
          dsimp only [cond]
          refine he_ret ⟨_, _, _, _, cfd_c hfc34, ?_, rfl⟩ (by rfl) (by rfl) (by rfl)
          unfold sp_pPair
          rw [sp_cell_t hwc2 hvc2, if_pos ⟨rfl, hsc3⟩]
          exact hmc34
        · refine he_s 1 (pc' := cond (fx_cb .eq 1 0) 80 72) (lc' := [(4, .int xc30), (3, .int (nI (sp_iC A.1.1 (sp_wd T n (sp_n T n p))))), (0, .ref 12), (1, .ref 41), (2, .int 1)]) (stk' := []) (mem' := cm gc30 lc30 a b R) (by intro _ _ _; eq_refl) ?_
          rw [show (fx_cb .eq 1 0) = false from by decide]
          dsimp only [cond]
          refine he_s 3 (pc' := 77) (lc' := [(4, .int xc30), (3, .int (nI (sp_iC A.1.1 (sp_wd T n (sp_n T n p))))), (0, .ref 12), (1, .ref 41), (2, .int 1)]) (stk' := [.int 5, .ref 9]) (mem' := cm gc30 lc30 a b R) (by intro _ _ _; eq_refl) ?_
          refine he_ivV (ha_failq (a := a) (b := b) (R := R) (x := 5) hmc30) (by omega) (by rfl) (by rfl) (by rfl) (by rfl) (by rfl) (by rfl) ?_
          refine he_s 2 (pc' := 84) (lc' := [(4, .int xc30), (3, .int (nI (sp_iC A.1.1 (sp_wd T n (sp_n T n p))))), (0, .ref 12), (1, .ref 41), (2, .int 1)]) (stk' := [.ref 9]) (mem' := cm gc30 lc30 a b R) (by intro _ _ _; eq_refl) ?_
          obtain ⟨gc36, lc36, hrc36, hmc36, frc36⟩ := ha_scanq (R := R) hg hmc30
          refine he_ivV hrc36 (by omega) (by rfl) (by rfl) (by rfl) (by rfl) (by rfl) (by rfl) ?_
          have hfc36 := cfr_tr hfc30 frc36
          have hDc36 := cd_fr hDc30 frc36 (by decide) (by decide)
          have hsc36 : cst gc36 s := ⟨hsc30.1, (congrFun (frc36.1 12 (by decide)) 1).trans hsc30.2⟩
          refine he_s 3 (pc' := 93) (lc' := [(4, .int xc30), (3, .int (nI (sp_iC A.1.1 (sp_wd T n (sp_n T n p))))), (0, .ref 12), (1, .ref 41), (2, .int 1)]) (stk' := [.int 59, .ref 9]) (mem' := cm gc36 lc36 a b R) (by intro _ _ _; eq_refl) ?_
          obtain ⟨vc37, memc37, ⟨gc37, lc37, frc37, hmc37, hRc37⟩, hrc37⟩ := ha_psq0 (x := 59) (R := R) hg hmc36
          cases hRc37
          refine he_ivV hrc37 (by omega) (by rfl) (by rfl) (by rfl) (by rfl) (by rfl) (by rfl) ?_
          have hfc37 := cfr_tr hfc36 frc37
          have hDc37 := cd_fr hDc36 frc37 (by decide) (by decide)
          have hsc37 : cst gc37 s := ⟨hsc36.1, (congrFun (frc37.1 12 (by decide)) 1).trans hsc36.2⟩
          refine he_s 1 (pc' := cond (fx_cb .eq 0 0) 148 99) (lc' := [(4, .int xc30), (3, .int (nI (sp_iC A.1.1 (sp_wd T n (sp_n T n p))))), (0, .ref 12), (1, .ref 41), (2, .int 1)]) (stk' := []) (mem' := cm gc37 lc37 a b R) (by intro _ _ _; eq_refl) ?_
          rw [show (fx_cb .eq 0 0) = true from by decide]
          dsimp only [cond]
          refine he_ret ⟨_, _, _, _, cfd_c hfc37, ?_, rfl⟩ (by rfl) (by rfl) (by rfl)
          unfold sp_pPair
          rw [sp_cell_t hwc2 hvc2, if_pos ⟨rfl, hsc3⟩]
          exact hmc37
      · refine he_s 3 (pc' := 77) (lc' := [(4, .int xc30), (3, .int (nI (sp_iC A.1.1 (sp_wd T n (sp_n T n p))))), (0, .ref 12), (1, .ref 41), (2, .int 1)]) (stk' := [.int 5, .ref 9]) (mem' := cm gc30 lc30 a b R) (by intro _ _ _; eq_refl) ?_
        refine he_ivV (ha_failq (a := a) (b := b) (R := R) (x := 5) hmc30) (by omega) (by rfl) (by rfl) (by rfl) (by rfl) (by rfl) (by rfl) ?_
        refine he_s 2 (pc' := 84) (lc' := [(4, .int xc30), (3, .int (nI (sp_iC A.1.1 (sp_wd T n (sp_n T n p))))), (0, .ref 12), (1, .ref 41), (2, .int 1)]) (stk' := [.ref 9]) (mem' := cm gc30 lc30 a b R) (by intro _ _ _; eq_refl) ?_
        obtain ⟨gc39, lc39, hrc39, hmc39, frc39⟩ := ha_scanq (R := R) hg hmc30
        refine he_ivV hrc39 (by omega) (by rfl) (by rfl) (by rfl) (by rfl) (by rfl) (by rfl) ?_
        have hfc39 := cfr_tr hfc30 frc39
        have hDc39 := cd_fr hDc30 frc39 (by decide) (by decide)
        have hsc39 : cst gc39 s := ⟨hsc30.1, (congrFun (frc39.1 12 (by decide)) 1).trans hsc30.2⟩
        refine he_s 3 (pc' := 93) (lc' := [(4, .int xc30), (3, .int (nI (sp_iC A.1.1 (sp_wd T n (sp_n T n p))))), (0, .ref 12), (1, .ref 41), (2, .int 1)]) (stk' := [.int 59, .ref 9]) (mem' := cm gc39 lc39 a b R) (by intro _ _ _; eq_refl) ?_
        obtain ⟨vc40, memc40, ⟨gc40, lc40, frc40, hmc40, hRc40⟩, hrc40⟩ := ha_psq0 (x := 59) (R := R) hg hmc39
        cases hRc40
        refine he_ivV hrc40 (by omega) (by rfl) (by rfl) (by rfl) (by rfl) (by rfl) (by rfl) ?_
        have hfc40 := cfr_tr hfc39 frc40
        have hDc40 := cd_fr hDc39 frc40 (by decide) (by decide)
        have hsc40 : cst gc40 s := ⟨hsc39.1, (congrFun (frc40.1 12 (by decide)) 1).trans hsc39.2⟩
        refine he_s 1 (pc' := cond (fx_cb .eq 0 0) 148 99) (lc' := [(4, .int xc30), (3, .int (nI (sp_iC A.1.1 (sp_wd T n (sp_n T n p))))), (0, .ref 12), (1, .ref 41), (2, .int 1)]) (stk' := []) (mem' := cm gc40 lc40 a b R) (by intro _ _ _; eq_refl) ?_
        rw [show (fx_cb .eq 0 0) = true from by decide]
        dsimp only [cond]
        refine he_ret ⟨_, _, _, _, cfd_c hfc40, ?_, rfl⟩ (by rfl) (by rfl) (by rfl)
        unfold sp_pPair
        rw [sp_cell_t hwc2 hvc2, if_pos ⟨rfl, hsc3⟩]
        exact hmc40
  · refine he_s 2 (pc' := 17) (lc' := [(3, .int (-1)), (0, .ref 12), (1, .ref 41), (2, .int 1)]) (stk' := [.int 1]) (mem' := cm gc2 lc1 a b R) (by intro _ _ _; eq_refl) ?_
    refine he_s 1 (pc' := cond (fx_cb .eq 1 0) 36 20) (lc' := [(3, .int (-1)), (0, .ref 12), (1, .ref 41), (2, .int 1)]) (stk' := []) (mem' := cm gc2 lc1 a b R) (by intro _ _ _; eq_refl) ?_
    rw [show (fx_cb .eq 1 0) = false from by decide]
    dsimp only [cond]
    refine he_s 2 (pc' := 22) (lc' := [(3, .int (-1)), (0, .ref 12), (1, .ref 41), (2, .int 1)]) (stk' := [.int (-1), .ref 41]) (mem' := cm gc2 lc1 a b R) (by intro _ _ _; eq_refl) ?_
    obtain ⟨vc41, memc41, ⟨xc41, hxc41, hRc41⟩, hrc41⟩ := ha_isq41 (g := gc2) (l := lc1) (a := a) (b := b) (R := R) (x := (-1))
    cases hRc41
    refine he_ivV hrc41 (by omega) (by rfl) (by rfl) (by rfl) (by rfl) (by rfl) (by rfl) ?_
    rcases hxc41 with rfl | rfl
    · refine he_s 1 (pc' := cond (fx_cb .eq 0 0) 36 28) (lc' := [(3, .int (-1)), (0, .ref 12), (1, .ref 41), (2, .int 1)]) (stk' := []) (mem' := cm gc2 lc1 a b R) (by intro _ _ _; eq_refl) ?_
      rw [show (fx_cb .eq 0 0) = true from by decide]
      dsimp only [cond]
      refine he_s 2 (pc' := 40) (lc' := [(3, .int (-1)), (0, .ref 12), (1, .ref 41), (2, .int 1)]) (stk' := [.ref 9]) (mem' := cm gc2 lc1 a b R) (by intro _ _ _; eq_refl) ?_
      obtain ⟨gc42, lc42, hrc42, hmc42, frc42⟩ := ha_scanq (R := R) hg hmc2
      refine he_ivV hrc42 (by omega) (by rfl) (by rfl) (by rfl) (by rfl) (by rfl) (by rfl) ?_
      have hfc42 := cfr_tr hfc2 frc42
      have hDc42 := cd_fr hDc2 frc42 (by decide) (by decide)
      have hsc42 : cst gc42 s := ⟨hsc2.1, (congrFun (frc42.1 12 (by decide)) 1).trans hsc2.2⟩
      refine he_s 3 (pc' := 48) (lc' := [(3, .int (-1)), (0, .ref 12), (1, .ref 41), (2, .int 1)]) (stk' := [.ref 41, .ref 9]) (mem' := cm gc42 lc42 a b R) (by intro _ _ _; eq_refl) ?_
      obtain ⟨vc43, memc43, ⟨xc43, gc43, lc43, frc43, hmc43, hbc43, hRc43⟩, hrc43⟩ := ha_ch41q0 (R := R) hg hDc42.1 hmc42
      cases hRc43
      refine he_ivV hrc43 (by omega) (by rfl) (by rfl) (by rfl) (by rfl) (by rfl) (by rfl) ?_
      have hfc43 := cfr_tr hfc42 frc43
      have hDc43 := cd_fr hDc42 frc43 (by decide) (by decide)
      have hsc43 : cst gc43 s := ⟨hsc42.1, (congrFun (frc43.1 12 (by decide)) 1).trans hsc42.2⟩
      refine he_s 3 (pc' := 56) (lc' := [(4, .int xc43), (3, .int (-1)), (0, .ref 12), (1, .ref 41), (2, .int 1)]) (stk' := [.int xc43, .int (-1)]) (mem' := cm gc43 lc43 a b R) (by intro _ _ _; eq_refl) ?_
      refine he_s 1 (pc' := cond (fx_cb .eq (-1) xc43) 72 59) (lc' := [(4, .int xc43), (3, .int (-1)), (0, .ref 12), (1, .ref 41), (2, .int 1)]) (stk' := []) (mem' := cm gc43 lc43 a b R) (by intro _ _ _; eq_refl) ?_
      cases y44 : fx_cb .eq (-1) xc43
      · refine he_s 1 (pc' := 60) (lc' := [(4, .int xc43), (3, .int (-1)), (0, .ref 12), (1, .ref 41), (2, .int 1)]) (stk' := [.int 1]) (mem' := cm gc43 lc43 a b R) (by intro _ _ _; eq_refl) ?_
        refine he_s 1 (pc' := cond (fx_cb .eq 1 0) 80 63) (lc' := [(4, .int xc43), (3, .int (-1)), (0, .ref 12), (1, .ref 41), (2, .int 1)]) (stk' := []) (mem' := cm gc43 lc43 a b R) (by intro _ _ _; eq_refl) ?_
        rw [show (fx_cb .eq 1 0) = false from by decide]
        dsimp only [cond]
        refine he_s 2 (pc' := 66) (lc' := [(4, .int xc43), (3, .int (-1)), (0, .ref 12), (1, .ref 41), (2, .int 1)]) (stk' := [.int xc43, .ref 41]) (mem' := cm gc43 lc43 a b R) (by intro _ _ _; eq_refl) ?_
        obtain ⟨vc45, memc45, ⟨xc45, hxc45, hRc45⟩, hrc45⟩ := ha_isq41 (g := gc43) (l := lc43) (a := a) (b := b) (R := R) (x := xc43)
        cases hRc45
        refine he_ivV hrc45 (by omega) (by rfl) (by rfl) (by rfl) (by rfl) (by rfl) (by rfl) ?_
        rcases hxc45 with rfl | rfl
        · refine he_s 1 (pc' := cond (fx_cb .eq 0 0) 80 72) (lc' := [(4, .int xc43), (3, .int (-1)), (0, .ref 12), (1, .ref 41), (2, .int 1)]) (stk' := []) (mem' := cm gc43 lc43 a b R) (by intro _ _ _; eq_refl) ?_
          rw [show (fx_cb .eq 0 0) = true from by decide]
          dsimp only [cond]
          refine he_s 2 (pc' := 84) (lc' := [(4, .int xc43), (3, .int (-1)), (0, .ref 12), (1, .ref 41), (2, .int 1)]) (stk' := [.ref 9]) (mem' := cm gc43 lc43 a b R) (by intro _ _ _; eq_refl) ?_
          obtain ⟨gc46, lc46, hrc46, hmc46, frc46⟩ := ha_scanq (R := R) hg hmc43
          refine he_ivV hrc46 (by omega) (by rfl) (by rfl) (by rfl) (by rfl) (by rfl) (by rfl) ?_
          have hfc46 := cfr_tr hfc43 frc46
          have hDc46 := cd_fr hDc43 frc46 (by decide) (by decide)
          have hsc46 : cst gc46 s := ⟨hsc43.1, (congrFun (frc46.1 12 (by decide)) 1).trans hsc43.2⟩
          refine he_s 3 (pc' := 93) (lc' := [(4, .int xc43), (3, .int (-1)), (0, .ref 12), (1, .ref 41), (2, .int 1)]) (stk' := [.int 59, .ref 9]) (mem' := cm gc46 lc46 a b R) (by intro _ _ _; eq_refl) ?_
          obtain ⟨vc47, memc47, ⟨gc47, lc47, frc47, hmc47, hRc47⟩, hrc47⟩ := ha_psq0 (x := 59) (R := R) hg hmc46
          cases hRc47
          refine he_ivV hrc47 (by omega) (by rfl) (by rfl) (by rfl) (by rfl) (by rfl) (by rfl) ?_
          have hfc47 := cfr_tr hfc46 frc47
          have hDc47 := cd_fr hDc46 frc47 (by decide) (by decide)
          have hsc47 : cst gc47 s := ⟨hsc46.1, (congrFun (frc47.1 12 (by decide)) 1).trans hsc46.2⟩
          refine he_s 1 (pc' := cond (fx_cb .eq 0 0) 148 99) (lc' := [(4, .int xc43), (3, .int (-1)), (0, .ref 12), (1, .ref 41), (2, .int 1)]) (stk' := []) (mem' := cm gc47 lc47 a b R) (by intro _ _ _; eq_refl) ?_
          rw [show (fx_cb .eq 0 0) = true from by decide]
          dsimp only [cond]
          refine he_ret ⟨_, _, _, _, cfd_c hfc47, ?_, rfl⟩ (by rfl) (by rfl) (by rfl)
          unfold sp_pPair
          rw [sp_cell_3 hwc2 hvc2]
          exact hmc47
        · refine he_s 1 (pc' := cond (fx_cb .eq 1 0) 80 72) (lc' := [(4, .int xc43), (3, .int (-1)), (0, .ref 12), (1, .ref 41), (2, .int 1)]) (stk' := []) (mem' := cm gc43 lc43 a b R) (by intro _ _ _; eq_refl) ?_
          rw [show (fx_cb .eq 1 0) = false from by decide]
          dsimp only [cond]
          refine he_s 3 (pc' := 77) (lc' := [(4, .int xc43), (3, .int (-1)), (0, .ref 12), (1, .ref 41), (2, .int 1)]) (stk' := [.int 5, .ref 9]) (mem' := cm gc43 lc43 a b R) (by intro _ _ _; eq_refl) ?_
          refine he_ivV (ha_failq (a := a) (b := b) (R := R) (x := 5) hmc43) (by omega) (by rfl) (by rfl) (by rfl) (by rfl) (by rfl) (by rfl) ?_
          refine he_s 2 (pc' := 84) (lc' := [(4, .int xc43), (3, .int (-1)), (0, .ref 12), (1, .ref 41), (2, .int 1)]) (stk' := [.ref 9]) (mem' := cm gc43 lc43 a b R) (by intro _ _ _; eq_refl) ?_
          obtain ⟨gc49, lc49, hrc49, hmc49, frc49⟩ := ha_scanq (R := R) hg hmc43
          refine he_ivV hrc49 (by omega) (by rfl) (by rfl) (by rfl) (by rfl) (by rfl) (by rfl) ?_
          have hfc49 := cfr_tr hfc43 frc49
          have hDc49 := cd_fr hDc43 frc49 (by decide) (by decide)
          have hsc49 : cst gc49 s := ⟨hsc43.1, (congrFun (frc49.1 12 (by decide)) 1).trans hsc43.2⟩
          refine he_s 3 (pc' := 93) (lc' := [(4, .int xc43), (3, .int (-1)), (0, .ref 12), (1, .ref 41), (2, .int 1)]) (stk' := [.int 59, .ref 9]) (mem' := cm gc49 lc49 a b R) (by intro _ _ _; eq_refl) ?_
          obtain ⟨vc50, memc50, ⟨gc50, lc50, frc50, hmc50, hRc50⟩, hrc50⟩ := ha_psq0 (x := 59) (R := R) hg hmc49
          cases hRc50
          refine he_ivV hrc50 (by omega) (by rfl) (by rfl) (by rfl) (by rfl) (by rfl) (by rfl) ?_
          have hfc50 := cfr_tr hfc49 frc50
          have hDc50 := cd_fr hDc49 frc50 (by decide) (by decide)
          have hsc50 : cst gc50 s := ⟨hsc49.1, (congrFun (frc50.1 12 (by decide)) 1).trans hsc49.2⟩
          refine he_s 1 (pc' := cond (fx_cb .eq 0 0) 148 99) (lc' := [(4, .int xc43), (3, .int (-1)), (0, .ref 12), (1, .ref 41), (2, .int 1)]) (stk' := []) (mem' := cm gc50 lc50 a b R) (by intro _ _ _; eq_refl) ?_
          rw [show (fx_cb .eq 0 0) = true from by decide]
          dsimp only [cond]
          refine he_ret ⟨_, _, _, _, cfd_c hfc50, ?_, rfl⟩ (by rfl) (by rfl) (by rfl)
          unfold sp_pPair
          rw [sp_cell_3 hwc2 hvc2]
          exact hmc50
      · refine he_s 3 (pc' := 77) (lc' := [(4, .int xc43), (3, .int (-1)), (0, .ref 12), (1, .ref 41), (2, .int 1)]) (stk' := [.int 5, .ref 9]) (mem' := cm gc43 lc43 a b R) (by intro _ _ _; eq_refl) ?_
        refine he_ivV (ha_failq (a := a) (b := b) (R := R) (x := 5) hmc43) (by omega) (by rfl) (by rfl) (by rfl) (by rfl) (by rfl) (by rfl) ?_
        refine he_s 2 (pc' := 84) (lc' := [(4, .int xc43), (3, .int (-1)), (0, .ref 12), (1, .ref 41), (2, .int 1)]) (stk' := [.ref 9]) (mem' := cm gc43 lc43 a b R) (by intro _ _ _; eq_refl) ?_
        obtain ⟨gc52, lc52, hrc52, hmc52, frc52⟩ := ha_scanq (R := R) hg hmc43
        refine he_ivV hrc52 (by omega) (by rfl) (by rfl) (by rfl) (by rfl) (by rfl) (by rfl) ?_
        have hfc52 := cfr_tr hfc43 frc52
        have hDc52 := cd_fr hDc43 frc52 (by decide) (by decide)
        have hsc52 : cst gc52 s := ⟨hsc43.1, (congrFun (frc52.1 12 (by decide)) 1).trans hsc43.2⟩
        refine he_s 3 (pc' := 93) (lc' := [(4, .int xc43), (3, .int (-1)), (0, .ref 12), (1, .ref 41), (2, .int 1)]) (stk' := [.int 59, .ref 9]) (mem' := cm gc52 lc52 a b R) (by intro _ _ _; eq_refl) ?_
        obtain ⟨vc53, memc53, ⟨gc53, lc53, frc53, hmc53, hRc53⟩, hrc53⟩ := ha_psq0 (x := 59) (R := R) hg hmc52
        cases hRc53
        refine he_ivV hrc53 (by omega) (by rfl) (by rfl) (by rfl) (by rfl) (by rfl) (by rfl) ?_
        have hfc53 := cfr_tr hfc52 frc53
        have hDc53 := cd_fr hDc52 frc53 (by decide) (by decide)
        have hsc53 : cst gc53 s := ⟨hsc52.1, (congrFun (frc53.1 12 (by decide)) 1).trans hsc52.2⟩
        refine he_s 1 (pc' := cond (fx_cb .eq 0 0) 148 99) (lc' := [(4, .int xc43), (3, .int (-1)), (0, .ref 12), (1, .ref 41), (2, .int 1)]) (stk' := []) (mem' := cm gc53 lc53 a b R) (by intro _ _ _; eq_refl) ?_
        rw [show (fx_cb .eq 0 0) = true from by decide]
        dsimp only [cond]
        refine he_ret ⟨_, _, _, _, cfd_c hfc53, ?_, rfl⟩ (by rfl) (by rfl) (by rfl)
        unfold sp_pPair
        rw [sp_cell_3 hwc2 hvc2]
        exact hmc53
    · refine he_s 1 (pc' := cond (fx_cb .eq 1 0) 36 28) (lc' := [(3, .int (-1)), (0, .ref 12), (1, .ref 41), (2, .int 1)]) (stk' := []) (mem' := cm gc2 lc1 a b R) (by intro _ _ _; eq_refl) ?_
      rw [show (fx_cb .eq 1 0) = false from by decide]
      dsimp only [cond]
      refine he_s 3 (pc' := 33) (lc' := [(3, .int (-1)), (0, .ref 12), (1, .ref 41), (2, .int 1)]) (stk' := [.int 5, .ref 9]) (mem' := cm gc2 lc1 a b R) (by intro _ _ _; eq_refl) ?_
      refine he_ivV (ha_failq (a := a) (b := b) (R := R) (x := 5) hmc2) (by omega) (by rfl) (by rfl) (by rfl) (by rfl) (by rfl) (by rfl) ?_
      refine he_s 2 (pc' := 40) (lc' := [(3, .int (-1)), (0, .ref 12), (1, .ref 41), (2, .int 1)]) (stk' := [.ref 9]) (mem' := cm gc2 lc1 a b R) (by intro _ _ _; eq_refl) ?_
      obtain ⟨gc55, lc55, hrc55, hmc55, frc55⟩ := ha_scanq (R := R) hg hmc2
      refine he_ivV hrc55 (by omega) (by rfl) (by rfl) (by rfl) (by rfl) (by rfl) (by rfl) ?_
      have hfc55 := cfr_tr hfc2 frc55
      have hDc55 := cd_fr hDc2 frc55 (by decide) (by decide)
      have hsc55 : cst gc55 s := ⟨hsc2.1, (congrFun (frc55.1 12 (by decide)) 1).trans hsc2.2⟩
      refine he_s 3 (pc' := 48) (lc' := [(3, .int (-1)), (0, .ref 12), (1, .ref 41), (2, .int 1)]) (stk' := [.ref 41, .ref 9]) (mem' := cm gc55 lc55 a b R) (by intro _ _ _; eq_refl) ?_
      obtain ⟨vc56, memc56, ⟨xc56, gc56, lc56, frc56, hmc56, hbc56, hRc56⟩, hrc56⟩ := ha_ch41q0 (R := R) hg hDc55.1 hmc55
      cases hRc56
      refine he_ivV hrc56 (by omega) (by rfl) (by rfl) (by rfl) (by rfl) (by rfl) (by rfl) ?_
      have hfc56 := cfr_tr hfc55 frc56
      have hDc56 := cd_fr hDc55 frc56 (by decide) (by decide)
      have hsc56 : cst gc56 s := ⟨hsc55.1, (congrFun (frc56.1 12 (by decide)) 1).trans hsc55.2⟩
      refine he_s 3 (pc' := 56) (lc' := [(4, .int xc56), (3, .int (-1)), (0, .ref 12), (1, .ref 41), (2, .int 1)]) (stk' := [.int xc56, .int (-1)]) (mem' := cm gc56 lc56 a b R) (by intro _ _ _; eq_refl) ?_
      refine he_s 1 (pc' := cond (fx_cb .eq (-1) xc56) 72 59) (lc' := [(4, .int xc56), (3, .int (-1)), (0, .ref 12), (1, .ref 41), (2, .int 1)]) (stk' := []) (mem' := cm gc56 lc56 a b R) (by intro _ _ _; eq_refl) ?_
      cases y57 : fx_cb .eq (-1) xc56
      · refine he_s 1 (pc' := 60) (lc' := [(4, .int xc56), (3, .int (-1)), (0, .ref 12), (1, .ref 41), (2, .int 1)]) (stk' := [.int 1]) (mem' := cm gc56 lc56 a b R) (by intro _ _ _; eq_refl) ?_
        refine he_s 1 (pc' := cond (fx_cb .eq 1 0) 80 63) (lc' := [(4, .int xc56), (3, .int (-1)), (0, .ref 12), (1, .ref 41), (2, .int 1)]) (stk' := []) (mem' := cm gc56 lc56 a b R) (by intro _ _ _; eq_refl) ?_
        rw [show (fx_cb .eq 1 0) = false from by decide]
        dsimp only [cond]
        refine he_s 2 (pc' := 66) (lc' := [(4, .int xc56), (3, .int (-1)), (0, .ref 12), (1, .ref 41), (2, .int 1)]) (stk' := [.int xc56, .ref 41]) (mem' := cm gc56 lc56 a b R) (by intro _ _ _; eq_refl) ?_
        obtain ⟨vc58, memc58, ⟨xc58, hxc58, hRc58⟩, hrc58⟩ := ha_isq41 (g := gc56) (l := lc56) (a := a) (b := b) (R := R) (x := xc56)
        cases hRc58
        refine he_ivV hrc58 (by omega) (by rfl) (by rfl) (by rfl) (by rfl) (by rfl) (by rfl) ?_
        rcases hxc58 with rfl | rfl
        · refine he_s 1 (pc' := cond (fx_cb .eq 0 0) 80 72) (lc' := [(4, .int xc56), (3, .int (-1)), (0, .ref 12), (1, .ref 41), (2, .int 1)]) (stk' := []) (mem' := cm gc56 lc56 a b R) (by intro _ _ _; eq_refl) ?_
          rw [show (fx_cb .eq 0 0) = true from by decide]
          dsimp only [cond]
          refine he_s 2 (pc' := 84) (lc' := [(4, .int xc56), (3, .int (-1)), (0, .ref 12), (1, .ref 41), (2, .int 1)]) (stk' := [.ref 9]) (mem' := cm gc56 lc56 a b R) (by intro _ _ _; eq_refl) ?_
          obtain ⟨gc59, lc59, hrc59, hmc59, frc59⟩ := ha_scanq (R := R) hg hmc56
          refine he_ivV hrc59 (by omega) (by rfl) (by rfl) (by rfl) (by rfl) (by rfl) (by rfl) ?_
          have hfc59 := cfr_tr hfc56 frc59
          have hDc59 := cd_fr hDc56 frc59 (by decide) (by decide)
          have hsc59 : cst gc59 s := ⟨hsc56.1, (congrFun (frc59.1 12 (by decide)) 1).trans hsc56.2⟩
          refine he_s 3 (pc' := 93) (lc' := [(4, .int xc56), (3, .int (-1)), (0, .ref 12), (1, .ref 41), (2, .int 1)]) (stk' := [.int 59, .ref 9]) (mem' := cm gc59 lc59 a b R) (by intro _ _ _; eq_refl) ?_
          obtain ⟨vc60, memc60, ⟨gc60, lc60, frc60, hmc60, hRc60⟩, hrc60⟩ := ha_psq0 (x := 59) (R := R) hg hmc59
          cases hRc60
          refine he_ivV hrc60 (by omega) (by rfl) (by rfl) (by rfl) (by rfl) (by rfl) (by rfl) ?_
          have hfc60 := cfr_tr hfc59 frc60
          have hDc60 := cd_fr hDc59 frc60 (by decide) (by decide)
          have hsc60 : cst gc60 s := ⟨hsc59.1, (congrFun (frc60.1 12 (by decide)) 1).trans hsc59.2⟩
          refine he_s 1 (pc' := cond (fx_cb .eq 0 0) 148 99) (lc' := [(4, .int xc56), (3, .int (-1)), (0, .ref 12), (1, .ref 41), (2, .int 1)]) (stk' := []) (mem' := cm gc60 lc60 a b R) (by intro _ _ _; eq_refl) ?_
          rw [show (fx_cb .eq 0 0) = true from by decide]
          dsimp only [cond]
          refine he_ret ⟨_, _, _, _, cfd_c hfc60, ?_, rfl⟩ (by rfl) (by rfl) (by rfl)
          unfold sp_pPair
          rw [sp_cell_3 hwc2 hvc2]
          exact hmc60
        · refine he_s 1 (pc' := cond (fx_cb .eq 1 0) 80 72) (lc' := [(4, .int xc56), (3, .int (-1)), (0, .ref 12), (1, .ref 41), (2, .int 1)]) (stk' := []) (mem' := cm gc56 lc56 a b R) (by intro _ _ _; eq_refl) ?_
          rw [show (fx_cb .eq 1 0) = false from by decide]
          dsimp only [cond]
          refine he_s 3 (pc' := 77) (lc' := [(4, .int xc56), (3, .int (-1)), (0, .ref 12), (1, .ref 41), (2, .int 1)]) (stk' := [.int 5, .ref 9]) (mem' := cm gc56 lc56 a b R) (by intro _ _ _; eq_refl) ?_
          refine he_ivV (ha_failq (a := a) (b := b) (R := R) (x := 5) hmc56) (by omega) (by rfl) (by rfl) (by rfl) (by rfl) (by rfl) (by rfl) ?_
          refine he_s 2 (pc' := 84) (lc' := [(4, .int xc56), (3, .int (-1)), (0, .ref 12), (1, .ref 41), (2, .int 1)]) (stk' := [.ref 9]) (mem' := cm gc56 lc56 a b R) (by intro _ _ _; eq_refl) ?_
          obtain ⟨gc62, lc62, hrc62, hmc62, frc62⟩ := ha_scanq (R := R) hg hmc56
          refine he_ivV hrc62 (by omega) (by rfl) (by rfl) (by rfl) (by rfl) (by rfl) (by rfl) ?_
          have hfc62 := cfr_tr hfc56 frc62
          have hDc62 := cd_fr hDc56 frc62 (by decide) (by decide)
          have hsc62 : cst gc62 s := ⟨hsc56.1, (congrFun (frc62.1 12 (by decide)) 1).trans hsc56.2⟩
          refine he_s 3 (pc' := 93) (lc' := [(4, .int xc56), (3, .int (-1)), (0, .ref 12), (1, .ref 41), (2, .int 1)]) (stk' := [.int 59, .ref 9]) (mem' := cm gc62 lc62 a b R) (by intro _ _ _; eq_refl) ?_
          obtain ⟨vc63, memc63, ⟨gc63, lc63, frc63, hmc63, hRc63⟩, hrc63⟩ := ha_psq0 (x := 59) (R := R) hg hmc62
          cases hRc63
          refine he_ivV hrc63 (by omega) (by rfl) (by rfl) (by rfl) (by rfl) (by rfl) (by rfl) ?_
          have hfc63 := cfr_tr hfc62 frc63
          have hDc63 := cd_fr hDc62 frc63 (by decide) (by decide)
          have hsc63 : cst gc63 s := ⟨hsc62.1, (congrFun (frc63.1 12 (by decide)) 1).trans hsc62.2⟩
          refine he_s 1 (pc' := cond (fx_cb .eq 0 0) 148 99) (lc' := [(4, .int xc56), (3, .int (-1)), (0, .ref 12), (1, .ref 41), (2, .int 1)]) (stk' := []) (mem' := cm gc63 lc63 a b R) (by intro _ _ _; eq_refl) ?_
          rw [show (fx_cb .eq 0 0) = true from by decide]
          dsimp only [cond]
          refine he_ret ⟨_, _, _, _, cfd_c hfc63, ?_, rfl⟩ (by rfl) (by rfl) (by rfl)
          unfold sp_pPair
          rw [sp_cell_3 hwc2 hvc2]
          exact hmc63
      · refine he_s 3 (pc' := 77) (lc' := [(4, .int xc56), (3, .int (-1)), (0, .ref 12), (1, .ref 41), (2, .int 1)]) (stk' := [.int 5, .ref 9]) (mem' := cm gc56 lc56 a b R) (by intro _ _ _; eq_refl) ?_
        refine he_ivV (ha_failq (a := a) (b := b) (R := R) (x := 5) hmc56) (by omega) (by rfl) (by rfl) (by rfl) (by rfl) (by rfl) (by rfl) ?_
        refine he_s 2 (pc' := 84) (lc' := [(4, .int xc56), (3, .int (-1)), (0, .ref 12), (1, .ref 41), (2, .int 1)]) (stk' := [.ref 9]) (mem' := cm gc56 lc56 a b R) (by intro _ _ _; eq_refl) ?_
        obtain ⟨gc65, lc65, hrc65, hmc65, frc65⟩ := ha_scanq (R := R) hg hmc56
        refine he_ivV hrc65 (by omega) (by rfl) (by rfl) (by rfl) (by rfl) (by rfl) (by rfl) ?_
        have hfc65 := cfr_tr hfc56 frc65
        have hDc65 := cd_fr hDc56 frc65 (by decide) (by decide)
        have hsc65 : cst gc65 s := ⟨hsc56.1, (congrFun (frc65.1 12 (by decide)) 1).trans hsc56.2⟩
        refine he_s 3 (pc' := 93) (lc' := [(4, .int xc56), (3, .int (-1)), (0, .ref 12), (1, .ref 41), (2, .int 1)]) (stk' := [.int 59, .ref 9]) (mem' := cm gc65 lc65 a b R) (by intro _ _ _; eq_refl) ?_
        obtain ⟨vc66, memc66, ⟨gc66, lc66, frc66, hmc66, hRc66⟩, hrc66⟩ := ha_psq0 (x := 59) (R := R) hg hmc65
        cases hRc66
        refine he_ivV hrc66 (by omega) (by rfl) (by rfl) (by rfl) (by rfl) (by rfl) (by rfl) ?_
        have hfc66 := cfr_tr hfc65 frc66
        have hDc66 := cd_fr hDc65 frc66 (by decide) (by decide)
        have hsc66 : cst gc66 s := ⟨hsc65.1, (congrFun (frc66.1 12 (by decide)) 1).trans hsc65.2⟩
        refine he_s 1 (pc' := cond (fx_cb .eq 0 0) 148 99) (lc' := [(4, .int xc56), (3, .int (-1)), (0, .ref 12), (1, .ref 41), (2, .int 1)]) (stk' := []) (mem' := cm gc66 lc66 a b R) (by intro _ _ _; eq_refl) ?_
        rw [show (fx_cb .eq 0 0) = true from by decide]
        dsimp only [cond]
        refine he_ret ⟨_, _, _, _, cfd_c hfc66, ?_, rfl⟩ (by rfl) (by rfl) (by rfl)
        unfold sp_pPair
        rw [sp_cell_3 hwc2 hvc2]
        exact hmc66
  · refine he_s 2 (pc' := 17) (lc' := [(3, .int (-1)), (0, .ref 12), (1, .ref 41), (2, .int 1)]) (stk' := [.int 1]) (mem' := cm gc2 lc1 a b R) (by intro _ _ _; eq_refl) ?_
    refine he_s 1 (pc' := cond (fx_cb .eq 1 0) 36 20) (lc' := [(3, .int (-1)), (0, .ref 12), (1, .ref 41), (2, .int 1)]) (stk' := []) (mem' := cm gc2 lc1 a b R) (by intro _ _ _; eq_refl) ?_
    rw [show (fx_cb .eq 1 0) = false from by decide]
    dsimp only [cond]
    refine he_s 2 (pc' := 22) (lc' := [(3, .int (-1)), (0, .ref 12), (1, .ref 41), (2, .int 1)]) (stk' := [.int (-1), .ref 41]) (mem' := cm gc2 lc1 a b R) (by intro _ _ _; eq_refl) ?_
    obtain ⟨vc67, memc67, ⟨xc67, hxc67, hRc67⟩, hrc67⟩ := ha_isq41 (g := gc2) (l := lc1) (a := a) (b := b) (R := R) (x := (-1))
    cases hRc67
    refine he_ivV hrc67 (by omega) (by rfl) (by rfl) (by rfl) (by rfl) (by rfl) (by rfl) ?_
    rcases hxc67 with rfl | rfl
    · refine he_s 1 (pc' := cond (fx_cb .eq 0 0) 36 28) (lc' := [(3, .int (-1)), (0, .ref 12), (1, .ref 41), (2, .int 1)]) (stk' := []) (mem' := cm gc2 lc1 a b R) (by intro _ _ _; eq_refl) ?_
      rw [show (fx_cb .eq 0 0) = true from by decide]
      dsimp only [cond]
      refine he_s 2 (pc' := 40) (lc' := [(3, .int (-1)), (0, .ref 12), (1, .ref 41), (2, .int 1)]) (stk' := [.ref 9]) (mem' := cm gc2 lc1 a b R) (by intro _ _ _; eq_refl) ?_
      obtain ⟨gc68, lc68, hrc68, hmc68, frc68⟩ := ha_scanq (R := R) hg hmc2
      refine he_ivV hrc68 (by omega) (by rfl) (by rfl) (by rfl) (by rfl) (by rfl) (by rfl) ?_
      have hfc68 := cfr_tr hfc2 frc68
      have hDc68 := cd_fr hDc2 frc68 (by decide) (by decide)
      have hsc68 : cst gc68 s := ⟨hsc2.1, (congrFun (frc68.1 12 (by decide)) 1).trans hsc2.2⟩
      refine he_s 3 (pc' := 48) (lc' := [(3, .int (-1)), (0, .ref 12), (1, .ref 41), (2, .int 1)]) (stk' := [.ref 41, .ref 9]) (mem' := cm gc68 lc68 a b R) (by intro _ _ _; eq_refl) ?_
      obtain ⟨vc69, memc69, ⟨xc69, gc69, lc69, frc69, hmc69, hbc69, hRc69⟩, hrc69⟩ := ha_ch41q0 (R := R) hg hDc68.1 hmc68
      cases hRc69
      refine he_ivV hrc69 (by omega) (by rfl) (by rfl) (by rfl) (by rfl) (by rfl) (by rfl) ?_
      have hfc69 := cfr_tr hfc68 frc69
      have hDc69 := cd_fr hDc68 frc69 (by decide) (by decide)
      have hsc69 : cst gc69 s := ⟨hsc68.1, (congrFun (frc69.1 12 (by decide)) 1).trans hsc68.2⟩
      refine he_s 3 (pc' := 56) (lc' := [(4, .int xc69), (3, .int (-1)), (0, .ref 12), (1, .ref 41), (2, .int 1)]) (stk' := [.int xc69, .int (-1)]) (mem' := cm gc69 lc69 a b R) (by intro _ _ _; eq_refl) ?_
      refine he_s 1 (pc' := cond (fx_cb .eq (-1) xc69) 72 59) (lc' := [(4, .int xc69), (3, .int (-1)), (0, .ref 12), (1, .ref 41), (2, .int 1)]) (stk' := []) (mem' := cm gc69 lc69 a b R) (by intro _ _ _; eq_refl) ?_
      cases y70 : fx_cb .eq (-1) xc69
      · refine he_s 1 (pc' := 60) (lc' := [(4, .int xc69), (3, .int (-1)), (0, .ref 12), (1, .ref 41), (2, .int 1)]) (stk' := [.int 1]) (mem' := cm gc69 lc69 a b R) (by intro _ _ _; eq_refl) ?_
        refine he_s 1 (pc' := cond (fx_cb .eq 1 0) 80 63) (lc' := [(4, .int xc69), (3, .int (-1)), (0, .ref 12), (1, .ref 41), (2, .int 1)]) (stk' := []) (mem' := cm gc69 lc69 a b R) (by intro _ _ _; eq_refl) ?_
        rw [show (fx_cb .eq 1 0) = false from by decide]
        dsimp only [cond]
        refine he_s 2 (pc' := 66) (lc' := [(4, .int xc69), (3, .int (-1)), (0, .ref 12), (1, .ref 41), (2, .int 1)]) (stk' := [.int xc69, .ref 41]) (mem' := cm gc69 lc69 a b R) (by intro _ _ _; eq_refl) ?_
        obtain ⟨vc71, memc71, ⟨xc71, hxc71, hRc71⟩, hrc71⟩ := ha_isq41 (g := gc69) (l := lc69) (a := a) (b := b) (R := R) (x := xc69)
        cases hRc71
        refine he_ivV hrc71 (by omega) (by rfl) (by rfl) (by rfl) (by rfl) (by rfl) (by rfl) ?_
        rcases hxc71 with rfl | rfl
        · refine he_s 1 (pc' := cond (fx_cb .eq 0 0) 80 72) (lc' := [(4, .int xc69), (3, .int (-1)), (0, .ref 12), (1, .ref 41), (2, .int 1)]) (stk' := []) (mem' := cm gc69 lc69 a b R) (by intro _ _ _; eq_refl) ?_
          rw [show (fx_cb .eq 0 0) = true from by decide]
          dsimp only [cond]
          refine he_s 2 (pc' := 84) (lc' := [(4, .int xc69), (3, .int (-1)), (0, .ref 12), (1, .ref 41), (2, .int 1)]) (stk' := [.ref 9]) (mem' := cm gc69 lc69 a b R) (by intro _ _ _; eq_refl) ?_
          obtain ⟨gc72, lc72, hrc72, hmc72, frc72⟩ := ha_scanq (R := R) hg hmc69
          refine he_ivV hrc72 (by omega) (by rfl) (by rfl) (by rfl) (by rfl) (by rfl) (by rfl) ?_
          have hfc72 := cfr_tr hfc69 frc72
          have hDc72 := cd_fr hDc69 frc72 (by decide) (by decide)
          have hsc72 : cst gc72 s := ⟨hsc69.1, (congrFun (frc72.1 12 (by decide)) 1).trans hsc69.2⟩
          refine he_s 3 (pc' := 93) (lc' := [(4, .int xc69), (3, .int (-1)), (0, .ref 12), (1, .ref 41), (2, .int 1)]) (stk' := [.int 59, .ref 9]) (mem' := cm gc72 lc72 a b R) (by intro _ _ _; eq_refl) ?_
          obtain ⟨vc73, memc73, ⟨gc73, lc73, frc73, hmc73, hRc73⟩, hrc73⟩ := ha_psq0 (x := 59) (R := R) hg hmc72
          cases hRc73
          refine he_ivV hrc73 (by omega) (by rfl) (by rfl) (by rfl) (by rfl) (by rfl) (by rfl) ?_
          have hfc73 := cfr_tr hfc72 frc73
          have hDc73 := cd_fr hDc72 frc73 (by decide) (by decide)
          have hsc73 : cst gc73 s := ⟨hsc72.1, (congrFun (frc73.1 12 (by decide)) 1).trans hsc72.2⟩
          refine he_s 1 (pc' := cond (fx_cb .eq 0 0) 148 99) (lc' := [(4, .int xc69), (3, .int (-1)), (0, .ref 12), (1, .ref 41), (2, .int 1)]) (stk' := []) (mem' := cm gc73 lc73 a b R) (by intro _ _ _; eq_refl) ?_
          rw [show (fx_cb .eq 0 0) = true from by decide]
          dsimp only [cond]
          refine he_ret ⟨_, _, _, _, cfd_c hfc73, ?_, rfl⟩ (by rfl) (by rfl) (by rfl)
          unfold sp_pPair
          rw [sp_cell_f hwc2]
          exact hmc73
        · refine he_s 1 (pc' := cond (fx_cb .eq 1 0) 80 72) (lc' := [(4, .int xc69), (3, .int (-1)), (0, .ref 12), (1, .ref 41), (2, .int 1)]) (stk' := []) (mem' := cm gc69 lc69 a b R) (by intro _ _ _; eq_refl) ?_
          rw [show (fx_cb .eq 1 0) = false from by decide]
          dsimp only [cond]
          refine he_s 3 (pc' := 77) (lc' := [(4, .int xc69), (3, .int (-1)), (0, .ref 12), (1, .ref 41), (2, .int 1)]) (stk' := [.int 5, .ref 9]) (mem' := cm gc69 lc69 a b R) (by intro _ _ _; eq_refl) ?_
          refine he_ivV (ha_failq (a := a) (b := b) (R := R) (x := 5) hmc69) (by omega) (by rfl) (by rfl) (by rfl) (by rfl) (by rfl) (by rfl) ?_
          refine he_s 2 (pc' := 84) (lc' := [(4, .int xc69), (3, .int (-1)), (0, .ref 12), (1, .ref 41), (2, .int 1)]) (stk' := [.ref 9]) (mem' := cm gc69 lc69 a b R) (by intro _ _ _; eq_refl) ?_
          obtain ⟨gc75, lc75, hrc75, hmc75, frc75⟩ := ha_scanq (R := R) hg hmc69
          refine he_ivV hrc75 (by omega) (by rfl) (by rfl) (by rfl) (by rfl) (by rfl) (by rfl) ?_
          have hfc75 := cfr_tr hfc69 frc75
          have hDc75 := cd_fr hDc69 frc75 (by decide) (by decide)
          have hsc75 : cst gc75 s := ⟨hsc69.1, (congrFun (frc75.1 12 (by decide)) 1).trans hsc69.2⟩
          refine he_s 3 (pc' := 93) (lc' := [(4, .int xc69), (3, .int (-1)), (0, .ref 12), (1, .ref 41), (2, .int 1)]) (stk' := [.int 59, .ref 9]) (mem' := cm gc75 lc75 a b R) (by intro _ _ _; eq_refl) ?_
          obtain ⟨vc76, memc76, ⟨gc76, lc76, frc76, hmc76, hRc76⟩, hrc76⟩ := ha_psq0 (x := 59) (R := R) hg hmc75
          cases hRc76
          refine he_ivV hrc76 (by omega) (by rfl) (by rfl) (by rfl) (by rfl) (by rfl) (by rfl) ?_
          have hfc76 := cfr_tr hfc75 frc76
          have hDc76 := cd_fr hDc75 frc76 (by decide) (by decide)
          have hsc76 : cst gc76 s := ⟨hsc75.1, (congrFun (frc76.1 12 (by decide)) 1).trans hsc75.2⟩
          refine he_s 1 (pc' := cond (fx_cb .eq 0 0) 148 99) (lc' := [(4, .int xc69), (3, .int (-1)), (0, .ref 12), (1, .ref 41), (2, .int 1)]) (stk' := []) (mem' := cm gc76 lc76 a b R) (by intro _ _ _; eq_refl) ?_
          rw [show (fx_cb .eq 0 0) = true from by decide]
          dsimp only [cond]
          refine he_ret ⟨_, _, _, _, cfd_c hfc76, ?_, rfl⟩ (by rfl) (by rfl) (by rfl)
          unfold sp_pPair
          rw [sp_cell_f hwc2]
          exact hmc76
      · refine he_s 3 (pc' := 77) (lc' := [(4, .int xc69), (3, .int (-1)), (0, .ref 12), (1, .ref 41), (2, .int 1)]) (stk' := [.int 5, .ref 9]) (mem' := cm gc69 lc69 a b R) (by intro _ _ _; eq_refl) ?_
        refine he_ivV (ha_failq (a := a) (b := b) (R := R) (x := 5) hmc69) (by omega) (by rfl) (by rfl) (by rfl) (by rfl) (by rfl) (by rfl) ?_
        refine he_s 2 (pc' := 84) (lc' := [(4, .int xc69), (3, .int (-1)), (0, .ref 12), (1, .ref 41), (2, .int 1)]) (stk' := [.ref 9]) (mem' := cm gc69 lc69 a b R) (by intro _ _ _; eq_refl) ?_
        obtain ⟨gc78, lc78, hrc78, hmc78, frc78⟩ := ha_scanq (R := R) hg hmc69
        refine he_ivV hrc78 (by omega) (by rfl) (by rfl) (by rfl) (by rfl) (by rfl) (by rfl) ?_
        have hfc78 := cfr_tr hfc69 frc78
        have hDc78 := cd_fr hDc69 frc78 (by decide) (by decide)
        have hsc78 : cst gc78 s := ⟨hsc69.1, (congrFun (frc78.1 12 (by decide)) 1).trans hsc69.2⟩
        refine he_s 3 (pc' := 93) (lc' := [(4, .int xc69), (3, .int (-1)), (0, .ref 12), (1, .ref 41), (2, .int 1)]) (stk' := [.int 59, .ref 9]) (mem' := cm gc78 lc78 a b R) (by intro _ _ _; eq_refl) ?_
        obtain ⟨vc79, memc79, ⟨gc79, lc79, frc79, hmc79, hRc79⟩, hrc79⟩ := ha_psq0 (x := 59) (R := R) hg hmc78
        cases hRc79
        refine he_ivV hrc79 (by omega) (by rfl) (by rfl) (by rfl) (by rfl) (by rfl) (by rfl) ?_
        have hfc79 := cfr_tr hfc78 frc79
        have hDc79 := cd_fr hDc78 frc79 (by decide) (by decide)
        have hsc79 : cst gc79 s := ⟨hsc78.1, (congrFun (frc79.1 12 (by decide)) 1).trans hsc78.2⟩
        refine he_s 1 (pc' := cond (fx_cb .eq 0 0) 148 99) (lc' := [(4, .int xc69), (3, .int (-1)), (0, .ref 12), (1, .ref 41), (2, .int 1)]) (stk' := []) (mem' := cm gc79 lc79 a b R) (by intro _ _ _; eq_refl) ?_
        rw [show (fx_cb .eq 0 0) = true from by decide]
        dsimp only [cond]
        refine he_ret ⟨_, _, _, _, cfd_c hfc79, ?_, rfl⟩ (by rfl) (by rfl) (by rfl)
        unfold sp_pPair
        rw [sp_cell_f hwc2]
        exact hmc79
    · refine he_s 1 (pc' := cond (fx_cb .eq 1 0) 36 28) (lc' := [(3, .int (-1)), (0, .ref 12), (1, .ref 41), (2, .int 1)]) (stk' := []) (mem' := cm gc2 lc1 a b R) (by intro _ _ _; eq_refl) ?_
      rw [show (fx_cb .eq 1 0) = false from by decide]
      dsimp only [cond]
      refine he_s 3 (pc' := 33) (lc' := [(3, .int (-1)), (0, .ref 12), (1, .ref 41), (2, .int 1)]) (stk' := [.int 5, .ref 9]) (mem' := cm gc2 lc1 a b R) (by intro _ _ _; eq_refl) ?_
      refine he_ivV (ha_failq (a := a) (b := b) (R := R) (x := 5) hmc2) (by omega) (by rfl) (by rfl) (by rfl) (by rfl) (by rfl) (by rfl) ?_
      refine he_s 2 (pc' := 40) (lc' := [(3, .int (-1)), (0, .ref 12), (1, .ref 41), (2, .int 1)]) (stk' := [.ref 9]) (mem' := cm gc2 lc1 a b R) (by intro _ _ _; eq_refl) ?_
      obtain ⟨gc81, lc81, hrc81, hmc81, frc81⟩ := ha_scanq (R := R) hg hmc2
      refine he_ivV hrc81 (by omega) (by rfl) (by rfl) (by rfl) (by rfl) (by rfl) (by rfl) ?_
      have hfc81 := cfr_tr hfc2 frc81
      have hDc81 := cd_fr hDc2 frc81 (by decide) (by decide)
      have hsc81 : cst gc81 s := ⟨hsc2.1, (congrFun (frc81.1 12 (by decide)) 1).trans hsc2.2⟩
      refine he_s 3 (pc' := 48) (lc' := [(3, .int (-1)), (0, .ref 12), (1, .ref 41), (2, .int 1)]) (stk' := [.ref 41, .ref 9]) (mem' := cm gc81 lc81 a b R) (by intro _ _ _; eq_refl) ?_
      obtain ⟨vc82, memc82, ⟨xc82, gc82, lc82, frc82, hmc82, hbc82, hRc82⟩, hrc82⟩ := ha_ch41q0 (R := R) hg hDc81.1 hmc81
      cases hRc82
      refine he_ivV hrc82 (by omega) (by rfl) (by rfl) (by rfl) (by rfl) (by rfl) (by rfl) ?_
      have hfc82 := cfr_tr hfc81 frc82
      have hDc82 := cd_fr hDc81 frc82 (by decide) (by decide)
      have hsc82 : cst gc82 s := ⟨hsc81.1, (congrFun (frc82.1 12 (by decide)) 1).trans hsc81.2⟩
      refine he_s 3 (pc' := 56) (lc' := [(4, .int xc82), (3, .int (-1)), (0, .ref 12), (1, .ref 41), (2, .int 1)]) (stk' := [.int xc82, .int (-1)]) (mem' := cm gc82 lc82 a b R) (by intro _ _ _; eq_refl) ?_
      refine he_s 1 (pc' := cond (fx_cb .eq (-1) xc82) 72 59) (lc' := [(4, .int xc82), (3, .int (-1)), (0, .ref 12), (1, .ref 41), (2, .int 1)]) (stk' := []) (mem' := cm gc82 lc82 a b R) (by intro _ _ _; eq_refl) ?_
      cases y83 : fx_cb .eq (-1) xc82
      · refine he_s 1 (pc' := 60) (lc' := [(4, .int xc82), (3, .int (-1)), (0, .ref 12), (1, .ref 41), (2, .int 1)]) (stk' := [.int 1]) (mem' := cm gc82 lc82 a b R) (by intro _ _ _; eq_refl) ?_
        refine he_s 1 (pc' := cond (fx_cb .eq 1 0) 80 63) (lc' := [(4, .int xc82), (3, .int (-1)), (0, .ref 12), (1, .ref 41), (2, .int 1)]) (stk' := []) (mem' := cm gc82 lc82 a b R) (by intro _ _ _; eq_refl) ?_
        rw [show (fx_cb .eq 1 0) = false from by decide]
        dsimp only [cond]
        refine he_s 2 (pc' := 66) (lc' := [(4, .int xc82), (3, .int (-1)), (0, .ref 12), (1, .ref 41), (2, .int 1)]) (stk' := [.int xc82, .ref 41]) (mem' := cm gc82 lc82 a b R) (by intro _ _ _; eq_refl) ?_
        obtain ⟨vc84, memc84, ⟨xc84, hxc84, hRc84⟩, hrc84⟩ := ha_isq41 (g := gc82) (l := lc82) (a := a) (b := b) (R := R) (x := xc82)
        cases hRc84
        refine he_ivV hrc84 (by omega) (by rfl) (by rfl) (by rfl) (by rfl) (by rfl) (by rfl) ?_
        rcases hxc84 with rfl | rfl
        · refine he_s 1 (pc' := cond (fx_cb .eq 0 0) 80 72) (lc' := [(4, .int xc82), (3, .int (-1)), (0, .ref 12), (1, .ref 41), (2, .int 1)]) (stk' := []) (mem' := cm gc82 lc82 a b R) (by intro _ _ _; eq_refl) ?_
          rw [show (fx_cb .eq 0 0) = true from by decide]
          dsimp only [cond]
          refine he_s 2 (pc' := 84) (lc' := [(4, .int xc82), (3, .int (-1)), (0, .ref 12), (1, .ref 41), (2, .int 1)]) (stk' := [.ref 9]) (mem' := cm gc82 lc82 a b R) (by intro _ _ _; eq_refl) ?_
          obtain ⟨gc85, lc85, hrc85, hmc85, frc85⟩ := ha_scanq (R := R) hg hmc82
          refine he_ivV hrc85 (by omega) (by rfl) (by rfl) (by rfl) (by rfl) (by rfl) (by rfl) ?_
          have hfc85 := cfr_tr hfc82 frc85
          have hDc85 := cd_fr hDc82 frc85 (by decide) (by decide)
          have hsc85 : cst gc85 s := ⟨hsc82.1, (congrFun (frc85.1 12 (by decide)) 1).trans hsc82.2⟩
          refine he_s 3 (pc' := 93) (lc' := [(4, .int xc82), (3, .int (-1)), (0, .ref 12), (1, .ref 41), (2, .int 1)]) (stk' := [.int 59, .ref 9]) (mem' := cm gc85 lc85 a b R) (by intro _ _ _; eq_refl) ?_
          obtain ⟨vc86, memc86, ⟨gc86, lc86, frc86, hmc86, hRc86⟩, hrc86⟩ := ha_psq0 (x := 59) (R := R) hg hmc85
          cases hRc86
          refine he_ivV hrc86 (by omega) (by rfl) (by rfl) (by rfl) (by rfl) (by rfl) (by rfl) ?_
          have hfc86 := cfr_tr hfc85 frc86
          have hDc86 := cd_fr hDc85 frc86 (by decide) (by decide)
          have hsc86 : cst gc86 s := ⟨hsc85.1, (congrFun (frc86.1 12 (by decide)) 1).trans hsc85.2⟩
          refine he_s 1 (pc' := cond (fx_cb .eq 0 0) 148 99) (lc' := [(4, .int xc82), (3, .int (-1)), (0, .ref 12), (1, .ref 41), (2, .int 1)]) (stk' := []) (mem' := cm gc86 lc86 a b R) (by intro _ _ _; eq_refl) ?_
          rw [show (fx_cb .eq 0 0) = true from by decide]
          dsimp only [cond]
          refine he_ret ⟨_, _, _, _, cfd_c hfc86, ?_, rfl⟩ (by rfl) (by rfl) (by rfl)
          unfold sp_pPair
          rw [sp_cell_f hwc2]
          exact hmc86
        · refine he_s 1 (pc' := cond (fx_cb .eq 1 0) 80 72) (lc' := [(4, .int xc82), (3, .int (-1)), (0, .ref 12), (1, .ref 41), (2, .int 1)]) (stk' := []) (mem' := cm gc82 lc82 a b R) (by intro _ _ _; eq_refl) ?_
          rw [show (fx_cb .eq 1 0) = false from by decide]
          dsimp only [cond]
          refine he_s 3 (pc' := 77) (lc' := [(4, .int xc82), (3, .int (-1)), (0, .ref 12), (1, .ref 41), (2, .int 1)]) (stk' := [.int 5, .ref 9]) (mem' := cm gc82 lc82 a b R) (by intro _ _ _; eq_refl) ?_
          refine he_ivV (ha_failq (a := a) (b := b) (R := R) (x := 5) hmc82) (by omega) (by rfl) (by rfl) (by rfl) (by rfl) (by rfl) (by rfl) ?_
          refine he_s 2 (pc' := 84) (lc' := [(4, .int xc82), (3, .int (-1)), (0, .ref 12), (1, .ref 41), (2, .int 1)]) (stk' := [.ref 9]) (mem' := cm gc82 lc82 a b R) (by intro _ _ _; eq_refl) ?_
          obtain ⟨gc88, lc88, hrc88, hmc88, frc88⟩ := ha_scanq (R := R) hg hmc82
          refine he_ivV hrc88 (by omega) (by rfl) (by rfl) (by rfl) (by rfl) (by rfl) (by rfl) ?_
          have hfc88 := cfr_tr hfc82 frc88
          have hDc88 := cd_fr hDc82 frc88 (by decide) (by decide)
          have hsc88 : cst gc88 s := ⟨hsc82.1, (congrFun (frc88.1 12 (by decide)) 1).trans hsc82.2⟩
          refine he_s 3 (pc' := 93) (lc' := [(4, .int xc82), (3, .int (-1)), (0, .ref 12), (1, .ref 41), (2, .int 1)]) (stk' := [.int 59, .ref 9]) (mem' := cm gc88 lc88 a b R) (by intro _ _ _; eq_refl) ?_
          obtain ⟨vc89, memc89, ⟨gc89, lc89, frc89, hmc89, hRc89⟩, hrc89⟩ := ha_psq0 (x := 59) (R := R) hg hmc88
          cases hRc89
          refine he_ivV hrc89 (by omega) (by rfl) (by rfl) (by rfl) (by rfl) (by rfl) (by rfl) ?_
          have hfc89 := cfr_tr hfc88 frc89
          have hDc89 := cd_fr hDc88 frc89 (by decide) (by decide)
          have hsc89 : cst gc89 s := ⟨hsc88.1, (congrFun (frc89.1 12 (by decide)) 1).trans hsc88.2⟩
          refine he_s 1 (pc' := cond (fx_cb .eq 0 0) 148 99) (lc' := [(4, .int xc82), (3, .int (-1)), (0, .ref 12), (1, .ref 41), (2, .int 1)]) (stk' := []) (mem' := cm gc89 lc89 a b R) (by intro _ _ _; eq_refl) ?_
          rw [show (fx_cb .eq 0 0) = true from by decide]
          dsimp only [cond]
          refine he_ret ⟨_, _, _, _, cfd_c hfc89, ?_, rfl⟩ (by rfl) (by rfl) (by rfl)
          unfold sp_pPair
          rw [sp_cell_f hwc2]
          exact hmc89
      · refine he_s 3 (pc' := 77) (lc' := [(4, .int xc82), (3, .int (-1)), (0, .ref 12), (1, .ref 41), (2, .int 1)]) (stk' := [.int 5, .ref 9]) (mem' := cm gc82 lc82 a b R) (by intro _ _ _; eq_refl) ?_
        refine he_ivV (ha_failq (a := a) (b := b) (R := R) (x := 5) hmc82) (by omega) (by rfl) (by rfl) (by rfl) (by rfl) (by rfl) (by rfl) ?_
        refine he_s 2 (pc' := 84) (lc' := [(4, .int xc82), (3, .int (-1)), (0, .ref 12), (1, .ref 41), (2, .int 1)]) (stk' := [.ref 9]) (mem' := cm gc82 lc82 a b R) (by intro _ _ _; eq_refl) ?_
        obtain ⟨gc91, lc91, hrc91, hmc91, frc91⟩ := ha_scanq (R := R) hg hmc82
        refine he_ivV hrc91 (by omega) (by rfl) (by rfl) (by rfl) (by rfl) (by rfl) (by rfl) ?_
        have hfc91 := cfr_tr hfc82 frc91
        have hDc91 := cd_fr hDc82 frc91 (by decide) (by decide)
        have hsc91 : cst gc91 s := ⟨hsc82.1, (congrFun (frc91.1 12 (by decide)) 1).trans hsc82.2⟩
        refine he_s 3 (pc' := 93) (lc' := [(4, .int xc82), (3, .int (-1)), (0, .ref 12), (1, .ref 41), (2, .int 1)]) (stk' := [.int 59, .ref 9]) (mem' := cm gc91 lc91 a b R) (by intro _ _ _; eq_refl) ?_
        obtain ⟨vc92, memc92, ⟨gc92, lc92, frc92, hmc92, hRc92⟩, hrc92⟩ := ha_psq0 (x := 59) (R := R) hg hmc91
        cases hRc92
        refine he_ivV hrc92 (by omega) (by rfl) (by rfl) (by rfl) (by rfl) (by rfl) (by rfl) ?_
        have hfc92 := cfr_tr hfc91 frc92
        have hDc92 := cd_fr hDc91 frc92 (by decide) (by decide)
        have hsc92 : cst gc92 s := ⟨hsc91.1, (congrFun (frc92.1 12 (by decide)) 1).trans hsc91.2⟩
        refine he_s 1 (pc' := cond (fx_cb .eq 0 0) 148 99) (lc' := [(4, .int xc82), (3, .int (-1)), (0, .ref 12), (1, .ref 41), (2, .int 1)]) (stk' := []) (mem' := cm gc92 lc92 a b R) (by intro _ _ _; eq_refl) ?_
        rw [show (fx_cb .eq 0 0) = true from by decide]
        dsimp only [cond]
        refine he_ret ⟨_, _, _, _, cfd_c hfc92, ?_, rfl⟩ (by rfl) (by rfl) (by rfl)
        unfold sp_pPair
        rw [sp_cell_f hwc2]
        exact hmc92
theorem ha_rw (hg : ctx a b T n) (hD : cd_L 41 A g a b) (hs : cst g s) (h : co g l T n p) : ∃ (v : Option Value) (mem' : fx_M), (fun R1 => ∃ (g' : Nat → Nat → Int32) (l' : Nat → Nat → Int64) (a' : Nat → Nat → Int32) (b' : Nat → Nat → Int64), cfd g a b l g' a' b' l' ∧ cRes g' l' a' b' T n (sp_pWalk T n A s p) ∧ R1 = (none, cm g' l' a' b' R)) (v, mem') ∧ hr_T 5 69 [.ref 12, .ref 41] (cm g l a b R) v mem' := by
  refine he_meth (F := fun R1 => ∃ (g' : Nat → Nat → Int32) (l' : Nat → Nat → Int64) (a' : Nat → Nat → Int32) (b' : Nat → Nat → Int64), cfd g a b l g' a' b' l' ∧ cRes g' l' a' b' T n (sp_pWalk T n A s p) ∧ R1 = (none, cm g' l' a' b' R)) (M := gk_m69) (by rfl) (by rfl) ?_
  have hq0 := hD.1.2.1
  have hq1 := hD.1.2.2.2.1
  refine he_s 4 (pc' := 9) (lc' := [(0, .ref 12), (1, .ref 41)]) (stk' := [.int 8, .int (g 52 7)]) (mem' := cm g l a b R) (by intro _ _ _; eq_refl) ?_
  try rw [hD.1.2.2.1]
  refine he_s 1 (pc' := cond (fx_cb .lt (nI (A.1.2.length)) 8) 21 12) (lc' := [(0, .ref 12), (1, .ref 41)]) (stk' := []) (mem' := cm g l a b R) (by intro _ _ _; eq_refl) ?_
  by_cases y1 : (A.1.2.length) < 8
  · rw [show (fx_cb .lt (nI (A.1.2.length)) 8) = true from cb_ltT (a := (A.1.2.length)) (b := 8) (by omega) (by omega) (by omega)]
    dsimp only [cond]
    refine he_s 2 (pc' := 25) (lc' := [(0, .ref 12), (1, .ref 41)]) (stk' := [.ref 9]) (mem' := cm g l a b R) (by intro _ _ _; eq_refl) ?_
    obtain ⟨gc2, lc2, hrc2, hmc2, frc2⟩ := ha_scano (R := R) hg h
    refine he_ivV hrc2 (by omega) (by rfl) (by rfl) (by rfl) (by rfl) (by rfl) (by rfl) ?_
    have fc2_52_7 : gc2 52 7 = nI (A.1.2.length) := (congrFun (frc2.1 52 (by decide)) 7).trans hD.1.2.2.1
    have hfc2 := cfr_tr cfr_rf frc2
    have hDc2 := cd_fr hD frc2 (by decide) (by decide)
    have hsc2 : cst gc2 s := ⟨hs.1, (congrFun (frc2.1 12 (by decide)) 1).trans hs.2⟩
    refine he_s 2 (pc' := 30) (lc' := [(0, .ref 12), (1, .ref 41)]) (stk' := [.ref 41, .ref 12]) (mem' := cm gc2 lc2 a b R) (by intro _ _ _; eq_refl) ?_
    obtain ⟨vc3, memc3, ⟨xc3, gc3, lc3, frc3, hxc3, hRc3⟩, hrc3⟩ := ha_nn0 (R := R) hg hDc2 hsc2 hmc2
    cases hRc3
    refine he_ivV hrc3 (by omega) (by rfl) (by rfl) (by rfl) (by rfl) (by rfl) (by rfl) ?_
    have fc3_52_7 : gc3 52 7 = nI (A.1.2.length) := (congrFun (frc3.1 52 (by decide)) 7).trans fc2_52_7
    have hfc3 := cfr_tr hfc2 frc3
    have hDc3 := cd_fr hDc2 frc3 (by decide) (by decide)
    have hsc3 : cst gc3 s := ⟨hsc2.1, (congrFun (frc3.1 12 (by decide)) 1).trans hsc2.2⟩
    rcases hxc3 with ⟨hwc3, hvc3, rfl, hmc3⟩ | ⟨hwc3, hvc3, hmc3⟩ | ⟨hwc3, hmc3⟩
    · refine he_s 4 (pc' := 40) (lc' := [(2, .long (Int64.ofNat (sp_cd (sp_wd T n (sp_n T n p))))), (0, .ref 12), (1, .ref 41)]) (stk' := [.int 6, .ref 9]) (mem' := cm gc3 lc3 a b R) (by intro _ _ _; eq_refl) ?_
      obtain ⟨vc4, memc4, ⟨gc4, lc4, frc4, hxc4, hRc4⟩, hrc4⟩ := ha_pw0 (w := 6) (R := R) hg (by decide) hmc3
      cases hRc4
      refine he_ivV hrc4 (by omega) (by rfl) (by rfl) (by rfl) (by rfl) (by rfl) (by rfl) ?_
      have fc4_52_7 : gc4 52 7 = nI (A.1.2.length) := (congrFun (frc4.1 52 (by decide)) 7).trans fc3_52_7
      have hfc4 := cfr_tr hfc3 frc4
      have hDc4 := cd_fr hDc3 frc4 (by decide) (by decide)
      have hsc4 : cst gc4 s := ⟨hsc3.1, (congrFun (frc4.1 12 (by decide)) 1).trans hsc3.2⟩
      rcases hxc4 with ⟨hwc4, hmc4⟩ | ⟨hwc4, hmc4⟩
      · refine he_s 4 (pc' := 50) (lc' := [(2, .long (Int64.ofNat (sp_cd (sp_wd T n (sp_n T n p))))), (0, .ref 12), (1, .ref 41)]) (stk' := [.int 99, .int 1, .ref 9]) (mem' := cm gc4 lc4 a b R) (by intro _ _ _; eq_refl) ?_
        obtain ⟨vc5, memc5, ⟨xc5, gc5, lc5, frc5, hxc5, hRc5⟩, hrc5⟩ := ha_pn0 (lo := 1) (hi := 99) (R := R) hg (by omega) (by decide) hmc4
        cases hRc5
        refine he_ivV hrc5 (by omega) (by rfl) (by rfl) (by rfl) (by rfl) (by rfl) (by rfl) ?_
        have fc5_52_7 : gc5 52 7 = nI (A.1.2.length) := (congrFun (frc5.1 52 (by decide)) 7).trans fc4_52_7
        have hfc5 := cfr_tr hfc4 frc5
        have hDc5 := cd_fr hDc4 frc5 (by decide) (by decide)
        have hsc5 : cst gc5 s := ⟨hsc4.1, (congrFun (frc5.1 12 (by decide)) 1).trans hsc4.2⟩
        rcases hxc5 with ⟨hwc5, hvc5, rfl, hmc5⟩ | ⟨hwc5, hvc5, hmc5⟩ | ⟨hwc5, hmc5⟩
        · refine he_s 4 (pc' := 61) (lc' := [(4, .int (nI (sp_v T n (sp_n T n (sp_n T n (sp_n T n p)))))), (2, .long (Int64.ofNat (sp_cd (sp_wd T n (sp_n T n p))))), (0, .ref 12), (1, .ref 41)]) (stk' := [.int 7, .ref 9]) (mem' := cm gc5 lc5 a b R) (by intro _ _ _; eq_refl) ?_
          obtain ⟨vc6, memc6, ⟨gc6, lc6, frc6, hxc6, hRc6⟩, hrc6⟩ := ha_pw0 (w := 7) (R := R) hg (by decide) hmc5
          cases hRc6
          refine he_ivV hrc6 (by omega) (by rfl) (by rfl) (by rfl) (by rfl) (by rfl) (by rfl) ?_
          have fc6_52_7 : gc6 52 7 = nI (A.1.2.length) := (congrFun (frc6.1 52 (by decide)) 7).trans fc5_52_7
          have hfc6 := cfr_tr hfc5 frc6
          have hDc6 := cd_fr hDc5 frc6 (by decide) (by decide)
          have hsc6 : cst gc6 s := ⟨hsc5.1, (congrFun (frc6.1 12 (by decide)) 1).trans hsc5.2⟩
          rcases hxc6 with ⟨hwc6, hmc6⟩ | ⟨hwc6, hmc6⟩
          · refine he_s 3 (pc' := 69) (lc' := [(4, .int (nI (sp_v T n (sp_n T n (sp_n T n (sp_n T n p)))))), (2, .long (Int64.ofNat (sp_cd (sp_wd T n (sp_n T n p))))), (0, .ref 12), (1, .ref 41)]) (stk' := [.ref 41, .ref 9]) (mem' := cm gc6 lc6 a b R) (by intro _ _ _; eq_refl) ?_
            obtain ⟨vc7, memc7, ⟨xc7, gc7, frc7, hxc7, hRc7⟩, hrc7⟩ := ha_ch410 (R := R) hg hDc6.1 hmc6
            cases hRc7
            refine he_ivV hrc7 (by omega) (by rfl) (by rfl) (by rfl) (by rfl) (by rfl) (by rfl) ?_
            have fc7_52_7 : gc7 52 7 = nI (A.1.2.length) := (congrFun (frc7.1 52 (by decide)) 7).trans fc6_52_7
            have hfc7 := cfr_tr hfc6 frc7
            have hDc7 := cd_fr hDc6 frc7 (by decide) (by decide)
            have hsc7 : cst gc7 s := ⟨hsc6.1, (congrFun (frc7.1 12 (by decide)) 1).trans hsc6.2⟩
            rcases hxc7 with ⟨hwc7, hvc7, rfl, hmc7⟩ | ⟨hwc7, hvc7, rfl, hmc7⟩ | ⟨hwc7, rfl, hmc7⟩
            · have hqc7 := hDc7.1.2.1
              refine he_s 3 (pc' := 77) (lc' := [(5, .int (nI (sp_iC A.1.1 (sp_wd T n (sp_n T n (sp_n T n (sp_n T n (sp_n T n (sp_n T n p))))))))), (4, .int (nI (sp_v T n (sp_n T n (sp_n T n (sp_n T n p)))))), (2, .long (Int64.ofNat (sp_cd (sp_wd T n (sp_n T n p))))), (0, .ref 12), (1, .ref 41)]) (stk' := [.int (nI (sp_iC A.1.1 (sp_wd T n (sp_n T n (sp_n T n (sp_n T n (sp_n T n (sp_n T n p)))))))), .ref 41]) (mem' := cm gc7 lc6 a b R) (by intro _ _ _; eq_refl) ?_
              have hbc8 := hDc7.2.1 (sp_iC A.1.1 (sp_wd T n (sp_n T n (sp_n T n (sp_n T n (sp_n T n (sp_n T n p))))))) (by omega)
              cases hsc8 : sp_sh A (sp_iC A.1.1 (sp_wd T n (sp_n T n (sp_n T n (sp_n T n (sp_n T n (sp_n T n p)))))))
              · rw [hsc8, if_neg (by decide)] at hbc8
                refine he_ivV (ha_is410 (g := gc7) (l := lc6) (a := a) (b := b) (R := R) hDc7.1.1 hDc7.1.2.1 hvc7 hbc8) (by omega) (by rfl) (by rfl) (by rfl) (by rfl) (by rfl) (by rfl) ?_
                refine he_s 1 (pc' := cond (fx_cb .ne 0 0) 91 83) (lc' := [(5, .int (nI (sp_iC A.1.1 (sp_wd T n (sp_n T n (sp_n T n (sp_n T n (sp_n T n (sp_n T n p))))))))), (4, .int (nI (sp_v T n (sp_n T n (sp_n T n (sp_n T n p)))))), (2, .long (Int64.ofNat (sp_cd (sp_wd T n (sp_n T n p))))), (0, .ref 12), (1, .ref 41)]) (stk' := []) (mem' := cm gc7 lc6 a b R) (by intro _ _ _; eq_refl) ?_
                rw [show (fx_cb .ne 0 0) = false from by decide]
                dsimp only [cond]
                refine he_s 3 (pc' := 88) (lc' := [(5, .int (nI (sp_iC A.1.1 (sp_wd T n (sp_n T n (sp_n T n (sp_n T n (sp_n T n (sp_n T n p))))))))), (4, .int (nI (sp_v T n (sp_n T n (sp_n T n (sp_n T n p)))))), (2, .long (Int64.ofNat (sp_cd (sp_wd T n (sp_n T n p))))), (0, .ref 12), (1, .ref 41)]) (stk' := [.int 5, .ref 9]) (mem' := cm gc7 lc6 a b R) (by intro _ _ _; eq_refl) ?_
                obtain ⟨gc9, hrc9, hmc9, frc9⟩ := ha_fail (a := a) (b := b) (R := R) (x := 5) hmc7 (by decide)
                refine he_ivV hrc9 (by omega) (by rfl) (by rfl) (by rfl) (by rfl) (by rfl) (by rfl) ?_
                have fc9_52_7 : gc9 52 7 = nI (A.1.2.length) := (congrFun (frc9.1 52 (by decide)) 7).trans fc7_52_7
                have hfc9 := cfr_tr hfc7 frc9
                have hDc9 := cd_fr hDc7 frc9 (by decide) (by decide)
                have hsc9 : cst gc9 s := ⟨hsc7.1, (congrFun (frc9.1 12 (by decide)) 1).trans hsc7.2⟩
                refine he_s 2 (pc' := 95) (lc' := [(5, .int (nI (sp_iC A.1.1 (sp_wd T n (sp_n T n (sp_n T n (sp_n T n (sp_n T n (sp_n T n p))))))))), (4, .int (nI (sp_v T n (sp_n T n (sp_n T n (sp_n T n p)))))), (2, .long (Int64.ofNat (sp_cd (sp_wd T n (sp_n T n p))))), (0, .ref 12), (1, .ref 41)]) (stk' := [.ref 9]) (mem' := cm gc9 lc6 a b R) (by intro _ _ _; eq_refl) ?_
                obtain ⟨gc10, lc10, hrc10, hmc10, frc10⟩ := ha_scanq (R := R) hg hmc9
                refine he_ivV hrc10 (by omega) (by rfl) (by rfl) (by rfl) (by rfl) (by rfl) (by rfl) ?_
                have fc10_52_7 : gc10 52 7 = nI (A.1.2.length) := (congrFun (frc10.1 52 (by decide)) 7).trans fc9_52_7
                have hfc10 := cfr_tr hfc9 frc10
                have hDc10 := cd_fr hDc9 frc10 (by decide) (by decide)
                have hsc10 : cst gc10 s := ⟨hsc9.1, (congrFun (frc10.1 12 (by decide)) 1).trans hsc9.2⟩
                refine he_s 3 (pc' := 104) (lc' := [(5, .int (nI (sp_iC A.1.1 (sp_wd T n (sp_n T n (sp_n T n (sp_n T n (sp_n T n (sp_n T n p))))))))), (4, .int (nI (sp_v T n (sp_n T n (sp_n T n (sp_n T n p)))))), (2, .long (Int64.ofNat (sp_cd (sp_wd T n (sp_n T n p))))), (0, .ref 12), (1, .ref 41)]) (stk' := [.int 59, .ref 9]) (mem' := cm gc10 lc10 a b R) (by intro _ _ _; eq_refl) ?_
                obtain ⟨vc11, memc11, ⟨gc11, lc11, frc11, hmc11, hRc11⟩, hrc11⟩ := ha_psq0 (x := 59) (R := R) hg hmc10
                cases hRc11
                refine he_ivV hrc11 (by omega) (by rfl) (by rfl) (by rfl) (by rfl) (by rfl) (by rfl) ?_
                have fc11_52_7 : gc11 52 7 = nI (A.1.2.length) := (congrFun (frc11.1 52 (by decide)) 7).trans fc10_52_7
                have hfc11 := cfr_tr hfc10 frc11
                have hDc11 := cd_fr hDc10 frc11 (by decide) (by decide)
                have hsc11 : cst gc11 s := ⟨hsc10.1, (congrFun (frc11.1 12 (by decide)) 1).trans hsc10.2⟩
                refine he_s 1 (pc' := cond (fx_cb .eq 0 0) 119 110) (lc' := [(5, .int (nI (sp_iC A.1.1 (sp_wd T n (sp_n T n (sp_n T n (sp_n T n (sp_n T n (sp_n T n p))))))))), (4, .int (nI (sp_v T n (sp_n T n (sp_n T n (sp_n T n p)))))), (2, .long (Int64.ofNat (sp_cd (sp_wd T n (sp_n T n p))))), (0, .ref 12), (1, .ref 41)]) (stk' := []) (mem' := cm gc11 lc11 a b R) (by intro _ _ _; eq_refl) ?_
                rw [show (fx_cb .eq 0 0) = true from by decide]
                dsimp only [cond]
                refine he_ret ⟨_, _, _, _, cfd_c hfc11, ?_, rfl⟩ (by rfl) (by rfl) (by rfl)
                unfold sp_pWalk
                rw [if_neg (by omega), sp_new_t hwc3 hvc3, sp_word_t hwc4, sp_num_t hwc5 hvc5, sp_word_t hwc6, sp_cell_t hwc7 hvc7, if_neg (by rw [hsc8]; decide)]
                exact hmc11
              · rw [hsc8, if_pos rfl] at hbc8
                refine he_ivV (ha_is411 (g := gc7) (l := lc6) (a := a) (b := b) (R := R) hDc7.1.1 hDc7.1.2.1 hvc7 hbc8) (by omega) (by rfl) (by rfl) (by rfl) (by rfl) (by rfl) (by rfl) ?_
                refine he_s 1 (pc' := cond (fx_cb .ne 1 0) 91 83) (lc' := [(5, .int (nI (sp_iC A.1.1 (sp_wd T n (sp_n T n (sp_n T n (sp_n T n (sp_n T n (sp_n T n p))))))))), (4, .int (nI (sp_v T n (sp_n T n (sp_n T n (sp_n T n p)))))), (2, .long (Int64.ofNat (sp_cd (sp_wd T n (sp_n T n p))))), (0, .ref 12), (1, .ref 41)]) (stk' := []) (mem' := cm gc7 lc6 a b R) (by intro _ _ _; eq_refl) ?_
                rw [show (fx_cb .ne 1 0) = true from by decide]
                dsimp only [cond]
                refine he_s 2 (pc' := 95) (lc' := [(5, .int (nI (sp_iC A.1.1 (sp_wd T n (sp_n T n (sp_n T n (sp_n T n (sp_n T n (sp_n T n p))))))))), (4, .int (nI (sp_v T n (sp_n T n (sp_n T n (sp_n T n p)))))), (2, .long (Int64.ofNat (sp_cd (sp_wd T n (sp_n T n p))))), (0, .ref 12), (1, .ref 41)]) (stk' := [.ref 9]) (mem' := cm gc7 lc6 a b R) (by intro _ _ _; eq_refl) ?_
                obtain ⟨gc12, lc12, hrc12, hmc12, frc12⟩ := ha_scano (R := R) hg hmc7
                refine he_ivV hrc12 (by omega) (by rfl) (by rfl) (by rfl) (by rfl) (by rfl) (by rfl) ?_
                have fc12_52_7 : gc12 52 7 = nI (A.1.2.length) := (congrFun (frc12.1 52 (by decide)) 7).trans fc7_52_7
                have hfc12 := cfr_tr hfc7 frc12
                have hDc12 := cd_fr hDc7 frc12 (by decide) (by decide)
                have hsc12 : cst gc12 s := ⟨hsc7.1, (congrFun (frc12.1 12 (by decide)) 1).trans hsc7.2⟩
                refine he_s 3 (pc' := 104) (lc' := [(5, .int (nI (sp_iC A.1.1 (sp_wd T n (sp_n T n (sp_n T n (sp_n T n (sp_n T n (sp_n T n p))))))))), (4, .int (nI (sp_v T n (sp_n T n (sp_n T n (sp_n T n p)))))), (2, .long (Int64.ofNat (sp_cd (sp_wd T n (sp_n T n p))))), (0, .ref 12), (1, .ref 41)]) (stk' := [.int 59, .ref 9]) (mem' := cm gc12 lc12 a b R) (by intro _ _ _; eq_refl) ?_
                obtain ⟨vc13, memc13, ⟨xc13, gc13, lc13, frc13, hxc13, hRc13⟩, hrc13⟩ := ha_ps0 (w := 59) (R := R) hg (by decide) hmc12
                cases hRc13
                refine he_ivV hrc13 (by omega) (by rfl) (by rfl) (by rfl) (by rfl) (by rfl) (by rfl) ?_
                have fc13_52_7 : gc13 52 7 = nI (A.1.2.length) := (congrFun (frc13.1 52 (by decide)) 7).trans fc12_52_7
                have hfc13 := cfr_tr hfc12 frc13
                have hDc13 := cd_fr hDc12 frc13 (by decide) (by decide)
                have hsc13 : cst gc13 s := ⟨hsc12.1, (congrFun (frc13.1 12 (by decide)) 1).trans hsc12.2⟩
                rcases hxc13 with ⟨hwc13, rfl, hmc13⟩ | ⟨hwc13, rfl, hmc13⟩
                · refine he_s 1 (pc' := cond (fx_cb .eq 1 0) 119 110) (lc' := [(5, .int (nI (sp_iC A.1.1 (sp_wd T n (sp_n T n (sp_n T n (sp_n T n (sp_n T n (sp_n T n p))))))))), (4, .int (nI (sp_v T n (sp_n T n (sp_n T n (sp_n T n p)))))), (2, .long (Int64.ofNat (sp_cd (sp_wd T n (sp_n T n p))))), (0, .ref 12), (1, .ref 41)]) (stk' := []) (mem' := cm gc13 lc13 a b R) (by intro _ _ _; eq_refl) ?_
                  rw [show (fx_cb .eq 1 0) = false from by decide]
                  dsimp only [cond]
                  refine he_s 4 (pc' := 116) (lc' := [(5, .int (nI (sp_iC A.1.1 (sp_wd T n (sp_n T n (sp_n T n (sp_n T n (sp_n T n (sp_n T n p))))))))), (4, .int (nI (sp_v T n (sp_n T n (sp_n T n (sp_n T n p)))))), (2, .long (Int64.ofNat (sp_cd (sp_wd T n (sp_n T n p))))), (0, .ref 12), (1, .ref 41)]) (stk' := [.int (nI (sp_iC A.1.1 (sp_wd T n (sp_n T n (sp_n T n (sp_n T n (sp_n T n (sp_n T n p)))))))), .int (nI (sp_v T n (sp_n T n (sp_n T n (sp_n T n p))))), .long (Int64.ofNat (sp_cd (sp_wd T n (sp_n T n p)))), .ref 41]) (mem' := cm gc13 lc13 a b R) (by intro _ _ _; eq_refl) ?_
                  obtain ⟨gc14, ac14, bc14, hrc14, hDc14, hdc14⟩ := ha_addW (l := lc13) (R := R) (w := (sp_v T n (sp_n T n (sp_n T n (sp_n T n p))))) (i := (sp_iC A.1.1 (sp_wd T n (sp_n T n (sp_n T n (sp_n T n (sp_n T n (sp_n T n p)))))))) hDc13 (by omega) (sp_nm_lt (n := n) (p := (sp_n T n p)) (sp_n_le h.1) hwc3).1 (sp_nm_lt (n := n) (p := (sp_n T n p)) (sp_n_le h.1) hwc3).2 (by omega) (by omega) (by omega)
                  refine he_ivV hrc14 (by omega) (by rfl) (by rfl) (by rfl) (by rfl) (by rfl) (by rfl) ?_
                  have hsc14 : cst gc14 s := ⟨hsc13.1, (congrFun (hdc14 12 (by decide)).1 1).trans hsc13.2⟩
                  refine he_ret ⟨_, _, _, _, cfd_tr (cfd_c hfc13) (cfd_d hdc14), ?_, rfl⟩ (by rfl) (by rfl) (by rfl)
                  unfold sp_pWalk
                  rw [if_neg (by omega), sp_new_t hwc3 hvc3, sp_word_t hwc4, sp_num_t hwc5 hvc5, sp_word_t hwc6, sp_cell_t hwc7 hvc7, if_pos hsc8, sp_fin_t hwc13]
                  exact ⟨co_d hmc13 hdc14, hDc14, hsc14⟩
                · refine he_s 1 (pc' := cond (fx_cb .eq 0 0) 119 110) (lc' := [(5, .int (nI (sp_iC A.1.1 (sp_wd T n (sp_n T n (sp_n T n (sp_n T n (sp_n T n (sp_n T n p))))))))), (4, .int (nI (sp_v T n (sp_n T n (sp_n T n (sp_n T n p)))))), (2, .long (Int64.ofNat (sp_cd (sp_wd T n (sp_n T n p))))), (0, .ref 12), (1, .ref 41)]) (stk' := []) (mem' := cm gc13 lc13 a b R) (by intro _ _ _; eq_refl) ?_
                  rw [show (fx_cb .eq 0 0) = true from by decide]
                  dsimp only [cond]
                  refine he_ret ⟨_, _, _, _, cfd_c hfc13, ?_, rfl⟩ (by rfl) (by rfl) (by rfl)
                  unfold sp_pWalk
                  rw [if_neg (by omega), sp_new_t hwc3 hvc3, sp_word_t hwc4, sp_num_t hwc5 hvc5, sp_word_t hwc6, sp_cell_t hwc7 hvc7, if_pos hsc8, sp_fin_f hwc13]
                  exact hmc13
            · refine he_s 3 (pc' := 77) (lc' := [(5, .int (-1)), (4, .int (nI (sp_v T n (sp_n T n (sp_n T n (sp_n T n p)))))), (2, .long (Int64.ofNat (sp_cd (sp_wd T n (sp_n T n p))))), (0, .ref 12), (1, .ref 41)]) (stk' := [.int (-1), .ref 41]) (mem' := cm gc7 lc6 a b R) (by intro _ _ _; eq_refl) ?_
              obtain ⟨vc15, memc15, ⟨xc15, hxc15, hRc15⟩, hrc15⟩ := ha_isq41 (g := gc7) (l := lc6) (a := a) (b := b) (R := R) (x := (-1))
              cases hRc15
              refine he_ivV hrc15 (by omega) (by rfl) (by rfl) (by rfl) (by rfl) (by rfl) (by rfl) ?_
              rcases hxc15 with rfl | rfl
              · refine he_s 1 (pc' := cond (fx_cb .ne 0 0) 91 83) (lc' := [(5, .int (-1)), (4, .int (nI (sp_v T n (sp_n T n (sp_n T n (sp_n T n p)))))), (2, .long (Int64.ofNat (sp_cd (sp_wd T n (sp_n T n p))))), (0, .ref 12), (1, .ref 41)]) (stk' := []) (mem' := cm gc7 lc6 a b R) (by intro _ _ _; eq_refl) ?_
                rw [show (fx_cb .ne 0 0) = false from by decide]
                dsimp only [cond]
                refine he_s 3 (pc' := 88) (lc' := [(5, .int (-1)), (4, .int (nI (sp_v T n (sp_n T n (sp_n T n (sp_n T n p)))))), (2, .long (Int64.ofNat (sp_cd (sp_wd T n (sp_n T n p))))), (0, .ref 12), (1, .ref 41)]) (stk' := [.int 5, .ref 9]) (mem' := cm gc7 lc6 a b R) (by intro _ _ _; eq_refl) ?_
                refine he_ivV (ha_failq (a := a) (b := b) (R := R) (x := 5) hmc7) (by omega) (by rfl) (by rfl) (by rfl) (by rfl) (by rfl) (by rfl) ?_
                refine he_s 2 (pc' := 95) (lc' := [(5, .int (-1)), (4, .int (nI (sp_v T n (sp_n T n (sp_n T n (sp_n T n p)))))), (2, .long (Int64.ofNat (sp_cd (sp_wd T n (sp_n T n p))))), (0, .ref 12), (1, .ref 41)]) (stk' := [.ref 9]) (mem' := cm gc7 lc6 a b R) (by intro _ _ _; eq_refl) ?_
                obtain ⟨gc17, lc17, hrc17, hmc17, frc17⟩ := ha_scanq (R := R) hg hmc7
                refine he_ivV hrc17 (by omega) (by rfl) (by rfl) (by rfl) (by rfl) (by rfl) (by rfl) ?_
                have fc17_52_7 : gc17 52 7 = nI (A.1.2.length) := (congrFun (frc17.1 52 (by decide)) 7).trans fc7_52_7
                have hfc17 := cfr_tr hfc7 frc17
                have hDc17 := cd_fr hDc7 frc17 (by decide) (by decide)
                have hsc17 : cst gc17 s := ⟨hsc7.1, (congrFun (frc17.1 12 (by decide)) 1).trans hsc7.2⟩
                refine he_s 3 (pc' := 104) (lc' := [(5, .int (-1)), (4, .int (nI (sp_v T n (sp_n T n (sp_n T n (sp_n T n p)))))), (2, .long (Int64.ofNat (sp_cd (sp_wd T n (sp_n T n p))))), (0, .ref 12), (1, .ref 41)]) (stk' := [.int 59, .ref 9]) (mem' := cm gc17 lc17 a b R) (by intro _ _ _; eq_refl) ?_
                obtain ⟨vc18, memc18, ⟨gc18, lc18, frc18, hmc18, hRc18⟩, hrc18⟩ := ha_psq0 (x := 59) (R := R) hg hmc17
                cases hRc18
                refine he_ivV hrc18 (by omega) (by rfl) (by rfl) (by rfl) (by rfl) (by rfl) (by rfl) ?_
                have fc18_52_7 : gc18 52 7 = nI (A.1.2.length) := (congrFun (frc18.1 52 (by decide)) 7).trans fc17_52_7
                have hfc18 := cfr_tr hfc17 frc18
                have hDc18 := cd_fr hDc17 frc18 (by decide) (by decide)
                have hsc18 : cst gc18 s := ⟨hsc17.1, (congrFun (frc18.1 12 (by decide)) 1).trans hsc17.2⟩
                refine he_s 1 (pc' := cond (fx_cb .eq 0 0) 119 110) (lc' := [(5, .int (-1)), (4, .int (nI (sp_v T n (sp_n T n (sp_n T n (sp_n T n p)))))), (2, .long (Int64.ofNat (sp_cd (sp_wd T n (sp_n T n p))))), (0, .ref 12), (1, .ref 41)]) (stk' := []) (mem' := cm gc18 lc18 a b R) (by intro _ _ _; eq_refl) ?_
                rw [show (fx_cb .eq 0 0) = true from by decide]
                dsimp only [cond]
                refine he_ret ⟨_, _, _, _, cfd_c hfc18, ?_, rfl⟩ (by rfl) (by rfl) (by rfl)
                unfold sp_pWalk
                rw [if_neg (by omega), sp_new_t hwc3 hvc3, sp_word_t hwc4, sp_num_t hwc5 hvc5, sp_word_t hwc6, sp_cell_3 hwc7 hvc7]
                exact hmc18
              · refine he_s 1 (pc' := cond (fx_cb .ne 1 0) 91 83) (lc' := [(5, .int (-1)), (4, .int (nI (sp_v T n (sp_n T n (sp_n T n (sp_n T n p)))))), (2, .long (Int64.ofNat (sp_cd (sp_wd T n (sp_n T n p))))), (0, .ref 12), (1, .ref 41)]) (stk' := []) (mem' := cm gc7 lc6 a b R) (by intro _ _ _; eq_refl) ?_
                rw [show (fx_cb .ne 1 0) = true from by decide]
                dsimp only [cond]
                refine he_s 2 (pc' := 95) (lc' := [(5, .int (-1)), (4, .int (nI (sp_v T n (sp_n T n (sp_n T n (sp_n T n p)))))), (2, .long (Int64.ofNat (sp_cd (sp_wd T n (sp_n T n p))))), (0, .ref 12), (1, .ref 41)]) (stk' := [.ref 9]) (mem' := cm gc7 lc6 a b R) (by intro _ _ _; eq_refl) ?_
                obtain ⟨gc19, lc19, hrc19, hmc19, frc19⟩ := ha_scanq (R := R) hg hmc7
                refine he_ivV hrc19 (by omega) (by rfl) (by rfl) (by rfl) (by rfl) (by rfl) (by rfl) ?_
                have fc19_52_7 : gc19 52 7 = nI (A.1.2.length) := (congrFun (frc19.1 52 (by decide)) 7).trans fc7_52_7
                have hfc19 := cfr_tr hfc7 frc19
                have hDc19 := cd_fr hDc7 frc19 (by decide) (by decide)
                have hsc19 : cst gc19 s := ⟨hsc7.1, (congrFun (frc19.1 12 (by decide)) 1).trans hsc7.2⟩
                refine he_s 3 (pc' := 104) (lc' := [(5, .int (-1)), (4, .int (nI (sp_v T n (sp_n T n (sp_n T n (sp_n T n p)))))), (2, .long (Int64.ofNat (sp_cd (sp_wd T n (sp_n T n p))))), (0, .ref 12), (1, .ref 41)]) (stk' := [.int 59, .ref 9]) (mem' := cm gc19 lc19 a b R) (by intro _ _ _; eq_refl) ?_
                obtain ⟨vc20, memc20, ⟨gc20, lc20, frc20, hmc20, hRc20⟩, hrc20⟩ := ha_psq0 (x := 59) (R := R) hg hmc19
                cases hRc20
                refine he_ivV hrc20 (by omega) (by rfl) (by rfl) (by rfl) (by rfl) (by rfl) (by rfl) ?_
                have fc20_52_7 : gc20 52 7 = nI (A.1.2.length) := (congrFun (frc20.1 52 (by decide)) 7).trans fc19_52_7
                have hfc20 := cfr_tr hfc19 frc20
                have hDc20 := cd_fr hDc19 frc20 (by decide) (by decide)
                have hsc20 : cst gc20 s := ⟨hsc19.1, (congrFun (frc20.1 12 (by decide)) 1).trans hsc19.2⟩
                refine he_s 1 (pc' := cond (fx_cb .eq 0 0) 119 110) (lc' := [(5, .int (-1)), (4, .int (nI (sp_v T n (sp_n T n (sp_n T n (sp_n T n p)))))), (2, .long (Int64.ofNat (sp_cd (sp_wd T n (sp_n T n p))))), (0, .ref 12), (1, .ref 41)]) (stk' := []) (mem' := cm gc20 lc20 a b R) (by intro _ _ _; eq_refl) ?_
                rw [show (fx_cb .eq 0 0) = true from by decide]
                dsimp only [cond]
                refine he_ret ⟨_, _, _, _, cfd_c hfc20, ?_, rfl⟩ (by rfl) (by rfl) (by rfl)
                unfold sp_pWalk
                rw [if_neg (by omega), sp_new_t hwc3 hvc3, sp_word_t hwc4, sp_num_t hwc5 hvc5, sp_word_t hwc6, sp_cell_3 hwc7 hvc7]
                exact hmc20
            · refine he_s 3 (pc' := 77) (lc' := [(5, .int (-1)), (4, .int (nI (sp_v T n (sp_n T n (sp_n T n (sp_n T n p)))))), (2, .long (Int64.ofNat (sp_cd (sp_wd T n (sp_n T n p))))), (0, .ref 12), (1, .ref 41)]) (stk' := [.int (-1), .ref 41]) (mem' := cm gc7 lc6 a b R) (by intro _ _ _; eq_refl) ?_
              obtain ⟨vc21, memc21, ⟨xc21, hxc21, hRc21⟩, hrc21⟩ := ha_isq41 (g := gc7) (l := lc6) (a := a) (b := b) (R := R) (x := (-1))
              cases hRc21
              refine he_ivV hrc21 (by omega) (by rfl) (by rfl) (by rfl) (by rfl) (by rfl) (by rfl) ?_
              rcases hxc21 with rfl | rfl
              · refine he_s 1 (pc' := cond (fx_cb .ne 0 0) 91 83) (lc' := [(5, .int (-1)), (4, .int (nI (sp_v T n (sp_n T n (sp_n T n (sp_n T n p)))))), (2, .long (Int64.ofNat (sp_cd (sp_wd T n (sp_n T n p))))), (0, .ref 12), (1, .ref 41)]) (stk' := []) (mem' := cm gc7 lc6 a b R) (by intro _ _ _; eq_refl) ?_
                rw [show (fx_cb .ne 0 0) = false from by decide]
                dsimp only [cond]
                refine he_s 3 (pc' := 88) (lc' := [(5, .int (-1)), (4, .int (nI (sp_v T n (sp_n T n (sp_n T n (sp_n T n p)))))), (2, .long (Int64.ofNat (sp_cd (sp_wd T n (sp_n T n p))))), (0, .ref 12), (1, .ref 41)]) (stk' := [.int 5, .ref 9]) (mem' := cm gc7 lc6 a b R) (by intro _ _ _; eq_refl) ?_
                refine he_ivV (ha_failq (a := a) (b := b) (R := R) (x := 5) hmc7) (by omega) (by rfl) (by rfl) (by rfl) (by rfl) (by rfl) (by rfl) ?_
                refine he_s 2 (pc' := 95) (lc' := [(5, .int (-1)), (4, .int (nI (sp_v T n (sp_n T n (sp_n T n (sp_n T n p)))))), (2, .long (Int64.ofNat (sp_cd (sp_wd T n (sp_n T n p))))), (0, .ref 12), (1, .ref 41)]) (stk' := [.ref 9]) (mem' := cm gc7 lc6 a b R) (by intro _ _ _; eq_refl) ?_
                obtain ⟨gc23, lc23, hrc23, hmc23, frc23⟩ := ha_scanq (R := R) hg hmc7
                refine he_ivV hrc23 (by omega) (by rfl) (by rfl) (by rfl) (by rfl) (by rfl) (by rfl) ?_
                have fc23_52_7 : gc23 52 7 = nI (A.1.2.length) := (congrFun (frc23.1 52 (by decide)) 7).trans fc7_52_7
                have hfc23 := cfr_tr hfc7 frc23
                have hDc23 := cd_fr hDc7 frc23 (by decide) (by decide)
                have hsc23 : cst gc23 s := ⟨hsc7.1, (congrFun (frc23.1 12 (by decide)) 1).trans hsc7.2⟩
                refine he_s 3 (pc' := 104) (lc' := [(5, .int (-1)), (4, .int (nI (sp_v T n (sp_n T n (sp_n T n (sp_n T n p)))))), (2, .long (Int64.ofNat (sp_cd (sp_wd T n (sp_n T n p))))), (0, .ref 12), (1, .ref 41)]) (stk' := [.int 59, .ref 9]) (mem' := cm gc23 lc23 a b R) (by intro _ _ _; eq_refl) ?_
                obtain ⟨vc24, memc24, ⟨gc24, lc24, frc24, hmc24, hRc24⟩, hrc24⟩ := ha_psq0 (x := 59) (R := R) hg hmc23
                cases hRc24
                refine he_ivV hrc24 (by omega) (by rfl) (by rfl) (by rfl) (by rfl) (by rfl) (by rfl) ?_
                have fc24_52_7 : gc24 52 7 = nI (A.1.2.length) := (congrFun (frc24.1 52 (by decide)) 7).trans fc23_52_7
                have hfc24 := cfr_tr hfc23 frc24
                have hDc24 := cd_fr hDc23 frc24 (by decide) (by decide)
                have hsc24 : cst gc24 s := ⟨hsc23.1, (congrFun (frc24.1 12 (by decide)) 1).trans hsc23.2⟩
                refine he_s 1 (pc' := cond (fx_cb .eq 0 0) 119 110) (lc' := [(5, .int (-1)), (4, .int (nI (sp_v T n (sp_n T n (sp_n T n (sp_n T n p)))))), (2, .long (Int64.ofNat (sp_cd (sp_wd T n (sp_n T n p))))), (0, .ref 12), (1, .ref 41)]) (stk' := []) (mem' := cm gc24 lc24 a b R) (by intro _ _ _; eq_refl) ?_
                rw [show (fx_cb .eq 0 0) = true from by decide]
                dsimp only [cond]
                refine he_ret ⟨_, _, _, _, cfd_c hfc24, ?_, rfl⟩ (by rfl) (by rfl) (by rfl)
                unfold sp_pWalk
                rw [if_neg (by omega), sp_new_t hwc3 hvc3, sp_word_t hwc4, sp_num_t hwc5 hvc5, sp_word_t hwc6, sp_cell_f hwc7]
                exact hmc24
              · refine he_s 1 (pc' := cond (fx_cb .ne 1 0) 91 83) (lc' := [(5, .int (-1)), (4, .int (nI (sp_v T n (sp_n T n (sp_n T n (sp_n T n p)))))), (2, .long (Int64.ofNat (sp_cd (sp_wd T n (sp_n T n p))))), (0, .ref 12), (1, .ref 41)]) (stk' := []) (mem' := cm gc7 lc6 a b R) (by intro _ _ _; eq_refl) ?_
                rw [show (fx_cb .ne 1 0) = true from by decide]
                dsimp only [cond]
                refine he_s 2 (pc' := 95) (lc' := [(5, .int (-1)), (4, .int (nI (sp_v T n (sp_n T n (sp_n T n (sp_n T n p)))))), (2, .long (Int64.ofNat (sp_cd (sp_wd T n (sp_n T n p))))), (0, .ref 12), (1, .ref 41)]) (stk' := [.ref 9]) (mem' := cm gc7 lc6 a b R) (by intro _ _ _; eq_refl) ?_
                obtain ⟨gc25, lc25, hrc25, hmc25, frc25⟩ := ha_scanq (R := R) hg hmc7
                refine he_ivV hrc25 (by omega) (by rfl) (by rfl) (by rfl) (by rfl) (by rfl) (by rfl) ?_
                have fc25_52_7 : gc25 52 7 = nI (A.1.2.length) := (congrFun (frc25.1 52 (by decide)) 7).trans fc7_52_7
                have hfc25 := cfr_tr hfc7 frc25
                have hDc25 := cd_fr hDc7 frc25 (by decide) (by decide)
                have hsc25 : cst gc25 s := ⟨hsc7.1, (congrFun (frc25.1 12 (by decide)) 1).trans hsc7.2⟩
                refine he_s 3 (pc' := 104) (lc' := [(5, .int (-1)), (4, .int (nI (sp_v T n (sp_n T n (sp_n T n (sp_n T n p)))))), (2, .long (Int64.ofNat (sp_cd (sp_wd T n (sp_n T n p))))), (0, .ref 12), (1, .ref 41)]) (stk' := [.int 59, .ref 9]) (mem' := cm gc25 lc25 a b R) (by intro _ _ _; eq_refl) ?_
                obtain ⟨vc26, memc26, ⟨gc26, lc26, frc26, hmc26, hRc26⟩, hrc26⟩ := ha_psq0 (x := 59) (R := R) hg hmc25
                cases hRc26
                refine he_ivV hrc26 (by omega) (by rfl) (by rfl) (by rfl) (by rfl) (by rfl) (by rfl) ?_
                have fc26_52_7 : gc26 52 7 = nI (A.1.2.length) := (congrFun (frc26.1 52 (by decide)) 7).trans fc25_52_7
                have hfc26 := cfr_tr hfc25 frc26
                have hDc26 := cd_fr hDc25 frc26 (by decide) (by decide)
                have hsc26 : cst gc26 s := ⟨hsc25.1, (congrFun (frc26.1 12 (by decide)) 1).trans hsc25.2⟩
                refine he_s 1 (pc' := cond (fx_cb .eq 0 0) 119 110) (lc' := [(5, .int (-1)), (4, .int (nI (sp_v T n (sp_n T n (sp_n T n (sp_n T n p)))))), (2, .long (Int64.ofNat (sp_cd (sp_wd T n (sp_n T n p))))), (0, .ref 12), (1, .ref 41)]) (stk' := []) (mem' := cm gc26 lc26 a b R) (by intro _ _ _; eq_refl) ?_
                rw [show (fx_cb .eq 0 0) = true from by decide]
                dsimp only [cond]
                refine he_ret ⟨_, _, _, _, cfd_c hfc26, ?_, rfl⟩ (by rfl) (by rfl) (by rfl)
                unfold sp_pWalk
                rw [if_neg (by omega), sp_new_t hwc3 hvc3, sp_word_t hwc4, sp_num_t hwc5 hvc5, sp_word_t hwc6, sp_cell_f hwc7]
                exact hmc26
          · refine he_s 3 (pc' := 69) (lc' := [(4, .int (nI (sp_v T n (sp_n T n (sp_n T n (sp_n T n p)))))), (2, .long (Int64.ofNat (sp_cd (sp_wd T n (sp_n T n p))))), (0, .ref 12), (1, .ref 41)]) (stk' := [.ref 41, .ref 9]) (mem' := cm gc6 lc6 a b R) (by intro _ _ _; eq_refl) ?_
            obtain ⟨vc27, memc27, ⟨xc27, gc27, lc27, frc27, hmc27, hbc27, hRc27⟩, hrc27⟩ := ha_ch41q0 (R := R) hg hDc6.1 hmc6
            cases hRc27
            refine he_ivV hrc27 (by omega) (by rfl) (by rfl) (by rfl) (by rfl) (by rfl) (by rfl) ?_
            have fc27_52_7 : gc27 52 7 = nI (A.1.2.length) := (congrFun (frc27.1 52 (by decide)) 7).trans fc6_52_7
            have hfc27 := cfr_tr hfc6 frc27
            have hDc27 := cd_fr hDc6 frc27 (by decide) (by decide)
            have hsc27 : cst gc27 s := ⟨hsc6.1, (congrFun (frc27.1 12 (by decide)) 1).trans hsc6.2⟩
            refine he_s 3 (pc' := 77) (lc' := [(5, .int xc27), (4, .int (nI (sp_v T n (sp_n T n (sp_n T n (sp_n T n p)))))), (2, .long (Int64.ofNat (sp_cd (sp_wd T n (sp_n T n p))))), (0, .ref 12), (1, .ref 41)]) (stk' := [.int xc27, .ref 41]) (mem' := cm gc27 lc27 a b R) (by intro _ _ _; eq_refl) ?_
            obtain ⟨vc28, memc28, ⟨xc28, hxc28, hRc28⟩, hrc28⟩ := ha_isq41 (g := gc27) (l := lc27) (a := a) (b := b) (R := R) (x := xc27)
            cases hRc28
            refine he_ivV hrc28 (by omega) (by rfl) (by rfl) (by rfl) (by rfl) (by rfl) (by rfl) ?_
            rcases hxc28 with rfl | rfl
            · refine he_s 1 (pc' := cond (fx_cb .ne 0 0) 91 83) (lc' := [(5, .int xc27), (4, .int (nI (sp_v T n (sp_n T n (sp_n T n (sp_n T n p)))))), (2, .long (Int64.ofNat (sp_cd (sp_wd T n (sp_n T n p))))), (0, .ref 12), (1, .ref 41)]) (stk' := []) (mem' := cm gc27 lc27 a b R) (by intro _ _ _; eq_refl) ?_
              rw [show (fx_cb .ne 0 0) = false from by decide]
              dsimp only [cond]
              refine he_s 3 (pc' := 88) (lc' := [(5, .int xc27), (4, .int (nI (sp_v T n (sp_n T n (sp_n T n (sp_n T n p)))))), (2, .long (Int64.ofNat (sp_cd (sp_wd T n (sp_n T n p))))), (0, .ref 12), (1, .ref 41)]) (stk' := [.int 5, .ref 9]) (mem' := cm gc27 lc27 a b R) (by intro _ _ _; eq_refl) ?_
              refine he_ivV (ha_failq (a := a) (b := b) (R := R) (x := 5) hmc27) (by omega) (by rfl) (by rfl) (by rfl) (by rfl) (by rfl) (by rfl) ?_
              refine he_s 2 (pc' := 95) (lc' := [(5, .int xc27), (4, .int (nI (sp_v T n (sp_n T n (sp_n T n (sp_n T n p)))))), (2, .long (Int64.ofNat (sp_cd (sp_wd T n (sp_n T n p))))), (0, .ref 12), (1, .ref 41)]) (stk' := [.ref 9]) (mem' := cm gc27 lc27 a b R) (by intro _ _ _; eq_refl) ?_
              obtain ⟨gc30, lc30, hrc30, hmc30, frc30⟩ := ha_scanq (R := R) hg hmc27
              refine he_ivV hrc30 (by omega) (by rfl) (by rfl) (by rfl) (by rfl) (by rfl) (by rfl) ?_
              have fc30_52_7 : gc30 52 7 = nI (A.1.2.length) := (congrFun (frc30.1 52 (by decide)) 7).trans fc27_52_7
              have hfc30 := cfr_tr hfc27 frc30
              have hDc30 := cd_fr hDc27 frc30 (by decide) (by decide)
              have hsc30 : cst gc30 s := ⟨hsc27.1, (congrFun (frc30.1 12 (by decide)) 1).trans hsc27.2⟩
              refine he_s 3 (pc' := 104) (lc' := [(5, .int xc27), (4, .int (nI (sp_v T n (sp_n T n (sp_n T n (sp_n T n p)))))), (2, .long (Int64.ofNat (sp_cd (sp_wd T n (sp_n T n p))))), (0, .ref 12), (1, .ref 41)]) (stk' := [.int 59, .ref 9]) (mem' := cm gc30 lc30 a b R) (by intro _ _ _; eq_refl) ?_
              obtain ⟨vc31, memc31, ⟨gc31, lc31, frc31, hmc31, hRc31⟩, hrc31⟩ := ha_psq0 (x := 59) (R := R) hg hmc30
              cases hRc31
              refine he_ivV hrc31 (by omega) (by rfl) (by rfl) (by rfl) (by rfl) (by rfl) (by rfl) ?_
              have fc31_52_7 : gc31 52 7 = nI (A.1.2.length) := (congrFun (frc31.1 52 (by decide)) 7).trans fc30_52_7
              have hfc31 := cfr_tr hfc30 frc31
              have hDc31 := cd_fr hDc30 frc31 (by decide) (by decide)
              have hsc31 : cst gc31 s := ⟨hsc30.1, (congrFun (frc31.1 12 (by decide)) 1).trans hsc30.2⟩
              refine he_s 1 (pc' := cond (fx_cb .eq 0 0) 119 110) (lc' := [(5, .int xc27), (4, .int (nI (sp_v T n (sp_n T n (sp_n T n (sp_n T n p)))))), (2, .long (Int64.ofNat (sp_cd (sp_wd T n (sp_n T n p))))), (0, .ref 12), (1, .ref 41)]) (stk' := []) (mem' := cm gc31 lc31 a b R) (by intro _ _ _; eq_refl) ?_
              rw [show (fx_cb .eq 0 0) = true from by decide]
              dsimp only [cond]
              refine he_ret ⟨_, _, _, _, cfd_c hfc31, ?_, rfl⟩ (by rfl) (by rfl) (by rfl)
              unfold sp_pWalk
              rw [if_neg (by omega), sp_new_t hwc3 hvc3, sp_word_t hwc4, sp_num_t hwc5 hvc5, sp_word_f hwc6]
              exact hmc31
            · refine he_s 1 (pc' := cond (fx_cb .ne 1 0) 91 83) (lc' := [(5, .int xc27), (4, .int (nI (sp_v T n (sp_n T n (sp_n T n (sp_n T n p)))))), (2, .long (Int64.ofNat (sp_cd (sp_wd T n (sp_n T n p))))), (0, .ref 12), (1, .ref 41)]) (stk' := []) (mem' := cm gc27 lc27 a b R) (by intro _ _ _; eq_refl) ?_
              rw [show (fx_cb .ne 1 0) = true from by decide]
              dsimp only [cond]
              refine he_s 2 (pc' := 95) (lc' := [(5, .int xc27), (4, .int (nI (sp_v T n (sp_n T n (sp_n T n (sp_n T n p)))))), (2, .long (Int64.ofNat (sp_cd (sp_wd T n (sp_n T n p))))), (0, .ref 12), (1, .ref 41)]) (stk' := [.ref 9]) (mem' := cm gc27 lc27 a b R) (by intro _ _ _; eq_refl) ?_
              obtain ⟨gc32, lc32, hrc32, hmc32, frc32⟩ := ha_scanq (R := R) hg hmc27
              refine he_ivV hrc32 (by omega) (by rfl) (by rfl) (by rfl) (by rfl) (by rfl) (by rfl) ?_
              have fc32_52_7 : gc32 52 7 = nI (A.1.2.length) := (congrFun (frc32.1 52 (by decide)) 7).trans fc27_52_7
              have hfc32 := cfr_tr hfc27 frc32
              have hDc32 := cd_fr hDc27 frc32 (by decide) (by decide)
              have hsc32 : cst gc32 s := ⟨hsc27.1, (congrFun (frc32.1 12 (by decide)) 1).trans hsc27.2⟩
              refine he_s 3 (pc' := 104) (lc' := [(5, .int xc27), (4, .int (nI (sp_v T n (sp_n T n (sp_n T n (sp_n T n p)))))), (2, .long (Int64.ofNat (sp_cd (sp_wd T n (sp_n T n p))))), (0, .ref 12), (1, .ref 41)]) (stk' := [.int 59, .ref 9]) (mem' := cm gc32 lc32 a b R) (by intro _ _ _; eq_refl) ?_
              obtain ⟨vc33, memc33, ⟨gc33, lc33, frc33, hmc33, hRc33⟩, hrc33⟩ := ha_psq0 (x := 59) (R := R) hg hmc32
              cases hRc33
              refine he_ivV hrc33 (by omega) (by rfl) (by rfl) (by rfl) (by rfl) (by rfl) (by rfl) ?_
              have fc33_52_7 : gc33 52 7 = nI (A.1.2.length) := (congrFun (frc33.1 52 (by decide)) 7).trans fc32_52_7
              have hfc33 := cfr_tr hfc32 frc33
              have hDc33 := cd_fr hDc32 frc33 (by decide) (by decide)
              have hsc33 : cst gc33 s := ⟨hsc32.1, (congrFun (frc33.1 12 (by decide)) 1).trans hsc32.2⟩
              refine he_s 1 (pc' := cond (fx_cb .eq 0 0) 119 110) (lc' := [(5, .int xc27), (4, .int (nI (sp_v T n (sp_n T n (sp_n T n (sp_n T n p)))))), (2, .long (Int64.ofNat (sp_cd (sp_wd T n (sp_n T n p))))), (0, .ref 12), (1, .ref 41)]) (stk' := []) (mem' := cm gc33 lc33 a b R) (by intro _ _ _; eq_refl) ?_
              rw [show (fx_cb .eq 0 0) = true from by decide]
              dsimp only [cond]
              refine he_ret ⟨_, _, _, _, cfd_c hfc33, ?_, rfl⟩ (by rfl) (by rfl) (by rfl)
              unfold sp_pWalk
              rw [if_neg (by omega), sp_new_t hwc3 hvc3, sp_word_t hwc4, sp_num_t hwc5 hvc5, sp_word_f hwc6]
              exact hmc33
        · refine he_s 4 (pc' := 61) (lc' := [(4, .int xc5), (2, .long (Int64.ofNat (sp_cd (sp_wd T n (sp_n T n p))))), (0, .ref 12), (1, .ref 41)]) (stk' := [.int 7, .ref 9]) (mem' := cm gc5 lc5 a b R) (by intro _ _ _; eq_refl) ?_
          obtain ⟨vc34, memc34, ⟨gc34, lc34, frc34, hmc34, hRc34⟩, hrc34⟩ := ha_pwq0 (x := 7) (R := R) hg hmc5
          cases hRc34
          refine he_ivV hrc34 (by omega) (by rfl) (by rfl) (by rfl) (by rfl) (by rfl) (by rfl) ?_
          have fc34_52_7 : gc34 52 7 = nI (A.1.2.length) := (congrFun (frc34.1 52 (by decide)) 7).trans fc5_52_7
          have hfc34 := cfr_tr hfc5 frc34
          have hDc34 := cd_fr hDc5 frc34 (by decide) (by decide)
          have hsc34 : cst gc34 s := ⟨hsc5.1, (congrFun (frc34.1 12 (by decide)) 1).trans hsc5.2⟩
          refine he_s 3 (pc' := 69) (lc' := [(4, .int xc5), (2, .long (Int64.ofNat (sp_cd (sp_wd T n (sp_n T n p))))), (0, .ref 12), (1, .ref 41)]) (stk' := [.ref 41, .ref 9]) (mem' := cm gc34 lc34 a b R) (by intro _ _ _; eq_refl) ?_
          obtain ⟨vc35, memc35, ⟨xc35, gc35, lc35, frc35, hmc35, hbc35, hRc35⟩, hrc35⟩ := ha_ch41q0 (R := R) hg hDc34.1 hmc34
          cases hRc35
          refine he_ivV hrc35 (by omega) (by rfl) (by rfl) (by rfl) (by rfl) (by rfl) (by rfl) ?_
          have fc35_52_7 : gc35 52 7 = nI (A.1.2.length) := (congrFun (frc35.1 52 (by decide)) 7).trans fc34_52_7
          have hfc35 := cfr_tr hfc34 frc35
          have hDc35 := cd_fr hDc34 frc35 (by decide) (by decide)
          have hsc35 : cst gc35 s := ⟨hsc34.1, (congrFun (frc35.1 12 (by decide)) 1).trans hsc34.2⟩
          refine he_s 3 (pc' := 77) (lc' := [(5, .int xc35), (4, .int xc5), (2, .long (Int64.ofNat (sp_cd (sp_wd T n (sp_n T n p))))), (0, .ref 12), (1, .ref 41)]) (stk' := [.int xc35, .ref 41]) (mem' := cm gc35 lc35 a b R) (by intro _ _ _; eq_refl) ?_
          obtain ⟨vc36, memc36, ⟨xc36, hxc36, hRc36⟩, hrc36⟩ := ha_isq41 (g := gc35) (l := lc35) (a := a) (b := b) (R := R) (x := xc35)
          cases hRc36
          refine he_ivV hrc36 (by omega) (by rfl) (by rfl) (by rfl) (by rfl) (by rfl) (by rfl) ?_
          rcases hxc36 with rfl | rfl
          · refine he_s 1 (pc' := cond (fx_cb .ne 0 0) 91 83) (lc' := [(5, .int xc35), (4, .int xc5), (2, .long (Int64.ofNat (sp_cd (sp_wd T n (sp_n T n p))))), (0, .ref 12), (1, .ref 41)]) (stk' := []) (mem' := cm gc35 lc35 a b R) (by intro _ _ _; eq_refl) ?_
            rw [show (fx_cb .ne 0 0) = false from by decide]
            dsimp only [cond]
            refine he_s 3 (pc' := 88) (lc' := [(5, .int xc35), (4, .int xc5), (2, .long (Int64.ofNat (sp_cd (sp_wd T n (sp_n T n p))))), (0, .ref 12), (1, .ref 41)]) (stk' := [.int 5, .ref 9]) (mem' := cm gc35 lc35 a b R) (by intro _ _ _; eq_refl) ?_
            refine he_ivV (ha_failq (a := a) (b := b) (R := R) (x := 5) hmc35) (by omega) (by rfl) (by rfl) (by rfl) (by rfl) (by rfl) (by rfl) ?_
            refine he_s 2 (pc' := 95) (lc' := [(5, .int xc35), (4, .int xc5), (2, .long (Int64.ofNat (sp_cd (sp_wd T n (sp_n T n p))))), (0, .ref 12), (1, .ref 41)]) (stk' := [.ref 9]) (mem' := cm gc35 lc35 a b R) (by intro _ _ _; eq_refl) ?_
            obtain ⟨gc38, lc38, hrc38, hmc38, frc38⟩ := ha_scanq (R := R) hg hmc35
            refine he_ivV hrc38 (by omega) (by rfl) (by rfl) (by rfl) (by rfl) (by rfl) (by rfl) ?_
            have fc38_52_7 : gc38 52 7 = nI (A.1.2.length) := (congrFun (frc38.1 52 (by decide)) 7).trans fc35_52_7
            have hfc38 := cfr_tr hfc35 frc38
            have hDc38 := cd_fr hDc35 frc38 (by decide) (by decide)
            have hsc38 : cst gc38 s := ⟨hsc35.1, (congrFun (frc38.1 12 (by decide)) 1).trans hsc35.2⟩
            refine he_s 3 (pc' := 104) (lc' := [(5, .int xc35), (4, .int xc5), (2, .long (Int64.ofNat (sp_cd (sp_wd T n (sp_n T n p))))), (0, .ref 12), (1, .ref 41)]) (stk' := [.int 59, .ref 9]) (mem' := cm gc38 lc38 a b R) (by intro _ _ _; eq_refl) ?_
            obtain ⟨vc39, memc39, ⟨gc39, lc39, frc39, hmc39, hRc39⟩, hrc39⟩ := ha_psq0 (x := 59) (R := R) hg hmc38
            cases hRc39
            refine he_ivV hrc39 (by omega) (by rfl) (by rfl) (by rfl) (by rfl) (by rfl) (by rfl) ?_
            have fc39_52_7 : gc39 52 7 = nI (A.1.2.length) := (congrFun (frc39.1 52 (by decide)) 7).trans fc38_52_7
            have hfc39 := cfr_tr hfc38 frc39
            have hDc39 := cd_fr hDc38 frc39 (by decide) (by decide)
            have hsc39 : cst gc39 s := ⟨hsc38.1, (congrFun (frc39.1 12 (by decide)) 1).trans hsc38.2⟩
            refine he_s 1 (pc' := cond (fx_cb .eq 0 0) 119 110) (lc' := [(5, .int xc35), (4, .int xc5), (2, .long (Int64.ofNat (sp_cd (sp_wd T n (sp_n T n p))))), (0, .ref 12), (1, .ref 41)]) (stk' := []) (mem' := cm gc39 lc39 a b R) (by intro _ _ _; eq_refl) ?_
            rw [show (fx_cb .eq 0 0) = true from by decide]
            dsimp only [cond]
            refine he_ret ⟨_, _, _, _, cfd_c hfc39, ?_, rfl⟩ (by rfl) (by rfl) (by rfl)
            unfold sp_pWalk
            rw [if_neg (by omega), sp_new_t hwc3 hvc3, sp_word_t hwc4, sp_num_4 hwc5 hvc5]
            exact hmc39
          · refine he_s 1 (pc' := cond (fx_cb .ne 1 0) 91 83) (lc' := [(5, .int xc35), (4, .int xc5), (2, .long (Int64.ofNat (sp_cd (sp_wd T n (sp_n T n p))))), (0, .ref 12), (1, .ref 41)]) (stk' := []) (mem' := cm gc35 lc35 a b R) (by intro _ _ _; eq_refl) ?_
            rw [show (fx_cb .ne 1 0) = true from by decide]
            dsimp only [cond]
            refine he_s 2 (pc' := 95) (lc' := [(5, .int xc35), (4, .int xc5), (2, .long (Int64.ofNat (sp_cd (sp_wd T n (sp_n T n p))))), (0, .ref 12), (1, .ref 41)]) (stk' := [.ref 9]) (mem' := cm gc35 lc35 a b R) (by intro _ _ _; eq_refl) ?_
            obtain ⟨gc40, lc40, hrc40, hmc40, frc40⟩ := ha_scanq (R := R) hg hmc35
            refine he_ivV hrc40 (by omega) (by rfl) (by rfl) (by rfl) (by rfl) (by rfl) (by rfl) ?_
            have fc40_52_7 : gc40 52 7 = nI (A.1.2.length) := (congrFun (frc40.1 52 (by decide)) 7).trans fc35_52_7
            have hfc40 := cfr_tr hfc35 frc40
            have hDc40 := cd_fr hDc35 frc40 (by decide) (by decide)
            have hsc40 : cst gc40 s := ⟨hsc35.1, (congrFun (frc40.1 12 (by decide)) 1).trans hsc35.2⟩
            refine he_s 3 (pc' := 104) (lc' := [(5, .int xc35), (4, .int xc5), (2, .long (Int64.ofNat (sp_cd (sp_wd T n (sp_n T n p))))), (0, .ref 12), (1, .ref 41)]) (stk' := [.int 59, .ref 9]) (mem' := cm gc40 lc40 a b R) (by intro _ _ _; eq_refl) ?_
            obtain ⟨vc41, memc41, ⟨gc41, lc41, frc41, hmc41, hRc41⟩, hrc41⟩ := ha_psq0 (x := 59) (R := R) hg hmc40
            cases hRc41
            refine he_ivV hrc41 (by omega) (by rfl) (by rfl) (by rfl) (by rfl) (by rfl) (by rfl) ?_
            have fc41_52_7 : gc41 52 7 = nI (A.1.2.length) := (congrFun (frc41.1 52 (by decide)) 7).trans fc40_52_7
            have hfc41 := cfr_tr hfc40 frc41
            have hDc41 := cd_fr hDc40 frc41 (by decide) (by decide)
            have hsc41 : cst gc41 s := ⟨hsc40.1, (congrFun (frc41.1 12 (by decide)) 1).trans hsc40.2⟩
            refine he_s 1 (pc' := cond (fx_cb .eq 0 0) 119 110) (lc' := [(5, .int xc35), (4, .int xc5), (2, .long (Int64.ofNat (sp_cd (sp_wd T n (sp_n T n p))))), (0, .ref 12), (1, .ref 41)]) (stk' := []) (mem' := cm gc41 lc41 a b R) (by intro _ _ _; eq_refl) ?_
            rw [show (fx_cb .eq 0 0) = true from by decide]
            dsimp only [cond]
            refine he_ret ⟨_, _, _, _, cfd_c hfc41, ?_, rfl⟩ (by rfl) (by rfl) (by rfl)
            unfold sp_pWalk
            rw [if_neg (by omega), sp_new_t hwc3 hvc3, sp_word_t hwc4, sp_num_4 hwc5 hvc5]
            exact hmc41
        · refine he_s 4 (pc' := 61) (lc' := [(4, .int xc5), (2, .long (Int64.ofNat (sp_cd (sp_wd T n (sp_n T n p))))), (0, .ref 12), (1, .ref 41)]) (stk' := [.int 7, .ref 9]) (mem' := cm gc5 lc5 a b R) (by intro _ _ _; eq_refl) ?_
          obtain ⟨vc42, memc42, ⟨gc42, lc42, frc42, hmc42, hRc42⟩, hrc42⟩ := ha_pwq0 (x := 7) (R := R) hg hmc5
          cases hRc42
          refine he_ivV hrc42 (by omega) (by rfl) (by rfl) (by rfl) (by rfl) (by rfl) (by rfl) ?_
          have fc42_52_7 : gc42 52 7 = nI (A.1.2.length) := (congrFun (frc42.1 52 (by decide)) 7).trans fc5_52_7
          have hfc42 := cfr_tr hfc5 frc42
          have hDc42 := cd_fr hDc5 frc42 (by decide) (by decide)
          have hsc42 : cst gc42 s := ⟨hsc5.1, (congrFun (frc42.1 12 (by decide)) 1).trans hsc5.2⟩
          refine he_s 3 (pc' := 69) (lc' := [(4, .int xc5), (2, .long (Int64.ofNat (sp_cd (sp_wd T n (sp_n T n p))))), (0, .ref 12), (1, .ref 41)]) (stk' := [.ref 41, .ref 9]) (mem' := cm gc42 lc42 a b R) (by intro _ _ _; eq_refl) ?_
          obtain ⟨vc43, memc43, ⟨xc43, gc43, lc43, frc43, hmc43, hbc43, hRc43⟩, hrc43⟩ := ha_ch41q0 (R := R) hg hDc42.1 hmc42
          cases hRc43
          refine he_ivV hrc43 (by omega) (by rfl) (by rfl) (by rfl) (by rfl) (by rfl) (by rfl) ?_
          have fc43_52_7 : gc43 52 7 = nI (A.1.2.length) := (congrFun (frc43.1 52 (by decide)) 7).trans fc42_52_7
          have hfc43 := cfr_tr hfc42 frc43
          have hDc43 := cd_fr hDc42 frc43 (by decide) (by decide)
          have hsc43 : cst gc43 s := ⟨hsc42.1, (congrFun (frc43.1 12 (by decide)) 1).trans hsc42.2⟩
          refine he_s 3 (pc' := 77) (lc' := [(5, .int xc43), (4, .int xc5), (2, .long (Int64.ofNat (sp_cd (sp_wd T n (sp_n T n p))))), (0, .ref 12), (1, .ref 41)]) (stk' := [.int xc43, .ref 41]) (mem' := cm gc43 lc43 a b R) (by intro _ _ _; eq_refl) ?_
          obtain ⟨vc44, memc44, ⟨xc44, hxc44, hRc44⟩, hrc44⟩ := ha_isq41 (g := gc43) (l := lc43) (a := a) (b := b) (R := R) (x := xc43)
          cases hRc44
          refine he_ivV hrc44 (by omega) (by rfl) (by rfl) (by rfl) (by rfl) (by rfl) (by rfl) ?_
          rcases hxc44 with rfl | rfl
          · refine he_s 1 (pc' := cond (fx_cb .ne 0 0) 91 83) (lc' := [(5, .int xc43), (4, .int xc5), (2, .long (Int64.ofNat (sp_cd (sp_wd T n (sp_n T n p))))), (0, .ref 12), (1, .ref 41)]) (stk' := []) (mem' := cm gc43 lc43 a b R) (by intro _ _ _; eq_refl) ?_
            rw [show (fx_cb .ne 0 0) = false from by decide]
            dsimp only [cond]
            refine he_s 3 (pc' := 88) (lc' := [(5, .int xc43), (4, .int xc5), (2, .long (Int64.ofNat (sp_cd (sp_wd T n (sp_n T n p))))), (0, .ref 12), (1, .ref 41)]) (stk' := [.int 5, .ref 9]) (mem' := cm gc43 lc43 a b R) (by intro _ _ _; eq_refl) ?_
            refine he_ivV (ha_failq (a := a) (b := b) (R := R) (x := 5) hmc43) (by omega) (by rfl) (by rfl) (by rfl) (by rfl) (by rfl) (by rfl) ?_
            refine he_s 2 (pc' := 95) (lc' := [(5, .int xc43), (4, .int xc5), (2, .long (Int64.ofNat (sp_cd (sp_wd T n (sp_n T n p))))), (0, .ref 12), (1, .ref 41)]) (stk' := [.ref 9]) (mem' := cm gc43 lc43 a b R) (by intro _ _ _; eq_refl) ?_
            obtain ⟨gc46, lc46, hrc46, hmc46, frc46⟩ := ha_scanq (R := R) hg hmc43
            refine he_ivV hrc46 (by omega) (by rfl) (by rfl) (by rfl) (by rfl) (by rfl) (by rfl) ?_
            have fc46_52_7 : gc46 52 7 = nI (A.1.2.length) := (congrFun (frc46.1 52 (by decide)) 7).trans fc43_52_7
            have hfc46 := cfr_tr hfc43 frc46
            have hDc46 := cd_fr hDc43 frc46 (by decide) (by decide)
            have hsc46 : cst gc46 s := ⟨hsc43.1, (congrFun (frc46.1 12 (by decide)) 1).trans hsc43.2⟩
            refine he_s 3 (pc' := 104) (lc' := [(5, .int xc43), (4, .int xc5), (2, .long (Int64.ofNat (sp_cd (sp_wd T n (sp_n T n p))))), (0, .ref 12), (1, .ref 41)]) (stk' := [.int 59, .ref 9]) (mem' := cm gc46 lc46 a b R) (by intro _ _ _; eq_refl) ?_
            obtain ⟨vc47, memc47, ⟨gc47, lc47, frc47, hmc47, hRc47⟩, hrc47⟩ := ha_psq0 (x := 59) (R := R) hg hmc46
            cases hRc47
            refine he_ivV hrc47 (by omega) (by rfl) (by rfl) (by rfl) (by rfl) (by rfl) (by rfl) ?_
            have fc47_52_7 : gc47 52 7 = nI (A.1.2.length) := (congrFun (frc47.1 52 (by decide)) 7).trans fc46_52_7
            have hfc47 := cfr_tr hfc46 frc47
            have hDc47 := cd_fr hDc46 frc47 (by decide) (by decide)
            have hsc47 : cst gc47 s := ⟨hsc46.1, (congrFun (frc47.1 12 (by decide)) 1).trans hsc46.2⟩
            refine he_s 1 (pc' := cond (fx_cb .eq 0 0) 119 110) (lc' := [(5, .int xc43), (4, .int xc5), (2, .long (Int64.ofNat (sp_cd (sp_wd T n (sp_n T n p))))), (0, .ref 12), (1, .ref 41)]) (stk' := []) (mem' := cm gc47 lc47 a b R) (by intro _ _ _; eq_refl) ?_
            rw [show (fx_cb .eq 0 0) = true from by decide]
            dsimp only [cond]
            refine he_ret ⟨_, _, _, _, cfd_c hfc47, ?_, rfl⟩ (by rfl) (by rfl) (by rfl)
            unfold sp_pWalk
            rw [if_neg (by omega), sp_new_t hwc3 hvc3, sp_word_t hwc4, sp_num_f hwc5]
            exact hmc47
          · refine he_s 1 (pc' := cond (fx_cb .ne 1 0) 91 83) (lc' := [(5, .int xc43), (4, .int xc5), (2, .long (Int64.ofNat (sp_cd (sp_wd T n (sp_n T n p))))), (0, .ref 12), (1, .ref 41)]) (stk' := []) (mem' := cm gc43 lc43 a b R) (by intro _ _ _; eq_refl) ?_
            rw [show (fx_cb .ne 1 0) = true from by decide]
            dsimp only [cond]
            refine he_s 2 (pc' := 95) (lc' := [(5, .int xc43), (4, .int xc5), (2, .long (Int64.ofNat (sp_cd (sp_wd T n (sp_n T n p))))), (0, .ref 12), (1, .ref 41)]) (stk' := [.ref 9]) (mem' := cm gc43 lc43 a b R) (by intro _ _ _; eq_refl) ?_
            obtain ⟨gc48, lc48, hrc48, hmc48, frc48⟩ := ha_scanq (R := R) hg hmc43
            refine he_ivV hrc48 (by omega) (by rfl) (by rfl) (by rfl) (by rfl) (by rfl) (by rfl) ?_
            have fc48_52_7 : gc48 52 7 = nI (A.1.2.length) := (congrFun (frc48.1 52 (by decide)) 7).trans fc43_52_7
            have hfc48 := cfr_tr hfc43 frc48
            have hDc48 := cd_fr hDc43 frc48 (by decide) (by decide)
            have hsc48 : cst gc48 s := ⟨hsc43.1, (congrFun (frc48.1 12 (by decide)) 1).trans hsc43.2⟩
            refine he_s 3 (pc' := 104) (lc' := [(5, .int xc43), (4, .int xc5), (2, .long (Int64.ofNat (sp_cd (sp_wd T n (sp_n T n p))))), (0, .ref 12), (1, .ref 41)]) (stk' := [.int 59, .ref 9]) (mem' := cm gc48 lc48 a b R) (by intro _ _ _; eq_refl) ?_
            obtain ⟨vc49, memc49, ⟨gc49, lc49, frc49, hmc49, hRc49⟩, hrc49⟩ := ha_psq0 (x := 59) (R := R) hg hmc48
            cases hRc49
            refine he_ivV hrc49 (by omega) (by rfl) (by rfl) (by rfl) (by rfl) (by rfl) (by rfl) ?_
            have fc49_52_7 : gc49 52 7 = nI (A.1.2.length) := (congrFun (frc49.1 52 (by decide)) 7).trans fc48_52_7
            have hfc49 := cfr_tr hfc48 frc49
            have hDc49 := cd_fr hDc48 frc49 (by decide) (by decide)
            have hsc49 : cst gc49 s := ⟨hsc48.1, (congrFun (frc49.1 12 (by decide)) 1).trans hsc48.2⟩
            refine he_s 1 (pc' := cond (fx_cb .eq 0 0) 119 110) (lc' := [(5, .int xc43), (4, .int xc5), (2, .long (Int64.ofNat (sp_cd (sp_wd T n (sp_n T n p))))), (0, .ref 12), (1, .ref 41)]) (stk' := []) (mem' := cm gc49 lc49 a b R) (by intro _ _ _; eq_refl) ?_
            rw [show (fx_cb .eq 0 0) = true from by decide]
            dsimp only [cond]
            refine he_ret ⟨_, _, _, _, cfd_c hfc49, ?_, rfl⟩ (by rfl) (by rfl) (by rfl)
            unfold sp_pWalk
            rw [if_neg (by omega), sp_new_t hwc3 hvc3, sp_word_t hwc4, sp_num_f hwc5]
            exact hmc49
      · refine he_s 4 (pc' := 50) (lc' := [(2, .long (Int64.ofNat (sp_cd (sp_wd T n (sp_n T n p))))), (0, .ref 12), (1, .ref 41)]) (stk' := [.int 99, .int 1, .ref 9]) (mem' := cm gc4 lc4 a b R) (by intro _ _ _; eq_refl) ?_
        obtain ⟨vc50, memc50, ⟨gc50, lc50, xc50, frc50, hmc50, hRc50⟩, hrc50⟩ := ha_pnq0 (x := 1) (y := 99) (R := R) hg hmc4
        cases hRc50
        refine he_ivV hrc50 (by omega) (by rfl) (by rfl) (by rfl) (by rfl) (by rfl) (by rfl) ?_
        have fc50_52_7 : gc50 52 7 = nI (A.1.2.length) := (congrFun (frc50.1 52 (by decide)) 7).trans fc4_52_7
        have hfc50 := cfr_tr hfc4 frc50
        have hDc50 := cd_fr hDc4 frc50 (by decide) (by decide)
        have hsc50 : cst gc50 s := ⟨hsc4.1, (congrFun (frc50.1 12 (by decide)) 1).trans hsc4.2⟩
        refine he_s 4 (pc' := 61) (lc' := [(4, .int xc50), (2, .long (Int64.ofNat (sp_cd (sp_wd T n (sp_n T n p))))), (0, .ref 12), (1, .ref 41)]) (stk' := [.int 7, .ref 9]) (mem' := cm gc50 lc50 a b R) (by intro _ _ _; eq_refl) ?_
        obtain ⟨vc51, memc51, ⟨gc51, lc51, frc51, hmc51, hRc51⟩, hrc51⟩ := ha_pwq0 (x := 7) (R := R) hg hmc50
        cases hRc51
        refine he_ivV hrc51 (by omega) (by rfl) (by rfl) (by rfl) (by rfl) (by rfl) (by rfl) ?_
        have fc51_52_7 : gc51 52 7 = nI (A.1.2.length) := (congrFun (frc51.1 52 (by decide)) 7).trans fc50_52_7
        have hfc51 := cfr_tr hfc50 frc51
        have hDc51 := cd_fr hDc50 frc51 (by decide) (by decide)
        have hsc51 : cst gc51 s := ⟨hsc50.1, (congrFun (frc51.1 12 (by decide)) 1).trans hsc50.2⟩
        refine he_s 3 (pc' := 69) (lc' := [(4, .int xc50), (2, .long (Int64.ofNat (sp_cd (sp_wd T n (sp_n T n p))))), (0, .ref 12), (1, .ref 41)]) (stk' := [.ref 41, .ref 9]) (mem' := cm gc51 lc51 a b R) (by intro _ _ _; eq_refl) ?_
        obtain ⟨vc52, memc52, ⟨xc52, gc52, lc52, frc52, hmc52, hbc52, hRc52⟩, hrc52⟩ := ha_ch41q0 (R := R) hg hDc51.1 hmc51
        cases hRc52
        refine he_ivV hrc52 (by omega) (by rfl) (by rfl) (by rfl) (by rfl) (by rfl) (by rfl) ?_
        have fc52_52_7 : gc52 52 7 = nI (A.1.2.length) := (congrFun (frc52.1 52 (by decide)) 7).trans fc51_52_7
        have hfc52 := cfr_tr hfc51 frc52
        have hDc52 := cd_fr hDc51 frc52 (by decide) (by decide)
        have hsc52 : cst gc52 s := ⟨hsc51.1, (congrFun (frc52.1 12 (by decide)) 1).trans hsc51.2⟩
        refine he_s 3 (pc' := 77) (lc' := [(5, .int xc52), (4, .int xc50), (2, .long (Int64.ofNat (sp_cd (sp_wd T n (sp_n T n p))))), (0, .ref 12), (1, .ref 41)]) (stk' := [.int xc52, .ref 41]) (mem' := cm gc52 lc52 a b R) (by intro _ _ _; eq_refl) ?_
        obtain ⟨vc53, memc53, ⟨xc53, hxc53, hRc53⟩, hrc53⟩ := ha_isq41 (g := gc52) (l := lc52) (a := a) (b := b) (R := R) (x := xc52)
        cases hRc53
        refine he_ivV hrc53 (by omega) (by rfl) (by rfl) (by rfl) (by rfl) (by rfl) (by rfl) ?_
        rcases hxc53 with rfl | rfl
        · refine he_s 1 (pc' := cond (fx_cb .ne 0 0) 91 83) (lc' := [(5, .int xc52), (4, .int xc50), (2, .long (Int64.ofNat (sp_cd (sp_wd T n (sp_n T n p))))), (0, .ref 12), (1, .ref 41)]) (stk' := []) (mem' := cm gc52 lc52 a b R) (by intro _ _ _; eq_refl) ?_
          rw [show (fx_cb .ne 0 0) = false from by decide]
          dsimp only [cond]
          refine he_s 3 (pc' := 88) (lc' := [(5, .int xc52), (4, .int xc50), (2, .long (Int64.ofNat (sp_cd (sp_wd T n (sp_n T n p))))), (0, .ref 12), (1, .ref 41)]) (stk' := [.int 5, .ref 9]) (mem' := cm gc52 lc52 a b R) (by intro _ _ _; eq_refl) ?_
          refine he_ivV (ha_failq (a := a) (b := b) (R := R) (x := 5) hmc52) (by omega) (by rfl) (by rfl) (by rfl) (by rfl) (by rfl) (by rfl) ?_
          refine he_s 2 (pc' := 95) (lc' := [(5, .int xc52), (4, .int xc50), (2, .long (Int64.ofNat (sp_cd (sp_wd T n (sp_n T n p))))), (0, .ref 12), (1, .ref 41)]) (stk' := [.ref 9]) (mem' := cm gc52 lc52 a b R) (by intro _ _ _; eq_refl) ?_
          obtain ⟨gc55, lc55, hrc55, hmc55, frc55⟩ := ha_scanq (R := R) hg hmc52
          refine he_ivV hrc55 (by omega) (by rfl) (by rfl) (by rfl) (by rfl) (by rfl) (by rfl) ?_
          have fc55_52_7 : gc55 52 7 = nI (A.1.2.length) := (congrFun (frc55.1 52 (by decide)) 7).trans fc52_52_7
          have hfc55 := cfr_tr hfc52 frc55
          have hDc55 := cd_fr hDc52 frc55 (by decide) (by decide)
          have hsc55 : cst gc55 s := ⟨hsc52.1, (congrFun (frc55.1 12 (by decide)) 1).trans hsc52.2⟩
          refine he_s 3 (pc' := 104) (lc' := [(5, .int xc52), (4, .int xc50), (2, .long (Int64.ofNat (sp_cd (sp_wd T n (sp_n T n p))))), (0, .ref 12), (1, .ref 41)]) (stk' := [.int 59, .ref 9]) (mem' := cm gc55 lc55 a b R) (by intro _ _ _; eq_refl) ?_
          obtain ⟨vc56, memc56, ⟨gc56, lc56, frc56, hmc56, hRc56⟩, hrc56⟩ := ha_psq0 (x := 59) (R := R) hg hmc55
          cases hRc56
          refine he_ivV hrc56 (by omega) (by rfl) (by rfl) (by rfl) (by rfl) (by rfl) (by rfl) ?_
          have fc56_52_7 : gc56 52 7 = nI (A.1.2.length) := (congrFun (frc56.1 52 (by decide)) 7).trans fc55_52_7
          have hfc56 := cfr_tr hfc55 frc56
          have hDc56 := cd_fr hDc55 frc56 (by decide) (by decide)
          have hsc56 : cst gc56 s := ⟨hsc55.1, (congrFun (frc56.1 12 (by decide)) 1).trans hsc55.2⟩
          refine he_s 1 (pc' := cond (fx_cb .eq 0 0) 119 110) (lc' := [(5, .int xc52), (4, .int xc50), (2, .long (Int64.ofNat (sp_cd (sp_wd T n (sp_n T n p))))), (0, .ref 12), (1, .ref 41)]) (stk' := []) (mem' := cm gc56 lc56 a b R) (by intro _ _ _; eq_refl) ?_
          rw [show (fx_cb .eq 0 0) = true from by decide]
          dsimp only [cond]
          refine he_ret ⟨_, _, _, _, cfd_c hfc56, ?_, rfl⟩ (by rfl) (by rfl) (by rfl)
          unfold sp_pWalk
          rw [if_neg (by omega), sp_new_t hwc3 hvc3, sp_word_f hwc4]
          exact hmc56
        · refine he_s 1 (pc' := cond (fx_cb .ne 1 0) 91 83) (lc' := [(5, .int xc52), (4, .int xc50), (2, .long (Int64.ofNat (sp_cd (sp_wd T n (sp_n T n p))))), (0, .ref 12), (1, .ref 41)]) (stk' := []) (mem' := cm gc52 lc52 a b R) (by intro _ _ _; eq_refl) ?_
          rw [show (fx_cb .ne 1 0) = true from by decide]
          dsimp only [cond]
          refine he_s 2 (pc' := 95) (lc' := [(5, .int xc52), (4, .int xc50), (2, .long (Int64.ofNat (sp_cd (sp_wd T n (sp_n T n p))))), (0, .ref 12), (1, .ref 41)]) (stk' := [.ref 9]) (mem' := cm gc52 lc52 a b R) (by intro _ _ _; eq_refl) ?_
          obtain ⟨gc57, lc57, hrc57, hmc57, frc57⟩ := ha_scanq (R := R) hg hmc52
          refine he_ivV hrc57 (by omega) (by rfl) (by rfl) (by rfl) (by rfl) (by rfl) (by rfl) ?_
          have fc57_52_7 : gc57 52 7 = nI (A.1.2.length) := (congrFun (frc57.1 52 (by decide)) 7).trans fc52_52_7
          have hfc57 := cfr_tr hfc52 frc57
          have hDc57 := cd_fr hDc52 frc57 (by decide) (by decide)
          have hsc57 : cst gc57 s := ⟨hsc52.1, (congrFun (frc57.1 12 (by decide)) 1).trans hsc52.2⟩
          refine he_s 3 (pc' := 104) (lc' := [(5, .int xc52), (4, .int xc50), (2, .long (Int64.ofNat (sp_cd (sp_wd T n (sp_n T n p))))), (0, .ref 12), (1, .ref 41)]) (stk' := [.int 59, .ref 9]) (mem' := cm gc57 lc57 a b R) (by intro _ _ _; eq_refl) ?_
          obtain ⟨vc58, memc58, ⟨gc58, lc58, frc58, hmc58, hRc58⟩, hrc58⟩ := ha_psq0 (x := 59) (R := R) hg hmc57
          cases hRc58
          refine he_ivV hrc58 (by omega) (by rfl) (by rfl) (by rfl) (by rfl) (by rfl) (by rfl) ?_
          have fc58_52_7 : gc58 52 7 = nI (A.1.2.length) := (congrFun (frc58.1 52 (by decide)) 7).trans fc57_52_7
          have hfc58 := cfr_tr hfc57 frc58
          have hDc58 := cd_fr hDc57 frc58 (by decide) (by decide)
          have hsc58 : cst gc58 s := ⟨hsc57.1, (congrFun (frc58.1 12 (by decide)) 1).trans hsc57.2⟩
          refine he_s 1 (pc' := cond (fx_cb .eq 0 0) 119 110) (lc' := [(5, .int xc52), (4, .int xc50), (2, .long (Int64.ofNat (sp_cd (sp_wd T n (sp_n T n p))))), (0, .ref 12), (1, .ref 41)]) (stk' := []) (mem' := cm gc58 lc58 a b R) (by intro _ _ _; eq_refl) ?_
          rw [show (fx_cb .eq 0 0) = true from by decide]
          dsimp only [cond]
          refine he_ret ⟨_, _, _, _, cfd_c hfc58, ?_, rfl⟩ (by rfl) (by rfl) (by rfl)
          unfold sp_pWalk
          rw [if_neg (by omega), sp_new_t hwc3 hvc3, sp_word_f hwc4]
          exact hmc58
    · refine he_s 4 (pc' := 40) (lc' := [(2, .long xc3), (0, .ref 12), (1, .ref 41)]) (stk' := [.int 6, .ref 9]) (mem' := cm gc3 lc3 a b R) (by intro _ _ _; eq_refl) ?_
      obtain ⟨vc59, memc59, ⟨gc59, lc59, frc59, hmc59, hRc59⟩, hrc59⟩ := ha_pwq0 (x := 6) (R := R) hg hmc3
      cases hRc59
      refine he_ivV hrc59 (by omega) (by rfl) (by rfl) (by rfl) (by rfl) (by rfl) (by rfl) ?_
      have fc59_52_7 : gc59 52 7 = nI (A.1.2.length) := (congrFun (frc59.1 52 (by decide)) 7).trans fc3_52_7
      have hfc59 := cfr_tr hfc3 frc59
      have hDc59 := cd_fr hDc3 frc59 (by decide) (by decide)
      have hsc59 : cst gc59 s := ⟨hsc3.1, (congrFun (frc59.1 12 (by decide)) 1).trans hsc3.2⟩
      refine he_s 4 (pc' := 50) (lc' := [(2, .long xc3), (0, .ref 12), (1, .ref 41)]) (stk' := [.int 99, .int 1, .ref 9]) (mem' := cm gc59 lc59 a b R) (by intro _ _ _; eq_refl) ?_
      obtain ⟨vc60, memc60, ⟨gc60, lc60, xc60, frc60, hmc60, hRc60⟩, hrc60⟩ := ha_pnq0 (x := 1) (y := 99) (R := R) hg hmc59
      cases hRc60
      refine he_ivV hrc60 (by omega) (by rfl) (by rfl) (by rfl) (by rfl) (by rfl) (by rfl) ?_
      have fc60_52_7 : gc60 52 7 = nI (A.1.2.length) := (congrFun (frc60.1 52 (by decide)) 7).trans fc59_52_7
      have hfc60 := cfr_tr hfc59 frc60
      have hDc60 := cd_fr hDc59 frc60 (by decide) (by decide)
      have hsc60 : cst gc60 s := ⟨hsc59.1, (congrFun (frc60.1 12 (by decide)) 1).trans hsc59.2⟩
      refine he_s 4 (pc' := 61) (lc' := [(4, .int xc60), (2, .long xc3), (0, .ref 12), (1, .ref 41)]) (stk' := [.int 7, .ref 9]) (mem' := cm gc60 lc60 a b R) (by intro _ _ _; eq_refl) ?_
      obtain ⟨vc61, memc61, ⟨gc61, lc61, frc61, hmc61, hRc61⟩, hrc61⟩ := ha_pwq0 (x := 7) (R := R) hg hmc60
      cases hRc61
      refine he_ivV hrc61 (by omega) (by rfl) (by rfl) (by rfl) (by rfl) (by rfl) (by rfl) ?_
      have fc61_52_7 : gc61 52 7 = nI (A.1.2.length) := (congrFun (frc61.1 52 (by decide)) 7).trans fc60_52_7
      have hfc61 := cfr_tr hfc60 frc61
      have hDc61 := cd_fr hDc60 frc61 (by decide) (by decide)
      have hsc61 : cst gc61 s := ⟨hsc60.1, (congrFun (frc61.1 12 (by decide)) 1).trans hsc60.2⟩
      refine he_s 3 (pc' := 69) (lc' := [(4, .int xc60), (2, .long xc3), (0, .ref 12), (1, .ref 41)]) (stk' := [.ref 41, .ref 9]) (mem' := cm gc61 lc61 a b R) (by intro _ _ _; eq_refl) ?_
      obtain ⟨vc62, memc62, ⟨xc62, gc62, lc62, frc62, hmc62, hbc62, hRc62⟩, hrc62⟩ := ha_ch41q0 (R := R) hg hDc61.1 hmc61
      cases hRc62
      refine he_ivV hrc62 (by omega) (by rfl) (by rfl) (by rfl) (by rfl) (by rfl) (by rfl) ?_
      have fc62_52_7 : gc62 52 7 = nI (A.1.2.length) := (congrFun (frc62.1 52 (by decide)) 7).trans fc61_52_7
      have hfc62 := cfr_tr hfc61 frc62
      have hDc62 := cd_fr hDc61 frc62 (by decide) (by decide)
      have hsc62 : cst gc62 s := ⟨hsc61.1, (congrFun (frc62.1 12 (by decide)) 1).trans hsc61.2⟩
      refine he_s 3 (pc' := 77) (lc' := [(5, .int xc62), (4, .int xc60), (2, .long xc3), (0, .ref 12), (1, .ref 41)]) (stk' := [.int xc62, .ref 41]) (mem' := cm gc62 lc62 a b R) (by intro _ _ _; eq_refl) ?_
      obtain ⟨vc63, memc63, ⟨xc63, hxc63, hRc63⟩, hrc63⟩ := ha_isq41 (g := gc62) (l := lc62) (a := a) (b := b) (R := R) (x := xc62)
      cases hRc63
      refine he_ivV hrc63 (by omega) (by rfl) (by rfl) (by rfl) (by rfl) (by rfl) (by rfl) ?_
      rcases hxc63 with rfl | rfl
      · refine he_s 1 (pc' := cond (fx_cb .ne 0 0) 91 83) (lc' := [(5, .int xc62), (4, .int xc60), (2, .long xc3), (0, .ref 12), (1, .ref 41)]) (stk' := []) (mem' := cm gc62 lc62 a b R) (by intro _ _ _; eq_refl) ?_
        rw [show (fx_cb .ne 0 0) = false from by decide]
        dsimp only [cond]
        refine he_s 3 (pc' := 88) (lc' := [(5, .int xc62), (4, .int xc60), (2, .long xc3), (0, .ref 12), (1, .ref 41)]) (stk' := [.int 5, .ref 9]) (mem' := cm gc62 lc62 a b R) (by intro _ _ _; eq_refl) ?_
        refine he_ivV (ha_failq (a := a) (b := b) (R := R) (x := 5) hmc62) (by omega) (by rfl) (by rfl) (by rfl) (by rfl) (by rfl) (by rfl) ?_
        refine he_s 2 (pc' := 95) (lc' := [(5, .int xc62), (4, .int xc60), (2, .long xc3), (0, .ref 12), (1, .ref 41)]) (stk' := [.ref 9]) (mem' := cm gc62 lc62 a b R) (by intro _ _ _; eq_refl) ?_
        obtain ⟨gc65, lc65, hrc65, hmc65, frc65⟩ := ha_scanq (R := R) hg hmc62
        refine he_ivV hrc65 (by omega) (by rfl) (by rfl) (by rfl) (by rfl) (by rfl) (by rfl) ?_
        have fc65_52_7 : gc65 52 7 = nI (A.1.2.length) := (congrFun (frc65.1 52 (by decide)) 7).trans fc62_52_7
        have hfc65 := cfr_tr hfc62 frc65
        have hDc65 := cd_fr hDc62 frc65 (by decide) (by decide)
        have hsc65 : cst gc65 s := ⟨hsc62.1, (congrFun (frc65.1 12 (by decide)) 1).trans hsc62.2⟩
        refine he_s 3 (pc' := 104) (lc' := [(5, .int xc62), (4, .int xc60), (2, .long xc3), (0, .ref 12), (1, .ref 41)]) (stk' := [.int 59, .ref 9]) (mem' := cm gc65 lc65 a b R) (by intro _ _ _; eq_refl) ?_
        obtain ⟨vc66, memc66, ⟨gc66, lc66, frc66, hmc66, hRc66⟩, hrc66⟩ := ha_psq0 (x := 59) (R := R) hg hmc65
        cases hRc66
        refine he_ivV hrc66 (by omega) (by rfl) (by rfl) (by rfl) (by rfl) (by rfl) (by rfl) ?_
        have fc66_52_7 : gc66 52 7 = nI (A.1.2.length) := (congrFun (frc66.1 52 (by decide)) 7).trans fc65_52_7
        have hfc66 := cfr_tr hfc65 frc66
        have hDc66 := cd_fr hDc65 frc66 (by decide) (by decide)
        have hsc66 : cst gc66 s := ⟨hsc65.1, (congrFun (frc66.1 12 (by decide)) 1).trans hsc65.2⟩
        refine he_s 1 (pc' := cond (fx_cb .eq 0 0) 119 110) (lc' := [(5, .int xc62), (4, .int xc60), (2, .long xc3), (0, .ref 12), (1, .ref 41)]) (stk' := []) (mem' := cm gc66 lc66 a b R) (by intro _ _ _; eq_refl) ?_
        rw [show (fx_cb .eq 0 0) = true from by decide]
        dsimp only [cond]
        refine he_ret ⟨_, _, _, _, cfd_c hfc66, ?_, rfl⟩ (by rfl) (by rfl) (by rfl)
        unfold sp_pWalk
        rw [if_neg (by omega), sp_new_3 hwc3 hvc3]
        exact hmc66
      · refine he_s 1 (pc' := cond (fx_cb .ne 1 0) 91 83) (lc' := [(5, .int xc62), (4, .int xc60), (2, .long xc3), (0, .ref 12), (1, .ref 41)]) (stk' := []) (mem' := cm gc62 lc62 a b R) (by intro _ _ _; eq_refl) ?_
        rw [show (fx_cb .ne 1 0) = true from by decide]
        dsimp only [cond]
        refine he_s 2 (pc' := 95) (lc' := [(5, .int xc62), (4, .int xc60), (2, .long xc3), (0, .ref 12), (1, .ref 41)]) (stk' := [.ref 9]) (mem' := cm gc62 lc62 a b R) (by intro _ _ _; eq_refl) ?_
        obtain ⟨gc67, lc67, hrc67, hmc67, frc67⟩ := ha_scanq (R := R) hg hmc62
        refine he_ivV hrc67 (by omega) (by rfl) (by rfl) (by rfl) (by rfl) (by rfl) (by rfl) ?_
        have fc67_52_7 : gc67 52 7 = nI (A.1.2.length) := (congrFun (frc67.1 52 (by decide)) 7).trans fc62_52_7
        have hfc67 := cfr_tr hfc62 frc67
        have hDc67 := cd_fr hDc62 frc67 (by decide) (by decide)
        have hsc67 : cst gc67 s := ⟨hsc62.1, (congrFun (frc67.1 12 (by decide)) 1).trans hsc62.2⟩
        refine he_s 3 (pc' := 104) (lc' := [(5, .int xc62), (4, .int xc60), (2, .long xc3), (0, .ref 12), (1, .ref 41)]) (stk' := [.int 59, .ref 9]) (mem' := cm gc67 lc67 a b R) (by intro _ _ _; eq_refl) ?_
        obtain ⟨vc68, memc68, ⟨gc68, lc68, frc68, hmc68, hRc68⟩, hrc68⟩ := ha_psq0 (x := 59) (R := R) hg hmc67
        cases hRc68
        refine he_ivV hrc68 (by omega) (by rfl) (by rfl) (by rfl) (by rfl) (by rfl) (by rfl) ?_
        have fc68_52_7 : gc68 52 7 = nI (A.1.2.length) := (congrFun (frc68.1 52 (by decide)) 7).trans fc67_52_7
        have hfc68 := cfr_tr hfc67 frc68
        have hDc68 := cd_fr hDc67 frc68 (by decide) (by decide)
        have hsc68 : cst gc68 s := ⟨hsc67.1, (congrFun (frc68.1 12 (by decide)) 1).trans hsc67.2⟩
        refine he_s 1 (pc' := cond (fx_cb .eq 0 0) 119 110) (lc' := [(5, .int xc62), (4, .int xc60), (2, .long xc3), (0, .ref 12), (1, .ref 41)]) (stk' := []) (mem' := cm gc68 lc68 a b R) (by intro _ _ _; eq_refl) ?_
        rw [show (fx_cb .eq 0 0) = true from by decide]
        dsimp only [cond]
        refine he_ret ⟨_, _, _, _, cfd_c hfc68, ?_, rfl⟩ (by rfl) (by rfl) (by rfl)
        unfold sp_pWalk
        rw [if_neg (by omega), sp_new_3 hwc3 hvc3]
        exact hmc68
    · refine he_s 4 (pc' := 40) (lc' := [(2, .long xc3), (0, .ref 12), (1, .ref 41)]) (stk' := [.int 6, .ref 9]) (mem' := cm gc3 lc3 a b R) (by intro _ _ _; eq_refl) ?_
      obtain ⟨vc69, memc69, ⟨gc69, lc69, frc69, hmc69, hRc69⟩, hrc69⟩ := ha_pwq0 (x := 6) (R := R) hg hmc3
      cases hRc69
      refine he_ivV hrc69 (by omega) (by rfl) (by rfl) (by rfl) (by rfl) (by rfl) (by rfl) ?_
      have fc69_52_7 : gc69 52 7 = nI (A.1.2.length) := (congrFun (frc69.1 52 (by decide)) 7).trans fc3_52_7
      have hfc69 := cfr_tr hfc3 frc69
      have hDc69 := cd_fr hDc3 frc69 (by decide) (by decide)
      have hsc69 : cst gc69 s := ⟨hsc3.1, (congrFun (frc69.1 12 (by decide)) 1).trans hsc3.2⟩
      refine he_s 4 (pc' := 50) (lc' := [(2, .long xc3), (0, .ref 12), (1, .ref 41)]) (stk' := [.int 99, .int 1, .ref 9]) (mem' := cm gc69 lc69 a b R) (by intro _ _ _; eq_refl) ?_
      obtain ⟨vc70, memc70, ⟨gc70, lc70, xc70, frc70, hmc70, hRc70⟩, hrc70⟩ := ha_pnq0 (x := 1) (y := 99) (R := R) hg hmc69
      cases hRc70
      refine he_ivV hrc70 (by omega) (by rfl) (by rfl) (by rfl) (by rfl) (by rfl) (by rfl) ?_
      have fc70_52_7 : gc70 52 7 = nI (A.1.2.length) := (congrFun (frc70.1 52 (by decide)) 7).trans fc69_52_7
      have hfc70 := cfr_tr hfc69 frc70
      have hDc70 := cd_fr hDc69 frc70 (by decide) (by decide)
      have hsc70 : cst gc70 s := ⟨hsc69.1, (congrFun (frc70.1 12 (by decide)) 1).trans hsc69.2⟩
      refine he_s 4 (pc' := 61) (lc' := [(4, .int xc70), (2, .long xc3), (0, .ref 12), (1, .ref 41)]) (stk' := [.int 7, .ref 9]) (mem' := cm gc70 lc70 a b R) (by intro _ _ _; eq_refl) ?_
      obtain ⟨vc71, memc71, ⟨gc71, lc71, frc71, hmc71, hRc71⟩, hrc71⟩ := ha_pwq0 (x := 7) (R := R) hg hmc70
      cases hRc71
      refine he_ivV hrc71 (by omega) (by rfl) (by rfl) (by rfl) (by rfl) (by rfl) (by rfl) ?_
      have fc71_52_7 : gc71 52 7 = nI (A.1.2.length) := (congrFun (frc71.1 52 (by decide)) 7).trans fc70_52_7
      have hfc71 := cfr_tr hfc70 frc71
      have hDc71 := cd_fr hDc70 frc71 (by decide) (by decide)
      have hsc71 : cst gc71 s := ⟨hsc70.1, (congrFun (frc71.1 12 (by decide)) 1).trans hsc70.2⟩
      refine he_s 3 (pc' := 69) (lc' := [(4, .int xc70), (2, .long xc3), (0, .ref 12), (1, .ref 41)]) (stk' := [.ref 41, .ref 9]) (mem' := cm gc71 lc71 a b R) (by intro _ _ _; eq_refl) ?_
      obtain ⟨vc72, memc72, ⟨xc72, gc72, lc72, frc72, hmc72, hbc72, hRc72⟩, hrc72⟩ := ha_ch41q0 (R := R) hg hDc71.1 hmc71
      cases hRc72
      refine he_ivV hrc72 (by omega) (by rfl) (by rfl) (by rfl) (by rfl) (by rfl) (by rfl) ?_
      have fc72_52_7 : gc72 52 7 = nI (A.1.2.length) := (congrFun (frc72.1 52 (by decide)) 7).trans fc71_52_7
      have hfc72 := cfr_tr hfc71 frc72
      have hDc72 := cd_fr hDc71 frc72 (by decide) (by decide)
      have hsc72 : cst gc72 s := ⟨hsc71.1, (congrFun (frc72.1 12 (by decide)) 1).trans hsc71.2⟩
      refine he_s 3 (pc' := 77) (lc' := [(5, .int xc72), (4, .int xc70), (2, .long xc3), (0, .ref 12), (1, .ref 41)]) (stk' := [.int xc72, .ref 41]) (mem' := cm gc72 lc72 a b R) (by intro _ _ _; eq_refl) ?_
      obtain ⟨vc73, memc73, ⟨xc73, hxc73, hRc73⟩, hrc73⟩ := ha_isq41 (g := gc72) (l := lc72) (a := a) (b := b) (R := R) (x := xc72)
      cases hRc73
      refine he_ivV hrc73 (by omega) (by rfl) (by rfl) (by rfl) (by rfl) (by rfl) (by rfl) ?_
      rcases hxc73 with rfl | rfl
      · refine he_s 1 (pc' := cond (fx_cb .ne 0 0) 91 83) (lc' := [(5, .int xc72), (4, .int xc70), (2, .long xc3), (0, .ref 12), (1, .ref 41)]) (stk' := []) (mem' := cm gc72 lc72 a b R) (by intro _ _ _; eq_refl) ?_
        rw [show (fx_cb .ne 0 0) = false from by decide]
        dsimp only [cond]
        refine he_s 3 (pc' := 88) (lc' := [(5, .int xc72), (4, .int xc70), (2, .long xc3), (0, .ref 12), (1, .ref 41)]) (stk' := [.int 5, .ref 9]) (mem' := cm gc72 lc72 a b R) (by intro _ _ _; eq_refl) ?_
        refine he_ivV (ha_failq (a := a) (b := b) (R := R) (x := 5) hmc72) (by omega) (by rfl) (by rfl) (by rfl) (by rfl) (by rfl) (by rfl) ?_
        refine he_s 2 (pc' := 95) (lc' := [(5, .int xc72), (4, .int xc70), (2, .long xc3), (0, .ref 12), (1, .ref 41)]) (stk' := [.ref 9]) (mem' := cm gc72 lc72 a b R) (by intro _ _ _; eq_refl) ?_
        obtain ⟨gc75, lc75, hrc75, hmc75, frc75⟩ := ha_scanq (R := R) hg hmc72
        refine he_ivV hrc75 (by omega) (by rfl) (by rfl) (by rfl) (by rfl) (by rfl) (by rfl) ?_
        have fc75_52_7 : gc75 52 7 = nI (A.1.2.length) := (congrFun (frc75.1 52 (by decide)) 7).trans fc72_52_7
        have hfc75 := cfr_tr hfc72 frc75
        have hDc75 := cd_fr hDc72 frc75 (by decide) (by decide)
        have hsc75 : cst gc75 s := ⟨hsc72.1, (congrFun (frc75.1 12 (by decide)) 1).trans hsc72.2⟩
        refine he_s 3 (pc' := 104) (lc' := [(5, .int xc72), (4, .int xc70), (2, .long xc3), (0, .ref 12), (1, .ref 41)]) (stk' := [.int 59, .ref 9]) (mem' := cm gc75 lc75 a b R) (by intro _ _ _; eq_refl) ?_
        obtain ⟨vc76, memc76, ⟨gc76, lc76, frc76, hmc76, hRc76⟩, hrc76⟩ := ha_psq0 (x := 59) (R := R) hg hmc75
        cases hRc76
        refine he_ivV hrc76 (by omega) (by rfl) (by rfl) (by rfl) (by rfl) (by rfl) (by rfl) ?_
        have fc76_52_7 : gc76 52 7 = nI (A.1.2.length) := (congrFun (frc76.1 52 (by decide)) 7).trans fc75_52_7
        have hfc76 := cfr_tr hfc75 frc76
        have hDc76 := cd_fr hDc75 frc76 (by decide) (by decide)
        have hsc76 : cst gc76 s := ⟨hsc75.1, (congrFun (frc76.1 12 (by decide)) 1).trans hsc75.2⟩
        refine he_s 1 (pc' := cond (fx_cb .eq 0 0) 119 110) (lc' := [(5, .int xc72), (4, .int xc70), (2, .long xc3), (0, .ref 12), (1, .ref 41)]) (stk' := []) (mem' := cm gc76 lc76 a b R) (by intro _ _ _; eq_refl) ?_
        rw [show (fx_cb .eq 0 0) = true from by decide]
        dsimp only [cond]
        refine he_ret ⟨_, _, _, _, cfd_c hfc76, ?_, rfl⟩ (by rfl) (by rfl) (by rfl)
        unfold sp_pWalk
        rw [if_neg (by omega), sp_new_f hwc3]
        exact hmc76
      · refine he_s 1 (pc' := cond (fx_cb .ne 1 0) 91 83) (lc' := [(5, .int xc72), (4, .int xc70), (2, .long xc3), (0, .ref 12), (1, .ref 41)]) (stk' := []) (mem' := cm gc72 lc72 a b R) (by intro _ _ _; eq_refl) ?_
        rw [show (fx_cb .ne 1 0) = true from by decide]
        dsimp only [cond]
        refine he_s 2 (pc' := 95) (lc' := [(5, .int xc72), (4, .int xc70), (2, .long xc3), (0, .ref 12), (1, .ref 41)]) (stk' := [.ref 9]) (mem' := cm gc72 lc72 a b R) (by intro _ _ _; eq_refl) ?_
        obtain ⟨gc77, lc77, hrc77, hmc77, frc77⟩ := ha_scanq (R := R) hg hmc72
        refine he_ivV hrc77 (by omega) (by rfl) (by rfl) (by rfl) (by rfl) (by rfl) (by rfl) ?_
        have fc77_52_7 : gc77 52 7 = nI (A.1.2.length) := (congrFun (frc77.1 52 (by decide)) 7).trans fc72_52_7
        have hfc77 := cfr_tr hfc72 frc77
        have hDc77 := cd_fr hDc72 frc77 (by decide) (by decide)
        have hsc77 : cst gc77 s := ⟨hsc72.1, (congrFun (frc77.1 12 (by decide)) 1).trans hsc72.2⟩
        refine he_s 3 (pc' := 104) (lc' := [(5, .int xc72), (4, .int xc70), (2, .long xc3), (0, .ref 12), (1, .ref 41)]) (stk' := [.int 59, .ref 9]) (mem' := cm gc77 lc77 a b R) (by intro _ _ _; eq_refl) ?_
        obtain ⟨vc78, memc78, ⟨gc78, lc78, frc78, hmc78, hRc78⟩, hrc78⟩ := ha_psq0 (x := 59) (R := R) hg hmc77
        cases hRc78
        refine he_ivV hrc78 (by omega) (by rfl) (by rfl) (by rfl) (by rfl) (by rfl) (by rfl) ?_
        have fc78_52_7 : gc78 52 7 = nI (A.1.2.length) := (congrFun (frc78.1 52 (by decide)) 7).trans fc77_52_7
        have hfc78 := cfr_tr hfc77 frc78
        have hDc78 := cd_fr hDc77 frc78 (by decide) (by decide)
        have hsc78 : cst gc78 s := ⟨hsc77.1, (congrFun (frc78.1 12 (by decide)) 1).trans hsc77.2⟩
        refine he_s 1 (pc' := cond (fx_cb .eq 0 0) 119 110) (lc' := [(5, .int xc72), (4, .int xc70), (2, .long xc3), (0, .ref 12), (1, .ref 41)]) (stk' := []) (mem' := cm gc78 lc78 a b R) (by intro _ _ _; eq_refl) ?_
        rw [show (fx_cb .eq 0 0) = true from by decide]
        dsimp only [cond]
        refine he_ret ⟨_, _, _, _, cfd_c hfc78, ?_, rfl⟩ (by rfl) (by rfl) (by rfl)
        unfold sp_pWalk
        rw [if_neg (by omega), sp_new_f hwc3]
        exact hmc78
  · rw [show (fx_cb .lt (nI (A.1.2.length)) 8) = false from cb_ltF (a := (A.1.2.length)) (b := 8) (by omega) (by omega) (by omega)]
    dsimp only [cond]
    refine he_s 3 (pc' := 18) (lc' := [(0, .ref 12), (1, .ref 41)]) (stk' := [.int 6, .ref 9]) (mem' := cm g l a b R) (by intro _ _ _; eq_refl) ?_
    obtain ⟨gc79, hrc79, hmc79, frc79⟩ := ha_fail (a := a) (b := b) (R := R) (x := 6) h (by decide)
    refine he_ivV hrc79 (by omega) (by rfl) (by rfl) (by rfl) (by rfl) (by rfl) (by rfl) ?_
    have fc79_52_7 : gc79 52 7 = nI (A.1.2.length) := (congrFun (frc79.1 52 (by decide)) 7).trans hD.1.2.2.1
    have hfc79 := cfr_tr cfr_rf frc79
    have hDc79 := cd_fr hD frc79 (by decide) (by decide)
    have hsc79 : cst gc79 s := ⟨hs.1, (congrFun (frc79.1 12 (by decide)) 1).trans hs.2⟩
    refine he_s 2 (pc' := 25) (lc' := [(0, .ref 12), (1, .ref 41)]) (stk' := [.ref 9]) (mem' := cm gc79 l a b R) (by intro _ _ _; eq_refl) ?_
    obtain ⟨gc80, lc80, hrc80, hmc80, frc80⟩ := ha_scanq (R := R) hg hmc79
    refine he_ivV hrc80 (by omega) (by rfl) (by rfl) (by rfl) (by rfl) (by rfl) (by rfl) ?_
    have fc80_52_7 : gc80 52 7 = nI (A.1.2.length) := (congrFun (frc80.1 52 (by decide)) 7).trans fc79_52_7
    have hfc80 := cfr_tr hfc79 frc80
    have hDc80 := cd_fr hDc79 frc80 (by decide) (by decide)
    have hsc80 : cst gc80 s := ⟨hsc79.1, (congrFun (frc80.1 12 (by decide)) 1).trans hsc79.2⟩
    refine he_s 2 (pc' := 30) (lc' := [(0, .ref 12), (1, .ref 41)]) (stk' := [.ref 41, .ref 12]) (mem' := cm gc80 lc80 a b R) (by intro _ _ _; eq_refl) ?_
    obtain ⟨vc81, memc81, ⟨gc81, lc81, xc81, frc81, hmc81, hRc81⟩, hrc81⟩ := ha_nnq0 (R := R) hg hDc80 hsc80 hmc80
    cases hRc81
    refine he_ivV hrc81 (by omega) (by rfl) (by rfl) (by rfl) (by rfl) (by rfl) (by rfl) ?_
    have fc81_52_7 : gc81 52 7 = nI (A.1.2.length) := (congrFun (frc81.1 52 (by decide)) 7).trans fc80_52_7
    have hfc81 := cfr_tr hfc80 frc81
    have hDc81 := cd_fr hDc80 frc81 (by decide) (by decide)
    have hsc81 : cst gc81 s := ⟨hsc80.1, (congrFun (frc81.1 12 (by decide)) 1).trans hsc80.2⟩
    refine he_s 4 (pc' := 40) (lc' := [(2, .long xc81), (0, .ref 12), (1, .ref 41)]) (stk' := [.int 6, .ref 9]) (mem' := cm gc81 lc81 a b R) (by intro _ _ _; eq_refl) ?_
    obtain ⟨vc82, memc82, ⟨gc82, lc82, frc82, hmc82, hRc82⟩, hrc82⟩ := ha_pwq0 (x := 6) (R := R) hg hmc81
    cases hRc82
    refine he_ivV hrc82 (by omega) (by rfl) (by rfl) (by rfl) (by rfl) (by rfl) (by rfl) ?_
    have fc82_52_7 : gc82 52 7 = nI (A.1.2.length) := (congrFun (frc82.1 52 (by decide)) 7).trans fc81_52_7
    have hfc82 := cfr_tr hfc81 frc82
    have hDc82 := cd_fr hDc81 frc82 (by decide) (by decide)
    have hsc82 : cst gc82 s := ⟨hsc81.1, (congrFun (frc82.1 12 (by decide)) 1).trans hsc81.2⟩
    refine he_s 4 (pc' := 50) (lc' := [(2, .long xc81), (0, .ref 12), (1, .ref 41)]) (stk' := [.int 99, .int 1, .ref 9]) (mem' := cm gc82 lc82 a b R) (by intro _ _ _; eq_refl) ?_
    obtain ⟨vc83, memc83, ⟨gc83, lc83, xc83, frc83, hmc83, hRc83⟩, hrc83⟩ := ha_pnq0 (x := 1) (y := 99) (R := R) hg hmc82
    cases hRc83
    refine he_ivV hrc83 (by omega) (by rfl) (by rfl) (by rfl) (by rfl) (by rfl) (by rfl) ?_
    have fc83_52_7 : gc83 52 7 = nI (A.1.2.length) := (congrFun (frc83.1 52 (by decide)) 7).trans fc82_52_7
    have hfc83 := cfr_tr hfc82 frc83
    have hDc83 := cd_fr hDc82 frc83 (by decide) (by decide)
    have hsc83 : cst gc83 s := ⟨hsc82.1, (congrFun (frc83.1 12 (by decide)) 1).trans hsc82.2⟩
    refine he_s 4 (pc' := 61) (lc' := [(4, .int xc83), (2, .long xc81), (0, .ref 12), (1, .ref 41)]) (stk' := [.int 7, .ref 9]) (mem' := cm gc83 lc83 a b R) (by intro _ _ _; eq_refl) ?_
    obtain ⟨vc84, memc84, ⟨gc84, lc84, frc84, hmc84, hRc84⟩, hrc84⟩ := ha_pwq0 (x := 7) (R := R) hg hmc83
    cases hRc84
    refine he_ivV hrc84 (by omega) (by rfl) (by rfl) (by rfl) (by rfl) (by rfl) (by rfl) ?_
    have fc84_52_7 : gc84 52 7 = nI (A.1.2.length) := (congrFun (frc84.1 52 (by decide)) 7).trans fc83_52_7
    have hfc84 := cfr_tr hfc83 frc84
    have hDc84 := cd_fr hDc83 frc84 (by decide) (by decide)
    have hsc84 : cst gc84 s := ⟨hsc83.1, (congrFun (frc84.1 12 (by decide)) 1).trans hsc83.2⟩
    refine he_s 3 (pc' := 69) (lc' := [(4, .int xc83), (2, .long xc81), (0, .ref 12), (1, .ref 41)]) (stk' := [.ref 41, .ref 9]) (mem' := cm gc84 lc84 a b R) (by intro _ _ _; eq_refl) ?_
    obtain ⟨vc85, memc85, ⟨xc85, gc85, lc85, frc85, hmc85, hbc85, hRc85⟩, hrc85⟩ := ha_ch41q0 (R := R) hg hDc84.1 hmc84
    cases hRc85
    refine he_ivV hrc85 (by omega) (by rfl) (by rfl) (by rfl) (by rfl) (by rfl) (by rfl) ?_
    have fc85_52_7 : gc85 52 7 = nI (A.1.2.length) := (congrFun (frc85.1 52 (by decide)) 7).trans fc84_52_7
    have hfc85 := cfr_tr hfc84 frc85
    have hDc85 := cd_fr hDc84 frc85 (by decide) (by decide)
    have hsc85 : cst gc85 s := ⟨hsc84.1, (congrFun (frc85.1 12 (by decide)) 1).trans hsc84.2⟩
    refine he_s 3 (pc' := 77) (lc' := [(5, .int xc85), (4, .int xc83), (2, .long xc81), (0, .ref 12), (1, .ref 41)]) (stk' := [.int xc85, .ref 41]) (mem' := cm gc85 lc85 a b R) (by intro _ _ _; eq_refl) ?_
    obtain ⟨vc86, memc86, ⟨xc86, hxc86, hRc86⟩, hrc86⟩ := ha_isq41 (g := gc85) (l := lc85) (a := a) (b := b) (R := R) (x := xc85)
    cases hRc86
    refine he_ivV hrc86 (by omega) (by rfl) (by rfl) (by rfl) (by rfl) (by rfl) (by rfl) ?_
    rcases hxc86 with rfl | rfl
    · refine he_s 1 (pc' := cond (fx_cb .ne 0 0) 91 83) (lc' := [(5, .int xc85), (4, .int xc83), (2, .long xc81), (0, .ref 12), (1, .ref 41)]) (stk' := []) (mem' := cm gc85 lc85 a b R) (by intro _ _ _; eq_refl) ?_
      rw [show (fx_cb .ne 0 0) = false from by decide]
      dsimp only [cond]
      refine he_s 3 (pc' := 88) (lc' := [(5, .int xc85), (4, .int xc83), (2, .long xc81), (0, .ref 12), (1, .ref 41)]) (stk' := [.int 5, .ref 9]) (mem' := cm gc85 lc85 a b R) (by intro _ _ _; eq_refl) ?_
      refine he_ivV (ha_failq (a := a) (b := b) (R := R) (x := 5) hmc85) (by omega) (by rfl) (by rfl) (by rfl) (by rfl) (by rfl) (by rfl) ?_
      refine he_s 2 (pc' := 95) (lc' := [(5, .int xc85), (4, .int xc83), (2, .long xc81), (0, .ref 12), (1, .ref 41)]) (stk' := [.ref 9]) (mem' := cm gc85 lc85 a b R) (by intro _ _ _; eq_refl) ?_
      obtain ⟨gc88, lc88, hrc88, hmc88, frc88⟩ := ha_scanq (R := R) hg hmc85
      refine he_ivV hrc88 (by omega) (by rfl) (by rfl) (by rfl) (by rfl) (by rfl) (by rfl) ?_
      have fc88_52_7 : gc88 52 7 = nI (A.1.2.length) := (congrFun (frc88.1 52 (by decide)) 7).trans fc85_52_7
      have hfc88 := cfr_tr hfc85 frc88
      have hDc88 := cd_fr hDc85 frc88 (by decide) (by decide)
      have hsc88 : cst gc88 s := ⟨hsc85.1, (congrFun (frc88.1 12 (by decide)) 1).trans hsc85.2⟩
      refine he_s 3 (pc' := 104) (lc' := [(5, .int xc85), (4, .int xc83), (2, .long xc81), (0, .ref 12), (1, .ref 41)]) (stk' := [.int 59, .ref 9]) (mem' := cm gc88 lc88 a b R) (by intro _ _ _; eq_refl) ?_
      obtain ⟨vc89, memc89, ⟨gc89, lc89, frc89, hmc89, hRc89⟩, hrc89⟩ := ha_psq0 (x := 59) (R := R) hg hmc88
      cases hRc89
      refine he_ivV hrc89 (by omega) (by rfl) (by rfl) (by rfl) (by rfl) (by rfl) (by rfl) ?_
      have fc89_52_7 : gc89 52 7 = nI (A.1.2.length) := (congrFun (frc89.1 52 (by decide)) 7).trans fc88_52_7
      have hfc89 := cfr_tr hfc88 frc89
      have hDc89 := cd_fr hDc88 frc89 (by decide) (by decide)
      have hsc89 : cst gc89 s := ⟨hsc88.1, (congrFun (frc89.1 12 (by decide)) 1).trans hsc88.2⟩
      refine he_s 1 (pc' := cond (fx_cb .eq 0 0) 119 110) (lc' := [(5, .int xc85), (4, .int xc83), (2, .long xc81), (0, .ref 12), (1, .ref 41)]) (stk' := []) (mem' := cm gc89 lc89 a b R) (by intro _ _ _; eq_refl) ?_
      rw [show (fx_cb .eq 0 0) = true from by decide]
      dsimp only [cond]
      refine he_ret ⟨_, _, _, _, cfd_c hfc89, ?_, rfl⟩ (by rfl) (by rfl) (by rfl)
      unfold sp_pWalk
      rw [if_pos (by omega)]
      exact hmc89
    · refine he_s 1 (pc' := cond (fx_cb .ne 1 0) 91 83) (lc' := [(5, .int xc85), (4, .int xc83), (2, .long xc81), (0, .ref 12), (1, .ref 41)]) (stk' := []) (mem' := cm gc85 lc85 a b R) (by intro _ _ _; eq_refl) ?_
      rw [show (fx_cb .ne 1 0) = true from by decide]
      dsimp only [cond]
      refine he_s 2 (pc' := 95) (lc' := [(5, .int xc85), (4, .int xc83), (2, .long xc81), (0, .ref 12), (1, .ref 41)]) (stk' := [.ref 9]) (mem' := cm gc85 lc85 a b R) (by intro _ _ _; eq_refl) ?_
      obtain ⟨gc90, lc90, hrc90, hmc90, frc90⟩ := ha_scanq (R := R) hg hmc85
      refine he_ivV hrc90 (by omega) (by rfl) (by rfl) (by rfl) (by rfl) (by rfl) (by rfl) ?_
      have fc90_52_7 : gc90 52 7 = nI (A.1.2.length) := (congrFun (frc90.1 52 (by decide)) 7).trans fc85_52_7
      have hfc90 := cfr_tr hfc85 frc90
      have hDc90 := cd_fr hDc85 frc90 (by decide) (by decide)
      have hsc90 : cst gc90 s := ⟨hsc85.1, (congrFun (frc90.1 12 (by decide)) 1).trans hsc85.2⟩
      refine he_s 3 (pc' := 104) (lc' := [(5, .int xc85), (4, .int xc83), (2, .long xc81), (0, .ref 12), (1, .ref 41)]) (stk' := [.int 59, .ref 9]) (mem' := cm gc90 lc90 a b R) (by intro _ _ _; eq_refl) ?_
      obtain ⟨vc91, memc91, ⟨gc91, lc91, frc91, hmc91, hRc91⟩, hrc91⟩ := ha_psq0 (x := 59) (R := R) hg hmc90
      cases hRc91
      refine he_ivV hrc91 (by omega) (by rfl) (by rfl) (by rfl) (by rfl) (by rfl) (by rfl) ?_
      have fc91_52_7 : gc91 52 7 = nI (A.1.2.length) := (congrFun (frc91.1 52 (by decide)) 7).trans fc90_52_7
      have hfc91 := cfr_tr hfc90 frc91
      have hDc91 := cd_fr hDc90 frc91 (by decide) (by decide)
      have hsc91 : cst gc91 s := ⟨hsc90.1, (congrFun (frc91.1 12 (by decide)) 1).trans hsc90.2⟩
      refine he_s 1 (pc' := cond (fx_cb .eq 0 0) 119 110) (lc' := [(5, .int xc85), (4, .int xc83), (2, .long xc81), (0, .ref 12), (1, .ref 41)]) (stk' := []) (mem' := cm gc91 lc91 a b R) (by intro _ _ _; eq_refl) ?_
      rw [show (fx_cb .eq 0 0) = true from by decide]
      dsimp only [cond]
      refine he_ret ⟨_, _, _, _, cfd_c hfc91, ?_, rfl⟩ (by rfl) (by rfl) (by rfl)
      unfold sp_pWalk
      rw [if_pos (by omega)]
      exact hmc91
theorem ha_st0 {y : Int32} (hg : ctx a b T n) (hD : cd_L 41 A g a b) (hs : cst g s) (h : co g l T n p) (hw : g 9 7 = nI 8) : ∃ (v : Option Value) (mem' : fx_M), (fun R1 => ∃ (v : Int32) (g' : Nat → Nat → Int32) (l' : Nat → Nat → Int64), cfd g a b l g' a b l' ∧ cRes g' l' a b T n (sp_pSet T n A s p 0 0) ∧ R1 = (some (.int v), cm g' l' a b R)) (v, mem') ∧ hr_T 5 70 [.ref 12, .int 0, .int y] (cm g l a b R) v mem' := by
  refine he_meth (F := fun R1 => ∃ (v : Int32) (g' : Nat → Nat → Int32) (l' : Nat → Nat → Int64), cfd g a b l g' a b l' ∧ cRes g' l' a b T n (sp_pSet T n A s p 0 0) ∧ R1 = (some (.int v), cm g' l' a b R)) (M := gk_m70) (by rfl) (by rfl) ?_
  have hs8 := hs.1
  by_cases hb : s / 2 ^ 0 % 2 = 1
  · obtain ⟨b1, b2⟩ := cst_b0 s hs8 0 (by decide) hb
    refine he_s 10 (pc' := 16) (lc' := [(3, .int ((1 : Int32) <<< ((g 9 7) &&& 31))), (0, .ref 12), (1, .int 0), (2, .int y)]) (stk' := [.int ((g 12 1) &&& ((1 : Int32) <<< ((g 9 7) &&& 31)))]) (mem' := cm g l a b R) (by intro _ _ _; eq_refl) ?_
    try rw [hw]
    try rw [hs.2]
    refine he_s 1 (pc' := cond (fx_cb .eq ((nI (256 * s)) &&& ((1 : Int32) <<< ((nI 8) &&& 31))) 0) 27 19) (lc' := [(3, .int ((1 : Int32) <<< ((nI 8) &&& 31))), (0, .ref 12), (1, .int 0), (2, .int y)]) (stk' := []) (mem' := cm g l a b R) (by intro _ _ _; eq_refl) ?_
    rw [show (fx_cb .eq ((nI (256 * s)) &&& ((1 : Int32) <<< ((nI 8) &&& 31))) 0) = false from (by exact cb_nz_eq b1)]
    dsimp only [cond]
    refine he_s 3 (pc' := 24) (lc' := [(3, .int ((1 : Int32) <<< ((nI 8) &&& 31))), (0, .ref 12), (1, .int 0), (2, .int y)]) (stk' := [.int 5, .ref 9]) (mem' := cm g l a b R) (by intro _ _ _; eq_refl) ?_
    obtain ⟨gc1, hrc1, hmc1, frc1⟩ := ha_fail (a := a) (b := b) (R := R) (x := 5) h (by decide)
    refine he_ivV hrc1 (by omega) (by rfl) (by rfl) (by rfl) (by rfl) (by rfl) (by rfl) ?_
    have fc1_12_1 : gc1 12 1 = nI (256 * s) := (congrFun (frc1.1 12 (by decide)) 1).trans hs.2
    have hfc1 := cfr_tr cfr_rf frc1
    have hDc1 := cd_fr hD frc1 (by decide) (by decide)
    have hsc1 : cst gc1 s := ⟨hs.1, (congrFun (frc1.1 12 (by decide)) 1).trans hs.2⟩
    refine he_s 8 (pc' := 41) (lc' := [(3, .int ((1 : Int32) <<< ((nI 8) &&& 31))), (0, .ref 12), (1, .int 0), (2, .int y)]) (stk' := [.ref 9]) (mem' := cm (fm_u gc1 12 1 ((gc1 12 1) ||| ((1 : Int32) <<< ((nI 8) &&& 31)))) l a b R) (by intro _ _ _; eq_refl) ?_
    try rw [fc1_12_1]
    have hmb1 := cq_u (j := 12) (k := 1) (x := ((nI (256 * s)) ||| ((1 : Int32) <<< ((nI 8) &&& 31)))) hmc1 (by decide)
    have hDb1 := cd_12 (j := 12) (k := 1) (x := ((nI (256 * s)) ||| ((1 : Int32) <<< ((nI 8) &&& 31)))) hDc1 (Or.inl (by decide)) (Or.inl (by decide))
    have hFb1 := cfd_tr (cfd_c hfc1) (cfd_u (b := b) (l := l) (a := a) (g := gc1) (j := 12) (k := 1) (x := ((nI (256 * s)) ||| ((1 : Int32) <<< ((nI 8) &&& 31)))) (Or.inl rfl))
    have htb1 : ((fm_u gc1 12 1 ((nI (256 * s)) ||| ((1 : Int32) <<< ((nI 8) &&& 31))))) 12 1 = ((nI (256 * s)) ||| ((1 : Int32) <<< ((nI 8) &&& 31))) := fm_ue
    generalize hgb1 : (fm_u gc1 12 1 ((nI (256 * s)) ||| ((1 : Int32) <<< ((nI 8) &&& 31)))) = gb1 at hmb1 hDb1 hFb1 htb1 ⊢
    rw [b2] at htb1
    have hsb1 : cst gb1 s := ⟨hs8, htb1⟩
    obtain ⟨gc3, lc3, hrc3, hmc3, frc3⟩ := ha_scanq (R := R) hg hmb1
    refine he_ivV hrc3 (by omega) (by rfl) (by rfl) (by rfl) (by rfl) (by rfl) (by rfl) ?_
    have hfc3 := cfr_tr cfr_rf frc3
    have hDc3 := cd_fr hDb1 frc3 (by decide) (by decide)
    have hsc3 : cst gc3 s := ⟨hsb1.1, (congrFun (frc3.1 12 (by decide)) 1).trans hsb1.2⟩
    refine he_s 4 (pc' := 51) (lc' := [(3, .int ((1 : Int32) <<< ((nI 8) &&& 31))), (0, .ref 12), (1, .int 0), (2, .int y)]) (stk' := [.int 20, .int 0, .ref 9]) (mem' := cm gc3 lc3 a b R) (by intro _ _ _; eq_refl) ?_
    obtain ⟨vc4, memc4, ⟨gc4, lc4, xc4, frc4, hmc4, hRc4⟩, hrc4⟩ := ha_pnq0 (x := 0) (y := 20) (R := R) hg hmc3
    cases hRc4
    refine he_ivV hrc4 (by omega) (by rfl) (by rfl) (by rfl) (by rfl) (by rfl) (by rfl) ?_
    have hfc4 := cfr_tr hfc3 frc4
    have hDc4 := cd_fr hDc3 frc4 (by decide) (by decide)
    have hsc4 : cst gc4 s := ⟨hsc3.1, (congrFun (frc4.1 12 (by decide)) 1).trans hsc3.2⟩
    refine he_s 4 (pc' := 62) (lc' := [(4, .int xc4), (3, .int ((1 : Int32) <<< ((nI 8) &&& 31))), (0, .ref 12), (1, .int 0), (2, .int y)]) (stk' := [.int 59, .ref 9]) (mem' := cm gc4 lc4 a b R) (by intro _ _ _; eq_refl) ?_
    obtain ⟨vc5, memc5, ⟨gc5, lc5, frc5, hmc5, hRc5⟩, hrc5⟩ := ha_psq0 (x := 59) (R := R) hg hmc4
    cases hRc5
    refine he_ivV hrc5 (by omega) (by rfl) (by rfl) (by rfl) (by rfl) (by rfl) (by rfl) ?_
    have hfc5 := cfr_tr hfc4 frc5
    have hDc5 := cd_fr hDc4 frc5 (by decide) (by decide)
    have hsc5 : cst gc5 s := ⟨hsc4.1, (congrFun (frc5.1 12 (by decide)) 1).trans hsc4.2⟩
    refine he_s 1 (pc' := cond (fx_cb .eq 0 0) 73 68) (lc' := [(4, .int xc4), (3, .int ((1 : Int32) <<< ((nI 8) &&& 31))), (0, .ref 12), (1, .int 0), (2, .int y)]) (stk' := []) (mem' := cm gc5 lc5 a b R) (by intro _ _ _; eq_refl) ?_
    rw [show (fx_cb .eq 0 0) = true from by decide]
    dsimp only [cond]
    refine he_s 1 (pc' := 74) (lc' := [(4, .int xc4), (3, .int ((1 : Int32) <<< ((nI 8) &&& 31))), (0, .ref 12), (1, .int 0), (2, .int y)]) (stk' := [.int y]) (mem' := cm gc5 lc5 a b R) (by intro _ _ _; eq_refl) ?_
    refine he_ret ⟨_, _, _, cfd_tr hFb1 (cfd_c hfc5), ?_, rfl⟩ (by rfl) (by rfl) (by rfl)
    unfold sp_pSet
    rw [if_pos hb]
    exact hmc5
  · obtain ⟨b1, b2, b3⟩ := cst_b1 s hs8 0 (by decide) hb
    refine he_s 10 (pc' := 16) (lc' := [(3, .int ((1 : Int32) <<< ((g 9 7) &&& 31))), (0, .ref 12), (1, .int 0), (2, .int y)]) (stk' := [.int ((g 12 1) &&& ((1 : Int32) <<< ((g 9 7) &&& 31)))]) (mem' := cm g l a b R) (by intro _ _ _; eq_refl) ?_
    try rw [hw]
    try rw [hs.2]
    refine he_s 1 (pc' := cond (fx_cb .eq ((nI (256 * s)) &&& ((1 : Int32) <<< ((nI 8) &&& 31))) 0) 27 19) (lc' := [(3, .int ((1 : Int32) <<< ((nI 8) &&& 31))), (0, .ref 12), (1, .int 0), (2, .int y)]) (stk' := []) (mem' := cm g l a b R) (by intro _ _ _; eq_refl) ?_
    rw [show (fx_cb .eq ((nI (256 * s)) &&& ((1 : Int32) <<< ((nI 8) &&& 31))) 0) = true from (by rw [b1]; decide)]
    dsimp only [cond]
    refine he_s 8 (pc' := 41) (lc' := [(3, .int ((1 : Int32) <<< ((nI 8) &&& 31))), (0, .ref 12), (1, .int 0), (2, .int y)]) (stk' := [.ref 9]) (mem' := cm (fm_u g 12 1 ((g 12 1) ||| ((1 : Int32) <<< ((nI 8) &&& 31)))) l a b R) (by intro _ _ _; eq_refl) ?_
    try rw [hs.2]
    have hmb5 := co_u (j := 12) (k := 1) (x := ((nI (256 * s)) ||| ((1 : Int32) <<< ((nI 8) &&& 31)))) h (by decide)
    have hDb5 := cd_12 (j := 12) (k := 1) (x := ((nI (256 * s)) ||| ((1 : Int32) <<< ((nI 8) &&& 31)))) hD (Or.inl (by decide)) (Or.inl (by decide))
    have hFb5 := cfd_tr (cfd_c cfr_rf) (cfd_u (b := b) (l := l) (a := a) (g := g) (j := 12) (k := 1) (x := ((nI (256 * s)) ||| ((1 : Int32) <<< ((nI 8) &&& 31)))) (Or.inl rfl))
    have htb5 : ((fm_u g 12 1 ((nI (256 * s)) ||| ((1 : Int32) <<< ((nI 8) &&& 31))))) 12 1 = ((nI (256 * s)) ||| ((1 : Int32) <<< ((nI 8) &&& 31))) := fm_ue
    generalize hgb5 : (fm_u g 12 1 ((nI (256 * s)) ||| ((1 : Int32) <<< ((nI 8) &&& 31)))) = gb5 at hmb5 hDb5 hFb5 htb5 ⊢
    rw [b2] at htb5
    have hsb5 : cst gb5 (s + 2 ^ 0) := ⟨b3, htb5⟩
    obtain ⟨gc7, lc7, hrc7, hmc7, frc7⟩ := ha_scano (R := R) hg hmb5
    refine he_ivV hrc7 (by omega) (by rfl) (by rfl) (by rfl) (by rfl) (by rfl) (by rfl) ?_
    have hfc7 := cfr_tr cfr_rf frc7
    have hDc7 := cd_fr hDb5 frc7 (by decide) (by decide)
    have hsc7 : cst gc7 (s + 2 ^ 0) := ⟨hsb5.1, (congrFun (frc7.1 12 (by decide)) 1).trans hsb5.2⟩
    refine he_s 4 (pc' := 51) (lc' := [(3, .int ((1 : Int32) <<< ((nI 8) &&& 31))), (0, .ref 12), (1, .int 0), (2, .int y)]) (stk' := [.int 20, .int 0, .ref 9]) (mem' := cm gc7 lc7 a b R) (by intro _ _ _; eq_refl) ?_
    obtain ⟨vc8, memc8, ⟨xc8, gc8, lc8, frc8, hxc8, hRc8⟩, hrc8⟩ := ha_pn0 (lo := 0) (hi := 20) (R := R) hg (by omega) (by decide) hmc7
    cases hRc8
    refine he_ivV hrc8 (by omega) (by rfl) (by rfl) (by rfl) (by rfl) (by rfl) (by rfl) ?_
    have hfc8 := cfr_tr hfc7 frc8
    have hDc8 := cd_fr hDc7 frc8 (by decide) (by decide)
    have hsc8 : cst gc8 (s + 2 ^ 0) := ⟨hsc7.1, (congrFun (frc8.1 12 (by decide)) 1).trans hsc7.2⟩
    rcases hxc8 with ⟨hwc8, hvc8, rfl, hmc8⟩ | ⟨hwc8, hvc8, hmc8⟩ | ⟨hwc8, hmc8⟩
    · refine he_s 4 (pc' := 62) (lc' := [(4, .int (nI (sp_v T n (sp_n T n p)))), (3, .int ((1 : Int32) <<< ((nI 8) &&& 31))), (0, .ref 12), (1, .int 0), (2, .int y)]) (stk' := [.int 59, .ref 9]) (mem' := cm gc8 lc8 a b R) (by intro _ _ _; eq_refl) ?_
      obtain ⟨vc9, memc9, ⟨xc9, gc9, lc9, frc9, hxc9, hRc9⟩, hrc9⟩ := ha_ps0 (w := 59) (R := R) hg (by decide) hmc8
      cases hRc9
      refine he_ivV hrc9 (by omega) (by rfl) (by rfl) (by rfl) (by rfl) (by rfl) (by rfl) ?_
      have hfc9 := cfr_tr hfc8 frc9
      have hDc9 := cd_fr hDc8 frc9 (by decide) (by decide)
      have hsc9 : cst gc9 (s + 2 ^ 0) := ⟨hsc8.1, (congrFun (frc9.1 12 (by decide)) 1).trans hsc8.2⟩
      rcases hxc9 with ⟨hwc9, rfl, hmc9⟩ | ⟨hwc9, rfl, hmc9⟩
      · refine he_s 1 (pc' := cond (fx_cb .eq 1 0) 73 68) (lc' := [(4, .int (nI (sp_v T n (sp_n T n p)))), (3, .int ((1 : Int32) <<< ((nI 8) &&& 31))), (0, .ref 12), (1, .int 0), (2, .int y)]) (stk' := []) (mem' := cm gc9 lc9 a b R) (by intro _ _ _; eq_refl) ?_
        rw [show (fx_cb .eq 1 0) = false from by decide]
        dsimp only [cond]
        refine he_s 2 (pc' := 74) (lc' := [(4, .int (nI (sp_v T n (sp_n T n p)))), (3, .int ((1 : Int32) <<< ((nI 8) &&& 31))), (0, .ref 12), (1, .int 0), (2, .int y)]) (stk' := [.int (nI (sp_v T n (sp_n T n p)))]) (mem' := cm gc9 lc9 a b R) (by intro _ _ _; eq_refl) ?_
        refine he_ret ⟨_, _, _, cfd_tr hFb5 (cfd_c hfc9), ?_, rfl⟩ (by rfl) (by rfl) (by rfl)
        unfold sp_pSet
        rw [if_neg hb, sp_num_t hwc8 hvc8, sp_fin_t hwc9]
        exact ⟨hmc9, hDc9, hsc9⟩
      · refine he_s 1 (pc' := cond (fx_cb .eq 0 0) 73 68) (lc' := [(4, .int (nI (sp_v T n (sp_n T n p)))), (3, .int ((1 : Int32) <<< ((nI 8) &&& 31))), (0, .ref 12), (1, .int 0), (2, .int y)]) (stk' := []) (mem' := cm gc9 lc9 a b R) (by intro _ _ _; eq_refl) ?_
        rw [show (fx_cb .eq 0 0) = true from by decide]
        dsimp only [cond]
        refine he_s 1 (pc' := 74) (lc' := [(4, .int (nI (sp_v T n (sp_n T n p)))), (3, .int ((1 : Int32) <<< ((nI 8) &&& 31))), (0, .ref 12), (1, .int 0), (2, .int y)]) (stk' := [.int y]) (mem' := cm gc9 lc9 a b R) (by intro _ _ _; eq_refl) ?_
        refine he_ret ⟨_, _, _, cfd_tr hFb5 (cfd_c hfc9), ?_, rfl⟩ (by rfl) (by rfl) (by rfl)
        unfold sp_pSet
        rw [if_neg hb, sp_num_t hwc8 hvc8, sp_fin_f hwc9]
        exact hmc9
    · refine he_s 4 (pc' := 62) (lc' := [(4, .int xc8), (3, .int ((1 : Int32) <<< ((nI 8) &&& 31))), (0, .ref 12), (1, .int 0), (2, .int y)]) (stk' := [.int 59, .ref 9]) (mem' := cm gc8 lc8 a b R) (by intro _ _ _; eq_refl) ?_
      obtain ⟨vc10, memc10, ⟨gc10, lc10, frc10, hmc10, hRc10⟩, hrc10⟩ := ha_psq0 (x := 59) (R := R) hg hmc8
      cases hRc10
      refine he_ivV hrc10 (by omega) (by rfl) (by rfl) (by rfl) (by rfl) (by rfl) (by rfl) ?_
      have hfc10 := cfr_tr hfc8 frc10
      have hDc10 := cd_fr hDc8 frc10 (by decide) (by decide)
      have hsc10 : cst gc10 (s + 2 ^ 0) := ⟨hsc8.1, (congrFun (frc10.1 12 (by decide)) 1).trans hsc8.2⟩
      refine he_s 1 (pc' := cond (fx_cb .eq 0 0) 73 68) (lc' := [(4, .int xc8), (3, .int ((1 : Int32) <<< ((nI 8) &&& 31))), (0, .ref 12), (1, .int 0), (2, .int y)]) (stk' := []) (mem' := cm gc10 lc10 a b R) (by intro _ _ _; eq_refl) ?_
      rw [show (fx_cb .eq 0 0) = true from by decide]
      dsimp only [cond]
      refine he_s 1 (pc' := 74) (lc' := [(4, .int xc8), (3, .int ((1 : Int32) <<< ((nI 8) &&& 31))), (0, .ref 12), (1, .int 0), (2, .int y)]) (stk' := [.int y]) (mem' := cm gc10 lc10 a b R) (by intro _ _ _; eq_refl) ?_
      refine he_ret ⟨_, _, _, cfd_tr hFb5 (cfd_c hfc10), ?_, rfl⟩ (by rfl) (by rfl) (by rfl)
      unfold sp_pSet
      rw [if_neg hb, sp_num_4 hwc8 hvc8]
      exact hmc10
    · refine he_s 4 (pc' := 62) (lc' := [(4, .int xc8), (3, .int ((1 : Int32) <<< ((nI 8) &&& 31))), (0, .ref 12), (1, .int 0), (2, .int y)]) (stk' := [.int 59, .ref 9]) (mem' := cm gc8 lc8 a b R) (by intro _ _ _; eq_refl) ?_
      obtain ⟨vc11, memc11, ⟨gc11, lc11, frc11, hmc11, hRc11⟩, hrc11⟩ := ha_psq0 (x := 59) (R := R) hg hmc8
      cases hRc11
      refine he_ivV hrc11 (by omega) (by rfl) (by rfl) (by rfl) (by rfl) (by rfl) (by rfl) ?_
      have hfc11 := cfr_tr hfc8 frc11
      have hDc11 := cd_fr hDc8 frc11 (by decide) (by decide)
      have hsc11 : cst gc11 (s + 2 ^ 0) := ⟨hsc8.1, (congrFun (frc11.1 12 (by decide)) 1).trans hsc8.2⟩
      refine he_s 1 (pc' := cond (fx_cb .eq 0 0) 73 68) (lc' := [(4, .int xc8), (3, .int ((1 : Int32) <<< ((nI 8) &&& 31))), (0, .ref 12), (1, .int 0), (2, .int y)]) (stk' := []) (mem' := cm gc11 lc11 a b R) (by intro _ _ _; eq_refl) ?_
      rw [show (fx_cb .eq 0 0) = true from by decide]
      dsimp only [cond]
      refine he_s 1 (pc' := 74) (lc' := [(4, .int xc8), (3, .int ((1 : Int32) <<< ((nI 8) &&& 31))), (0, .ref 12), (1, .int 0), (2, .int y)]) (stk' := [.int y]) (mem' := cm gc11 lc11 a b R) (by intro _ _ _; eq_refl) ?_
      refine he_ret ⟨_, _, _, cfd_tr hFb5 (cfd_c hfc11), ?_, rfl⟩ (by rfl) (by rfl) (by rfl)
      unfold sp_pSet
      rw [if_neg hb, sp_num_f hwc8]
      exact hmc11
theorem ha_st1 {y : Int32} (hg : ctx a b T n) (hD : cd_L 41 A g a b) (hs : cst g s) (h : co g l T n p) (hw : g 9 7 = nI 9) : ∃ (v : Option Value) (mem' : fx_M), (fun R1 => ∃ (v : Int32) (g' : Nat → Nat → Int32) (l' : Nat → Nat → Int64), cfd g a b l g' a b l' ∧ cRes g' l' a b T n (sp_pSet T n A s p 1 1) ∧ R1 = (some (.int v), cm g' l' a b R)) (v, mem') ∧ hr_T 5 70 [.ref 12, .int 1, .int y] (cm g l a b R) v mem' := by
  refine he_meth (F := fun R1 => ∃ (v : Int32) (g' : Nat → Nat → Int32) (l' : Nat → Nat → Int64), cfd g a b l g' a b l' ∧ cRes g' l' a b T n (sp_pSet T n A s p 1 1) ∧ R1 = (some (.int v), cm g' l' a b R)) (M := gk_m70) (by rfl) (by rfl) ?_
  have hs8 := hs.1
  by_cases hb : s / 2 ^ 1 % 2 = 1
  · obtain ⟨b1, b2⟩ := cst_b0 s hs8 1 (by decide) hb
    refine he_s 10 (pc' := 16) (lc' := [(3, .int ((1 : Int32) <<< ((g 9 7) &&& 31))), (0, .ref 12), (1, .int 1), (2, .int y)]) (stk' := [.int ((g 12 1) &&& ((1 : Int32) <<< ((g 9 7) &&& 31)))]) (mem' := cm g l a b R) (by intro _ _ _; eq_refl) ?_
    try rw [hw]
    try rw [hs.2]
    refine he_s 1 (pc' := cond (fx_cb .eq ((nI (256 * s)) &&& ((1 : Int32) <<< ((nI 9) &&& 31))) 0) 27 19) (lc' := [(3, .int ((1 : Int32) <<< ((nI 9) &&& 31))), (0, .ref 12), (1, .int 1), (2, .int y)]) (stk' := []) (mem' := cm g l a b R) (by intro _ _ _; eq_refl) ?_
    rw [show (fx_cb .eq ((nI (256 * s)) &&& ((1 : Int32) <<< ((nI 9) &&& 31))) 0) = false from (by exact cb_nz_eq b1)]
    dsimp only [cond]
    refine he_s 3 (pc' := 24) (lc' := [(3, .int ((1 : Int32) <<< ((nI 9) &&& 31))), (0, .ref 12), (1, .int 1), (2, .int y)]) (stk' := [.int 5, .ref 9]) (mem' := cm g l a b R) (by intro _ _ _; eq_refl) ?_
    obtain ⟨gc1, hrc1, hmc1, frc1⟩ := ha_fail (a := a) (b := b) (R := R) (x := 5) h (by decide)
    refine he_ivV hrc1 (by omega) (by rfl) (by rfl) (by rfl) (by rfl) (by rfl) (by rfl) ?_
    have fc1_12_1 : gc1 12 1 = nI (256 * s) := (congrFun (frc1.1 12 (by decide)) 1).trans hs.2
    have hfc1 := cfr_tr cfr_rf frc1
    have hDc1 := cd_fr hD frc1 (by decide) (by decide)
    have hsc1 : cst gc1 s := ⟨hs.1, (congrFun (frc1.1 12 (by decide)) 1).trans hs.2⟩
    refine he_s 8 (pc' := 41) (lc' := [(3, .int ((1 : Int32) <<< ((nI 9) &&& 31))), (0, .ref 12), (1, .int 1), (2, .int y)]) (stk' := [.ref 9]) (mem' := cm (fm_u gc1 12 1 ((gc1 12 1) ||| ((1 : Int32) <<< ((nI 9) &&& 31)))) l a b R) (by intro _ _ _; eq_refl) ?_
    try rw [fc1_12_1]
    have hmb1 := cq_u (j := 12) (k := 1) (x := ((nI (256 * s)) ||| ((1 : Int32) <<< ((nI 9) &&& 31)))) hmc1 (by decide)
    have hDb1 := cd_12 (j := 12) (k := 1) (x := ((nI (256 * s)) ||| ((1 : Int32) <<< ((nI 9) &&& 31)))) hDc1 (Or.inl (by decide)) (Or.inl (by decide))
    have hFb1 := cfd_tr (cfd_c hfc1) (cfd_u (b := b) (l := l) (a := a) (g := gc1) (j := 12) (k := 1) (x := ((nI (256 * s)) ||| ((1 : Int32) <<< ((nI 9) &&& 31)))) (Or.inl rfl))
    have htb1 : ((fm_u gc1 12 1 ((nI (256 * s)) ||| ((1 : Int32) <<< ((nI 9) &&& 31))))) 12 1 = ((nI (256 * s)) ||| ((1 : Int32) <<< ((nI 9) &&& 31))) := fm_ue
    generalize hgb1 : (fm_u gc1 12 1 ((nI (256 * s)) ||| ((1 : Int32) <<< ((nI 9) &&& 31)))) = gb1 at hmb1 hDb1 hFb1 htb1 ⊢
    rw [b2] at htb1
    have hsb1 : cst gb1 s := ⟨hs8, htb1⟩
    obtain ⟨gc3, lc3, hrc3, hmc3, frc3⟩ := ha_scanq (R := R) hg hmb1
    refine he_ivV hrc3 (by omega) (by rfl) (by rfl) (by rfl) (by rfl) (by rfl) (by rfl) ?_
    have hfc3 := cfr_tr cfr_rf frc3
    have hDc3 := cd_fr hDb1 frc3 (by decide) (by decide)
    have hsc3 : cst gc3 s := ⟨hsb1.1, (congrFun (frc3.1 12 (by decide)) 1).trans hsb1.2⟩
    refine he_s 4 (pc' := 51) (lc' := [(3, .int ((1 : Int32) <<< ((nI 9) &&& 31))), (0, .ref 12), (1, .int 1), (2, .int y)]) (stk' := [.int 20, .int 1, .ref 9]) (mem' := cm gc3 lc3 a b R) (by intro _ _ _; eq_refl) ?_
    obtain ⟨vc4, memc4, ⟨gc4, lc4, xc4, frc4, hmc4, hRc4⟩, hrc4⟩ := ha_pnq0 (x := 1) (y := 20) (R := R) hg hmc3
    cases hRc4
    refine he_ivV hrc4 (by omega) (by rfl) (by rfl) (by rfl) (by rfl) (by rfl) (by rfl) ?_
    have hfc4 := cfr_tr hfc3 frc4
    have hDc4 := cd_fr hDc3 frc4 (by decide) (by decide)
    have hsc4 : cst gc4 s := ⟨hsc3.1, (congrFun (frc4.1 12 (by decide)) 1).trans hsc3.2⟩
    refine he_s 4 (pc' := 62) (lc' := [(4, .int xc4), (3, .int ((1 : Int32) <<< ((nI 9) &&& 31))), (0, .ref 12), (1, .int 1), (2, .int y)]) (stk' := [.int 59, .ref 9]) (mem' := cm gc4 lc4 a b R) (by intro _ _ _; eq_refl) ?_
    obtain ⟨vc5, memc5, ⟨gc5, lc5, frc5, hmc5, hRc5⟩, hrc5⟩ := ha_psq0 (x := 59) (R := R) hg hmc4
    cases hRc5
    refine he_ivV hrc5 (by omega) (by rfl) (by rfl) (by rfl) (by rfl) (by rfl) (by rfl) ?_
    have hfc5 := cfr_tr hfc4 frc5
    have hDc5 := cd_fr hDc4 frc5 (by decide) (by decide)
    have hsc5 : cst gc5 s := ⟨hsc4.1, (congrFun (frc5.1 12 (by decide)) 1).trans hsc4.2⟩
    refine he_s 1 (pc' := cond (fx_cb .eq 0 0) 73 68) (lc' := [(4, .int xc4), (3, .int ((1 : Int32) <<< ((nI 9) &&& 31))), (0, .ref 12), (1, .int 1), (2, .int y)]) (stk' := []) (mem' := cm gc5 lc5 a b R) (by intro _ _ _; eq_refl) ?_
    rw [show (fx_cb .eq 0 0) = true from by decide]
    dsimp only [cond]
    refine he_s 1 (pc' := 74) (lc' := [(4, .int xc4), (3, .int ((1 : Int32) <<< ((nI 9) &&& 31))), (0, .ref 12), (1, .int 1), (2, .int y)]) (stk' := [.int y]) (mem' := cm gc5 lc5 a b R) (by intro _ _ _; eq_refl) ?_
    refine he_ret ⟨_, _, _, cfd_tr hFb1 (cfd_c hfc5), ?_, rfl⟩ (by rfl) (by rfl) (by rfl)
    unfold sp_pSet
    rw [if_pos hb]
    exact hmc5
  · obtain ⟨b1, b2, b3⟩ := cst_b1 s hs8 1 (by decide) hb
    refine he_s 10 (pc' := 16) (lc' := [(3, .int ((1 : Int32) <<< ((g 9 7) &&& 31))), (0, .ref 12), (1, .int 1), (2, .int y)]) (stk' := [.int ((g 12 1) &&& ((1 : Int32) <<< ((g 9 7) &&& 31)))]) (mem' := cm g l a b R) (by intro _ _ _; eq_refl) ?_
    try rw [hw]
    try rw [hs.2]
    refine he_s 1 (pc' := cond (fx_cb .eq ((nI (256 * s)) &&& ((1 : Int32) <<< ((nI 9) &&& 31))) 0) 27 19) (lc' := [(3, .int ((1 : Int32) <<< ((nI 9) &&& 31))), (0, .ref 12), (1, .int 1), (2, .int y)]) (stk' := []) (mem' := cm g l a b R) (by intro _ _ _; eq_refl) ?_
    rw [show (fx_cb .eq ((nI (256 * s)) &&& ((1 : Int32) <<< ((nI 9) &&& 31))) 0) = true from (by rw [b1]; decide)]
    dsimp only [cond]
    refine he_s 8 (pc' := 41) (lc' := [(3, .int ((1 : Int32) <<< ((nI 9) &&& 31))), (0, .ref 12), (1, .int 1), (2, .int y)]) (stk' := [.ref 9]) (mem' := cm (fm_u g 12 1 ((g 12 1) ||| ((1 : Int32) <<< ((nI 9) &&& 31)))) l a b R) (by intro _ _ _; eq_refl) ?_
    try rw [hs.2]
    have hmb5 := co_u (j := 12) (k := 1) (x := ((nI (256 * s)) ||| ((1 : Int32) <<< ((nI 9) &&& 31)))) h (by decide)
    have hDb5 := cd_12 (j := 12) (k := 1) (x := ((nI (256 * s)) ||| ((1 : Int32) <<< ((nI 9) &&& 31)))) hD (Or.inl (by decide)) (Or.inl (by decide))
    have hFb5 := cfd_tr (cfd_c cfr_rf) (cfd_u (b := b) (l := l) (a := a) (g := g) (j := 12) (k := 1) (x := ((nI (256 * s)) ||| ((1 : Int32) <<< ((nI 9) &&& 31)))) (Or.inl rfl))
    have htb5 : ((fm_u g 12 1 ((nI (256 * s)) ||| ((1 : Int32) <<< ((nI 9) &&& 31))))) 12 1 = ((nI (256 * s)) ||| ((1 : Int32) <<< ((nI 9) &&& 31))) := fm_ue
    generalize hgb5 : (fm_u g 12 1 ((nI (256 * s)) ||| ((1 : Int32) <<< ((nI 9) &&& 31)))) = gb5 at hmb5 hDb5 hFb5 htb5 ⊢
    rw [b2] at htb5
    have hsb5 : cst gb5 (s + 2 ^ 1) := ⟨b3, htb5⟩
    obtain ⟨gc7, lc7, hrc7, hmc7, frc7⟩ := ha_scano (R := R) hg hmb5
    refine he_ivV hrc7 (by omega) (by rfl) (by rfl) (by rfl) (by rfl) (by rfl) (by rfl) ?_
    have hfc7 := cfr_tr cfr_rf frc7
    have hDc7 := cd_fr hDb5 frc7 (by decide) (by decide)
    have hsc7 : cst gc7 (s + 2 ^ 1) := ⟨hsb5.1, (congrFun (frc7.1 12 (by decide)) 1).trans hsb5.2⟩
    refine he_s 4 (pc' := 51) (lc' := [(3, .int ((1 : Int32) <<< ((nI 9) &&& 31))), (0, .ref 12), (1, .int 1), (2, .int y)]) (stk' := [.int 20, .int 1, .ref 9]) (mem' := cm gc7 lc7 a b R) (by intro _ _ _; eq_refl) ?_
    obtain ⟨vc8, memc8, ⟨xc8, gc8, lc8, frc8, hxc8, hRc8⟩, hrc8⟩ := ha_pn0 (lo := 1) (hi := 20) (R := R) hg (by omega) (by decide) hmc7
    cases hRc8
    refine he_ivV hrc8 (by omega) (by rfl) (by rfl) (by rfl) (by rfl) (by rfl) (by rfl) ?_
    have hfc8 := cfr_tr hfc7 frc8
    have hDc8 := cd_fr hDc7 frc8 (by decide) (by decide)
    have hsc8 : cst gc8 (s + 2 ^ 1) := ⟨hsc7.1, (congrFun (frc8.1 12 (by decide)) 1).trans hsc7.2⟩
    rcases hxc8 with ⟨hwc8, hvc8, rfl, hmc8⟩ | ⟨hwc8, hvc8, hmc8⟩ | ⟨hwc8, hmc8⟩
    · refine he_s 4 (pc' := 62) (lc' := [(4, .int (nI (sp_v T n (sp_n T n p)))), (3, .int ((1 : Int32) <<< ((nI 9) &&& 31))), (0, .ref 12), (1, .int 1), (2, .int y)]) (stk' := [.int 59, .ref 9]) (mem' := cm gc8 lc8 a b R) (by intro _ _ _; eq_refl) ?_
      obtain ⟨vc9, memc9, ⟨xc9, gc9, lc9, frc9, hxc9, hRc9⟩, hrc9⟩ := ha_ps0 (w := 59) (R := R) hg (by decide) hmc8
      cases hRc9
      refine he_ivV hrc9 (by omega) (by rfl) (by rfl) (by rfl) (by rfl) (by rfl) (by rfl) ?_
      have hfc9 := cfr_tr hfc8 frc9
      have hDc9 := cd_fr hDc8 frc9 (by decide) (by decide)
      have hsc9 : cst gc9 (s + 2 ^ 1) := ⟨hsc8.1, (congrFun (frc9.1 12 (by decide)) 1).trans hsc8.2⟩
      rcases hxc9 with ⟨hwc9, rfl, hmc9⟩ | ⟨hwc9, rfl, hmc9⟩
      · refine he_s 1 (pc' := cond (fx_cb .eq 1 0) 73 68) (lc' := [(4, .int (nI (sp_v T n (sp_n T n p)))), (3, .int ((1 : Int32) <<< ((nI 9) &&& 31))), (0, .ref 12), (1, .int 1), (2, .int y)]) (stk' := []) (mem' := cm gc9 lc9 a b R) (by intro _ _ _; eq_refl) ?_
        rw [show (fx_cb .eq 1 0) = false from by decide]
        dsimp only [cond]
        refine he_s 2 (pc' := 74) (lc' := [(4, .int (nI (sp_v T n (sp_n T n p)))), (3, .int ((1 : Int32) <<< ((nI 9) &&& 31))), (0, .ref 12), (1, .int 1), (2, .int y)]) (stk' := [.int (nI (sp_v T n (sp_n T n p)))]) (mem' := cm gc9 lc9 a b R) (by intro _ _ _; eq_refl) ?_
        refine he_ret ⟨_, _, _, cfd_tr hFb5 (cfd_c hfc9), ?_, rfl⟩ (by rfl) (by rfl) (by rfl)
        unfold sp_pSet
        rw [if_neg hb, sp_num_t hwc8 hvc8, sp_fin_t hwc9]
        exact ⟨hmc9, hDc9, hsc9⟩
      · refine he_s 1 (pc' := cond (fx_cb .eq 0 0) 73 68) (lc' := [(4, .int (nI (sp_v T n (sp_n T n p)))), (3, .int ((1 : Int32) <<< ((nI 9) &&& 31))), (0, .ref 12), (1, .int 1), (2, .int y)]) (stk' := []) (mem' := cm gc9 lc9 a b R) (by intro _ _ _; eq_refl) ?_
        rw [show (fx_cb .eq 0 0) = true from by decide]
        dsimp only [cond]
        refine he_s 1 (pc' := 74) (lc' := [(4, .int (nI (sp_v T n (sp_n T n p)))), (3, .int ((1 : Int32) <<< ((nI 9) &&& 31))), (0, .ref 12), (1, .int 1), (2, .int y)]) (stk' := [.int y]) (mem' := cm gc9 lc9 a b R) (by intro _ _ _; eq_refl) ?_
        refine he_ret ⟨_, _, _, cfd_tr hFb5 (cfd_c hfc9), ?_, rfl⟩ (by rfl) (by rfl) (by rfl)
        unfold sp_pSet
        rw [if_neg hb, sp_num_t hwc8 hvc8, sp_fin_f hwc9]
        exact hmc9
    · refine he_s 4 (pc' := 62) (lc' := [(4, .int xc8), (3, .int ((1 : Int32) <<< ((nI 9) &&& 31))), (0, .ref 12), (1, .int 1), (2, .int y)]) (stk' := [.int 59, .ref 9]) (mem' := cm gc8 lc8 a b R) (by intro _ _ _; eq_refl) ?_
      obtain ⟨vc10, memc10, ⟨gc10, lc10, frc10, hmc10, hRc10⟩, hrc10⟩ := ha_psq0 (x := 59) (R := R) hg hmc8
      cases hRc10
      refine he_ivV hrc10 (by omega) (by rfl) (by rfl) (by rfl) (by rfl) (by rfl) (by rfl) ?_
      have hfc10 := cfr_tr hfc8 frc10
      have hDc10 := cd_fr hDc8 frc10 (by decide) (by decide)
      have hsc10 : cst gc10 (s + 2 ^ 1) := ⟨hsc8.1, (congrFun (frc10.1 12 (by decide)) 1).trans hsc8.2⟩
      refine he_s 1 (pc' := cond (fx_cb .eq 0 0) 73 68) (lc' := [(4, .int xc8), (3, .int ((1 : Int32) <<< ((nI 9) &&& 31))), (0, .ref 12), (1, .int 1), (2, .int y)]) (stk' := []) (mem' := cm gc10 lc10 a b R) (by intro _ _ _; eq_refl) ?_
      rw [show (fx_cb .eq 0 0) = true from by decide]
      dsimp only [cond]
      refine he_s 1 (pc' := 74) (lc' := [(4, .int xc8), (3, .int ((1 : Int32) <<< ((nI 9) &&& 31))), (0, .ref 12), (1, .int 1), (2, .int y)]) (stk' := [.int y]) (mem' := cm gc10 lc10 a b R) (by intro _ _ _; eq_refl) ?_
      refine he_ret ⟨_, _, _, cfd_tr hFb5 (cfd_c hfc10), ?_, rfl⟩ (by rfl) (by rfl) (by rfl)
      unfold sp_pSet
      rw [if_neg hb, sp_num_4 hwc8 hvc8]
      exact hmc10
    · refine he_s 4 (pc' := 62) (lc' := [(4, .int xc8), (3, .int ((1 : Int32) <<< ((nI 9) &&& 31))), (0, .ref 12), (1, .int 1), (2, .int y)]) (stk' := [.int 59, .ref 9]) (mem' := cm gc8 lc8 a b R) (by intro _ _ _; eq_refl) ?_
      obtain ⟨vc11, memc11, ⟨gc11, lc11, frc11, hmc11, hRc11⟩, hrc11⟩ := ha_psq0 (x := 59) (R := R) hg hmc8
      cases hRc11
      refine he_ivV hrc11 (by omega) (by rfl) (by rfl) (by rfl) (by rfl) (by rfl) (by rfl) ?_
      have hfc11 := cfr_tr hfc8 frc11
      have hDc11 := cd_fr hDc8 frc11 (by decide) (by decide)
      have hsc11 : cst gc11 (s + 2 ^ 1) := ⟨hsc8.1, (congrFun (frc11.1 12 (by decide)) 1).trans hsc8.2⟩
      refine he_s 1 (pc' := cond (fx_cb .eq 0 0) 73 68) (lc' := [(4, .int xc8), (3, .int ((1 : Int32) <<< ((nI 9) &&& 31))), (0, .ref 12), (1, .int 1), (2, .int y)]) (stk' := []) (mem' := cm gc11 lc11 a b R) (by intro _ _ _; eq_refl) ?_
      rw [show (fx_cb .eq 0 0) = true from by decide]
      dsimp only [cond]
      refine he_s 1 (pc' := 74) (lc' := [(4, .int xc8), (3, .int ((1 : Int32) <<< ((nI 9) &&& 31))), (0, .ref 12), (1, .int 1), (2, .int y)]) (stk' := [.int y]) (mem' := cm gc11 lc11 a b R) (by intro _ _ _; eq_refl) ?_
      refine he_ret ⟨_, _, _, cfd_tr hFb5 (cfd_c hfc11), ?_, rfl⟩ (by rfl) (by rfl) (by rfl)
      unfold sp_pSet
      rw [if_neg hb, sp_num_f hwc8]
      exact hmc11
theorem ha_st2 {y : Int32} (hg : ctx a b T n) (hD : cd_L 41 A g a b) (hs : cst g s) (h : co g l T n p) (hw : g 9 7 = nI 10) : ∃ (v : Option Value) (mem' : fx_M), (fun R1 => ∃ (v : Int32) (g' : Nat → Nat → Int32) (l' : Nat → Nat → Int64), cfd g a b l g' a b l' ∧ cRes g' l' a b T n (sp_pSet T n A s p 2 0) ∧ R1 = (some (.int v), cm g' l' a b R)) (v, mem') ∧ hr_T 5 70 [.ref 12, .int 0, .int y] (cm g l a b R) v mem' := by
  refine he_meth (F := fun R1 => ∃ (v : Int32) (g' : Nat → Nat → Int32) (l' : Nat → Nat → Int64), cfd g a b l g' a b l' ∧ cRes g' l' a b T n (sp_pSet T n A s p 2 0) ∧ R1 = (some (.int v), cm g' l' a b R)) (M := gk_m70) (by rfl) (by rfl) ?_
  have hs8 := hs.1
  by_cases hb : s / 2 ^ 2 % 2 = 1
  · obtain ⟨b1, b2⟩ := cst_b0 s hs8 2 (by decide) hb
    refine he_s 10 (pc' := 16) (lc' := [(3, .int ((1 : Int32) <<< ((g 9 7) &&& 31))), (0, .ref 12), (1, .int 0), (2, .int y)]) (stk' := [.int ((g 12 1) &&& ((1 : Int32) <<< ((g 9 7) &&& 31)))]) (mem' := cm g l a b R) (by intro _ _ _; eq_refl) ?_
    try rw [hw]
    try rw [hs.2]
    refine he_s 1 (pc' := cond (fx_cb .eq ((nI (256 * s)) &&& ((1 : Int32) <<< ((nI 10) &&& 31))) 0) 27 19) (lc' := [(3, .int ((1 : Int32) <<< ((nI 10) &&& 31))), (0, .ref 12), (1, .int 0), (2, .int y)]) (stk' := []) (mem' := cm g l a b R) (by intro _ _ _; eq_refl) ?_
    rw [show (fx_cb .eq ((nI (256 * s)) &&& ((1 : Int32) <<< ((nI 10) &&& 31))) 0) = false from (by exact cb_nz_eq b1)]
    dsimp only [cond]
    refine he_s 3 (pc' := 24) (lc' := [(3, .int ((1 : Int32) <<< ((nI 10) &&& 31))), (0, .ref 12), (1, .int 0), (2, .int y)]) (stk' := [.int 5, .ref 9]) (mem' := cm g l a b R) (by intro _ _ _; eq_refl) ?_
    obtain ⟨gc1, hrc1, hmc1, frc1⟩ := ha_fail (a := a) (b := b) (R := R) (x := 5) h (by decide)
    refine he_ivV hrc1 (by omega) (by rfl) (by rfl) (by rfl) (by rfl) (by rfl) (by rfl) ?_
    have fc1_12_1 : gc1 12 1 = nI (256 * s) := (congrFun (frc1.1 12 (by decide)) 1).trans hs.2
    have hfc1 := cfr_tr cfr_rf frc1
    have hDc1 := cd_fr hD frc1 (by decide) (by decide)
    have hsc1 : cst gc1 s := ⟨hs.1, (congrFun (frc1.1 12 (by decide)) 1).trans hs.2⟩
    refine he_s 8 (pc' := 41) (lc' := [(3, .int ((1 : Int32) <<< ((nI 10) &&& 31))), (0, .ref 12), (1, .int 0), (2, .int y)]) (stk' := [.ref 9]) (mem' := cm (fm_u gc1 12 1 ((gc1 12 1) ||| ((1 : Int32) <<< ((nI 10) &&& 31)))) l a b R) (by intro _ _ _; eq_refl) ?_
    try rw [fc1_12_1]
    have hmb1 := cq_u (j := 12) (k := 1) (x := ((nI (256 * s)) ||| ((1 : Int32) <<< ((nI 10) &&& 31)))) hmc1 (by decide)
    have hDb1 := cd_12 (j := 12) (k := 1) (x := ((nI (256 * s)) ||| ((1 : Int32) <<< ((nI 10) &&& 31)))) hDc1 (Or.inl (by decide)) (Or.inl (by decide))
    have hFb1 := cfd_tr (cfd_c hfc1) (cfd_u (b := b) (l := l) (a := a) (g := gc1) (j := 12) (k := 1) (x := ((nI (256 * s)) ||| ((1 : Int32) <<< ((nI 10) &&& 31)))) (Or.inl rfl))
    have htb1 : ((fm_u gc1 12 1 ((nI (256 * s)) ||| ((1 : Int32) <<< ((nI 10) &&& 31))))) 12 1 = ((nI (256 * s)) ||| ((1 : Int32) <<< ((nI 10) &&& 31))) := fm_ue
    generalize hgb1 : (fm_u gc1 12 1 ((nI (256 * s)) ||| ((1 : Int32) <<< ((nI 10) &&& 31)))) = gb1 at hmb1 hDb1 hFb1 htb1 ⊢
    rw [b2] at htb1
    have hsb1 : cst gb1 s := ⟨hs8, htb1⟩
    obtain ⟨gc3, lc3, hrc3, hmc3, frc3⟩ := ha_scanq (R := R) hg hmb1
    refine he_ivV hrc3 (by omega) (by rfl) (by rfl) (by rfl) (by rfl) (by rfl) (by rfl) ?_
    have hfc3 := cfr_tr cfr_rf frc3
    have hDc3 := cd_fr hDb1 frc3 (by decide) (by decide)
    have hsc3 : cst gc3 s := ⟨hsb1.1, (congrFun (frc3.1 12 (by decide)) 1).trans hsb1.2⟩
    refine he_s 4 (pc' := 51) (lc' := [(3, .int ((1 : Int32) <<< ((nI 10) &&& 31))), (0, .ref 12), (1, .int 0), (2, .int y)]) (stk' := [.int 20, .int 0, .ref 9]) (mem' := cm gc3 lc3 a b R) (by intro _ _ _; eq_refl) ?_
    obtain ⟨vc4, memc4, ⟨gc4, lc4, xc4, frc4, hmc4, hRc4⟩, hrc4⟩ := ha_pnq0 (x := 0) (y := 20) (R := R) hg hmc3
    cases hRc4
    refine he_ivV hrc4 (by omega) (by rfl) (by rfl) (by rfl) (by rfl) (by rfl) (by rfl) ?_
    have hfc4 := cfr_tr hfc3 frc4
    have hDc4 := cd_fr hDc3 frc4 (by decide) (by decide)
    have hsc4 : cst gc4 s := ⟨hsc3.1, (congrFun (frc4.1 12 (by decide)) 1).trans hsc3.2⟩
    refine he_s 4 (pc' := 62) (lc' := [(4, .int xc4), (3, .int ((1 : Int32) <<< ((nI 10) &&& 31))), (0, .ref 12), (1, .int 0), (2, .int y)]) (stk' := [.int 59, .ref 9]) (mem' := cm gc4 lc4 a b R) (by intro _ _ _; eq_refl) ?_
    obtain ⟨vc5, memc5, ⟨gc5, lc5, frc5, hmc5, hRc5⟩, hrc5⟩ := ha_psq0 (x := 59) (R := R) hg hmc4
    cases hRc5
    refine he_ivV hrc5 (by omega) (by rfl) (by rfl) (by rfl) (by rfl) (by rfl) (by rfl) ?_
    have hfc5 := cfr_tr hfc4 frc5
    have hDc5 := cd_fr hDc4 frc5 (by decide) (by decide)
    have hsc5 : cst gc5 s := ⟨hsc4.1, (congrFun (frc5.1 12 (by decide)) 1).trans hsc4.2⟩
    refine he_s 1 (pc' := cond (fx_cb .eq 0 0) 73 68) (lc' := [(4, .int xc4), (3, .int ((1 : Int32) <<< ((nI 10) &&& 31))), (0, .ref 12), (1, .int 0), (2, .int y)]) (stk' := []) (mem' := cm gc5 lc5 a b R) (by intro _ _ _; eq_refl) ?_
    rw [show (fx_cb .eq 0 0) = true from by decide]
    dsimp only [cond]
    refine he_s 1 (pc' := 74) (lc' := [(4, .int xc4), (3, .int ((1 : Int32) <<< ((nI 10) &&& 31))), (0, .ref 12), (1, .int 0), (2, .int y)]) (stk' := [.int y]) (mem' := cm gc5 lc5 a b R) (by intro _ _ _; eq_refl) ?_
    refine he_ret ⟨_, _, _, cfd_tr hFb1 (cfd_c hfc5), ?_, rfl⟩ (by rfl) (by rfl) (by rfl)
    unfold sp_pSet
    rw [if_pos hb]
    exact hmc5
  · obtain ⟨b1, b2, b3⟩ := cst_b1 s hs8 2 (by decide) hb
    refine he_s 10 (pc' := 16) (lc' := [(3, .int ((1 : Int32) <<< ((g 9 7) &&& 31))), (0, .ref 12), (1, .int 0), (2, .int y)]) (stk' := [.int ((g 12 1) &&& ((1 : Int32) <<< ((g 9 7) &&& 31)))]) (mem' := cm g l a b R) (by intro _ _ _; eq_refl) ?_
    try rw [hw]
    try rw [hs.2]
    refine he_s 1 (pc' := cond (fx_cb .eq ((nI (256 * s)) &&& ((1 : Int32) <<< ((nI 10) &&& 31))) 0) 27 19) (lc' := [(3, .int ((1 : Int32) <<< ((nI 10) &&& 31))), (0, .ref 12), (1, .int 0), (2, .int y)]) (stk' := []) (mem' := cm g l a b R) (by intro _ _ _; eq_refl) ?_
    rw [show (fx_cb .eq ((nI (256 * s)) &&& ((1 : Int32) <<< ((nI 10) &&& 31))) 0) = true from (by rw [b1]; decide)]
    dsimp only [cond]
    refine he_s 8 (pc' := 41) (lc' := [(3, .int ((1 : Int32) <<< ((nI 10) &&& 31))), (0, .ref 12), (1, .int 0), (2, .int y)]) (stk' := [.ref 9]) (mem' := cm (fm_u g 12 1 ((g 12 1) ||| ((1 : Int32) <<< ((nI 10) &&& 31)))) l a b R) (by intro _ _ _; eq_refl) ?_
    try rw [hs.2]
    have hmb5 := co_u (j := 12) (k := 1) (x := ((nI (256 * s)) ||| ((1 : Int32) <<< ((nI 10) &&& 31)))) h (by decide)
    have hDb5 := cd_12 (j := 12) (k := 1) (x := ((nI (256 * s)) ||| ((1 : Int32) <<< ((nI 10) &&& 31)))) hD (Or.inl (by decide)) (Or.inl (by decide))
    have hFb5 := cfd_tr (cfd_c cfr_rf) (cfd_u (b := b) (l := l) (a := a) (g := g) (j := 12) (k := 1) (x := ((nI (256 * s)) ||| ((1 : Int32) <<< ((nI 10) &&& 31)))) (Or.inl rfl))
    have htb5 : ((fm_u g 12 1 ((nI (256 * s)) ||| ((1 : Int32) <<< ((nI 10) &&& 31))))) 12 1 = ((nI (256 * s)) ||| ((1 : Int32) <<< ((nI 10) &&& 31))) := fm_ue
    generalize hgb5 : (fm_u g 12 1 ((nI (256 * s)) ||| ((1 : Int32) <<< ((nI 10) &&& 31)))) = gb5 at hmb5 hDb5 hFb5 htb5 ⊢
    rw [b2] at htb5
    have hsb5 : cst gb5 (s + 2 ^ 2) := ⟨b3, htb5⟩
    obtain ⟨gc7, lc7, hrc7, hmc7, frc7⟩ := ha_scano (R := R) hg hmb5
    refine he_ivV hrc7 (by omega) (by rfl) (by rfl) (by rfl) (by rfl) (by rfl) (by rfl) ?_
    have hfc7 := cfr_tr cfr_rf frc7
    have hDc7 := cd_fr hDb5 frc7 (by decide) (by decide)
    have hsc7 : cst gc7 (s + 2 ^ 2) := ⟨hsb5.1, (congrFun (frc7.1 12 (by decide)) 1).trans hsb5.2⟩
    refine he_s 4 (pc' := 51) (lc' := [(3, .int ((1 : Int32) <<< ((nI 10) &&& 31))), (0, .ref 12), (1, .int 0), (2, .int y)]) (stk' := [.int 20, .int 0, .ref 9]) (mem' := cm gc7 lc7 a b R) (by intro _ _ _; eq_refl) ?_
    obtain ⟨vc8, memc8, ⟨xc8, gc8, lc8, frc8, hxc8, hRc8⟩, hrc8⟩ := ha_pn0 (lo := 0) (hi := 20) (R := R) hg (by omega) (by decide) hmc7
    cases hRc8
    refine he_ivV hrc8 (by omega) (by rfl) (by rfl) (by rfl) (by rfl) (by rfl) (by rfl) ?_
    have hfc8 := cfr_tr hfc7 frc8
    have hDc8 := cd_fr hDc7 frc8 (by decide) (by decide)
    have hsc8 : cst gc8 (s + 2 ^ 2) := ⟨hsc7.1, (congrFun (frc8.1 12 (by decide)) 1).trans hsc7.2⟩
    rcases hxc8 with ⟨hwc8, hvc8, rfl, hmc8⟩ | ⟨hwc8, hvc8, hmc8⟩ | ⟨hwc8, hmc8⟩
    · refine he_s 4 (pc' := 62) (lc' := [(4, .int (nI (sp_v T n (sp_n T n p)))), (3, .int ((1 : Int32) <<< ((nI 10) &&& 31))), (0, .ref 12), (1, .int 0), (2, .int y)]) (stk' := [.int 59, .ref 9]) (mem' := cm gc8 lc8 a b R) (by intro _ _ _; eq_refl) ?_
      obtain ⟨vc9, memc9, ⟨xc9, gc9, lc9, frc9, hxc9, hRc9⟩, hrc9⟩ := ha_ps0 (w := 59) (R := R) hg (by decide) hmc8
      cases hRc9
      refine he_ivV hrc9 (by omega) (by rfl) (by rfl) (by rfl) (by rfl) (by rfl) (by rfl) ?_
      have hfc9 := cfr_tr hfc8 frc9
      have hDc9 := cd_fr hDc8 frc9 (by decide) (by decide)
      have hsc9 : cst gc9 (s + 2 ^ 2) := ⟨hsc8.1, (congrFun (frc9.1 12 (by decide)) 1).trans hsc8.2⟩
      rcases hxc9 with ⟨hwc9, rfl, hmc9⟩ | ⟨hwc9, rfl, hmc9⟩
      · refine he_s 1 (pc' := cond (fx_cb .eq 1 0) 73 68) (lc' := [(4, .int (nI (sp_v T n (sp_n T n p)))), (3, .int ((1 : Int32) <<< ((nI 10) &&& 31))), (0, .ref 12), (1, .int 0), (2, .int y)]) (stk' := []) (mem' := cm gc9 lc9 a b R) (by intro _ _ _; eq_refl) ?_
        rw [show (fx_cb .eq 1 0) = false from by decide]
        dsimp only [cond]
        refine he_s 2 (pc' := 74) (lc' := [(4, .int (nI (sp_v T n (sp_n T n p)))), (3, .int ((1 : Int32) <<< ((nI 10) &&& 31))), (0, .ref 12), (1, .int 0), (2, .int y)]) (stk' := [.int (nI (sp_v T n (sp_n T n p)))]) (mem' := cm gc9 lc9 a b R) (by intro _ _ _; eq_refl) ?_
        refine he_ret ⟨_, _, _, cfd_tr hFb5 (cfd_c hfc9), ?_, rfl⟩ (by rfl) (by rfl) (by rfl)
        unfold sp_pSet
        rw [if_neg hb, sp_num_t hwc8 hvc8, sp_fin_t hwc9]
        exact ⟨hmc9, hDc9, hsc9⟩
      · refine he_s 1 (pc' := cond (fx_cb .eq 0 0) 73 68) (lc' := [(4, .int (nI (sp_v T n (sp_n T n p)))), (3, .int ((1 : Int32) <<< ((nI 10) &&& 31))), (0, .ref 12), (1, .int 0), (2, .int y)]) (stk' := []) (mem' := cm gc9 lc9 a b R) (by intro _ _ _; eq_refl) ?_
        rw [show (fx_cb .eq 0 0) = true from by decide]
        dsimp only [cond]
        refine he_s 1 (pc' := 74) (lc' := [(4, .int (nI (sp_v T n (sp_n T n p)))), (3, .int ((1 : Int32) <<< ((nI 10) &&& 31))), (0, .ref 12), (1, .int 0), (2, .int y)]) (stk' := [.int y]) (mem' := cm gc9 lc9 a b R) (by intro _ _ _; eq_refl) ?_
        refine he_ret ⟨_, _, _, cfd_tr hFb5 (cfd_c hfc9), ?_, rfl⟩ (by rfl) (by rfl) (by rfl)
        unfold sp_pSet
        rw [if_neg hb, sp_num_t hwc8 hvc8, sp_fin_f hwc9]
        exact hmc9
    · refine he_s 4 (pc' := 62) (lc' := [(4, .int xc8), (3, .int ((1 : Int32) <<< ((nI 10) &&& 31))), (0, .ref 12), (1, .int 0), (2, .int y)]) (stk' := [.int 59, .ref 9]) (mem' := cm gc8 lc8 a b R) (by intro _ _ _; eq_refl) ?_
      obtain ⟨vc10, memc10, ⟨gc10, lc10, frc10, hmc10, hRc10⟩, hrc10⟩ := ha_psq0 (x := 59) (R := R) hg hmc8
      cases hRc10
      refine he_ivV hrc10 (by omega) (by rfl) (by rfl) (by rfl) (by rfl) (by rfl) (by rfl) ?_
      have hfc10 := cfr_tr hfc8 frc10
      have hDc10 := cd_fr hDc8 frc10 (by decide) (by decide)
      have hsc10 : cst gc10 (s + 2 ^ 2) := ⟨hsc8.1, (congrFun (frc10.1 12 (by decide)) 1).trans hsc8.2⟩
      refine he_s 1 (pc' := cond (fx_cb .eq 0 0) 73 68) (lc' := [(4, .int xc8), (3, .int ((1 : Int32) <<< ((nI 10) &&& 31))), (0, .ref 12), (1, .int 0), (2, .int y)]) (stk' := []) (mem' := cm gc10 lc10 a b R) (by intro _ _ _; eq_refl) ?_
      rw [show (fx_cb .eq 0 0) = true from by decide]
      dsimp only [cond]
      refine he_s 1 (pc' := 74) (lc' := [(4, .int xc8), (3, .int ((1 : Int32) <<< ((nI 10) &&& 31))), (0, .ref 12), (1, .int 0), (2, .int y)]) (stk' := [.int y]) (mem' := cm gc10 lc10 a b R) (by intro _ _ _; eq_refl) ?_
      refine he_ret ⟨_, _, _, cfd_tr hFb5 (cfd_c hfc10), ?_, rfl⟩ (by rfl) (by rfl) (by rfl)
      unfold sp_pSet
      rw [if_neg hb, sp_num_4 hwc8 hvc8]
      exact hmc10
    · refine he_s 4 (pc' := 62) (lc' := [(4, .int xc8), (3, .int ((1 : Int32) <<< ((nI 10) &&& 31))), (0, .ref 12), (1, .int 0), (2, .int y)]) (stk' := [.int 59, .ref 9]) (mem' := cm gc8 lc8 a b R) (by intro _ _ _; eq_refl) ?_
      obtain ⟨vc11, memc11, ⟨gc11, lc11, frc11, hmc11, hRc11⟩, hrc11⟩ := ha_psq0 (x := 59) (R := R) hg hmc8
      cases hRc11
      refine he_ivV hrc11 (by omega) (by rfl) (by rfl) (by rfl) (by rfl) (by rfl) (by rfl) ?_
      have hfc11 := cfr_tr hfc8 frc11
      have hDc11 := cd_fr hDc8 frc11 (by decide) (by decide)
      have hsc11 : cst gc11 (s + 2 ^ 2) := ⟨hsc8.1, (congrFun (frc11.1 12 (by decide)) 1).trans hsc8.2⟩
      refine he_s 1 (pc' := cond (fx_cb .eq 0 0) 73 68) (lc' := [(4, .int xc8), (3, .int ((1 : Int32) <<< ((nI 10) &&& 31))), (0, .ref 12), (1, .int 0), (2, .int y)]) (stk' := []) (mem' := cm gc11 lc11 a b R) (by intro _ _ _; eq_refl) ?_
      rw [show (fx_cb .eq 0 0) = true from by decide]
      dsimp only [cond]
      refine he_s 1 (pc' := 74) (lc' := [(4, .int xc8), (3, .int ((1 : Int32) <<< ((nI 10) &&& 31))), (0, .ref 12), (1, .int 0), (2, .int y)]) (stk' := [.int y]) (mem' := cm gc11 lc11 a b R) (by intro _ _ _; eq_refl) ?_
      refine he_ret ⟨_, _, _, cfd_tr hFb5 (cfd_c hfc11), ?_, rfl⟩ (by rfl) (by rfl) (by rfl)
      unfold sp_pSet
      rw [if_neg hb, sp_num_f hwc8]
      exact hmc11
end CPT
