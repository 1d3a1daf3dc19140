section MH24_0
/-! ===== fx: queues: wrongQueue ===== -/
section FQ3
variable {g : Nat → Int32} {tp bt : Int64} {a0 a : Nat → Nat → Int32} {b : Nat → Nat → Int64}
theorem fm_p2i (n : Nat) : (2 : Int) ^ n = ((2 ^ n : Nat) : Int) := by rw [Int.natCast_pow]; rfl
set_option maxHeartbeats 4000000 in
theorem fr_wrongQueue {T : Nat} {NWq : Nat} {set tray nn : Int32} (hB : fm_B a0) (hD : fm_D a0 a T) (hNq : a0 1 1 = nI NWq) (hNq8 : NWq ≤ 8)  : ∃ (v : Option Value) (mem' : fx_M), (fun R => ∃ v : Nat, v ≤ 9 ∧ (v = 0 → ∃ S9 t9 N9 : Nat, set = nI S9 ∧ tray = nI t9 ∧ nn = nI N9 ∧ 1 ≤ S9 ∧ S9 < 2 ^ NWq ∧ fm_pw S9 8 ≤ 4 ∧ t9 < 4 ∧ 1 ≤ N9 ∧ N9 ≤ 12 ∧ ∀ k, k < N9 → ∃ C, C < 10 ∧ b 5 (60 * t9 + k) = Int64.ofNat C) ∧ ∃ a' : Nat → Nat → Int32, fm_D a0 a' T ∧ R = (some (.int (nI v)), fm g tp bt a' b)) (v, mem') ∧ fr_T 9 333 [.ref 0, .int set, .int tray, .int nn] (fm g tp bt a b) v mem' := by
  obtain ⟨NC, hNC, eNC⟩ := fm_B_0 hB (i := 0) (n := 10) (by decide) rfl
  obtain ⟨NW, hNW, eNW⟩ := fm_B_0 hB (i := 1) (n := 8) (by decide) rfl
  have eNq : NWq = NW := (nI_eq (by omega) (by omega)).mp (hNq.symm.trans eNW)
  have hT9 := hD.2.2.2.2.1
  refine fe_meth (F := fun R => ∃ v : Nat, v ≤ 9 ∧ (v = 0 → ∃ S9 t9 N9 : Nat, set = nI S9 ∧ tray = nI t9 ∧ nn = nI N9 ∧ 1 ≤ S9 ∧ S9 < 2 ^ NWq ∧ fm_pw S9 8 ≤ 4 ∧ t9 < 4 ∧ 1 ≤ N9 ∧ N9 ≤ 12 ∧ ∀ k, k < N9 → ∃ C, C < 10 ∧ b 5 (60 * t9 + k) = Int64.ofNat C) ∧ ∃ a' : Nat → Nat → Int32, fm_D a0 a' T ∧ R = (some (.int (nI v)), fm g tp bt a' b)) (M := gk_m333) (by rfl) (by rfl) ?_
  refine fe_s 7 (pc' := 9) (lc' := [(0, .ref 0), (1, .int set), (2, .int tray), (3, .int nn)]) (stk' := [.int 1, .ref 1, .long 1, .long 1, .long (set.toInt64)]) (mem' := fm g tp bt a b) (by intro _ _ _; eq_refl) ?_
  refine fe_ldI (by rfl) (by rfl) (fx_inN (i := 1) (by omega) (by omega)) ?_
  rw [show Int32.toNatClampNeg (1) = 1 from rfl]
  rw [show a 1 1 = nI NW from (fm_D_h hD (by decide) rfl).trans eNW]
  refine fe_s 3 (pc' := 13) (lc' := [(0, .ref 0), (1, .int set), (2, .int tray), (3, .int nn)]) (stk' := [.long ((1 <<< ((nI NW).toInt64 &&& 63)) - 1), .long 1, .long (set.toInt64)]) (mem' := fm g tp bt a b) (by intro _ _ _; eq_refl) ?_
  obtain ⟨vf101, memf101, ⟨xf101, hxf101, hRf101⟩, hfrf101⟩ := fr_isFrom (v := set.toInt64) (l := 1) (m := (1 <<< ((nI NW).toInt64 &&& 63)) - 1) (mem := fm g tp bt a b)
  cases hRf101
  refine fe_ivS hfrf101 (by omega) (by rfl) (by rfl) (by rfl) (by rfl) (by rfl) ?_
  rcases hxf101 with ⟨rfl, -⟩ | ⟨rfl, hlf101, hmf101⟩
  · refine fe_s 1 (pc' := cond (fx_cb .eq 0 0) 27 19) (lc' := [(0, .ref 0), (1, .int set), (2, .int tray), (3, .int nn)]) (stk' := []) (mem' := fm g tp bt a b) (by intro _ _ _; eq_refl) ?_
    rw [show (fx_cb .eq 0 0) = true from by decide]
    dsimp only [cond]
    refine fe_s 1 (pc' := 28) (lc' := [(0, .ref 0), (1, .int set), (2, .int tray), (3, .int nn)]) (stk' := [.int 1]) (mem' := fm g tp bt a b) (by intro _ _ _; eq_refl) ?_
    exact fe_ret ⟨1, by omega, fun hh => absurd hh (by omega), _, hD, rfl⟩ (by rfl) (by rfl) (by rfl)
  · have h256 : 2 ^ NW ≤ 2 ^ 8 := Nat.pow_le_pow_right (by decide) hNW
    rw [Int32.toInt_toInt64] at hlf101 hmf101
    rw [fm_lshl NW (by omega)] at hmf101
    rw [show ((1 : Int64).toInt) = 1 from rfl] at hlf101
    rw [show (2 : Nat) ^ 8 = 256 from rfl] at h256
    rw [fm_p2i] at hmf101
    obtain ⟨S, hS255, rfl⟩ : ∃ S, S ≤ 255 ∧ set = nI S := nI_bd (n := 255) (by omega) (by omega)
    rw [nI_i32 (by omega)] at hlf101 hmf101
    have hS1 : 1 ≤ S := by omega
    have hSN : S < 2 ^ NW := by omega
    refine fe_s 1 (pc' := cond (fx_cb .eq 1 0) 27 19) (lc' := [(0, .ref 0), (1, .int (nI S)), (2, .int tray), (3, .int nn)]) (stk' := []) (mem' := fm g tp bt a b) (by intro _ _ _; eq_refl) ?_
    rw [show (fx_cb .eq 1 0) = false from by decide]
    dsimp only [cond]
    refine fe_s 1 (pc' := 20) (lc' := [(0, .ref 0), (1, .int (nI S)), (2, .int tray), (3, .int nn)]) (stk' := [.int (nI S)]) (mem' := fm g tp bt a b) (by intro _ _ _; eq_refl) ?_
    obtain ⟨p, hp⟩ : ∃ p, p = fm_pw S 8 := ⟨_, rfl⟩
    have hp8 : p ≤ 8 := by rw [hp]; exact fm_pw_w S 8
    have hbN := fr_bitsN (S := S) (mem := fm g tp bt a b) (by omega)
    rw [← hp] at hbN
    refine fe_ivS hbN (by omega) (by rfl) (by rfl) (by rfl) (by rfl) (by rfl) ?_
    refine fe_s 1 (pc' := 24) (lc' := [(0, .ref 0), (1, .int (nI S)), (2, .int tray), (3, .int nn)]) (stk' := [.int 4, .int (nI p)]) (mem' := fm g tp bt a b) (by intro _ _ _; eq_refl) ?_
    refine fe_s 1 (pc' := cond (fx_cb .le (nI p) 4) 29 27) (lc' := [(0, .ref 0), (1, .int (nI S)), (2, .int tray), (3, .int nn)]) (stk' := []) (mem' := fm g tp bt a b) (by intro _ _ _; eq_refl) ?_
    by_cases h102 : p ≤ 4
    · rw [show (fx_cb .le (nI p) 4) = true from cb_leT (a := p) (b := 4) (by omega) (by omega) (by omega)]
      dsimp only [cond]
      refine fe_s 4 (pc' := 34) (lc' := [(0, .ref 0), (1, .int (nI S)), (2, .int tray), (3, .int nn)]) (stk' := [.int 12, .int nn, .int tray, .ref 0]) (mem' := fm g tp bt a b) (by intro _ _ _; eq_refl) ?_
      obtain ⟨vu103, memu103, ⟨uu103, huu103, h0u103, hRu103⟩, hfru103⟩ := fr_wrongTray (tray := tray) (nn := nn) (M := 12) (g := g) (tp := tp) (bt := bt) (a := a) (b := b) (by omega) ((fm_D_h hD (by decide) rfl).trans eNC) hNC
      cases hRu103
      refine fe_ivV hfru103 (by omega) (by rfl) (by rfl) (by rfl) (by rfl) (by rfl) (by rfl) ?_
      refine fe_s 2 (pc' := 41) (lc' := [(4, .int (nI uu103)), (0, .ref 0), (1, .int (nI S)), (2, .int tray), (3, .int nn)]) (stk' := [.int (nI uu103)]) (mem' := fm g tp bt a b) (by intro _ _ _; eq_refl) ?_
      refine fe_s 1 (pc' := cond (fx_cb .le (nI uu103) 0) 47 44) (lc' := [(4, .int (nI uu103)), (0, .ref 0), (1, .int (nI S)), (2, .int tray), (3, .int nn)]) (stk' := []) (mem' := fm g tp bt a b) (by intro _ _ _; eq_refl) ?_
      by_cases h104 : uu103 ≤ 0
      · rw [show (fx_cb .le (nI uu103) 0) = true from cb_leT (a := uu103) (b := 0) (by omega) (by omega) (by omega)]
        dsimp only [cond]
        obtain ⟨t, n, rfl, rfl, ht, hn1, hn, hc⟩ := h0u103 (by omega)
        refine fe_s 4 (pc' := 53) (lc' := [(6, .int 0), (5, .int (-1)), (4, .int (nI uu103)), (0, .ref 0), (1, .int (nI S)), (2, .int (nI t)), (3, .int (nI n))]) (stk' := []) (mem' := fm g tp bt a b) (by intro _ _ _; eq_refl) ?_
        have loop : ∀ (r i : Nat), i + r = NW → ∀ sh : Int32, (sh = -1 ∧ fm_pw S i = 0 ∨ ∃ c, c < 10 ∧ sh = nI c) → fe_R 8 gk_m333 53 [(6, .int (nI i)), (5, .int sh), (0, .ref 0), (1, .int (nI S)), (2, .int (nI t)), (3, .int (nI n))] [] (fm g tp bt a b) (fun R => ∃ v : Nat, v ≤ 9 ∧ (v = 0 → ∃ S9 t9 N9 : Nat, nI S = nI S9 ∧ nI t = nI t9 ∧ nI n = nI N9 ∧ 1 ≤ S9 ∧ S9 < 2 ^ NWq ∧ fm_pw S9 8 ≤ 4 ∧ t9 < 4 ∧ 1 ≤ N9 ∧ N9 ≤ 12 ∧ ∀ k, k < N9 → ∃ C, C < 10 ∧ b 5 (60 * t9 + k) = Int64.ofNat C) ∧ ∃ a' : Nat → Nat → Int32, fm_D a0 a' T ∧ R = (some (.int (nI v)), fm g tp bt a' b)) := by
          intro r
          induction r with
          | zero =>
            intro i hi sh hsh
            obtain rfl : NW = i := by omega
            rcases hsh with ⟨-, h0⟩ | ⟨c, hc10, rfl⟩
            · exact absurd h0 (fm_pw_pos hNW hS1 hSN)
            · refine fe_s 4 (pc' := 60) (lc' := [(6, .int (nI NW)), (5, .int (nI c)), (0, .ref 0), (1, .int (nI S)), (2, .int (nI t)), (3, .int (nI n))]) (stk' := [.int 1, .ref 1, .int (nI NW)]) (mem' := fm g tp bt a b) (by intro _ _ _; eq_refl) ?_
              refine fe_ldI (by rfl) (by rfl) (fx_inN (i := 1) (by omega) (by omega)) ?_
              rw [show Int32.toNatClampNeg (1) = 1 from rfl]
              rw [show a 1 1 = nI NW from (fm_D_h hD (by decide) rfl).trans eNW]
              refine fe_s 1 (pc' := cond (fx_cb .ge (nI NW) (nI NW)) 138 64) (lc' := [(6, .int (nI NW)), (5, .int (nI c)), (0, .ref 0), (1, .int (nI S)), (2, .int (nI t)), (3, .int (nI n))]) (stk' := []) (mem' := fm g tp bt a b) (by intro _ _ _; eq_refl) ?_
              rw [show (fx_cb .ge (nI NW) (nI NW)) = true from cb_geT (a := NW) (b := NW) (by omega) (by omega) (by omega)]
              dsimp only [cond]
              refine fe_s 4 (pc' := 143) (lc' := [(6, .int (nI NW)), (5, .int (nI c)), (0, .ref 0), (1, .int (nI S)), (2, .int (nI t)), (3, .int (nI n))]) (stk' := [.int (nI n), .int (nI t), .int (nI c), .ref 0]) (mem' := fm g tp bt a b) (by intro _ _ _; eq_refl) ?_
              obtain ⟨vr105, memr105, ⟨xr105, hxr105, ar105, hDr105, hRr105⟩, hfrr105⟩ := fr_isRoute (X := c) (t := t) (n := n) (g := g) (tp := tp) (bt := bt) (a := a) (b := b) hB hD (by omega) (by omega) (by omega) hc
              cases hRr105
              refine fe_ivV hfrr105 (by omega) (by rfl) (by rfl) (by rfl) (by rfl) (by rfl) (by rfl) ?_
              rcases hxr105 with rfl | rfl
              · refine fe_s 1 (pc' := cond (fx_cb .eq 0 0) 153 149) (lc' := [(6, .int (nI NW)), (5, .int (nI c)), (0, .ref 0), (1, .int (nI S)), (2, .int (nI t)), (3, .int (nI n))]) (stk' := []) (mem' := fm g tp bt ar105 b) (by intro _ _ _; eq_refl) ?_
                rw [show (fx_cb .eq 0 0) = true from by decide]
                dsimp only [cond]
                refine fe_s 1 (pc' := 155) (lc' := [(6, .int (nI NW)), (5, .int (nI c)), (0, .ref 0), (1, .int (nI S)), (2, .int (nI t)), (3, .int (nI n))]) (stk' := [.int 7]) (mem' := fm g tp bt ar105 b) (by intro _ _ _; eq_refl) ?_
                exact fe_ret ⟨7, by omega, fun hh => absurd hh (by omega), _, hDr105, rfl⟩ (by rfl) (by rfl) (by rfl)
              · refine fe_s 1 (pc' := cond (fx_cb .eq 1 0) 153 149) (lc' := [(6, .int (nI NW)), (5, .int (nI c)), (0, .ref 0), (1, .int (nI S)), (2, .int (nI t)), (3, .int (nI n))]) (stk' := []) (mem' := fm g tp bt ar105 b) (by intro _ _ _; eq_refl) ?_
                rw [show (fx_cb .eq 1 0) = false from by decide]
                dsimp only [cond]
                refine fe_s 2 (pc' := 155) (lc' := [(6, .int (nI NW)), (5, .int (nI c)), (0, .ref 0), (1, .int (nI S)), (2, .int (nI t)), (3, .int (nI n))]) (stk' := [.int 0]) (mem' := fm g tp bt ar105 b) (by intro _ _ _; eq_refl) ?_
                exact fe_ret ⟨0, by omega, fun _ => ⟨S, t, n, rfl, rfl, rfl, hS1, by rw [eNq]; exact hSN, by omega, ht, hn1, hn, hc⟩, _, hDr105, rfl⟩ (by rfl) (by rfl) (by rfl)
          | succ r ih =>
            intro i hi sh hsh
            have hlt : i < NW := by omega
            rcases hsh with ⟨rfl, h0⟩ | ⟨c, hc10, rfl⟩
            · refine fe_s 4 (pc' := 60) (lc' := [(6, .int (nI i)), (5, .int (-1)), (0, .ref 0), (1, .int (nI S)), (2, .int (nI t)), (3, .int (nI n))]) (stk' := [.int 1, .ref 1, .int (nI i)]) (mem' := fm g tp bt a b) (by intro _ _ _; eq_refl) ?_
              refine fe_ldI (by rfl) (by rfl) (fx_inN (i := 1) (by omega) (by omega)) ?_
              rw [show Int32.toNatClampNeg (1) = 1 from rfl]
              rw [show a 1 1 = nI NW from (fm_D_h hD (by decide) rfl).trans eNW]
              refine fe_s 1 (pc' := cond (fx_cb .ge (nI i) (nI NW)) 138 64) (lc' := [(6, .int (nI i)), (5, .int (-1)), (0, .ref 0), (1, .int (nI S)), (2, .int (nI t)), (3, .int (nI n))]) (stk' := []) (mem' := fm g tp bt a b) (by intro _ _ _; eq_refl) ?_
              rw [show (fx_cb .ge (nI i) (nI NW)) = false from cb_geF (a := i) (b := NW) (by omega) (by omega) (by omega)]
              dsimp only [cond]
              refine fe_s 3 (pc' := 68) (lc' := [(6, .int (nI i)), (5, .int (-1)), (0, .ref 0), (1, .int (nI S)), (2, .int (nI t)), (3, .int (nI n))]) (stk' := [.int (nI i), .int (nI S), .ref 0]) (mem' := fm g tp bt a b) (by intro _ _ _; eq_refl) ?_
              refine fe_ivV fr_isIn (by omega) (by rfl) (by rfl) (by rfl) (by rfl) (by rfl) (by rfl) ?_
              rcases fm_b_01 (nI S) (nI i) with q106 | q106
              · rw [q106]
                refine fe_s 1 (pc' := cond (fx_cb .ne 0 0) 77 74) (lc' := [(6, .int (nI i)), (5, .int (-1)), (0, .ref 0), (1, .int (nI S)), (2, .int (nI t)), (3, .int (nI n))]) (stk' := []) (mem' := fm g tp bt a b) (by intro _ _ _; eq_refl) ?_
                rw [show (fx_cb .ne 0 0) = false from by decide]
                dsimp only [cond]
                refine fe_s 2 (pc' := 135) (lc' := [(6, .int ((nI i) + 1)), (5, .int (-1)), (0, .ref 0), (1, .int (nI S)), (2, .int (nI t)), (3, .int (nI n))]) (stk' := []) (mem' := fm g tp bt a b) (by intro _ _ _; eq_refl) ?_
                rw [show ((nI i) + 1 : Int32) = nI (i + 1) from by simp only [show (1 : Int32) = nI 1 from rfl, nI_add, fm_mul]]
                refine fe_s 1 (pc' := fx_to 135 (-82)) (lc' := [(6, .int (nI (i + 1))), (5, .int (-1)), (0, .ref 0), (1, .int (nI S)), (2, .int (nI t)), (3, .int (nI n))]) (stk' := []) (mem' := fm g tp bt a b) (by intro _ _ _; eq_refl) ?_
                rw [show fx_to 135 (-82) = 53 from by decide]
                refine fe_w (lc' := [(6, .int (nI (i + 1))), (5, .int (-1)), (0, .ref 0), (1, .int (nI S)), (2, .int (nI t)), (3, .int (nI n))]) ⟨rfl, rfl, rfl, rfl, rfl, rfl, trivial⟩ (by show List.Nodup [6, 5, 0, 1, 2, 3]; decide) (by show List.Nodup [6, 5, 0, 1, 2, 3]; decide) ?_
                exact ih (i + 1) (by omega) _ (Or.inl ⟨rfl, by rw [fm_pw_z S i q106]; exact h0⟩)
              · rw [q106]
                refine fe_s 1 (pc' := cond (fx_cb .ne 1 0) 77 74) (lc' := [(6, .int (nI i)), (5, .int (-1)), (0, .ref 0), (1, .int (nI S)), (2, .int (nI t)), (3, .int (nI n))]) (stk' := []) (mem' := fm g tp bt a b) (by intro _ _ _; eq_refl) ?_
                rw [show (fx_cb .ne 1 0) = true from by decide]
                dsimp only [cond]
                refine fe_s 2 (pc' := 80) (lc' := [(6, .int (nI i)), (5, .int (-1)), (0, .ref 0), (1, .int (nI S)), (2, .int (nI t)), (3, .int (nI n))]) (stk' := [.int (-1), .int (-1)]) (mem' := fm g tp bt a b) (by intro _ _ _; eq_refl) ?_
                refine fe_s 1 (pc' := cond (fx_cb .ne (-1) (-1)) 91 83) (lc' := [(6, .int (nI i)), (5, .int (-1)), (0, .ref 0), (1, .int (nI S)), (2, .int (nI t)), (3, .int (nI n))]) (stk' := []) (mem' := fm g tp bt a b) (by intro _ _ _; eq_refl) ?_
                rw [show (fx_cb .ne (-1) (-1)) = false from by decide]
                dsimp only [cond]
                refine fe_s 2 (pc' := 86) (lc' := [(6, .int (nI i)), (5, .int (-1)), (0, .ref 0), (1, .int (nI S)), (2, .int (nI t)), (3, .int (nI n))]) (stk' := [.int (nI i), .ref 0]) (mem' := fm g tp bt a b) (by intro _ _ _; eq_refl) ?_
                refine fe_ivV (fr_whereOf (W := i) (g := g) (tp := tp) (bt := bt) (a := a) (b := b) (by omega)) (by omega) (by rfl) (by rfl) (by rfl) (by rfl) (by rfl) (by rfl) ?_
                obtain ⟨l107, hl107, el107⟩ := fm_D_w1 hD (W := i) (by omega)
                rw [el107]
                refine fe_s 3 (pc' := 94) (lc' := [(5, .int (nI l107)), (6, .int (nI i)), (0, .ref 0), (1, .int (nI S)), (2, .int (nI t)), (3, .int (nI n))]) (stk' := [.int (nI i), .ref 0]) (mem' := fm g tp bt a b) (by intro _ _ _; eq_refl) ?_
                refine fe_ivV (fr_whereOf (W := i) (g := g) (tp := tp) (bt := bt) (a := a) (b := b) (by omega)) (by omega) (by rfl) (by rfl) (by rfl) (by rfl) (by rfl) (by rfl) ?_
                obtain ⟨l108, hl108, el108⟩ := fm_D_w1 hD (W := i) (by omega)
                rw [el108]
                refine fe_s 1 (pc' := 99) (lc' := [(5, .int (nI l107)), (6, .int (nI i)), (0, .ref 0), (1, .int (nI S)), (2, .int (nI t)), (3, .int (nI n))]) (stk' := [.int (nI l107), .int (nI l108)]) (mem' := fm g tp bt a b) (by intro _ _ _; eq_refl) ?_
                refine fe_s 1 (pc' := cond (fx_cb .ne (nI l108) (nI l107)) 129 102) (lc' := [(5, .int (nI l107)), (6, .int (nI i)), (0, .ref 0), (1, .int (nI S)), (2, .int (nI t)), (3, .int (nI n))]) (stk' := []) (mem' := fm g tp bt a b) (by intro _ _ _; eq_refl) ?_
                by_cases h109 : l108 = l107
                · rw [show (fx_cb .ne (nI l108) (nI l107)) = false from cb_neF (a := l108) (b := l107) (by omega) (by omega) (by omega)]
                  dsimp only [cond]
                  refine fe_s 2 (pc' := 105) (lc' := [(5, .int (nI l107)), (6, .int (nI i)), (0, .ref 0), (1, .int (nI S)), (2, .int (nI t)), (3, .int (nI n))]) (stk' := [.int (nI l107), .ref 0]) (mem' := fm g tp bt a b) (by intro _ _ _; eq_refl) ?_
                  obtain ⟨v110, z111, hv110⟩ := fq_isShore (C := l107) (g := g) (tp := tp) (bt := bt) (a := a) (b := b) (by omega)
                  refine fe_ivV hv110 (by omega) (by rfl) (by rfl) (by rfl) (by rfl) (by rfl) (by rfl) ?_
                  rcases z111 with rfl | rfl
                  · refine fe_s 1 (pc' := cond (fx_cb .eq 0 0) 129 111) (lc' := [(5, .int (nI l107)), (6, .int (nI i)), (0, .ref 0), (1, .int (nI S)), (2, .int (nI t)), (3, .int (nI n))]) (stk' := []) (mem' := fm g tp bt a b) (by intro _ _ _; eq_refl) ?_
                    rw [show (fx_cb .eq 0 0) = true from by decide]
                    dsimp only [cond]
                    refine fe_s 1 (pc' := 131) (lc' := [(5, .int (nI l107)), (6, .int (nI i)), (0, .ref 0), (1, .int (nI S)), (2, .int (nI t)), (3, .int (nI n))]) (stk' := [.int 7]) (mem' := fm g tp bt a b) (by intro _ _ _; eq_refl) ?_
                    exact fe_ret ⟨7, by omega, fun hh => absurd hh (by omega), _, hD, rfl⟩ (by rfl) (by rfl) (by rfl)
                  · refine fe_s 1 (pc' := cond (fx_cb .eq 1 0) 129 111) (lc' := [(5, .int (nI l107)), (6, .int (nI i)), (0, .ref 0), (1, .int (nI S)), (2, .int (nI t)), (3, .int (nI n))]) (stk' := []) (mem' := fm g tp bt a b) (by intro _ _ _; eq_refl) ?_
                    rw [show (fx_cb .eq 1 0) = false from by decide]
                    dsimp only [cond]
                    refine fe_s 2 (pc' := 114) (lc' := [(5, .int (nI l107)), (6, .int (nI i)), (0, .ref 0), (1, .int (nI S)), (2, .int (nI t)), (3, .int (nI n))]) (stk' := [.int (nI i), .ref 0]) (mem' := fm g tp bt a b) (by intro _ _ _; eq_refl) ?_
                    obtain ⟨v112, z113, hv112⟩ := fq_isWet (V := i) (g := g) (tp := tp) (bt := bt) (a := a) (b := b) (by omega)
                    refine fe_ivV hv112 (by omega) (by rfl) (by rfl) (by rfl) (by rfl) (by rfl) (by rfl) ?_
                    rcases z113 with rfl | rfl
                    · refine fe_s 1 (pc' := cond (fx_cb .ne 0 0) 129 120) (lc' := [(5, .int (nI l107)), (6, .int (nI i)), (0, .ref 0), (1, .int (nI S)), (2, .int (nI t)), (3, .int (nI n))]) (stk' := []) (mem' := fm g tp bt a b) (by intro _ _ _; eq_refl) ?_
                      rw [show (fx_cb .ne 0 0) = false from by decide]
                      dsimp only [cond]
                      refine fe_s 2 (pc' := 123) (lc' := [(5, .int (nI l107)), (6, .int (nI i)), (0, .ref 0), (1, .int (nI S)), (2, .int (nI t)), (3, .int (nI n))]) (stk' := [.int (nI i), .ref 0]) (mem' := fm g tp bt a b) (by intro _ _ _; eq_refl) ?_
                      refine fe_ivV (fr_leftOfX (V := i) (g := g) (tp := tp) (bt := bt) (a := a) (b := b) (by omega)) (by omega) (by rfl) (by rfl) (by rfl) (by rfl) (by rfl) (by rfl) ?_
                      obtain ⟨l114, hl114, el114⟩ := fm_D_w3 hD (W := i) (by omega)
                      rw [el114]
                      refine fe_s 1 (pc' := cond (fx_cb .le (nI l114) 0) 132 129) (lc' := [(5, .int (nI l107)), (6, .int (nI i)), (0, .ref 0), (1, .int (nI S)), (2, .int (nI t)), (3, .int (nI n))]) (stk' := []) (mem' := fm g tp bt a b) (by intro _ _ _; eq_refl) ?_
                      by_cases h115 : l114 ≤ 0
                      · rw [show (fx_cb .le (nI l114) 0) = true from cb_leT (a := l114) (b := 0) (by omega) (by omega) (by omega)]
                        dsimp only [cond]
                        refine fe_s 1 (pc' := 135) (lc' := [(6, .int ((nI i) + 1)), (5, .int (nI l107)), (0, .ref 0), (1, .int (nI S)), (2, .int (nI t)), (3, .int (nI n))]) (stk' := []) (mem' := fm g tp bt a b) (by intro _ _ _; eq_refl) ?_
                        rw [show ((nI i) + 1 : Int32) = nI (i + 1) from by simp only [show (1 : Int32) = nI 1 from rfl, nI_add, fm_mul]]
                        refine fe_s 1 (pc' := fx_to 135 (-82)) (lc' := [(6, .int (nI (i + 1))), (5, .int (nI l107)), (0, .ref 0), (1, .int (nI S)), (2, .int (nI t)), (3, .int (nI n))]) (stk' := []) (mem' := fm g tp bt a b) (by intro _ _ _; eq_refl) ?_
                        rw [show fx_to 135 (-82) = 53 from by decide]
                        refine fe_w (lc' := [(6, .int (nI (i + 1))), (5, .int (nI l107)), (0, .ref 0), (1, .int (nI S)), (2, .int (nI t)), (3, .int (nI n))]) ⟨rfl, rfl, rfl, rfl, rfl, rfl, trivial⟩ (by show List.Nodup [6, 5, 0, 1, 2, 3]; decide) (by show List.Nodup [6, 5, 0, 1, 2, 3]; decide) ?_
                        exact ih (i + 1) (by omega) _ (Or.inr ⟨l107, by omega, rfl⟩)
                      · rw [show (fx_cb .le (nI l114) 0) = false from cb_leF (a := l114) (b := 0) (by omega) (by omega) (by omega)]
                        dsimp only [cond]
                        refine fe_s 1 (pc' := 131) (lc' := [(5, .int (nI l107)), (6, .int (nI i)), (0, .ref 0), (1, .int (nI S)), (2, .int (nI t)), (3, .int (nI n))]) (stk' := [.int 7]) (mem' := fm g tp bt a b) (by intro _ _ _; eq_refl) ?_
                        exact fe_ret ⟨7, by omega, fun hh => absurd hh (by omega), _, hD, rfl⟩ (by rfl) (by rfl) (by rfl)
                    · refine fe_s 1 (pc' := cond (fx_cb .ne 1 0) 129 120) (lc' := [(5, .int (nI l107)), (6, .int (nI i)), (0, .ref 0), (1, .int (nI S)), (2, .int (nI t)), (3, .int (nI n))]) (stk' := []) (mem' := fm g tp bt a b) (by intro _ _ _; eq_refl) ?_
                      rw [show (fx_cb .ne 1 0) = true from by decide]
                      dsimp only [cond]
                      refine fe_s 1 (pc' := 131) (lc' := [(5, .int (nI l107)), (6, .int (nI i)), (0, .ref 0), (1, .int (nI S)), (2, .int (nI t)), (3, .int (nI n))]) (stk' := [.int 7]) (mem' := fm g tp bt a b) (by intro _ _ _; eq_refl) ?_
                      exact fe_ret ⟨7, by omega, fun hh => absurd hh (by omega), _, hD, rfl⟩ (by rfl) (by rfl) (by rfl)
                · rw [show (fx_cb .ne (nI l108) (nI l107)) = true from cb_neT (a := l108) (b := l107) (by omega) (by omega) (by omega)]
                  dsimp only [cond]
                  refine fe_s 1 (pc' := 131) (lc' := [(5, .int (nI l107)), (6, .int (nI i)), (0, .ref 0), (1, .int (nI S)), (2, .int (nI t)), (3, .int (nI n))]) (stk' := [.int 7]) (mem' := fm g tp bt a b) (by intro _ _ _; eq_refl) ?_
                  exact fe_ret ⟨7, by omega, fun hh => absurd hh (by omega), _, hD, rfl⟩ (by rfl) (by rfl) (by rfl)
            · refine fe_s 4 (pc' := 60) (lc' := [(6, .int (nI i)), (5, .int (nI c)), (0, .ref 0), (1, .int (nI S)), (2, .int (nI t)), (3, .int (nI n))]) (stk' := [.int 1, .ref 1, .int (nI i)]) (mem' := fm g tp bt a b) (by intro _ _ _; eq_refl) ?_
              refine fe_ldI (by rfl) (by rfl) (fx_inN (i := 1) (by omega) (by omega)) ?_
              rw [show Int32.toNatClampNeg (1) = 1 from rfl]
              rw [show a 1 1 = nI NW from (fm_D_h hD (by decide) rfl).trans eNW]
              refine fe_s 1 (pc' := cond (fx_cb .ge (nI i) (nI NW)) 138 64) (lc' := [(6, .int (nI i)), (5, .int (nI c)), (0, .ref 0), (1, .int (nI S)), (2, .int (nI t)), (3, .int (nI n))]) (stk' := []) (mem' := fm g tp bt a b) (by intro _ _ _; eq_refl) ?_
              rw [show (fx_cb .ge (nI i) (nI NW)) = false from cb_geF (a := i) (b := NW) (by omega) (by omega) (by omega)]
              dsimp only [cond]
              refine fe_s 3 (pc' := 68) (lc' := [(6, .int (nI i)), (5, .int (nI c)), (0, .ref 0), (1, .int (nI S)), (2, .int (nI t)), (3, .int (nI n))]) (stk' := [.int (nI i), .int (nI S), .ref 0]) (mem' := fm g tp bt a b) (by intro _ _ _; eq_refl) ?_
              refine fe_ivV fr_isIn (by omega) (by rfl) (by rfl) (by rfl) (by rfl) (by rfl) (by rfl) ?_
              rcases fm_b_01 (nI S) (nI i) with q116 | q116
              · rw [q116]
                refine fe_s 1 (pc' := cond (fx_cb .ne 0 0) 77 74) (lc' := [(6, .int (nI i)), (5, .int (nI c)), (0, .ref 0), (1, .int (nI S)), (2, .int (nI t)), (3, .int (nI n))]) (stk' := []) (mem' := fm g tp bt a b) (by intro _ _ _; eq_refl) ?_
                rw [show (fx_cb .ne 0 0) = false from by decide]
                dsimp only [cond]
                refine fe_s 2 (pc' := 135) (lc' := [(6, .int ((nI i) + 1)), (5, .int (nI c)), (0, .ref 0), (1, .int (nI S)), (2, .int (nI t)), (3, .int (nI n))]) (stk' := []) (mem' := fm g tp bt a b) (by intro _ _ _; eq_refl) ?_
                rw [show ((nI i) + 1 : Int32) = nI (i + 1) from by simp only [show (1 : Int32) = nI 1 from rfl, nI_add, fm_mul]]
                refine fe_s 1 (pc' := fx_to 135 (-82)) (lc' := [(6, .int (nI (i + 1))), (5, .int (nI c)), (0, .ref 0), (1, .int (nI S)), (2, .int (nI t)), (3, .int (nI n))]) (stk' := []) (mem' := fm g tp bt a b) (by intro _ _ _; eq_refl) ?_
                rw [show fx_to 135 (-82) = 53 from by decide]
                refine fe_w (lc' := [(6, .int (nI (i + 1))), (5, .int (nI c)), (0, .ref 0), (1, .int (nI S)), (2, .int (nI t)), (3, .int (nI n))]) ⟨rfl, rfl, rfl, rfl, rfl, rfl, trivial⟩ (by show List.Nodup [6, 5, 0, 1, 2, 3]; decide) (by show List.Nodup [6, 5, 0, 1, 2, 3]; decide) ?_
                exact ih (i + 1) (by omega) _ (Or.inr ⟨c, by omega, rfl⟩)
              · rw [q116]
                refine fe_s 1 (pc' := cond (fx_cb .ne 1 0) 77 74) (lc' := [(6, .int (nI i)), (5, .int (nI c)), (0, .ref 0), (1, .int (nI S)), (2, .int (nI t)), (3, .int (nI n))]) (stk' := []) (mem' := fm g tp bt a b) (by intro _ _ _; eq_refl) ?_
                rw [show (fx_cb .ne 1 0) = true from by decide]
                dsimp only [cond]
                refine fe_s 2 (pc' := 80) (lc' := [(6, .int (nI i)), (5, .int (nI c)), (0, .ref 0), (1, .int (nI S)), (2, .int (nI t)), (3, .int (nI n))]) (stk' := [.int (-1), .int (nI c)]) (mem' := fm g tp bt a b) (by intro _ _ _; eq_refl) ?_
                refine fe_s 1 (pc' := cond (fx_cb .ne (nI c) (-1)) 91 83) (lc' := [(6, .int (nI i)), (5, .int (nI c)), (0, .ref 0), (1, .int (nI S)), (2, .int (nI t)), (3, .int (nI n))]) (stk' := []) (mem' := fm g tp bt a b) (by intro _ _ _; eq_refl) ?_
                rw [show (fx_cb .ne (nI c) (-1)) = true from cb_n_ne (by omega) (by decide)]
                dsimp only [cond]
                refine fe_s 2 (pc' := 94) (lc' := [(6, .int (nI i)), (5, .int (nI c)), (0, .ref 0), (1, .int (nI S)), (2, .int (nI t)), (3, .int (nI n))]) (stk' := [.int (nI i), .ref 0]) (mem' := fm g tp bt a b) (by intro _ _ _; eq_refl) ?_
                refine fe_ivV (fr_whereOf (W := i) (g := g) (tp := tp) (bt := bt) (a := a) (b := b) (by omega)) (by omega) (by rfl) (by rfl) (by rfl) (by rfl) (by rfl) (by rfl) ?_
                obtain ⟨l117, hl117, el117⟩ := fm_D_w1 hD (W := i) (by omega)
                rw [el117]
                refine fe_s 1 (pc' := 99) (lc' := [(6, .int (nI i)), (5, .int (nI c)), (0, .ref 0), (1, .int (nI S)), (2, .int (nI t)), (3, .int (nI n))]) (stk' := [.int (nI c), .int (nI l117)]) (mem' := fm g tp bt a b) (by intro _ _ _; eq_refl) ?_
                refine fe_s 1 (pc' := cond (fx_cb .ne (nI l117) (nI c)) 129 102) (lc' := [(6, .int (nI i)), (5, .int (nI c)), (0, .ref 0), (1, .int (nI S)), (2, .int (nI t)), (3, .int (nI n))]) (stk' := []) (mem' := fm g tp bt a b) (by intro _ _ _; eq_refl) ?_
                by_cases h118 : l117 = c
                · rw [show (fx_cb .ne (nI l117) (nI c)) = false from cb_neF (a := l117) (b := c) (by omega) (by omega) (by omega)]
                  dsimp only [cond]
                  refine fe_s 2 (pc' := 105) (lc' := [(6, .int (nI i)), (5, .int (nI c)), (0, .ref 0), (1, .int (nI S)), (2, .int (nI t)), (3, .int (nI n))]) (stk' := [.int (nI c), .ref 0]) (mem' := fm g tp bt a b) (by intro _ _ _; eq_refl) ?_
                  obtain ⟨v119, z120, hv119⟩ := fq_isShore (C := c) (g := g) (tp := tp) (bt := bt) (a := a) (b := b) (by omega)
                  refine fe_ivV hv119 (by omega) (by rfl) (by rfl) (by rfl) (by rfl) (by rfl) (by rfl) ?_
                  rcases z120 with rfl | rfl
                  · refine fe_s 1 (pc' := cond (fx_cb .eq 0 0) 129 111) (lc' := [(6, .int (nI i)), (5, .int (nI c)), (0, .ref 0), (1, .int (nI S)), (2, .int (nI t)), (3, .int (nI n))]) (stk' := []) (mem' := fm g tp bt a b) (by intro _ _ _; eq_refl) ?_
                    rw [show (fx_cb .eq 0 0) = true from by decide]
                    dsimp only [cond]
                    refine fe_s 1 (pc' := 131) (lc' := [(6, .int (nI i)), (5, .int (nI c)), (0, .ref 0), (1, .int (nI S)), (2, .int (nI t)), (3, .int (nI n))]) (stk' := [.int 7]) (mem' := fm g tp bt a b) (by intro _ _ _; eq_refl) ?_
                    exact fe_ret ⟨7, by omega, fun hh => absurd hh (by omega), _, hD, rfl⟩ (by rfl) (by rfl) (by rfl)
                  · refine fe_s 1 (pc' := cond (fx_cb .eq 1 0) 129 111) (lc' := [(6, .int (nI i)), (5, .int (nI c)), (0, .ref 0), (1, .int (nI S)), (2, .int (nI t)), (3, .int (nI n))]) (stk' := []) (mem' := fm g tp bt a b) (by intro _ _ _; eq_refl) ?_
                    rw [show (fx_cb .eq 1 0) = false from by decide]
                    dsimp only [cond]
                    refine fe_s 2 (pc' := 114) (lc' := [(6, .int (nI i)), (5, .int (nI c)), (0, .ref 0), (1, .int (nI S)), (2, .int (nI t)), (3, .int (nI n))]) (stk' := [.int (nI i), .ref 0]) (mem' := fm g tp bt a b) (by intro _ _ _; eq_refl) ?_
                    obtain ⟨v121, z122, hv121⟩ := fq_isWet (V := i) (g := g) (tp := tp) (bt := bt) (a := a) (b := b) (by omega)
                    refine fe_ivV hv121 (by omega) (by rfl) (by rfl) (by rfl) (by rfl) (by rfl) (by rfl) ?_
                    rcases z122 with rfl | rfl
                    · refine fe_s 1 (pc' := cond (fx_cb .ne 0 0) 129 120) (lc' := [(6, .int (nI i)), (5, .int (nI c)), (0, .ref 0), (1, .int (nI S)), (2, .int (nI t)), (3, .int (nI n))]) (stk' := []) (mem' := fm g tp bt a b) (by intro _ _ _; eq_refl) ?_
                      rw [show (fx_cb .ne 0 0) = false from by decide]
                      dsimp only [cond]
                      refine fe_s 2 (pc' := 123) (lc' := [(6, .int (nI i)), (5, .int (nI c)), (0, .ref 0), (1, .int (nI S)), (2, .int (nI t)), (3, .int (nI n))]) (stk' := [.int (nI i), .ref 0]) (mem' := fm g tp bt a b) (by intro _ _ _; eq_refl) ?_
                      refine fe_ivV (fr_leftOfX (V := i) (g := g) (tp := tp) (bt := bt) (a := a) (b := b) (by omega)) (by omega) (by rfl) (by rfl) (by rfl) (by rfl) (by rfl) (by rfl) ?_
                      obtain ⟨l123, hl123, el123⟩ := fm_D_w3 hD (W := i) (by omega)
                      rw [el123]
                      refine fe_s 1 (pc' := cond (fx_cb .le (nI l123) 0) 132 129) (lc' := [(6, .int (nI i)), (5, .int (nI c)), (0, .ref 0), (1, .int (nI S)), (2, .int (nI t)), (3, .int (nI n))]) (stk' := []) (mem' := fm g tp bt a b) (by intro _ _ _; eq_refl) ?_
                      by_cases h124 : l123 ≤ 0
                      · rw [show (fx_cb .le (nI l123) 0) = true from cb_leT (a := l123) (b := 0) (by omega) (by omega) (by omega)]
                        dsimp only [cond]
                        refine fe_s 1 (pc' := 135) (lc' := [(6, .int ((nI i) + 1)), (5, .int (nI c)), (0, .ref 0), (1, .int (nI S)), (2, .int (nI t)), (3, .int (nI n))]) (stk' := []) (mem' := fm g tp bt a b) (by intro _ _ _; eq_refl) ?_
                        rw [show ((nI i) + 1 : Int32) = nI (i + 1) from by simp only [show (1 : Int32) = nI 1 from rfl, nI_add, fm_mul]]
                        refine fe_s 1 (pc' := fx_to 135 (-82)) (lc' := [(6, .int (nI (i + 1))), (5, .int (nI c)), (0, .ref 0), (1, .int (nI S)), (2, .int (nI t)), (3, .int (nI n))]) (stk' := []) (mem' := fm g tp bt a b) (by intro _ _ _; eq_refl) ?_
                        rw [show fx_to 135 (-82) = 53 from by decide]
                        refine fe_w (lc' := [(6, .int (nI (i + 1))), (5, .int (nI c)), (0, .ref 0), (1, .int (nI S)), (2, .int (nI t)), (3, .int (nI n))]) ⟨rfl, rfl, rfl, rfl, rfl, rfl, trivial⟩ (by show List.Nodup [6, 5, 0, 1, 2, 3]; decide) (by show List.Nodup [6, 5, 0, 1, 2, 3]; decide) ?_
                        exact ih (i + 1) (by omega) _ (Or.inr ⟨c, by omega, rfl⟩)
                      · rw [show (fx_cb .le (nI l123) 0) = false from cb_leF (a := l123) (b := 0) (by omega) (by omega) (by omega)]
                        dsimp only [cond]
                        refine fe_s 1 (pc' := 131) (lc' := [(6, .int (nI i)), (5, .int (nI c)), (0, .ref 0), (1, .int (nI S)), (2, .int (nI t)), (3, .int (nI n))]) (stk' := [.int 7]) (mem' := fm g tp bt a b) (by intro _ _ _; eq_refl) ?_
                        exact fe_ret ⟨7, by omega, fun hh => absurd hh (by omega), _, hD, rfl⟩ (by rfl) (by rfl) (by rfl)
                    · refine fe_s 1 (pc' := cond (fx_cb .ne 1 0) 129 120) (lc' := [(6, .int (nI i)), (5, .int (nI c)), (0, .ref 0), (1, .int (nI S)), (2, .int (nI t)), (3, .int (nI n))]) (stk' := []) (mem' := fm g tp bt a b) (by intro _ _ _; eq_refl) ?_
                      rw [show (fx_cb .ne 1 0) = true from by decide]
                      dsimp only [cond]
                      refine fe_s 1 (pc' := 131) (lc' := [(6, .int (nI i)), (5, .int (nI c)), (0, .ref 0), (1, .int (nI S)), (2, .int (nI t)), (3, .int (nI n))]) (stk' := [.int 7]) (mem' := fm g tp bt a b) (by intro _ _ _; eq_refl) ?_
                      exact fe_ret ⟨7, by omega, fun hh => absurd hh (by omega), _, hD, rfl⟩ (by rfl) (by rfl) (by rfl)
                · rw [show (fx_cb .ne (nI l117) (nI c)) = true from cb_neT (a := l117) (b := c) (by omega) (by omega) (by omega)]
                  dsimp only [cond]
                  refine fe_s 1 (pc' := 131) (lc' := [(6, .int (nI i)), (5, .int (nI c)), (0, .ref 0), (1, .int (nI S)), (2, .int (nI t)), (3, .int (nI n))]) (stk' := [.int 7]) (mem' := fm g tp bt a b) (by intro _ _ _; eq_refl) ?_
                  exact fe_ret ⟨7, by omega, fun hh => absurd hh (by omega), _, hD, rfl⟩ (by rfl) (by rfl) (by rfl)
        refine fe_w (lc' := [(6, .int 0), (5, .int (-1)), (0, .ref 0), (1, .int (nI S)), (2, .int (nI t)), (3, .int (nI n))]) ⟨rfl, rfl, rfl, rfl, rfl, rfl, trivial⟩ (by show List.Nodup [6, 5, 0, 1, 2, 3]; decide) (by show List.Nodup [6, 5, 4, 0, 1, 2, 3]; decide) ?_
        exact loop NW 0 (by omega) _ (Or.inl ⟨rfl, rfl⟩)
      · rw [show (fx_cb .le (nI uu103) 0) = false from cb_leF (a := uu103) (b := 0) (by omega) (by omega) (by omega)]
        dsimp only [cond]
        refine fe_s 1 (pc' := 46) (lc' := [(4, .int (nI uu103)), (0, .ref 0), (1, .int (nI S)), (2, .int tray), (3, .int nn)]) (stk' := [.int (nI uu103)]) (mem' := fm g tp bt a b) (by intro _ _ _; eq_refl) ?_
        exact fe_ret ⟨uu103, by omega, fun hh => absurd hh (by omega), _, hD, rfl⟩ (by rfl) (by rfl) (by rfl)
    · rw [show (fx_cb .le (nI p) 4) = false from cb_leF (a := p) (b := 4) (by omega) (by omega) (by omega)]
      dsimp only [cond]
      refine fe_s 1 (pc' := 28) (lc' := [(0, .ref 0), (1, .int (nI S)), (2, .int tray), (3, .int nn)]) (stk' := [.int 1]) (mem' := fm g tp bt a b) (by intro _ _ _; eq_refl) ?_
      exact fe_ret ⟨1, by omega, fun hh => absurd hh (by omega), _, hD, rfl⟩ (by rfl) (by rfl) (by rfl)
end FQ3
end MH24_0
section MH24_1
/-! ===== fx: queue ===== -/
section FQ4
variable {g : Nat → Int32} {tp bt : Int64} {a0 a : Nat → Nat → Int32} {b : Nat → Nat → Int64}
def fm_okq (t : Nat) : Bool := decide (10 ≤ t ∧ t ≤ 13)
theorem fm_E_o {a a1 a2 : Nat → Nat → Int32} (h : fm_E a a1) (e : ∀ t, fm_okq t = false → a2 t = a1 t) : fm_E a a2 := by
  have e1 : a2 1 = a1 1 := e 1 (by decide)
  have e9 : a2 9 = a1 9 := e 9 (by decide)
  refine ⟨fm_B_eq h.1 (fun i => by rw [e1]) (fun i hi => by rw [e9]; exact h.1.2.2 i hi), fun t ht => ?_, fun i hi => by rw [e1]; exact h.2.2 i hi⟩
  have hq : fm_okq t = false := by
    have := of_decide_eq_false ht
    exact decide_eq_false (by omega)
  rw [e t hq, h.2.1 t ht]
theorem fm_E_q {a a1 a2 : Nat → Nat → Int32} (h : fm_E a a1) (hB : fm_B a2) (e : ∀ t, fm_okt t = false → a2 t = a1 t) (k : ∀ i, fm_st i = true → a2 1 i = a1 1 i) : fm_E a a2 := ⟨hB, fun t ht => by rw [e t (fm_okE_t ht), h.2.1 t ht], fun i hi => (k i hi).trans (h.2.2 i hi)⟩
/-- the first p of a queue, all below i -/
def fm_tq (p i : Nat) (a : Nat → Nat → Int32) : Prop := ∃ x y z w : Nat, (x < 8 ∧ y < 8 ∧ z < 8 ∧ w < 8) ∧ (0 < p → a 10 0 = nI x) ∧ (1 < p → a 10 1 = nI y) ∧ (2 < p → a 10 2 = nI z) ∧ (3 < p → a 10 3 = nI w) ∧ (0 < p → x < i) ∧ (1 < p → y < i ∧ x ≠ y) ∧ (2 < p → z < i ∧ x ≠ z ∧ y ≠ z) ∧ (3 < p → w < i ∧ x ≠ w ∧ y ≠ w ∧ z ≠ w) ∧ (p ≤ 1 → y = 0) ∧ (p ≤ 2 → z = 0) ∧ (p ≤ 3 → w = 0)
theorem fm_tq_0 {a : Nat → Nat → Int32} : fm_tq 0 0 a := ⟨0, 0, 0, 0, by omega, fun h => absurd h (by omega), fun h => absurd h (by omega), fun h => absurd h (by omega), fun h => absurd h (by omega), by omega, by omega, by omega, by omega, fun _ => rfl, fun _ => rfl, fun _ => rfl⟩
theorem fm_tq_n {p i : Nat} {a : Nat → Nat → Int32} (h : fm_tq p i a) : fm_tq p (i + 1) a := by
  obtain ⟨x, y, z, w, h1, e0, e1, e2, e3, l0, l1, l2, l3, z1, z2, z3⟩ := h
  exact ⟨x, y, z, w, h1, e0, e1, e2, e3, by omega, by omega, by omega, by omega, z1, z2, z3⟩
theorem fm_tq_tu {p i : Nat} {a : Nat → Nat → Int32} (h : fm_tq p i a) : ∃ m, fm_tu p a m := by
  obtain ⟨x, y, z, w, h1, e0, e1, e2, e3, l0, l1, l2, l3, z1, z2, z3⟩ := h
  exact ⟨_, x, y, z, w, h1, e0, e1, e2, e3, by omega, by omega, by omega, rfl, z1, z2, z3⟩
theorem fm_tq_s {p i : Nat} {a : Nat → Nat → Int32} (h : fm_tq p i a) (hp : p < 4) (hi : i < 8) : fm_tq (p + 1) (i + 1) (fm_u a 10 p (nI i)) := by
  obtain ⟨x, y, z, w, ⟨b0, b1, b2, b3⟩, e0, e1, e2, e3, l0, l1, l2, l3, z1, z2, z3⟩ := h
  rcases (by omega : p = 0 ∨ p = 1 ∨ p = 2 ∨ p = 3) with rfl | rfl | rfl | rfl
  · exact ⟨i, 0, 0, 0, by omega, fun _ => by rw [fm_us, if_pos (by decide)], fun h => absurd h (by omega), fun h => absurd h (by omega), fun h => absurd h (by omega), by omega, by omega, by omega, by omega, fun _ => rfl, fun _ => rfl, fun _ => rfl⟩
  · exact ⟨x, i, 0, 0, by omega, fun _ => by rw [fm_us, if_neg (by decide)]; exact e0 (by omega), fun _ => by rw [fm_us, if_pos (by decide)], fun h => absurd h (by omega), fun h => absurd h (by omega), by omega, by omega, by omega, by omega, by omega, fun _ => rfl, fun _ => rfl⟩
  · exact ⟨x, y, i, 0, by omega, fun _ => by rw [fm_us, if_neg (by decide)]; exact e0 (by omega), fun _ => by rw [fm_us, if_neg (by decide)]; exact e1 (by omega), fun _ => by rw [fm_us, if_pos (by decide)], fun h => absurd h (by omega), by omega, by omega, by omega, by omega, by omega, by omega, fun _ => rfl⟩
  · exact ⟨x, y, z, i, by omega, fun _ => by rw [fm_us, if_neg (by decide)]; exact e0 (by omega), fun _ => by rw [fm_us, if_neg (by decide)]; exact e1 (by omega), fun _ => by rw [fm_us, if_neg (by decide)]; exact e2 (by omega), fun _ => by rw [fm_us, if_pos (by decide)], by omega, by omega, by omega, by omega, by omega, by omega, by omega⟩
/-- the first k gaps are 0, 1, 1, 1 -/
def fm_gz (k : Nat) (a : Nat → Nat → Int32) : Prop := (0 < k → a 11 0 = nI 0) ∧ (1 < k → a 11 1 = nI 1) ∧ (2 < k → a 11 2 = nI 1) ∧ (3 < k → a 11 3 = nI 1)
theorem fm_gz_ga {k : Nat} {a : Nat → Nat → Int32} (h : fm_gz k a) : fm_ga k a 43 := ⟨1, 1, 1, by omega, h.1, h.2.1, h.2.2.1, h.2.2.2, rfl, fun _ => rfl, fun _ => rfl, fun _ => rfl⟩
theorem fm_gz_s {k : Nat} {a : Nat → Nat → Int32} (h : fm_gz k a) (hk : k < 4) (x : Int32) (hx : k = 0 ∧ x = 0 ∨ ¬ k = 0 ∧ x = 1) : fm_gz (k + 1) (fm_u a 11 k x) := by
  obtain ⟨e0, e1, e2, e3⟩ := h
  rcases (by omega : k = 0 ∨ k = 1 ∨ k = 2 ∨ k = 3) with rfl | rfl | rfl | rfl
  · obtain rfl : x = 0 := by rcases hx with h | h; exact h.2; exact absurd rfl h.1
    exact ⟨fun _ => by rw [fm_us, if_pos (by decide)]; rfl, fun h => absurd h (by omega), fun h => absurd h (by omega), fun h => absurd h (by omega)⟩
  all_goals
    obtain rfl : x = 1 := by rcases hx with h | h; exact absurd h.1 (by decide); exact h.2
  · exact ⟨fun _ => by rw [fm_us, if_neg (by decide)]; exact e0 (by omega), fun _ => by rw [fm_us, if_pos (by decide)]; rfl, fun h => absurd h (by omega), fun h => absurd h (by omega)⟩
  · exact ⟨fun _ => by rw [fm_us, if_neg (by decide)]; exact e0 (by omega), fun _ => by rw [fm_us, if_neg (by decide)]; exact e1 (by omega), fun _ => by rw [fm_us, if_pos (by decide)]; rfl, fun h => absurd h (by omega)⟩
  · exact ⟨fun _ => by rw [fm_us, if_neg (by decide)]; exact e0 (by omega), fun _ => by rw [fm_us, if_neg (by decide)]; exact e1 (by omega), fun _ => by rw [fm_us, if_neg (by decide)]; exact e2 (by omega), fun _ => by rw [fm_us, if_pos (by decide)]; rfl⟩
set_option maxHeartbeats 4000000 in
theorem que_85 {S t N n : Nat} (hBa : fm_B a) (hS : S < 256) (ht : t < 4) (hN : N ≤ 12) (hn1 : 1 ≤ n) (hn4 : n ≤ 4) (hc : ∀ k, k < N → ∃ C, C < 10 ∧ b 5 (60 * t + k) = Int64.ofNat C) {m : Nat} {gq : Nat → Int32} {ls : Int32} (hK : ∀ (a' : Nat → Nat → Int32) (x8 : Int32), fm_E a a' → fm_tu n a' m → fm_ga n a' 43 → fe_R 9 gk_m334 115 [(8, .int x8), (7, .int 1), (6, .int ls), (5, .int (nI n)), (0, .ref 0), (1, .int (nI S)), (2, .int (nI t)), (3, .int (nI N))] [] (fm gq tp bt a' b) (fm_PO g tp bt a b)) : ∀ (r k : Nat), k + r = n → ∀ aq : Nat → Nat → Int32, fm_E a aq → fm_tu n aq m → fm_gz k aq → fe_R 9 gk_m334 85 [(8, .int (nI k)), (7, .int 1), (6, .int ls), (5, .int (nI n)), (0, .ref 0), (1, .int (nI S)), (2, .int (nI t)), (3, .int (nI N))] [] (fm gq tp bt aq b) (fm_PO g tp bt a b) := by
  intro r
  induction r with
  | zero =>
    intro k hk aq hE htu hgi
    obtain rfl : n = k := by omega
    refine fe_s 2 (pc' := 89) (lc' := [(8, .int (nI n)), (7, .int 1), (6, .int ls), (5, .int (nI n)), (0, .ref 0), (1, .int (nI S)), (2, .int (nI t)), (3, .int (nI N))]) (stk' := [.int (nI n), .int (nI n)]) (mem' := fm gq tp bt aq b) (by intro _ _ _; eq_refl) ?_
    refine fe_s 1 (pc' := cond (fx_cb .ge (nI n) (nI n)) 115 92) (lc' := [(8, .int (nI n)), (7, .int 1), (6, .int ls), (5, .int (nI n)), (0, .ref 0), (1, .int (nI S)), (2, .int (nI t)), (3, .int (nI N))]) (stk' := []) (mem' := fm gq tp bt aq b) (by intro _ _ _; eq_refl) ?_
    rw [show (fx_cb .ge (nI n) (nI n)) = true from cb_geT (a := n) (b := n) (by omega) (by omega) (by omega)]
    dsimp only [cond]
    refine fe_w (lc' := [(8, .int (nI n)), (7, .int 1), (6, .int ls), (5, .int (nI n)), (0, .ref 0), (1, .int (nI S)), (2, .int (nI t)), (3, .int (nI N))]) ⟨rfl, rfl, rfl, rfl, rfl, rfl, rfl, rfl, trivial⟩ (by show List.Nodup [8, 7, 6, 5, 0, 1, 2, 3]; decide) (by show List.Nodup [8, 7, 6, 5, 0, 1, 2, 3]; decide) ?_
    exact hK aq _ hE htu (fm_gz_ga hgi)
  | succ r ih =>
    intro k hk aq hE htu hgi
    have hkn : k < n := by omega
    refine fe_s 2 (pc' := 89) (lc' := [(8, .int (nI k)), (7, .int 1), (6, .int ls), (5, .int (nI n)), (0, .ref 0), (1, .int (nI S)), (2, .int (nI t)), (3, .int (nI N))]) (stk' := [.int (nI n), .int (nI k)]) (mem' := fm gq tp bt aq b) (by intro _ _ _; eq_refl) ?_
    refine fe_s 1 (pc' := cond (fx_cb .ge (nI k) (nI n)) 115 92) (lc' := [(8, .int (nI k)), (7, .int 1), (6, .int ls), (5, .int (nI n)), (0, .ref 0), (1, .int (nI S)), (2, .int (nI t)), (3, .int (nI N))]) (stk' := []) (mem' := fm gq tp bt aq b) (by intro _ _ _; eq_refl) ?_
    rw [show (fx_cb .ge (nI k) (nI n)) = false from cb_geF (a := k) (b := n) (by omega) (by omega) (by omega)]
    dsimp only [cond]
    refine fe_s 4 (pc' := 100) (lc' := [(8, .int (nI k)), (7, .int 1), (6, .int ls), (5, .int (nI n)), (0, .ref 0), (1, .int (nI S)), (2, .int (nI t)), (3, .int (nI N))]) (stk' := [.int (nI k), .int (nI k), .ref 11]) (mem' := fm gq tp bt aq b) (by intro _ _ _; eq_refl) ?_
    refine fe_s 1 (pc' := cond (fx_cb .ne (nI k) 0) 107 103) (lc' := [(8, .int (nI k)), (7, .int 1), (6, .int ls), (5, .int (nI n)), (0, .ref 0), (1, .int (nI S)), (2, .int (nI t)), (3, .int (nI N))]) (stk' := [.int (nI k), .ref 11]) (mem' := fm gq tp bt aq b) (by intro _ _ _; eq_refl) ?_
    by_cases h101 : k = 0
    · rw [show (fx_cb .ne (nI k) 0) = false from cb_neF (a := k) (b := 0) (by omega) (by omega) (by omega)]
      dsimp only [cond]
      refine fe_s 2 (pc' := 108) (lc' := [(8, .int (nI k)), (7, .int 1), (6, .int ls), (5, .int (nI n)), (0, .ref 0), (1, .int (nI S)), (2, .int (nI t)), (3, .int (nI N))]) (stk' := [.int 0, .int (nI k), .ref 11]) (mem' := fm gq tp bt aq b) (by intro _ _ _; eq_refl) ?_
      refine fe_stI (mem' := fm gq tp bt (fm_u aq 11 (nI k : Int32).toNatClampNeg 0) b) (by rfl) (by rfl) (fx_inN (i := k) (by omega) (by omega)) fm_si11 ?_
      rw [show Int32.toNatClampNeg (nI k) = k from nI_clamp (by omega)]
      obtain ⟨as102, has102⟩ : ∃ zz, zz = fm_u aq 11 (k) 0 := ⟨_, rfl⟩
      rw [← has102]
      refine fe_s 2 (pc' := 85) (lc' := [(8, .int ((nI k) + 1)), (7, .int 1), (6, .int ls), (5, .int (nI n)), (0, .ref 0), (1, .int (nI S)), (2, .int (nI t)), (3, .int (nI N))]) (stk' := []) (mem' := fm gq tp bt as102 b) (by intro _ _ _; eq_refl) ?_
      rw [show ((nI k) + 1 : Int32) = nI (k + 1) from by simp only [show (1 : Int32) = nI 1 from rfl, nI_add, fm_mul]]
      refine fe_w (lc' := [(8, .int (nI (k + 1))), (7, .int 1), (6, .int ls), (5, .int (nI n)), (0, .ref 0), (1, .int (nI S)), (2, .int (nI t)), (3, .int (nI N))]) ⟨rfl, rfl, rfl, rfl, rfl, rfl, rfl, rfl, trivial⟩ (by show List.Nodup [8, 7, 6, 5, 0, 1, 2, 3]; decide) (by show List.Nodup [8, 7, 6, 5, 0, 1, 2, 3]; decide) ?_
      have ho : ∀ t, fm_okq t = false → as102 t = aq t := fun t ht => by rw [has102, fm_utt (fun e => by subst e; exact absurd ht (by decide))]
      exact ih (k + 1) (by omega) _ (fm_E_o hE ho) (fm_tu_eq htu (by rw [has102, fm_utt (by decide)])) (by rw [has102]; exact fm_gz_s hgi (by omega) _ (Or.inl ⟨by omega, rfl⟩))
    · rw [show (fx_cb .ne (nI k) 0) = true from cb_neT (a := k) (b := 0) (by omega) (by omega) (by omega)]
      dsimp only [cond]
      refine fe_s 1 (pc' := 108) (lc' := [(8, .int (nI k)), (7, .int 1), (6, .int ls), (5, .int (nI n)), (0, .ref 0), (1, .int (nI S)), (2, .int (nI t)), (3, .int (nI N))]) (stk' := [.int 1, .int (nI k), .ref 11]) (mem' := fm gq tp bt aq b) (by intro _ _ _; eq_refl) ?_
      refine fe_stI (mem' := fm gq tp bt (fm_u aq 11 (nI k : Int32).toNatClampNeg 1) b) (by rfl) (by rfl) (fx_inN (i := k) (by omega) (by omega)) fm_si11 ?_
      rw [show Int32.toNatClampNeg (nI k) = k from nI_clamp (by omega)]
      obtain ⟨as103, has103⟩ : ∃ zz, zz = fm_u aq 11 (k) 1 := ⟨_, rfl⟩
      rw [← has103]
      refine fe_s 2 (pc' := 85) (lc' := [(8, .int ((nI k) + 1)), (7, .int 1), (6, .int ls), (5, .int (nI n)), (0, .ref 0), (1, .int (nI S)), (2, .int (nI t)), (3, .int (nI N))]) (stk' := []) (mem' := fm gq tp bt as103 b) (by intro _ _ _; eq_refl) ?_
      rw [show ((nI k) + 1 : Int32) = nI (k + 1) from by simp only [show (1 : Int32) = nI 1 from rfl, nI_add, fm_mul]]
      refine fe_w (lc' := [(8, .int (nI (k + 1))), (7, .int 1), (6, .int ls), (5, .int (nI n)), (0, .ref 0), (1, .int (nI S)), (2, .int (nI t)), (3, .int (nI N))]) ⟨rfl, rfl, rfl, rfl, rfl, rfl, rfl, rfl, trivial⟩ (by show List.Nodup [8, 7, 6, 5, 0, 1, 2, 3]; decide) (by show List.Nodup [8, 7, 6, 5, 0, 1, 2, 3]; decide) ?_
      have ho : ∀ t, fm_okq t = false → as103 t = aq t := fun t ht => by rw [has103, fm_utt (fun e => by subst e; exact absurd ht (by decide))]
      exact ih (k + 1) (by omega) _ (fm_E_o hE ho) (fm_tu_eq htu (by rw [has103, fm_utt (by decide)])) (by rw [has103]; exact fm_gz_s hgi (by omega) _ (Or.inr ⟨by omega, rfl⟩))
set_option maxHeartbeats 4000000 in
theorem que_153 {S t N n : Nat} (hBa : fm_B a) (hS : S < 256) (ht : t < 4) (hN : N ≤ 12) (hn1 : 1 ≤ n) (hn4 : n ≤ 4) (hc : ∀ k, k < N → ∃ C, C < 10 ∧ b 5 (60 * t + k) = Int64.ofNat C) {m m2 : Nat} {gq : Nat → Int32} {ls ll : Int32} (hK : ∀ (a' : Nat → Nat → Int32), fm_E a a' → fm_tu n a' m → fm_ga n a' m2 → fe_R 9 gk_m334 194 [(8, .int 1), (7, .int 1), (6, .int ls), (5, .int (nI n)), (0, .ref 0), (1, .int (nI S)), (2, .int (nI t)), (3, .int (nI N))] [] (fm gq tp bt a' b) (fm_PO g tp bt a b)) : ∀ (r k : Nat), k + r = n → ∀ aq : Nat → Nat → Int32, fm_E a aq → fm_tu n aq m → fm_ga n aq m2 → fe_R 9 gk_m334 153 [(10, .int (nI k)), (9, .int ll), (8, .int 1), (7, .int 1), (6, .int ls), (5, .int (nI n)), (0, .ref 0), (1, .int (nI S)), (2, .int (nI t)), (3, .int (nI N))] [] (fm gq tp bt aq b) (fm_PO g tp bt a b) := by
  intro r
  induction r with
  | zero =>
    intro k hk aq hE htu hga
    obtain rfl : n = k := by omega
    refine fe_s 2 (pc' := 157) (lc' := [(10, .int (nI n)), (9, .int ll), (8, .int 1), (7, .int 1), (6, .int ls), (5, .int (nI n)), (0, .ref 0), (1, .int (nI S)), (2, .int (nI t)), (3, .int (nI N))]) (stk' := [.int (nI n), .int (nI n)]) (mem' := fm gq tp bt aq b) (by intro _ _ _; eq_refl) ?_
    refine fe_s 1 (pc' := cond (fx_cb .ge (nI n) (nI n)) 194 160) (lc' := [(10, .int (nI n)), (9, .int ll), (8, .int 1), (7, .int 1), (6, .int ls), (5, .int (nI n)), (0, .ref 0), (1, .int (nI S)), (2, .int (nI t)), (3, .int (nI N))]) (stk' := []) (mem' := fm gq tp bt aq b) (by intro _ _ _; eq_refl) ?_
    rw [show (fx_cb .ge (nI n) (nI n)) = true from cb_geT (a := n) (b := n) (by omega) (by omega) (by omega)]
    dsimp only [cond]
    refine fe_w (lc' := [(8, .int 1), (7, .int 1), (6, .int ls), (5, .int (nI n)), (0, .ref 0), (1, .int (nI S)), (2, .int (nI t)), (3, .int (nI N))]) ⟨rfl, rfl, rfl, rfl, rfl, rfl, rfl, rfl, trivial⟩ (by show List.Nodup [8, 7, 6, 5, 0, 1, 2, 3]; decide) (by show List.Nodup [10, 9, 8, 7, 6, 5, 0, 1, 2, 3]; decide) ?_
    exact hK aq hE htu hga
  | succ r ih =>
    intro k hk aq hE htu hga
    have hkn : k < n := by omega
    refine fe_s 2 (pc' := 157) (lc' := [(10, .int (nI k)), (9, .int ll), (8, .int 1), (7, .int 1), (6, .int ls), (5, .int (nI n)), (0, .ref 0), (1, .int (nI S)), (2, .int (nI t)), (3, .int (nI N))]) (stk' := [.int (nI n), .int (nI k)]) (mem' := fm gq tp bt aq b) (by intro _ _ _; eq_refl) ?_
    refine fe_s 1 (pc' := cond (fx_cb .ge (nI k) (nI n)) 194 160) (lc' := [(10, .int (nI k)), (9, .int ll), (8, .int 1), (7, .int 1), (6, .int ls), (5, .int (nI n)), (0, .ref 0), (1, .int (nI S)), (2, .int (nI t)), (3, .int (nI N))]) (stk' := []) (mem' := fm gq tp bt aq b) (by intro _ _ _; eq_refl) ?_
    rw [show (fx_cb .ge (nI k) (nI n)) = false from cb_geF (a := k) (b := n) (by omega) (by omega) (by omega)]
    dsimp only [cond]
    refine fe_s 6 (pc' := 172) (lc' := [(10, .int (nI k)), (9, .int ll), (8, .int 1), (7, .int 1), (6, .int ls), (5, .int (nI n)), (0, .ref 0), (1, .int (nI S)), (2, .int (nI t)), (3, .int (nI N))]) (stk' := [.int (nI k), .ref 10, .int (nI k), .ref 12]) (mem' := fm gq tp bt aq b) (by intro _ _ _; eq_refl) ?_
    refine fe_ldI (by rfl) (by rfl) (fx_inN (i := k) (by omega) (by omega)) ?_
    rw [show Int32.toNatClampNeg (nI k) = k from nI_clamp (by omega)]
    refine fe_stI (mem' := fm gq tp bt (fm_u aq 12 (nI k : Int32).toNatClampNeg (aq 10 k)) b) (by rfl) (by rfl) (fx_inN (i := k) (by omega) (by omega)) fm_si12 ?_
    rw [show Int32.toNatClampNeg (nI k) = k from nI_clamp (by omega)]
    obtain ⟨as101, has101⟩ : ∃ zz, zz = fm_u aq 12 (k) (aq 10 k) := ⟨_, rfl⟩
    rw [← has101]
    refine fe_s 6 (pc' := 186) (lc' := [(10, .int (nI k)), (9, .int ll), (8, .int 1), (7, .int 1), (6, .int ls), (5, .int (nI n)), (0, .ref 0), (1, .int (nI S)), (2, .int (nI t)), (3, .int (nI N))]) (stk' := [.int (nI k), .ref 11, .int (nI k), .ref 13]) (mem' := fm gq tp bt as101 b) (by intro _ _ _; eq_refl) ?_
    refine fe_ldI (by rfl) (by rfl) (fx_inN (i := k) (by omega) (by omega)) ?_
    rw [show Int32.toNatClampNeg (nI k) = k from nI_clamp (by omega)]
    refine fe_stI (mem' := fm gq tp bt (fm_u as101 13 (nI k : Int32).toNatClampNeg (as101 11 k)) b) (by rfl) (by rfl) (fx_inN (i := k) (by omega) (by omega)) fm_si13 ?_
    rw [show Int32.toNatClampNeg (nI k) = k from nI_clamp (by omega)]
    obtain ⟨as102, has102⟩ : ∃ zz, zz = fm_u as101 13 (k) (as101 11 k) := ⟨_, rfl⟩
    rw [← has102]
    refine fe_s 2 (pc' := 153) (lc' := [(10, .int ((nI k) + 1)), (9, .int ll), (8, .int 1), (7, .int 1), (6, .int ls), (5, .int (nI n)), (0, .ref 0), (1, .int (nI S)), (2, .int (nI t)), (3, .int (nI N))]) (stk' := []) (mem' := fm gq tp bt as102 b) (by intro _ _ _; eq_refl) ?_
    rw [show ((nI k) + 1 : Int32) = nI (k + 1) from by simp only [show (1 : Int32) = nI 1 from rfl, nI_add, fm_mul]]
    refine fe_w (lc' := [(10, .int (nI (k + 1))), (9, .int ll), (8, .int 1), (7, .int 1), (6, .int ls), (5, .int (nI n)), (0, .ref 0), (1, .int (nI S)), (2, .int (nI t)), (3, .int (nI N))]) ⟨rfl, rfl, rfl, rfl, rfl, rfl, rfl, rfl, rfl, rfl, trivial⟩ (by show List.Nodup [10, 9, 8, 7, 6, 5, 0, 1, 2, 3]; decide) (by show List.Nodup [10, 9, 8, 7, 6, 5, 0, 1, 2, 3]; decide) ?_
    have ho : ∀ t, t ≠ 12 → t ≠ 13 → as102 t = aq t := fun t h1 h2 => by rw [has102, fm_utt (by assumption), has101, fm_utt (by assumption)]
    exact ih (k + 1) (by omega) _ (fm_E_o hE (fun t ht => ho t (fun e => by subst e; exact absurd ht (by decide)) (fun e => by subst e; exact absurd ht (by decide)))) (fm_tu_eq htu (ho 10 (by decide) (by decide))) (fm_ga_eq hga (ho 11 (by decide) (by decide)))
set_option maxHeartbeats 8000000 in
theorem que_118 {S t N n : Nat} (hBa : fm_B a) (hS : S < 256) (ht : t < 4) (hN : N ≤ 12) (hn1 : 1 ≤ n) (hn4 : n ≤ 4) (hc : ∀ k, k < N → ∃ C, C < 10 ∧ b 5 (60 * t + k) = Int64.ofNat C) {m : Nat} (hK : ∀ (g' : Nat → Int32) (a' : Nat → Nat → Int32) (ls : Int32) (m' : Nat), m < m' → fm_G g g' → fm_E a a' → fm_tu n a' m' → fe_R 9 gk_m334 77 [(7, .int 1), (6, .int ls), (5, .int (nI n)), (0, .ref 0), (1, .int (nI S)), (2, .int (nI t)), (3, .int (nI N))] [] (fm g' tp bt a' b) (fm_PO g tp bt a b)) : ∀ (r m2 : Nat) (gq : Nat → Int32) (aq : Nat → Nat → Int32) {ls : Int32}, 259 ≤ m2 + r → fm_G g gq → fm_E a aq → fm_tu n aq m → fm_ga n aq m2 → fe_R 9 gk_m334 118 [(8, .int 1), (7, .int 1), (6, .int ls), (5, .int (nI n)), (0, .ref 0), (1, .int (nI S)), (2, .int (nI t)), (3, .int (nI N))] [] (fm gq tp bt aq b) (fm_PO g tp bt a b) := by
  intro r
  induction r with
  | zero =>
    intro m2 gq aq ls h2 hG hE htu hga
    exact absurd (fm_ga_le hga) (by omega)
  | succ r ih =>
    intro m2 gq aq ls h2 hG hE htu hga
    refine fe_s 1 (pc' := 120) (lc' := [(8, .int 1), (7, .int 1), (6, .int ls), (5, .int (nI n)), (0, .ref 0), (1, .int (nI S)), (2, .int (nI t)), (3, .int (nI N))]) (stk' := [.int 1]) (mem' := fm gq tp bt aq b) (by intro _ _ _; eq_refl) ?_
    refine fe_s 1 (pc' := cond (fx_cb .eq 1 0) 205 123) (lc' := [(8, .int 1), (7, .int 1), (6, .int ls), (5, .int (nI n)), (0, .ref 0), (1, .int (nI S)), (2, .int (nI t)), (3, .int (nI N))]) (stk' := []) (mem' := fm gq tp bt aq b) (by intro _ _ _; eq_refl) ?_
    rw [show (fx_cb .eq 1 0) = false from by decide]
    dsimp only [cond]
    refine fe_s 4 (pc' := 128) (lc' := [(8, .int 1), (7, .int 1), (6, .int ls), (5, .int (nI n)), (0, .ref 0), (1, .int (nI S)), (2, .int (nI t)), (3, .int (nI N))]) (stk' := [.int (nI N), .int (nI t), .int (nI n), .ref 0]) (mem' := fm gq tp bt aq b) (by intro _ _ _; eq_refl) ?_
    obtain ⟨ve101, meme101, ⟨xe101, ae101, hBe101, hOe101, hKe101, hRe101⟩, hfre101⟩ := fr_queued (n := n) (t := t) (N := N) (m1 := m) (m2 := m2) (g := gq) (tp := tp) (bt := bt) (a := aq) (b := b) hE.1 hG.2 hn1 hn4 htu hga ht hN hc
    cases hRe101
    have hE5 := fm_E_q hE hBe101 hOe101 hKe101
    have htu5 : fm_tu n ae101 m := fm_tu_eq htu (hOe101 10 rfl)
    have hga5 : fm_ga n ae101 m2 := fm_ga_eq hga (hOe101 11 rfl)
    refine fe_ivV hfre101 (by omega) (by rfl) (by rfl) (by rfl) (by rfl) (by rfl) (by rfl) ?_
    have j194 : ∀ (g6 : Nat → Int32) (ls : Int32) (a6 : Nat → Nat → Int32), fm_G g g6 → fm_E a a6 → fm_tu n a6 m → fm_ga n a6 m2 → fe_R 9 gk_m334 194 [(8, .int 1), (7, .int 1), (6, .int ls), (5, .int (nI n)), (0, .ref 0), (1, .int (nI S)), (2, .int (nI t)), (3, .int (nI N))] [] (fm g6 tp bt a6 b) (fm_PO g tp bt a b) := by
      intro g6 ls a6 hG6 hE6 htu6 hga6
      refine fe_s 2 (pc' := 197) (lc' := [(8, .int 1), (7, .int 1), (6, .int ls), (5, .int (nI n)), (0, .ref 0), (1, .int (nI S)), (2, .int (nI t)), (3, .int (nI N))]) (stk' := [.int (nI n), .ref 0]) (mem' := fm g6 tp bt a6 b) (by intro _ _ _; eq_refl) ?_
      obtain ⟨vg, memg, ⟨xg, ag, hOg, hxg, hRg⟩, hfrg⟩ := fr_gapsOn (n := n) (m := m2) (g := g6) (tp := tp) (bt := bt) (a := a6) (b := b) hn4 hga6
      cases hRg
      have hEg : fm_E a ag := fm_E_o hE6 (fun t ht => hOg t (fun e => by subst e; exact absurd ht (by decide)))
      have htug : fm_tu n ag m := fm_tu_eq htu6 (hOg 10 (by decide))
      refine fe_ivV hfrg (by omega) (by rfl) (by rfl) (by rfl) (by rfl) (by rfl) (by rfl) ?_
      rcases hxg with rfl | ⟨rfl, m3, hm3, hgag⟩
      · refine fe_s 1 (pc' := 202) (lc' := [(8, .int 0), (7, .int 1), (6, .int ls), (5, .int (nI n)), (0, .ref 0), (1, .int (nI S)), (2, .int (nI t)), (3, .int (nI N))]) (stk' := []) (mem' := fm g6 tp bt ag b) (by intro _ _ _; eq_refl) ?_
        refine fe_s 1 (pc' := fx_to 202 (-84)) (lc' := [(8, .int 0), (7, .int 1), (6, .int ls), (5, .int (nI n)), (0, .ref 0), (1, .int (nI S)), (2, .int (nI t)), (3, .int (nI N))]) (stk' := []) (mem' := fm g6 tp bt ag b) (by intro _ _ _; eq_refl) ?_
        rw [show fx_to 202 (-84) = 118 from by decide]
        refine fe_s 1 (pc' := 120) (lc' := [(8, .int 0), (7, .int 1), (6, .int ls), (5, .int (nI n)), (0, .ref 0), (1, .int (nI S)), (2, .int (nI t)), (3, .int (nI N))]) (stk' := [.int 0]) (mem' := fm g6 tp bt ag b) (by intro _ _ _; eq_refl) ?_
        refine fe_s 1 (pc' := cond (fx_cb .eq 0 0) 205 123) (lc' := [(8, .int 0), (7, .int 1), (6, .int ls), (5, .int (nI n)), (0, .ref 0), (1, .int (nI S)), (2, .int (nI t)), (3, .int (nI N))]) (stk' := []) (mem' := fm g6 tp bt ag b) (by intro _ _ _; eq_refl) ?_
        rw [show (fx_cb .eq 0 0) = true from by decide]
        dsimp only [cond]
        refine fe_s 2 (pc' := 208) (lc' := [(8, .int 0), (7, .int 1), (6, .int ls), (5, .int (nI n)), (0, .ref 0), (1, .int (nI S)), (2, .int (nI t)), (3, .int (nI N))]) (stk' := [.int (nI n), .ref 0]) (mem' := fm g6 tp bt ag b) (by intro _ _ _; eq_refl) ?_
        obtain ⟨vt, memt, ⟨xt, at9, hOt, hxt, hRt⟩, hfrt⟩ := fr_turnsOn (n := n) (m := m) (g := g6) (tp := tp) (bt := bt) (a := ag) (b := b) hn4 htug
        cases hRt
        have hEt : fm_E a at9 := fm_E_o hEg (fun t ht => hOt t (fun e => by subst e; exact absurd ht (by decide)))
        refine fe_ivV hfrt (by omega) (by rfl) (by rfl) (by rfl) (by rfl) (by rfl) (by rfl) ?_
        rcases hxt with ⟨rfl, -⟩ | ⟨rfl, m4, hm4, htu4⟩
        · refine fe_s 1 (pc' := 213) (lc' := [(7, .int 0), (8, .int 0), (6, .int ls), (5, .int (nI n)), (0, .ref 0), (1, .int (nI S)), (2, .int (nI t)), (3, .int (nI N))]) (stk' := []) (mem' := fm g6 tp bt at9 b) (by intro _ _ _; eq_refl) ?_
          refine fe_s 1 (pc' := fx_to 213 (-136)) (lc' := [(7, .int 0), (8, .int 0), (6, .int ls), (5, .int (nI n)), (0, .ref 0), (1, .int (nI S)), (2, .int (nI t)), (3, .int (nI N))]) (stk' := []) (mem' := fm g6 tp bt at9 b) (by intro _ _ _; eq_refl) ?_
          rw [show fx_to 213 (-136) = 77 from by decide]
          refine fe_s 1 (pc' := 79) (lc' := [(7, .int 0), (8, .int 0), (6, .int ls), (5, .int (nI n)), (0, .ref 0), (1, .int (nI S)), (2, .int (nI t)), (3, .int (nI N))]) (stk' := [.int 0]) (mem' := fm g6 tp bt at9 b) (by intro _ _ _; eq_refl) ?_
          refine fe_s 1 (pc' := cond (fx_cb .eq 0 0) 216 82) (lc' := [(7, .int 0), (8, .int 0), (6, .int ls), (5, .int (nI n)), (0, .ref 0), (1, .int (nI S)), (2, .int (nI t)), (3, .int (nI N))]) (stk' := []) (mem' := fm g6 tp bt at9 b) (by intro _ _ _; eq_refl) ?_
          rw [show (fx_cb .eq 0 0) = true from by decide]
          dsimp only [cond]
          refine fe_s 2 (pc' := 221) (lc' := [(7, .int 0), (8, .int 0), (6, .int ls), (5, .int (nI n)), (0, .ref 0), (1, .int (nI S)), (2, .int (nI t)), (3, .int (nI N))]) (stk' := [.int 1000000, .int ls]) (mem' := fm g6 tp bt at9 b) (by intro _ _ _; eq_refl) ?_
          refine fe_s 1 (pc' := cond (fx_cb .ne ls 1000000) 233 224) (lc' := [(7, .int 0), (8, .int 0), (6, .int ls), (5, .int (nI n)), (0, .ref 0), (1, .int (nI S)), (2, .int (nI t)), (3, .int (nI N))]) (stk' := []) (mem' := fm g6 tp bt at9 b) (by intro _ _ _; eq_refl) ?_
          cases h102 : fx_cb .ne ls 1000000
          · refine fe_s 2 (pc' := 227) (lc' := [(7, .int 0), (8, .int 0), (6, .int ls), (5, .int (nI n)), (0, .ref 0), (1, .int (nI S)), (2, .int (nI t)), (3, .int (nI N))]) (stk' := [.int 6, .ref 0]) (mem' := fm g6 tp bt at9 b) (by intro _ _ _; eq_refl) ?_
            refine fe_ivV (fr_refuse (x := 6)) (by omega) (by rfl) (by rfl) (by rfl) (by rfl) (by rfl) (by rfl) ?_
            refine fe_s 1 (pc' := 239) (lc' := [(7, .int 0), (8, .int 0), (6, .int ls), (5, .int (nI n)), (0, .ref 0), (1, .int (nI S)), (2, .int (nI t)), (3, .int (nI N))]) (stk' := [.int (-1)]) (mem' := fm (upd g6 2 6) tp bt at9 b) (by intro _ _ _; eq_refl) ?_
            exact fe_ret ⟨_, _, _, _, _, _, hEt, (fm_G_2 hG6 (by decide) (by decide)), fun _ _ _ => rfl, rfl⟩ (by rfl) (by rfl) (by rfl)
          · refine fe_s 2 (pc' := 236) (lc' := [(7, .int 0), (8, .int 0), (6, .int ls), (5, .int (nI n)), (0, .ref 0), (1, .int (nI S)), (2, .int (nI t)), (3, .int (nI N))]) (stk' := [.int ls, .ref 0]) (mem' := fm g6 tp bt at9 b) (by intro _ _ _; eq_refl) ?_
            refine fe_ivV (fr_gives (x := ls)) (by omega) (by rfl) (by rfl) (by rfl) (by rfl) (by rfl) (by rfl) ?_
            exact fe_ret ⟨_, _, _, _, _, _, hEt, (fm_G_2 hG6 (by decide) (by decide)), fun _ _ _ => rfl, rfl⟩ (by rfl) (by rfl) (by rfl)
        · refine fe_s 1 (pc' := 213) (lc' := [(7, .int 1), (8, .int 0), (6, .int ls), (5, .int (nI n)), (0, .ref 0), (1, .int (nI S)), (2, .int (nI t)), (3, .int (nI N))]) (stk' := []) (mem' := fm g6 tp bt at9 b) (by intro _ _ _; eq_refl) ?_
          refine fe_s 1 (pc' := fx_to 213 (-136)) (lc' := [(7, .int 1), (8, .int 0), (6, .int ls), (5, .int (nI n)), (0, .ref 0), (1, .int (nI S)), (2, .int (nI t)), (3, .int (nI N))]) (stk' := []) (mem' := fm g6 tp bt at9 b) (by intro _ _ _; eq_refl) ?_
          rw [show fx_to 213 (-136) = 77 from by decide]
          refine fe_w (lc' := [(7, .int 1), (6, .int ls), (5, .int (nI n)), (0, .ref 0), (1, .int (nI S)), (2, .int (nI t)), (3, .int (nI N))]) ⟨rfl, rfl, rfl, rfl, rfl, rfl, rfl, trivial⟩ (by show List.Nodup [7, 6, 5, 0, 1, 2, 3]; decide) (by show List.Nodup [7, 8, 6, 5, 0, 1, 2, 3]; decide) ?_
          exact hK _ _ _ m4 hm4 hG6 hEt htu4
      · refine fe_s 1 (pc' := 202) (lc' := [(8, .int 1), (7, .int 1), (6, .int ls), (5, .int (nI n)), (0, .ref 0), (1, .int (nI S)), (2, .int (nI t)), (3, .int (nI N))]) (stk' := []) (mem' := fm g6 tp bt ag b) (by intro _ _ _; eq_refl) ?_
        refine fe_s 1 (pc' := fx_to 202 (-84)) (lc' := [(8, .int 1), (7, .int 1), (6, .int ls), (5, .int (nI n)), (0, .ref 0), (1, .int (nI S)), (2, .int (nI t)), (3, .int (nI N))]) (stk' := []) (mem' := fm g6 tp bt ag b) (by intro _ _ _; eq_refl) ?_
        rw [show fx_to 202 (-84) = 118 from by decide]
        refine fe_w (lc' := [(8, .int 1), (7, .int 1), (6, .int ls), (5, .int (nI n)), (0, .ref 0), (1, .int (nI S)), (2, .int (nI t)), (3, .int (nI N))]) ⟨rfl, rfl, rfl, rfl, rfl, rfl, rfl, rfl, trivial⟩ (by show List.Nodup [8, 7, 6, 5, 0, 1, 2, 3]; decide) (by show List.Nodup [8, 7, 6, 5, 0, 1, 2, 3]; decide) ?_
        exact ih _ _ _ (by omega) hG6 hEg htug hgag
    refine fe_s 3 (pc' := 137) (lc' := [(9, .int xe101), (8, .int 1), (7, .int 1), (6, .int ls), (5, .int (nI n)), (0, .ref 0), (1, .int (nI S)), (2, .int (nI t)), (3, .int (nI N))]) (stk' := [.int ls, .int xe101]) (mem' := fm gq tp bt ae101 b) (by intro _ _ _; eq_refl) ?_
    refine fe_s 1 (pc' := cond (fx_cb .ge xe101 ls) 194 140) (lc' := [(9, .int xe101), (8, .int 1), (7, .int 1), (6, .int ls), (5, .int (nI n)), (0, .ref 0), (1, .int (nI S)), (2, .int (nI t)), (3, .int (nI N))]) (stk' := []) (mem' := fm gq tp bt ae101 b) (by intro _ _ _; eq_refl) ?_
    cases h103 : fx_cb .ge xe101 ls
    · refine fe_s 7 (pc' := 153) (lc' := [(10, .int 0), (6, .int xe101), (9, .int xe101), (8, .int 1), (7, .int 1), (5, .int (nI n)), (0, .ref 0), (1, .int (nI S)), (2, .int (nI t)), (3, .int (nI N))]) (stk' := []) (mem' := fm (upd gq 30 (nI n)) tp bt ae101 b) (by intro _ _ _; eq_refl) ?_
      refine fe_w (lc' := [(10, .int 0), (9, .int xe101), (8, .int 1), (7, .int 1), (6, .int xe101), (5, .int (nI n)), (0, .ref 0), (1, .int (nI S)), (2, .int (nI t)), (3, .int (nI N))]) ⟨rfl, rfl, rfl, rfl, rfl, rfl, rfl, rfl, rfl, rfl, trivial⟩ (by show List.Nodup [10, 9, 8, 7, 6, 5, 0, 1, 2, 3]; decide) (by show List.Nodup [10, 6, 9, 8, 7, 5, 0, 1, 2, 3]; decide) ?_
      exact que_153 hBa hS ht hN hn1 hn4 hc (fun a' h1 h2 h3 => j194 _ _ a' (fm_G_30 hG (by omega)) h1 h2 h3) n 0 (by omega) _ hE5 htu5 hga5
    · refine fe_w (lc' := [(8, .int 1), (7, .int 1), (6, .int ls), (5, .int (nI n)), (0, .ref 0), (1, .int (nI S)), (2, .int (nI t)), (3, .int (nI N))]) ⟨rfl, rfl, rfl, rfl, rfl, rfl, rfl, rfl, trivial⟩ (by show List.Nodup [8, 7, 6, 5, 0, 1, 2, 3]; decide) (by show List.Nodup [9, 8, 7, 6, 5, 0, 1, 2, 3]; decide) ?_
      exact j194 _ _ _ hG hE5 htu5 hga5
set_option maxHeartbeats 4000000 in
theorem que_77 {S t N n : Nat} (hBa : fm_B a) (hS : S < 256) (ht : t < 4) (hN : N ≤ 12) (hn1 : 1 ≤ n) (hn4 : n ≤ 4) (hc : ∀ k, k < N → ∃ C, C < 10 ∧ b 5 (60 * t + k) = Int64.ofNat C) : ∀ (r m : Nat) (gq : Nat → Int32) (aq : Nat → Nat → Int32) (ls : Int32), 4096 ≤ m + r → fm_G g gq → fm_E a aq → fm_tu n aq m → fe_R 9 gk_m334 77 [(7, .int 1), (6, .int ls), (5, .int (nI n)), (0, .ref 0), (1, .int (nI S)), (2, .int (nI t)), (3, .int (nI N))] [] (fm gq tp bt aq b) (fm_PO g tp bt a b) := by
  intro r
  induction r with
  | zero =>
    intro m gq aq ls h2 hG hE htu
    exact absurd (fm_tu_le htu) (by omega)
  | succ r ih =>
    intro m gq aq ls h2 hG hE htu
    refine fe_s 1 (pc' := 79) (lc' := [(7, .int 1), (6, .int ls), (5, .int (nI n)), (0, .ref 0), (1, .int (nI S)), (2, .int (nI t)), (3, .int (nI N))]) (stk' := [.int 1]) (mem' := fm gq tp bt aq b) (by intro _ _ _; eq_refl) ?_
    refine fe_s 1 (pc' := cond (fx_cb .eq 1 0) 216 82) (lc' := [(7, .int 1), (6, .int ls), (5, .int (nI n)), (0, .ref 0), (1, .int (nI S)), (2, .int (nI t)), (3, .int (nI N))]) (stk' := []) (mem' := fm gq tp bt aq b) (by intro _ _ _; eq_refl) ?_
    rw [show (fx_cb .eq 1 0) = false from by decide]
    dsimp only [cond]
    refine fe_s 2 (pc' := 85) (lc' := [(8, .int 0), (7, .int 1), (6, .int ls), (5, .int (nI n)), (0, .ref 0), (1, .int (nI S)), (2, .int (nI t)), (3, .int (nI N))]) (stk' := []) (mem' := fm gq tp bt aq b) (by intro _ _ _; eq_refl) ?_
    refine fe_w (lc' := [(8, .int 0), (7, .int 1), (6, .int ls), (5, .int (nI n)), (0, .ref 0), (1, .int (nI S)), (2, .int (nI t)), (3, .int (nI N))]) ⟨rfl, rfl, rfl, rfl, rfl, rfl, rfl, rfl, trivial⟩ (by show List.Nodup [8, 7, 6, 5, 0, 1, 2, 3]; decide) (by show List.Nodup [8, 7, 6, 5, 0, 1, 2, 3]; decide) ?_
    refine que_85 hBa hS ht hN hn1 hn4 hc (fun a' x8 h1 h2 h3 => ?_) n 0 (by omega) aq hE htu ⟨fun h => absurd h (by omega), fun h => absurd h (by omega), fun h => absurd h (by omega), fun h => absurd h (by omega)⟩
    refine fe_s 2 (pc' := 118) (lc' := [(8, .int 1), (7, .int 1), (6, .int ls), (5, .int (nI n)), (0, .ref 0), (1, .int (nI S)), (2, .int (nI t)), (3, .int (nI N))]) (stk' := []) (mem' := fm gq tp bt a' b) (by intro _ _ _; eq_refl) ?_
    refine fe_w (lc' := [(8, .int 1), (7, .int 1), (6, .int ls), (5, .int (nI n)), (0, .ref 0), (1, .int (nI S)), (2, .int (nI t)), (3, .int (nI N))]) ⟨rfl, rfl, rfl, rfl, rfl, rfl, rfl, rfl, trivial⟩ (by show List.Nodup [8, 7, 6, 5, 0, 1, 2, 3]; decide) (by show List.Nodup [8, 7, 6, 5, 0, 1, 2, 3]; decide) ?_
    exact que_118 hBa hS ht hN hn1 hn4 hc (fun g' a2 ls' m' hm hG' hE' ht' => ih m' g' a2 ls' (by omega) hG' hE' ht') 259 43 gq a' (by omega) hG h1 h2 h3
set_option maxHeartbeats 8000000 in
theorem fr_queue {set tray nn : Int32} (hBa : fm_B a) (hgb : fm_gb g) : ∃ (v : Option Value) (mem' : fx_M), (fm_PO g tp bt a b) (v, mem') ∧ fr_T 10 334 [.ref 0, .int set, .int tray, .int nn] (fm g tp bt a b) v mem' := by
  have hG := fm_G_rf hgb
  have hB := hBa
  obtain ⟨NC, hNC, eNC⟩ := fm_B_0 hB (i := 0) (n := 10) (by decide) rfl
  obtain ⟨NW, hNW, eNW⟩ := fm_B_0 hB (i := 1) (n := 8) (by decide) rfl
  obtain ⟨NG, hNG, eNG⟩ := fm_B_0 hB (i := 3) (n := 20) (by decide) rfl
  obtain ⟨T, hT9, eT⟩ := fm_T5 hB
  have hD : fm_D a a T := fm_D_rf hB eT (by omega)
  refine fe_meth (F := fm_PO g tp bt a b) (M := gk_m334) (by rfl) (by rfl) ?_
  refine fe_s 4 (pc' := 4) (lc' := [(0, .ref 0), (1, .int set), (2, .int tray), (3, .int nn)]) (stk' := [.int nn, .int tray, .int set, .ref 0]) (mem' := fm g tp bt a b) (by intro _ _ _; eq_refl) ?_
  obtain ⟨vu1, memu1, ⟨uu1, huu1, h0u1, au1, hDu1, hRu1⟩, hfru1⟩ := fr_wrongQueue (set := set) (tray := tray) (nn := nn) (g := g) (tp := tp) (bt := bt) (a := a) (b := b) hB hD eNW hNW
  cases hRu1
  refine fe_ivV hfru1 (by omega) (by rfl) (by rfl) (by rfl) (by rfl) (by rfl) (by rfl) ?_
  refine fe_s 2 (pc' := 11) (lc' := [(4, .int (nI uu1)), (0, .ref 0), (1, .int set), (2, .int tray), (3, .int nn)]) (stk' := [.int (nI uu1)]) (mem' := fm g tp bt au1 b) (by intro _ _ _; eq_refl) ?_
  refine fe_s 1 (pc' := cond (fx_cb .le (nI uu1) 0) 21 14) (lc' := [(4, .int (nI uu1)), (0, .ref 0), (1, .int set), (2, .int tray), (3, .int nn)]) (stk' := []) (mem' := fm g tp bt au1 b) (by intro _ _ _; eq_refl) ?_
  by_cases h2 : uu1 ≤ 0
  · rw [show (fx_cb .le (nI uu1) 0) = true from cb_leT (a := uu1) (b := 0) (by omega) (by omega) (by omega)]
    dsimp only [cond]
    obtain ⟨S, t, N, rfl, rfl, rfl, hS1, hSN, hp4, ht, hN1, hN, hc⟩ := h0u1 (by omega)
    have h256 : 2 ^ NW ≤ 2 ^ 8 := Nat.pow_le_pow_right (by decide) hNW
    have hS : S < 256 := by omega
    refine fe_s 4 (pc' := 27) (lc' := [(6, .int 0), (5, .int 0), (4, .int (nI uu1)), (0, .ref 0), (1, .int (nI S)), (2, .int (nI t)), (3, .int (nI N))]) (stk' := []) (mem' := fm g tp bt au1 b) (by intro _ _ _; eq_refl) ?_
    have hES := fm_E_D hB hDu1 (by omega)
    have eN1 : au1 1 1 = nI NW := (fm_D_h hDu1 (by decide) rfl).trans eNW
    have loop : ∀ (r i p : Nat), i + r = NW → p = fm_pw S i → ∀ aq : Nat → Nat → Int32, (∀ t, t ≠ 10 → aq t = au1 t) → fm_tq p i aq → fe_R 9 gk_m334 27 [(6, .int (nI i)), (5, .int (nI p)), (0, .ref 0), (1, .int (nI S)), (2, .int (nI t)), (3, .int (nI N))] [] (fm g tp bt aq b) (fm_PO g tp bt a b) := by
      intro r
      induction r with
      | zero =>
        intro i p hi hp aq ho htq
        obtain rfl : NW = i := by omega
        have hle := fm_pw_le S NW (8 - NW)
        rw [show NW + (8 - NW) = 8 by omega] at hle
        have hp4 : p ≤ 4 := by omega
        refine fe_s 4 (pc' := 34) (lc' := [(6, .int (nI NW)), (5, .int (nI p)), (0, .ref 0), (1, .int (nI S)), (2, .int (nI t)), (3, .int (nI N))]) (stk' := [.int 1, .ref 1, .int (nI NW)]) (mem' := fm g tp bt aq b) (by intro _ _ _; eq_refl) ?_
        refine fe_ldI (by rfl) (by rfl) (fx_inN (i := 1) (by omega) (by omega)) ?_
        rw [show Int32.toNatClampNeg (1) = 1 from rfl]
        rw [show aq 1 1 = nI NW from by rw [ho 1 (by decide)]; exact eN1]
        refine fe_s 1 (pc' := cond (fx_cb .ge (nI NW) (nI NW)) 69 38) (lc' := [(6, .int (nI NW)), (5, .int (nI p)), (0, .ref 0), (1, .int (nI S)), (2, .int (nI t)), (3, .int (nI N))]) (stk' := []) (mem' := fm g tp bt aq b) (by intro _ _ _; eq_refl) ?_
        rw [show (fx_cb .ge (nI NW) (nI NW)) = true from cb_geT (a := NW) (b := NW) (by omega) (by omega) (by omega)]
        dsimp only [cond]
        refine fe_s 4 (pc' := 77) (lc' := [(7, .int 1), (6, .int 1000000), (5, .int (nI p)), (0, .ref 0), (1, .int (nI S)), (2, .int (nI t)), (3, .int (nI N))]) (stk' := []) (mem' := fm g tp bt aq b) (by intro _ _ _; eq_refl) ?_
        refine fe_w (lc' := [(7, .int 1), (6, .int 1000000), (5, .int (nI p)), (0, .ref 0), (1, .int (nI S)), (2, .int (nI t)), (3, .int (nI N))]) ⟨rfl, rfl, rfl, rfl, rfl, rfl, rfl, trivial⟩ (by show List.Nodup [7, 6, 5, 0, 1, 2, 3]; decide) (by show List.Nodup [7, 6, 5, 0, 1, 2, 3]; decide) ?_
        obtain ⟨m, htu⟩ := fm_tq_tu htq
        have hp1 : 1 ≤ p := by
          have := fm_pw_pos hNW hS1 hSN
          omega
        have hEq : fm_E a aq := fm_E_o hES (fun t ht => ho t (fun e => by subst e; exact absurd ht (by decide)))
        exact que_77 hBa hS ht hN hp1 hp4 hc 4096 m _ aq _ (by omega) hG hEq htu
      | succ r ih =>
        intro i p hi hp aq ho htq
        have hlt : i < NW := by omega
        have hle := fm_pw_le S i (8 - i)
        rw [show i + (8 - i) = 8 by omega] at hle
        have hp4 : p ≤ 4 := by omega
        refine fe_s 4 (pc' := 34) (lc' := [(6, .int (nI i)), (5, .int (nI p)), (0, .ref 0), (1, .int (nI S)), (2, .int (nI t)), (3, .int (nI N))]) (stk' := [.int 1, .ref 1, .int (nI i)]) (mem' := fm g tp bt aq b) (by intro _ _ _; eq_refl) ?_
        refine fe_ldI (by rfl) (by rfl) (fx_inN (i := 1) (by omega) (by omega)) ?_
        rw [show Int32.toNatClampNeg (1) = 1 from rfl]
        rw [show aq 1 1 = nI NW from by rw [ho 1 (by decide)]; exact eN1]
        refine fe_s 1 (pc' := cond (fx_cb .ge (nI i) (nI NW)) 69 38) (lc' := [(6, .int (nI i)), (5, .int (nI p)), (0, .ref 0), (1, .int (nI S)), (2, .int (nI t)), (3, .int (nI N))]) (stk' := []) (mem' := fm g tp bt aq b) (by intro _ _ _; eq_refl) ?_
        rw [show (fx_cb .ge (nI i) (nI NW)) = false from cb_geF (a := i) (b := NW) (by omega) (by omega) (by omega)]
        dsimp only [cond]
        refine fe_s 3 (pc' := 42) (lc' := [(6, .int (nI i)), (5, .int (nI p)), (0, .ref 0), (1, .int (nI S)), (2, .int (nI t)), (3, .int (nI N))]) (stk' := [.int (nI i), .int (nI S), .ref 0]) (mem' := fm g tp bt aq b) (by intro _ _ _; eq_refl) ?_
        refine fe_ivV fr_isIn (by omega) (by rfl) (by rfl) (by rfl) (by rfl) (by rfl) (by rfl) ?_
        rcases fm_b_01 (nI S) (nI i) with q3 | q3
        · rw [q3]
          refine fe_s 1 (pc' := cond (fx_cb .ne 0 0) 51 48) (lc' := [(6, .int (nI i)), (5, .int (nI p)), (0, .ref 0), (1, .int (nI S)), (2, .int (nI t)), (3, .int (nI N))]) (stk' := []) (mem' := fm g tp bt aq b) (by intro _ _ _; eq_refl) ?_
          rw [show (fx_cb .ne 0 0) = false from by decide]
          dsimp only [cond]
          refine fe_s 3 (pc' := 27) (lc' := [(6, .int ((nI i) + 1)), (5, .int (nI p)), (0, .ref 0), (1, .int (nI S)), (2, .int (nI t)), (3, .int (nI N))]) (stk' := []) (mem' := fm g tp bt aq b) (by intro _ _ _; eq_refl) ?_
          rw [show ((nI i) + 1 : Int32) = nI (i + 1) from by simp only [show (1 : Int32) = nI 1 from rfl, nI_add, fm_mul]]
          refine fe_w (lc' := [(6, .int (nI (i + 1))), (5, .int (nI p)), (0, .ref 0), (1, .int (nI S)), (2, .int (nI t)), (3, .int (nI N))]) ⟨rfl, rfl, rfl, rfl, rfl, rfl, trivial⟩ (by show List.Nodup [6, 5, 0, 1, 2, 3]; decide) (by show List.Nodup [6, 5, 0, 1, 2, 3]; decide) ?_
          exact ih (i + 1) p (by omega) (by rw [fm_pw_z S i q3]; exact hp) aq ho (fm_tq_n htq)
        · rw [q3]
          have hp3 : p < 4 := by
            have h9 := fm_pw_le S (i + 1) (7 - i)
            rw [show i + 1 + (7 - i) = 8 by omega, fm_pw_s S i q3] at h9
            omega
          refine fe_s 1 (pc' := cond (fx_cb .ne 1 0) 51 48) (lc' := [(6, .int (nI i)), (5, .int (nI p)), (0, .ref 0), (1, .int (nI S)), (2, .int (nI t)), (3, .int (nI N))]) (stk' := []) (mem' := fm g tp bt aq b) (by intro _ _ _; eq_refl) ?_
          rw [show (fx_cb .ne 1 0) = true from by decide]
          dsimp only [cond]
          refine fe_s 4 (pc' := 59) (lc' := [(6, .int (nI i)), (5, .int (nI p)), (0, .ref 0), (1, .int (nI S)), (2, .int (nI t)), (3, .int (nI N))]) (stk' := [.int (nI i), .int (nI p), .ref 10]) (mem' := fm g tp bt aq b) (by intro _ _ _; eq_refl) ?_
          refine fe_stI (mem' := fm g tp bt (fm_u aq 10 (nI p : Int32).toNatClampNeg (nI i)) b) (by rfl) (by rfl) (fx_inN (i := p) (by omega) (by omega)) fm_si10 ?_
          rw [show Int32.toNatClampNeg (nI p) = p from nI_clamp (by omega)]
          obtain ⟨as4, has4⟩ : ∃ zz, zz = fm_u aq 10 (p) (nI i) := ⟨_, rfl⟩
          rw [← has4]
          refine fe_s 3 (pc' := 27) (lc' := [(6, .int ((nI i) + 1)), (5, .int ((nI p) + 1)), (0, .ref 0), (1, .int (nI S)), (2, .int (nI t)), (3, .int (nI N))]) (stk' := []) (mem' := fm g tp bt as4 b) (by intro _ _ _; eq_refl) ?_
          rw [show ((nI i) + 1 : Int32) = nI (i + 1) from by simp only [show (1 : Int32) = nI 1 from rfl, nI_add, fm_mul]]
          rw [show ((nI p) + 1 : Int32) = nI (p + 1) from by simp only [show (1 : Int32) = nI 1 from rfl, nI_add, fm_mul]]
          refine fe_w (lc' := [(6, .int (nI (i + 1))), (5, .int (nI (p + 1))), (0, .ref 0), (1, .int (nI S)), (2, .int (nI t)), (3, .int (nI N))]) ⟨rfl, rfl, rfl, rfl, rfl, rfl, trivial⟩ (by show List.Nodup [6, 5, 0, 1, 2, 3]; decide) (by show List.Nodup [6, 5, 0, 1, 2, 3]; decide) ?_
          exact ih (i + 1) (p + 1) (by omega) (by rw [fm_pw_s S i q3, hp]) _ (fun t ht => by rw [has4, fm_utt ht]; exact ho t ht) (by rw [has4]; exact fm_tq_s htq hp3 (by omega))
    refine fe_w (lc' := [(6, .int 0), (5, .int 0), (0, .ref 0), (1, .int (nI S)), (2, .int (nI t)), (3, .int (nI N))]) ⟨rfl, rfl, rfl, rfl, rfl, rfl, trivial⟩ (by show List.Nodup [6, 5, 0, 1, 2, 3]; decide) (by show List.Nodup [6, 5, 4, 0, 1, 2, 3]; decide) ?_
    exact loop NW 0 0 (by omega) rfl au1 (fun _ _ => rfl) fm_tq_0
  · rw [show (fx_cb .le (nI uu1) 0) = false from cb_leF (a := uu1) (b := 0) (by omega) (by omega) (by omega)]
    dsimp only [cond]
    refine fe_s 2 (pc' := 17) (lc' := [(4, .int (nI uu1)), (0, .ref 0), (1, .int set), (2, .int tray), (3, .int nn)]) (stk' := [.int (nI uu1), .ref 0]) (mem' := fm g tp bt au1 b) (by intro _ _ _; eq_refl) ?_
    refine fe_ivV (fr_refuse (x := nI uu1)) (by omega) (by rfl) (by rfl) (by rfl) (by rfl) (by rfl) (by rfl) ?_
    exact fe_ret ⟨_, _, _, _, _, _, fm_E_D hB hDu1 (by omega), (fm_G_2 hG (by rw [nI_i32 (by omega)]; omega) (by rw [nI_i32 (by omega)]; omega)), (fun _ _ _ => rfl), rfl⟩ (by rfl) (by rfl) (by rfl)
end FQ4
end MH24_1
