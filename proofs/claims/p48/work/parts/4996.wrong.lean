/-! ===== fx: queues: wrongQueue ===== -/
section FQ3
variable {g : Nat → Int32} {tp bt : Int64} {a0 a : Nat → Nat → Int32} {b : Nat → Nat → Int64}
theorem fm_p2i (n : Nat) : (2 : Int) ^ n = ((2 ^ n : Nat) : Int) := by rw [Int.natCast_pow]; rfl
set_option maxHeartbeats 4000000 in
theorem fr_wrongQueue {T : Nat} {NWq : Nat} {set tray nn : Int32} (hB : fm_B a0) (hD : fm_D a0 a T) (hNq : a0 1 1 = nI NWq) (hNq8 : NWq ≤ 8)  : ∃ (v : Option Value) (mem' : fx_M), (fun R => ∃ v : Nat, v ≤ 9 ∧ (v = 0 → ∃ S9 t9 N9 : Nat, set = nI S9 ∧ tray = nI t9 ∧ nn = nI N9 ∧ 1 ≤ S9 ∧ S9 < 2 ^ NWq ∧ fm_pw S9 8 ≤ 4 ∧ t9 < 4 ∧ 1 ≤ N9 ∧ N9 ≤ 12 ∧ ∀ k, k < N9 → ∃ C, C < 10 ∧ b 5 (60 * t9 + k) = Int64.ofNat C) ∧ ∃ a' : Nat → Nat → Int32, fm_D a0 a' T ∧ R = (some (.int (nI v)), fm g tp bt a' b)) (v, mem') ∧ fr_T 9 333 [.ref 0, .int set, .int tray, .int nn] (fm g tp bt a b) v mem' := by
  obtain ⟨NC, hNC, eNC⟩ := fm_B_0 hB (i := 0) (n := 10) (by decide) rfl
  obtain ⟨NW, hNW, eNW⟩ := fm_B_0 hB (i := 1) (n := 8) (by decide) rfl
  have eNq : NWq = NW := (nI_eq (by omega) (by omega)).mp (hNq.symm.trans eNW)
  have hT9 := hD.2.2.2.2.1
  refine fe_meth (F := fun R => ∃ v : Nat, v ≤ 9 ∧ (v = 0 → ∃ S9 t9 N9 : Nat, set = nI S9 ∧ tray = nI t9 ∧ nn = nI N9 ∧ 1 ≤ S9 ∧ S9 < 2 ^ NWq ∧ fm_pw S9 8 ≤ 4 ∧ t9 < 4 ∧ 1 ≤ N9 ∧ N9 ≤ 12 ∧ ∀ k, k < N9 → ∃ C, C < 10 ∧ b 5 (60 * t9 + k) = Int64.ofNat C) ∧ ∃ a' : Nat → Nat → Int32, fm_D a0 a' T ∧ R = (some (.int (nI v)), fm g tp bt a' b)) (M := gk_m333) (by rfl) (by rfl) ?_
  refine fe_s 7 (pc' := 9) (lc' := [(0, .ref 0), (1, .int set), (2, .int tray), (3, .int nn)]) (stk' := [.int 1, .ref 1, .long 1, .long 1, .long (set.toInt64)]) (mem' := fm g tp bt a b) (fun _ _ _ => rfl) ?_
  refine fe_ldI (by rfl) (by rfl) (fx_inN (i := 1) (by omega) (by omega)) ?_
  rw [show Int32.toNatClampNeg (1) = 1 from rfl]
  rw [show a 1 1 = nI NW from (fm_D_h hD (by decide) rfl).trans eNW]
  refine fe_s 3 (pc' := 13) (lc' := [(0, .ref 0), (1, .int set), (2, .int tray), (3, .int nn)]) (stk' := [.long ((1 <<< ((nI NW).toInt64 &&& 63)) - 1), .long 1, .long (set.toInt64)]) (mem' := fm g tp bt a b) (fun _ _ _ => rfl) ?_
  obtain ⟨vf101, memf101, ⟨xf101, hxf101, hRf101⟩, hfrf101⟩ := fr_isFrom (v := set.toInt64) (l := 1) (m := (1 <<< ((nI NW).toInt64 &&& 63)) - 1) (mem := fm g tp bt a b)
  cases hRf101
  refine fe_ivS hfrf101 (by omega) (by rfl) (by rfl) (by rfl) (by rfl) (by rfl) ?_
  rcases hxf101 with ⟨rfl, -⟩ | ⟨rfl, hlf101, hmf101⟩
  · refine fe_s 1 (pc' := cond (fx_cb .eq 0 0) 27 19) (lc' := [(0, .ref 0), (1, .int set), (2, .int tray), (3, .int nn)]) (stk' := []) (mem' := fm g tp bt a b) (fun _ _ _ => rfl) ?_
    rw [show (fx_cb .eq 0 0) = true from by decide]
    dsimp only [cond]
    refine fe_s 1 (pc' := 28) (lc' := [(0, .ref 0), (1, .int set), (2, .int tray), (3, .int nn)]) (stk' := [.int 1]) (mem' := fm g tp bt a b) (fun _ _ _ => rfl) ?_
    exact fe_ret ⟨1, by omega, fun hh => absurd hh (by omega), _, hD, rfl⟩ (by rfl) (by rfl) (by rfl)
  · have h256 : 2 ^ NW ≤ 2 ^ 8 := Nat.pow_le_pow_right (by decide) hNW
    rw [Int32.toInt_toInt64] at hlf101 hmf101
    rw [fm_lshl NW (by omega)] at hmf101
    rw [show ((1 : Int64).toInt) = 1 from rfl] at hlf101
    rw [show (2 : Nat) ^ 8 = 256 from rfl] at h256
    rw [fm_p2i] at hmf101
    obtain ⟨S, hS255, rfl⟩ : ∃ S, S ≤ 255 ∧ set = nI S := nI_bd (n := 255) (by omega) (by omega)
    rw [nI_i32 (by omega)] at hlf101 hmf101
    have hS1 : 1 ≤ S := by omega
    have hSN : S < 2 ^ NW := by omega
    refine fe_s 1 (pc' := cond (fx_cb .eq 1 0) 27 19) (lc' := [(0, .ref 0), (1, .int (nI S)), (2, .int tray), (3, .int nn)]) (stk' := []) (mem' := fm g tp bt a b) (fun _ _ _ => rfl) ?_
    rw [show (fx_cb .eq 1 0) = false from by decide]
    dsimp only [cond]
    refine fe_s 1 (pc' := 20) (lc' := [(0, .ref 0), (1, .int (nI S)), (2, .int tray), (3, .int nn)]) (stk' := [.int (nI S)]) (mem' := fm g tp bt a b) (fun _ _ _ => rfl) ?_
    obtain ⟨p, hp⟩ : ∃ p, p = fm_pw S 8 := ⟨_, rfl⟩
    have hp8 : p ≤ 8 := by rw [hp]; exact fm_pw_w S 8
    have hbN := fr_bitsN (S := S) (mem := fm g tp bt a b) (by omega)
    rw [← hp] at hbN
    refine fe_ivS hbN (by omega) (by rfl) (by rfl) (by rfl) (by rfl) (by rfl) ?_
    refine fe_s 1 (pc' := 24) (lc' := [(0, .ref 0), (1, .int (nI S)), (2, .int tray), (3, .int nn)]) (stk' := [.int 4, .int (nI p)]) (mem' := fm g tp bt a b) (fun _ _ _ => rfl) ?_
    refine fe_s 1 (pc' := cond (fx_cb .le (nI p) 4) 29 27) (lc' := [(0, .ref 0), (1, .int (nI S)), (2, .int tray), (3, .int nn)]) (stk' := []) (mem' := fm g tp bt a b) (fun _ _ _ => rfl) ?_
    by_cases h102 : p ≤ 4
    · rw [show (fx_cb .le (nI p) 4) = true from cb_leT (a := p) (b := 4) (by omega) (by omega) (by omega)]
      dsimp only [cond]
      refine fe_s 4 (pc' := 34) (lc' := [(0, .ref 0), (1, .int (nI S)), (2, .int tray), (3, .int nn)]) (stk' := [.int 12, .int nn, .int tray, .ref 0]) (mem' := fm g tp bt a b) (fun _ _ _ => rfl) ?_
      obtain ⟨vu103, memu103, ⟨uu103, huu103, h0u103, hRu103⟩, hfru103⟩ := fr_wrongTray (tray := tray) (nn := nn) (M := 12) (g := g) (tp := tp) (bt := bt) (a := a) (b := b) (by omega) ((fm_D_h hD (by decide) rfl).trans eNC) hNC
      cases hRu103
      refine fe_ivV hfru103 (by omega) (by rfl) (by rfl) (by rfl) (by rfl) (by rfl) (by rfl) ?_
      refine fe_s 2 (pc' := 41) (lc' := [(4, .int (nI uu103)), (0, .ref 0), (1, .int (nI S)), (2, .int tray), (3, .int nn)]) (stk' := [.int (nI uu103)]) (mem' := fm g tp bt a b) (fun _ _ _ => rfl) ?_
      refine fe_s 1 (pc' := cond (fx_cb .le (nI uu103) 0) 47 44) (lc' := [(4, .int (nI uu103)), (0, .ref 0), (1, .int (nI S)), (2, .int tray), (3, .int nn)]) (stk' := []) (mem' := fm g tp bt a b) (fun _ _ _ => rfl) ?_
      by_cases h104 : uu103 ≤ 0
      · rw [show (fx_cb .le (nI uu103) 0) = true from cb_leT (a := uu103) (b := 0) (by omega) (by omega) (by omega)]
        dsimp only [cond]
        obtain ⟨t, n, rfl, rfl, ht, hn1, hn, hc⟩ := h0u103 (by omega)
        refine fe_s 4 (pc' := 53) (lc' := [(6, .int 0), (5, .int (-1)), (4, .int (nI uu103)), (0, .ref 0), (1, .int (nI S)), (2, .int (nI t)), (3, .int (nI n))]) (stk' := []) (mem' := fm g tp bt a b) (fun _ _ _ => rfl) ?_
        have loop : ∀ (r i : Nat), i + r = NW → ∀ sh : Int32, (sh = -1 ∧ fm_pw S i = 0 ∨ ∃ c, c < 10 ∧ sh = nI c) → fe_R 8 gk_m333 53 [(6, .int (nI i)), (5, .int sh), (0, .ref 0), (1, .int (nI S)), (2, .int (nI t)), (3, .int (nI n))] [] (fm g tp bt a b) (fun R => ∃ v : Nat, v ≤ 9 ∧ (v = 0 → ∃ S9 t9 N9 : Nat, nI S = nI S9 ∧ nI t = nI t9 ∧ nI n = nI N9 ∧ 1 ≤ S9 ∧ S9 < 2 ^ NWq ∧ fm_pw S9 8 ≤ 4 ∧ t9 < 4 ∧ 1 ≤ N9 ∧ N9 ≤ 12 ∧ ∀ k, k < N9 → ∃ C, C < 10 ∧ b 5 (60 * t9 + k) = Int64.ofNat C) ∧ ∃ a' : Nat → Nat → Int32, fm_D a0 a' T ∧ R = (some (.int (nI v)), fm g tp bt a' b)) := by
          intro r
          induction r with
          | zero =>
            intro i hi sh hsh
            obtain rfl : NW = i := by omega
            rcases hsh with ⟨-, h0⟩ | ⟨c, hc10, rfl⟩
            · exact absurd h0 (fm_pw_pos hNW hS1 hSN)
            · refine fe_s 4 (pc' := 60) (lc' := [(6, .int (nI NW)), (5, .int (nI c)), (0, .ref 0), (1, .int (nI S)), (2, .int (nI t)), (3, .int (nI n))]) (stk' := [.int 1, .ref 1, .int (nI NW)]) (mem' := fm g tp bt a b) (fun _ _ _ => rfl) ?_
              refine fe_ldI (by rfl) (by rfl) (fx_inN (i := 1) (by omega) (by omega)) ?_
              rw [show Int32.toNatClampNeg (1) = 1 from rfl]
              rw [show a 1 1 = nI NW from (fm_D_h hD (by decide) rfl).trans eNW]
              refine fe_s 1 (pc' := cond (fx_cb .ge (nI NW) (nI NW)) 138 64) (lc' := [(6, .int (nI NW)), (5, .int (nI c)), (0, .ref 0), (1, .int (nI S)), (2, .int (nI t)), (3, .int (nI n))]) (stk' := []) (mem' := fm g tp bt a b) (fun _ _ _ => rfl) ?_
              rw [show (fx_cb .ge (nI NW) (nI NW)) = true from cb_geT (a := NW) (b := NW) (by omega) (by omega) (by omega)]
              dsimp only [cond]
              refine fe_s 4 (pc' := 143) (lc' := [(6, .int (nI NW)), (5, .int (nI c)), (0, .ref 0), (1, .int (nI S)), (2, .int (nI t)), (3, .int (nI n))]) (stk' := [.int (nI n), .int (nI t), .int (nI c), .ref 0]) (mem' := fm g tp bt a b) (fun _ _ _ => rfl) ?_
              obtain ⟨vr105, memr105, ⟨xr105, hxr105, ar105, hDr105, hRr105⟩, hfrr105⟩ := fr_isRoute (X := c) (t := t) (n := n) (g := g) (tp := tp) (bt := bt) (a := a) (b := b) hB hD (by omega) (by omega) (by omega) hc
              cases hRr105
              refine fe_ivV hfrr105 (by omega) (by rfl) (by rfl) (by rfl) (by rfl) (by rfl) (by rfl) ?_
              rcases hxr105 with rfl | rfl
              · refine fe_s 1 (pc' := cond (fx_cb .eq 0 0) 153 149) (lc' := [(6, .int (nI NW)), (5, .int (nI c)), (0, .ref 0), (1, .int (nI S)), (2, .int (nI t)), (3, .int (nI n))]) (stk' := []) (mem' := fm g tp bt ar105 b) (fun _ _ _ => rfl) ?_
                rw [show (fx_cb .eq 0 0) = true from by decide]
                dsimp only [cond]
                refine fe_s 1 (pc' := 155) (lc' := [(6, .int (nI NW)), (5, .int (nI c)), (0, .ref 0), (1, .int (nI S)), (2, .int (nI t)), (3, .int (nI n))]) (stk' := [.int 7]) (mem' := fm g tp bt ar105 b) (fun _ _ _ => rfl) ?_
                exact fe_ret ⟨7, by omega, fun hh => absurd hh (by omega), _, hDr105, rfl⟩ (by rfl) (by rfl) (by rfl)
              · refine fe_s 1 (pc' := cond (fx_cb .eq 1 0) 153 149) (lc' := [(6, .int (nI NW)), (5, .int (nI c)), (0, .ref 0), (1, .int (nI S)), (2, .int (nI t)), (3, .int (nI n))]) (stk' := []) (mem' := fm g tp bt ar105 b) (fun _ _ _ => rfl) ?_
                rw [show (fx_cb .eq 1 0) = false from by decide]
                dsimp only [cond]
                refine fe_s 2 (pc' := 155) (lc' := [(6, .int (nI NW)), (5, .int (nI c)), (0, .ref 0), (1, .int (nI S)), (2, .int (nI t)), (3, .int (nI n))]) (stk' := [.int 0]) (mem' := fm g tp bt ar105 b) (fun _ _ _ => rfl) ?_
                exact fe_ret ⟨0, by omega, fun _ => ⟨S, t, n, rfl, rfl, rfl, hS1, by rw [eNq]; exact hSN, by omega, ht, hn1, hn, hc⟩, _, hDr105, rfl⟩ (by rfl) (by rfl) (by rfl)
          | succ r ih =>
            intro i hi sh hsh
            have hlt : i < NW := by omega
            rcases hsh with ⟨rfl, h0⟩ | ⟨c, hc10, rfl⟩
            · refine fe_s 4 (pc' := 60) (lc' := [(6, .int (nI i)), (5, .int (-1)), (0, .ref 0), (1, .int (nI S)), (2, .int (nI t)), (3, .int (nI n))]) (stk' := [.int 1, .ref 1, .int (nI i)]) (mem' := fm g tp bt a b) (fun _ _ _ => rfl) ?_
              refine fe_ldI (by rfl) (by rfl) (fx_inN (i := 1) (by omega) (by omega)) ?_
              rw [show Int32.toNatClampNeg (1) = 1 from rfl]
              rw [show a 1 1 = nI NW from (fm_D_h hD (by decide) rfl).trans eNW]
              refine fe_s 1 (pc' := cond (fx_cb .ge (nI i) (nI NW)) 138 64) (lc' := [(6, .int (nI i)), (5, .int (-1)), (0, .ref 0), (1, .int (nI S)), (2, .int (nI t)), (3, .int (nI n))]) (stk' := []) (mem' := fm g tp bt a b) (fun _ _ _ => rfl) ?_
              rw [show (fx_cb .ge (nI i) (nI NW)) = false from cb_geF (a := i) (b := NW) (by omega) (by omega) (by omega)]
              dsimp only [cond]
              refine fe_s 3 (pc' := 68) (lc' := [(6, .int (nI i)), (5, .int (-1)), (0, .ref 0), (1, .int (nI S)), (2, .int (nI t)), (3, .int (nI n))]) (stk' := [.int (nI i), .int (nI S), .ref 0]) (mem' := fm g tp bt a b) (fun _ _ _ => rfl) ?_
              refine fe_ivV fr_isIn (by omega) (by rfl) (by rfl) (by rfl) (by rfl) (by rfl) (by rfl) ?_
              rcases fm_b_01 (nI S) (nI i) with q106 | q106
              · rw [q106]
                refine fe_s 1 (pc' := cond (fx_cb .ne 0 0) 77 74) (lc' := [(6, .int (nI i)), (5, .int (-1)), (0, .ref 0), (1, .int (nI S)), (2, .int (nI t)), (3, .int (nI n))]) (stk' := []) (mem' := fm g tp bt a b) (fun _ _ _ => rfl) ?_
                rw [show (fx_cb .ne 0 0) = false from by decide]
                dsimp only [cond]
                refine fe_s 2 (pc' := 135) (lc' := [(6, .int ((nI i) + 1)), (5, .int (-1)), (0, .ref 0), (1, .int (nI S)), (2, .int (nI t)), (3, .int (nI n))]) (stk' := []) (mem' := fm g tp bt a b) (fun _ _ _ => rfl) ?_
                rw [show ((nI i) + 1 : Int32) = nI (i + 1) from by simp only [show (1 : Int32) = nI 1 from rfl, nI_add, fm_mul]]
                refine fe_s 1 (pc' := fx_to 135 (-82)) (lc' := [(6, .int (nI (i + 1))), (5, .int (-1)), (0, .ref 0), (1, .int (nI S)), (2, .int (nI t)), (3, .int (nI n))]) (stk' := []) (mem' := fm g tp bt a b) (fun _ _ _ => rfl) ?_
                rw [show fx_to 135 (-82) = 53 from by decide]
                refine fe_w (lc' := [(6, .int (nI (i + 1))), (5, .int (-1)), (0, .ref 0), (1, .int (nI S)), (2, .int (nI t)), (3, .int (nI n))]) ⟨rfl, rfl, rfl, rfl, rfl, rfl, trivial⟩ (by show List.Nodup [6, 5, 0, 1, 2, 3]; decide) (by show List.Nodup [6, 5, 0, 1, 2, 3]; decide) ?_
                exact ih (i + 1) (by omega) _ (Or.inl ⟨rfl, by rw [fm_pw_z S i q106]; exact h0⟩)
              · rw [q106]
                refine fe_s 1 (pc' := cond (fx_cb .ne 1 0) 77 74) (lc' := [(6, .int (nI i)), (5, .int (-1)), (0, .ref 0), (1, .int (nI S)), (2, .int (nI t)), (3, .int (nI n))]) (stk' := []) (mem' := fm g tp bt a b) (fun _ _ _ => rfl) ?_
                rw [show (fx_cb .ne 1 0) = true from by decide]
                dsimp only [cond]
                refine fe_s 2 (pc' := 80) (lc' := [(6, .int (nI i)), (5, .int (-1)), (0, .ref 0), (1, .int (nI S)), (2, .int (nI t)), (3, .int (nI n))]) (stk' := [.int (-1), .int (-1)]) (mem' := fm g tp bt a b) (fun _ _ _ => rfl) ?_
                refine fe_s 1 (pc' := cond (fx_cb .ne (-1) (-1)) 91 83) (lc' := [(6, .int (nI i)), (5, .int (-1)), (0, .ref 0), (1, .int (nI S)), (2, .int (nI t)), (3, .int (nI n))]) (stk' := []) (mem' := fm g tp bt a b) (fun _ _ _ => rfl) ?_
                rw [show (fx_cb .ne (-1) (-1)) = false from by decide]
                dsimp only [cond]
                refine fe_s 2 (pc' := 86) (lc' := [(6, .int (nI i)), (5, .int (-1)), (0, .ref 0), (1, .int (nI S)), (2, .int (nI t)), (3, .int (nI n))]) (stk' := [.int (nI i), .ref 0]) (mem' := fm g tp bt a b) (fun _ _ _ => rfl) ?_
                refine fe_ivV (fr_whereOf (W := i) (g := g) (tp := tp) (bt := bt) (a := a) (b := b) (by omega)) (by omega) (by rfl) (by rfl) (by rfl) (by rfl) (by rfl) (by rfl) ?_
                obtain ⟨l107, hl107, el107⟩ := fm_D_w1 hD (W := i) (by omega)
                rw [el107]
                refine fe_s 3 (pc' := 94) (lc' := [(5, .int (nI l107)), (6, .int (nI i)), (0, .ref 0), (1, .int (nI S)), (2, .int (nI t)), (3, .int (nI n))]) (stk' := [.int (nI i), .ref 0]) (mem' := fm g tp bt a b) (fun _ _ _ => rfl) ?_
                refine fe_ivV (fr_whereOf (W := i) (g := g) (tp := tp) (bt := bt) (a := a) (b := b) (by omega)) (by omega) (by rfl) (by rfl) (by rfl) (by rfl) (by rfl) (by rfl) ?_
                obtain ⟨l108, hl108, el108⟩ := fm_D_w1 hD (W := i) (by omega)
                rw [el108]
                refine fe_s 1 (pc' := 99) (lc' := [(5, .int (nI l107)), (6, .int (nI i)), (0, .ref 0), (1, .int (nI S)), (2, .int (nI t)), (3, .int (nI n))]) (stk' := [.int (nI l107), .int (nI l108)]) (mem' := fm g tp bt a b) (fun _ _ _ => rfl) ?_
                refine fe_s 1 (pc' := cond (fx_cb .ne (nI l108) (nI l107)) 129 102) (lc' := [(5, .int (nI l107)), (6, .int (nI i)), (0, .ref 0), (1, .int (nI S)), (2, .int (nI t)), (3, .int (nI n))]) (stk' := []) (mem' := fm g tp bt a b) (fun _ _ _ => rfl) ?_
                by_cases h109 : l108 = l107
                · rw [show (fx_cb .ne (nI l108) (nI l107)) = false from cb_neF (a := l108) (b := l107) (by omega) (by omega) (by omega)]
                  dsimp only [cond]
                  refine fe_s 2 (pc' := 105) (lc' := [(5, .int (nI l107)), (6, .int (nI i)), (0, .ref 0), (1, .int (nI S)), (2, .int (nI t)), (3, .int (nI n))]) (stk' := [.int (nI l107), .ref 0]) (mem' := fm g tp bt a b) (fun _ _ _ => rfl) ?_
                  obtain ⟨v110, z111, hv110⟩ := fq_isShore (C := l107) (g := g) (tp := tp) (bt := bt) (a := a) (b := b) (by omega)
                  refine fe_ivV hv110 (by omega) (by rfl) (by rfl) (by rfl) (by rfl) (by rfl) (by rfl) ?_
                  rcases z111 with rfl | rfl
                  · refine fe_s 1 (pc' := cond (fx_cb .eq 0 0) 129 111) (lc' := [(5, .int (nI l107)), (6, .int (nI i)), (0, .ref 0), (1, .int (nI S)), (2, .int (nI t)), (3, .int (nI n))]) (stk' := []) (mem' := fm g tp bt a b) (fun _ _ _ => rfl) ?_
                    rw [show (fx_cb .eq 0 0) = true from by decide]
                    dsimp only [cond]
                    refine fe_s 1 (pc' := 131) (lc' := [(5, .int (nI l107)), (6, .int (nI i)), (0, .ref 0), (1, .int (nI S)), (2, .int (nI t)), (3, .int (nI n))]) (stk' := [.int 7]) (mem' := fm g tp bt a b) (fun _ _ _ => rfl) ?_
                    exact fe_ret ⟨7, by omega, fun hh => absurd hh (by omega), _, hD, rfl⟩ (by rfl) (by rfl) (by rfl)
                  · refine fe_s 1 (pc' := cond (fx_cb .eq 1 0) 129 111) (lc' := [(5, .int (nI l107)), (6, .int (nI i)), (0, .ref 0), (1, .int (nI S)), (2, .int (nI t)), (3, .int (nI n))]) (stk' := []) (mem' := fm g tp bt a b) (fun _ _ _ => rfl) ?_
                    rw [show (fx_cb .eq 1 0) = false from by decide]
                    dsimp only [cond]
                    refine fe_s 2 (pc' := 114) (lc' := [(5, .int (nI l107)), (6, .int (nI i)), (0, .ref 0), (1, .int (nI S)), (2, .int (nI t)), (3, .int (nI n))]) (stk' := [.int (nI i), .ref 0]) (mem' := fm g tp bt a b) (fun _ _ _ => rfl) ?_
                    obtain ⟨v112, z113, hv112⟩ := fq_isWet (V := i) (g := g) (tp := tp) (bt := bt) (a := a) (b := b) (by omega)
                    refine fe_ivV hv112 (by omega) (by rfl) (by rfl) (by rfl) (by rfl) (by rfl) (by rfl) ?_
                    rcases z113 with rfl | rfl
                    · refine fe_s 1 (pc' := cond (fx_cb .ne 0 0) 129 120) (lc' := [(5, .int (nI l107)), (6, .int (nI i)), (0, .ref 0), (1, .int (nI S)), (2, .int (nI t)), (3, .int (nI n))]) (stk' := []) (mem' := fm g tp bt a b) (fun _ _ _ => rfl) ?_
                      rw [show (fx_cb .ne 0 0) = false from by decide]
                      dsimp only [cond]
                      refine fe_s 2 (pc' := 123) (lc' := [(5, .int (nI l107)), (6, .int (nI i)), (0, .ref 0), (1, .int (nI S)), (2, .int (nI t)), (3, .int (nI n))]) (stk' := [.int (nI i), .ref 0]) (mem' := fm g tp bt a b) (fun _ _ _ => rfl) ?_
                      refine fe_ivV (fr_leftOfX (V := i) (g := g) (tp := tp) (bt := bt) (a := a) (b := b) (by omega)) (by omega) (by rfl) (by rfl) (by rfl) (by rfl) (by rfl) (by rfl) ?_
                      obtain ⟨l114, hl114, el114⟩ := fm_D_w3 hD (W := i) (by omega)
                      rw [el114]
                      refine fe_s 1 (pc' := cond (fx_cb .le (nI l114) 0) 132 129) (lc' := [(5, .int (nI l107)), (6, .int (nI i)), (0, .ref 0), (1, .int (nI S)), (2, .int (nI t)), (3, .int (nI n))]) (stk' := []) (mem' := fm g tp bt a b) (fun _ _ _ => rfl) ?_
                      by_cases h115 : l114 ≤ 0
                      · rw [show (fx_cb .le (nI l114) 0) = true from cb_leT (a := l114) (b := 0) (by omega) (by omega) (by omega)]
                        dsimp only [cond]
                        refine fe_s 1 (pc' := 135) (lc' := [(6, .int ((nI i) + 1)), (5, .int (nI l107)), (0, .ref 0), (1, .int (nI S)), (2, .int (nI t)), (3, .int (nI n))]) (stk' := []) (mem' := fm g tp bt a b) (fun _ _ _ => rfl) ?_
                        rw [show ((nI i) + 1 : Int32) = nI (i + 1) from by simp only [show (1 : Int32) = nI 1 from rfl, nI_add, fm_mul]]
                        refine fe_s 1 (pc' := fx_to 135 (-82)) (lc' := [(6, .int (nI (i + 1))), (5, .int (nI l107)), (0, .ref 0), (1, .int (nI S)), (2, .int (nI t)), (3, .int (nI n))]) (stk' := []) (mem' := fm g tp bt a b) (fun _ _ _ => rfl) ?_
                        rw [show fx_to 135 (-82) = 53 from by decide]
                        refine fe_w (lc' := [(6, .int (nI (i + 1))), (5, .int (nI l107)), (0, .ref 0), (1, .int (nI S)), (2, .int (nI t)), (3, .int (nI n))]) ⟨rfl, rfl, rfl, rfl, rfl, rfl, trivial⟩ (by show List.Nodup [6, 5, 0, 1, 2, 3]; decide) (by show List.Nodup [6, 5, 0, 1, 2, 3]; decide) ?_
                        exact ih (i + 1) (by omega) _ (Or.inr ⟨l107, by omega, rfl⟩)
                      · rw [show (fx_cb .le (nI l114) 0) = false from cb_leF (a := l114) (b := 0) (by omega) (by omega) (by omega)]
                        dsimp only [cond]
                        refine fe_s 1 (pc' := 131) (lc' := [(5, .int (nI l107)), (6, .int (nI i)), (0, .ref 0), (1, .int (nI S)), (2, .int (nI t)), (3, .int (nI n))]) (stk' := [.int 7]) (mem' := fm g tp bt a b) (fun _ _ _ => rfl) ?_
                        exact fe_ret ⟨7, by omega, fun hh => absurd hh (by omega), _, hD, rfl⟩ (by rfl) (by rfl) (by rfl)
                    · refine fe_s 1 (pc' := cond (fx_cb .ne 1 0) 129 120) (lc' := [(5, .int (nI l107)), (6, .int (nI i)), (0, .ref 0), (1, .int (nI S)), (2, .int (nI t)), (3, .int (nI n))]) (stk' := []) (mem' := fm g tp bt a b) (fun _ _ _ => rfl) ?_
                      rw [show (fx_cb .ne 1 0) = true from by decide]
                      dsimp only [cond]
                      refine fe_s 1 (pc' := 131) (lc' := [(5, .int (nI l107)), (6, .int (nI i)), (0, .ref 0), (1, .int (nI S)), (2, .int (nI t)), (3, .int (nI n))]) (stk' := [.int 7]) (mem' := fm g tp bt a b) (fun _ _ _ => rfl) ?_
                      exact fe_ret ⟨7, by omega, fun hh => absurd hh (by omega), _, hD, rfl⟩ (by rfl) (by rfl) (by rfl)
                · rw [show (fx_cb .ne (nI l108) (nI l107)) = true from cb_neT (a := l108) (b := l107) (by omega) (by omega) (by omega)]
                  dsimp only [cond]
                  refine fe_s 1 (pc' := 131) (lc' := [(5, .int (nI l107)), (6, .int (nI i)), (0, .ref 0), (1, .int (nI S)), (2, .int (nI t)), (3, .int (nI n))]) (stk' := [.int 7]) (mem' := fm g tp bt a b) (fun _ _ _ => rfl) ?_
                  exact fe_ret ⟨7, by omega, fun hh => absurd hh (by omega), _, hD, rfl⟩ (by rfl) (by rfl) (by rfl)
            · refine fe_s 4 (pc' := 60) (lc' := [(6, .int (nI i)), (5, .int (nI c)), (0, .ref 0), (1, .int (nI S)), (2, .int (nI t)), (3, .int (nI n))]) (stk' := [.int 1, .ref 1, .int (nI i)]) (mem' := fm g tp bt a b) (fun _ _ _ => rfl) ?_
              refine fe_ldI (by rfl) (by rfl) (fx_inN (i := 1) (by omega) (by omega)) ?_
              rw [show Int32.toNatClampNeg (1) = 1 from rfl]
              rw [show a 1 1 = nI NW from (fm_D_h hD (by decide) rfl).trans eNW]
              refine fe_s 1 (pc' := cond (fx_cb .ge (nI i) (nI NW)) 138 64) (lc' := [(6, .int (nI i)), (5, .int (nI c)), (0, .ref 0), (1, .int (nI S)), (2, .int (nI t)), (3, .int (nI n))]) (stk' := []) (mem' := fm g tp bt a b) (fun _ _ _ => rfl) ?_
              rw [show (fx_cb .ge (nI i) (nI NW)) = false from cb_geF (a := i) (b := NW) (by omega) (by omega) (by omega)]
              dsimp only [cond]
              refine fe_s 3 (pc' := 68) (lc' := [(6, .int (nI i)), (5, .int (nI c)), (0, .ref 0), (1, .int (nI S)), (2, .int (nI t)), (3, .int (nI n))]) (stk' := [.int (nI i), .int (nI S), .ref 0]) (mem' := fm g tp bt a b) (fun _ _ _ => rfl) ?_
              refine fe_ivV fr_isIn (by omega) (by rfl) (by rfl) (by rfl) (by rfl) (by rfl) (by rfl) ?_
              rcases fm_b_01 (nI S) (nI i) with q116 | q116
              · rw [q116]
                refine fe_s 1 (pc' := cond (fx_cb .ne 0 0) 77 74) (lc' := [(6, .int (nI i)), (5, .int (nI c)), (0, .ref 0), (1, .int (nI S)), (2, .int (nI t)), (3, .int (nI n))]) (stk' := []) (mem' := fm g tp bt a b) (fun _ _ _ => rfl) ?_
                rw [show (fx_cb .ne 0 0) = false from by decide]
                dsimp only [cond]
                refine fe_s 2 (pc' := 135) (lc' := [(6, .int ((nI i) + 1)), (5, .int (nI c)), (0, .ref 0), (1, .int (nI S)), (2, .int (nI t)), (3, .int (nI n))]) (stk' := []) (mem' := fm g tp bt a b) (fun _ _ _ => rfl) ?_
                rw [show ((nI i) + 1 : Int32) = nI (i + 1) from by simp only [show (1 : Int32) = nI 1 from rfl, nI_add, fm_mul]]
                refine fe_s 1 (pc' := fx_to 135 (-82)) (lc' := [(6, .int (nI (i + 1))), (5, .int (nI c)), (0, .ref 0), (1, .int (nI S)), (2, .int (nI t)), (3, .int (nI n))]) (stk' := []) (mem' := fm g tp bt a b) (fun _ _ _ => rfl) ?_
                rw [show fx_to 135 (-82) = 53 from by decide]
                refine fe_w (lc' := [(6, .int (nI (i + 1))), (5, .int (nI c)), (0, .ref 0), (1, .int (nI S)), (2, .int (nI t)), (3, .int (nI n))]) ⟨rfl, rfl, rfl, rfl, rfl, rfl, trivial⟩ (by show List.Nodup [6, 5, 0, 1, 2, 3]; decide) (by show List.Nodup [6, 5, 0, 1, 2, 3]; decide) ?_
                exact ih (i + 1) (by omega) _ (Or.inr ⟨c, by omega, rfl⟩)
              · rw [q116]
                refine fe_s 1 (pc' := cond (fx_cb .ne 1 0) 77 74) (lc' := [(6, .int (nI i)), (5, .int (nI c)), (0, .ref 0), (1, .int (nI S)), (2, .int (nI t)), (3, .int (nI n))]) (stk' := []) (mem' := fm g tp bt a b) (fun _ _ _ => rfl) ?_
                rw [show (fx_cb .ne 1 0) = true from by decide]
                dsimp only [cond]
                refine fe_s 2 (pc' := 80) (lc' := [(6, .int (nI i)), (5, .int (nI c)), (0, .ref 0), (1, .int (nI S)), (2, .int (nI t)), (3, .int (nI n))]) (stk' := [.int (-1), .int (nI c)]) (mem' := fm g tp bt a b) (fun _ _ _ => rfl) ?_
                refine fe_s 1 (pc' := cond (fx_cb .ne (nI c) (-1)) 91 83) (lc' := [(6, .int (nI i)), (5, .int (nI c)), (0, .ref 0), (1, .int (nI S)), (2, .int (nI t)), (3, .int (nI n))]) (stk' := []) (mem' := fm g tp bt a b) (fun _ _ _ => rfl) ?_
                rw [show (fx_cb .ne (nI c) (-1)) = true from cb_n_ne (by omega) (by decide)]
                dsimp only [cond]
                refine fe_s 2 (pc' := 94) (lc' := [(6, .int (nI i)), (5, .int (nI c)), (0, .ref 0), (1, .int (nI S)), (2, .int (nI t)), (3, .int (nI n))]) (stk' := [.int (nI i), .ref 0]) (mem' := fm g tp bt a b) (fun _ _ _ => rfl) ?_
                refine fe_ivV (fr_whereOf (W := i) (g := g) (tp := tp) (bt := bt) (a := a) (b := b) (by omega)) (by omega) (by rfl) (by rfl) (by rfl) (by rfl) (by rfl) (by rfl) ?_
                obtain ⟨l117, hl117, el117⟩ := fm_D_w1 hD (W := i) (by omega)
                rw [el117]
                refine fe_s 1 (pc' := 99) (lc' := [(6, .int (nI i)), (5, .int (nI c)), (0, .ref 0), (1, .int (nI S)), (2, .int (nI t)), (3, .int (nI n))]) (stk' := [.int (nI c), .int (nI l117)]) (mem' := fm g tp bt a b) (fun _ _ _ => rfl) ?_
                refine fe_s 1 (pc' := cond (fx_cb .ne (nI l117) (nI c)) 129 102) (lc' := [(6, .int (nI i)), (5, .int (nI c)), (0, .ref 0), (1, .int (nI S)), (2, .int (nI t)), (3, .int (nI n))]) (stk' := []) (mem' := fm g tp bt a b) (fun _ _ _ => rfl) ?_
                by_cases h118 : l117 = c
                · rw [show (fx_cb .ne (nI l117) (nI c)) = false from cb_neF (a := l117) (b := c) (by omega) (by omega) (by omega)]
                  dsimp only [cond]
                  refine fe_s 2 (pc' := 105) (lc' := [(6, .int (nI i)), (5, .int (nI c)), (0, .ref 0), (1, .int (nI S)), (2, .int (nI t)), (3, .int (nI n))]) (stk' := [.int (nI c), .ref 0]) (mem' := fm g tp bt a b) (fun _ _ _ => rfl) ?_
                  obtain ⟨v119, z120, hv119⟩ := fq_isShore (C := c) (g := g) (tp := tp) (bt := bt) (a := a) (b := b) (by omega)
                  refine fe_ivV hv119 (by omega) (by rfl) (by rfl) (by rfl) (by rfl) (by rfl) (by rfl) ?_
                  rcases z120 with rfl | rfl
                  · refine fe_s 1 (pc' := cond (fx_cb .eq 0 0) 129 111) (lc' := [(6, .int (nI i)), (5, .int (nI c)), (0, .ref 0), (1, .int (nI S)), (2, .int (nI t)), (3, .int (nI n))]) (stk' := []) (mem' := fm g tp bt a b) (fun _ _ _ => rfl) ?_
                    rw [show (fx_cb .eq 0 0) = true from by decide]
                    dsimp only [cond]
                    refine fe_s 1 (pc' := 131) (lc' := [(6, .int (nI i)), (5, .int (nI c)), (0, .ref 0), (1, .int (nI S)), (2, .int (nI t)), (3, .int (nI n))]) (stk' := [.int 7]) (mem' := fm g tp bt a b) (fun _ _ _ => rfl) ?_
                    exact fe_ret ⟨7, by omega, fun hh => absurd hh (by omega), _, hD, rfl⟩ (by rfl) (by rfl) (by rfl)
                  · refine fe_s 1 (pc' := cond (fx_cb .eq 1 0) 129 111) (lc' := [(6, .int (nI i)), (5, .int (nI c)), (0, .ref 0), (1, .int (nI S)), (2, .int (nI t)), (3, .int (nI n))]) (stk' := []) (mem' := fm g tp bt a b) (fun _ _ _ => rfl) ?_
                    rw [show (fx_cb .eq 1 0) = false from by decide]
                    dsimp only [cond]
                    refine fe_s 2 (pc' := 114) (lc' := [(6, .int (nI i)), (5, .int (nI c)), (0, .ref 0), (1, .int (nI S)), (2, .int (nI t)), (3, .int (nI n))]) (stk' := [.int (nI i), .ref 0]) (mem' := fm g tp bt a b) (fun _ _ _ => rfl) ?_
                    obtain ⟨v121, z122, hv121⟩ := fq_isWet (V := i) (g := g) (tp := tp) (bt := bt) (a := a) (b := b) (by omega)
                    refine fe_ivV hv121 (by omega) (by rfl) (by rfl) (by rfl) (by rfl) (by rfl) (by rfl) ?_
                    rcases z122 with rfl | rfl
                    · refine fe_s 1 (pc' := cond (fx_cb .ne 0 0) 129 120) (lc' := [(6, .int (nI i)), (5, .int (nI c)), (0, .ref 0), (1, .int (nI S)), (2, .int (nI t)), (3, .int (nI n))]) (stk' := []) (mem' := fm g tp bt a b) (fun _ _ _ => rfl) ?_
                      rw [show (fx_cb .ne 0 0) = false from by decide]
                      dsimp only [cond]
                      refine fe_s 2 (pc' := 123) (lc' := [(6, .int (nI i)), (5, .int (nI c)), (0, .ref 0), (1, .int (nI S)), (2, .int (nI t)), (3, .int (nI n))]) (stk' := [.int (nI i), .ref 0]) (mem' := fm g tp bt a b) (fun _ _ _ => rfl) ?_
                      refine fe_ivV (fr_leftOfX (V := i) (g := g) (tp := tp) (bt := bt) (a := a) (b := b) (by omega)) (by omega) (by rfl) (by rfl) (by rfl) (by rfl) (by rfl) (by rfl) ?_
                      obtain ⟨l123, hl123, el123⟩ := fm_D_w3 hD (W := i) (by omega)
                      rw [el123]
                      refine fe_s 1 (pc' := cond (fx_cb .le (nI l123) 0) 132 129) (lc' := [(6, .int (nI i)), (5, .int (nI c)), (0, .ref 0), (1, .int (nI S)), (2, .int (nI t)), (3, .int (nI n))]) (stk' := []) (mem' := fm g tp bt a b) (fun _ _ _ => rfl) ?_
                      by_cases h124 : l123 ≤ 0
                      · rw [show (fx_cb .le (nI l123) 0) = true from cb_leT (a := l123) (b := 0) (by omega) (by omega) (by omega)]
                        dsimp only [cond]
                        refine fe_s 1 (pc' := 135) (lc' := [(6, .int ((nI i) + 1)), (5, .int (nI c)), (0, .ref 0), (1, .int (nI S)), (2, .int (nI t)), (3, .int (nI n))]) (stk' := []) (mem' := fm g tp bt a b) (fun _ _ _ => rfl) ?_
                        rw [show ((nI i) + 1 : Int32) = nI (i + 1) from by simp only [show (1 : Int32) = nI 1 from rfl, nI_add, fm_mul]]
                        refine fe_s 1 (pc' := fx_to 135 (-82)) (lc' := [(6, .int (nI (i + 1))), (5, .int (nI c)), (0, .ref 0), (1, .int (nI S)), (2, .int (nI t)), (3, .int (nI n))]) (stk' := []) (mem' := fm g tp bt a b) (fun _ _ _ => rfl) ?_
                        rw [show fx_to 135 (-82) = 53 from by decide]
                        refine fe_w (lc' := [(6, .int (nI (i + 1))), (5, .int (nI c)), (0, .ref 0), (1, .int (nI S)), (2, .int (nI t)), (3, .int (nI n))]) ⟨rfl, rfl, rfl, rfl, rfl, rfl, trivial⟩ (by show List.Nodup [6, 5, 0, 1, 2, 3]; decide) (by show List.Nodup [6, 5, 0, 1, 2, 3]; decide) ?_
                        exact ih (i + 1) (by omega) _ (Or.inr ⟨c, by omega, rfl⟩)
                      · rw [show (fx_cb .le (nI l123) 0) = false from cb_leF (a := l123) (b := 0) (by omega) (by omega) (by omega)]
                        dsimp only [cond]
                        refine fe_s 1 (pc' := 131) (lc' := [(6, .int (nI i)), (5, .int (nI c)), (0, .ref 0), (1, .int (nI S)), (2, .int (nI t)), (3, .int (nI n))]) (stk' := [.int 7]) (mem' := fm g tp bt a b) (fun _ _ _ => rfl) ?_
                        exact fe_ret ⟨7, by omega, fun hh => absurd hh (by omega), _, hD, rfl⟩ (by rfl) (by rfl) (by rfl)
                    · refine fe_s 1 (pc' := cond (fx_cb .ne 1 0) 129 120) (lc' := [(6, .int (nI i)), (5, .int (nI c)), (0, .ref 0), (1, .int (nI S)), (2, .int (nI t)), (3, .int (nI n))]) (stk' := []) (mem' := fm g tp bt a b) (fun _ _ _ => rfl) ?_
                      rw [show (fx_cb .ne 1 0) = true from by decide]
                      dsimp only [cond]
                      refine fe_s 1 (pc' := 131) (lc' := [(6, .int (nI i)), (5, .int (nI c)), (0, .ref 0), (1, .int (nI S)), (2, .int (nI t)), (3, .int (nI n))]) (stk' := [.int 7]) (mem' := fm g tp bt a b) (fun _ _ _ => rfl) ?_
                      exact fe_ret ⟨7, by omega, fun hh => absurd hh (by omega), _, hD, rfl⟩ (by rfl) (by rfl) (by rfl)
                · rw [show (fx_cb .ne (nI l117) (nI c)) = true from cb_neT (a := l117) (b := c) (by omega) (by omega) (by omega)]
                  dsimp only [cond]
                  refine fe_s 1 (pc' := 131) (lc' := [(6, .int (nI i)), (5, .int (nI c)), (0, .ref 0), (1, .int (nI S)), (2, .int (nI t)), (3, .int (nI n))]) (stk' := [.int 7]) (mem' := fm g tp bt a b) (fun _ _ _ => rfl) ?_
                  exact fe_ret ⟨7, by omega, fun hh => absurd hh (by omega), _, hD, rfl⟩ (by rfl) (by rfl) (by rfl)
        refine fe_w (lc' := [(6, .int 0), (5, .int (-1)), (0, .ref 0), (1, .int (nI S)), (2, .int (nI t)), (3, .int (nI n))]) ⟨rfl, rfl, rfl, rfl, rfl, rfl, trivial⟩ (by show List.Nodup [6, 5, 0, 1, 2, 3]; decide) (by show List.Nodup [6, 5, 4, 0, 1, 2, 3]; decide) ?_
        exact loop NW 0 (by omega) _ (Or.inl ⟨rfl, rfl⟩)
      · rw [show (fx_cb .le (nI uu103) 0) = false from cb_leF (a := uu103) (b := 0) (by omega) (by omega) (by omega)]
        dsimp only [cond]
        refine fe_s 1 (pc' := 46) (lc' := [(4, .int (nI uu103)), (0, .ref 0), (1, .int (nI S)), (2, .int tray), (3, .int nn)]) (stk' := [.int (nI uu103)]) (mem' := fm g tp bt a b) (fun _ _ _ => rfl) ?_
        exact fe_ret ⟨uu103, by omega, fun hh => absurd hh (by omega), _, hD, rfl⟩ (by rfl) (by rfl) (by rfl)
    · rw [show (fx_cb .le (nI p) 4) = false from cb_leF (a := p) (b := 4) (by omega) (by omega) (by omega)]
      dsimp only [cond]
      refine fe_s 1 (pc' := 28) (lc' := [(0, .ref 0), (1, .int (nI S)), (2, .int tray), (3, .int nn)]) (stk' := [.int 1]) (mem' := fm g tp bt a b) (fun _ _ _ => rfl) ?_
      exact fe_ret ⟨1, by omega, fun hh => absurd hh (by omega), _, hD, rfl⟩ (by rfl) (by rfl) (by rfl)
end FQ3
