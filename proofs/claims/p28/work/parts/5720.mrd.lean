/-! ===== the model's reader: faults, signs, words, numbers, names ===== -/
theorem mc_step {v c : Nat} (hc : c < 256) : Int64.ofNat v <<< ((8 : Int32).toInt64 &&& 63) ||| (nI c).toInt64 = Int64.ofNat (v * 256 + c) := by
  rw [sp_nI64 (by omega)]
  apply Int64.toBitVec_inj.mp
  rw [Int64.toBitVec_or, Int64.toBitVec_shiftLeft]
  apply BitVec.eq_of_toNat_eq
  rw [BitVec.toNat_or]
  show (BitVec.ofNat 64 v <<< ((((8 : Int32).toInt64 &&& 63).toBitVec.smod 64#64).toNat)).toNat ||| (BitVec.ofNat 64 c).toNat = (BitVec.ofNat 64 (v * 256 + c)).toNat
  rw [show (((8 : Int32).toInt64 &&& 63).toBitVec.smod 64#64).toNat = 8 from by decide, BitVec.toNat_shiftLeft, BitVec.toNat_ofNat, BitVec.toNat_ofNat, BitVec.toNat_ofNat, Nat.mod_eq_of_lt (show c < 2 ^ 64 by omega)]
  have e : (v % 2 ^ 64) <<< 8 % 2 ^ 64 = (v % 2 ^ 56) <<< 8 := by
    rw [Nat.shiftLeft_eq, Nat.shiftLeft_eq]
    omega
  rw [e, ← Nat.shiftLeft_add_eq_or_of_lt (show c < 2 ^ 8 by omega), Nat.shiftLeft_eq]
  omega
/-- all is well with the model at p -/
def mo (g : Nat → Int32) (T : Nat → Nat) (n p : Nat) : Prop := p ≤ n ∧ mtk g T n p ∧ g 18 = 0 ∧ g 17 = -1
/-- there is a fault -/
def mf (g : Nat → Int32) (F : Int32) (P : Nat) : Prop := 0 < F.toInt ∧ g 18 = F ∧ g 17 = nI P
section MRD
variable {g : Nat → Int32} {tp bt : Int64} {a : Nat → Nat → Int32} {b : Nat → Nat → Int64} {T : Nat → Nat} {n p : Nat}
theorem mkd_1 {k : Nat} (h : k ≤ 4) : (mkd k = 1 ↔ k = 4) ∧ (mkd k = 2 ↔ k = 1) ∧ (mkd k = 3 ↔ k = 2) ∧ (mkd k = 4 ↔ k = 3) ∧ (mkd k = 0 ↔ k = 0) ∧ mkd k ≤ 4 := by
  rcases (by omega : k = 0 ∨ k = 1 ∨ k = 2 ∨ k = 3 ∨ k = 4) with rfl | rfl | rfl | rfl | rfl <;> decide
theorem mr_aheado (hT : mT a T n) (h : mo g T n p) (hk : sp_k T n p ≠ 4) : ∃ g' : Nat → Int32, fr_T 2 224 [.ref 0] (fm g tp bt a b) none (fm g' tp bt a b) ∧ fm_tx8 g g' ∧ mo g' T n (sp_n T n p) := by
  obtain ⟨h0, ⟨h11, h13, ⟨e, h14, h2, h3, h4⟩, -⟩, h18, h17⟩ := h
  rw [h4 hk] at h14
  obtain ⟨g', k1, k2, k3⟩ := mr_ahead (tp := tp) (bt := bt) (b := b) hT (sp_n_le h0) h11 h14
  exact ⟨g', k1, fm_tx8_of k2, sp_n_le h0, k3, (k2 18 (by decide) (by decide) (by decide) (by decide)).trans h18, (k2 17 (by decide) (by decide) (by decide) (by decide)).trans h17⟩
theorem mr_fails {x : Int32} (h : mo g T n p) (hx : 0 < x.toInt) : ∃ g' : Nat → Int32, fr_T 1 227 [.ref 0, .int x] (fm g tp bt a b) (some (.int 0)) (fm g' tp bt a b) ∧ fm_tx8 g g' ∧ mf g' (if sp_k T n p = 4 then 1 else x) (sp_s T n p) := by
  obtain ⟨h0, ⟨h11, h13, -, h12, -⟩, h18, h17⟩ := h
  have hm := mkd_1 (sp_k4 (T := T) (n := n) (p := p))
  have fin : ∀ y : Int32, 0 < y.toInt → (if sp_k T n p = 4 then 1 else x) = y → fm_tx8 g (upd (upd g 18 y) 17 (g 13)) ∧ mf (upd (upd g 18 y) 17 (g 13)) (if sp_k T n p = 4 then 1 else x) (sp_s T n p) := fun y hy e => by
    rw [e]
    exact ⟨fm_tx8_17 (fm_tx8_18 fm_tx8_rf), hy, by rw [pk_un (by decide), pk_us], by rw [pk_us]; exact h13⟩
  by_cases hk : sp_k T n p = 4
  · refine ⟨_, fr_meth (by rfl) (by rfl) ?_, fin 1 (by decide) (if_pos hk)⟩
    refine fr_s 2 (pc' := 4) (lc' := [(0, .ref 0), (1, .int x)]) (stk' := [.int (g 18)]) (mem' := fm g tp bt a b) (by intro _ _ _; eq_refl) ?_
    rw [h18]
    refine fr_s 5 (pc' := 13) (lc' := [(0, .ref 0), (1, .int x)]) (stk' := [.int 1, .int (g 12), .ref 0]) (mem' := fm g tp bt a b) (by intro _ _ _; eq_refl) ?_
    rw [h12, hk]
    refine fr_s 9 (pc' := 33) (lc' := [(0, .ref 0), (1, .int x)]) (stk' := [.int 0]) (mem' := fm (upd (upd g 18 1) 17 (g 13)) tp bt a b) (by intro _ _ _; eq_refl) ?_
    exact fr_ret (by rfl) (by rfl) (by rfl)
  · refine ⟨_, fr_meth (by rfl) (by rfl) ?_, fin x hx (if_neg hk)⟩
    refine fr_s 2 (pc' := 4) (lc' := [(0, .ref 0), (1, .int x)]) (stk' := [.int (g 18)]) (mem' := fm g tp bt a b) (by intro _ _ _; eq_refl) ?_
    rw [h18]
    refine fr_s 5 (pc' := 13) (lc' := [(0, .ref 0), (1, .int x)]) (stk' := [.int 1, .int (g 12), .ref 0]) (mem' := fm g tp bt a b) (by intro _ _ _; eq_refl) ?_
    rw [h12]
    refine fr_s 1 (pc' := cond (fx_cb .ne (nI (mkd (sp_k T n p))) 1) 20 16) (lc' := [(0, .ref 0), (1, .int x)]) (stk' := [.ref 0]) (mem' := fm g tp bt a b) (by intro _ _ _; eq_refl) ?_
    rw [show fx_cb .ne (nI (mkd (sp_k T n p))) 1 = true from cb_neT (a := mkd (sp_k T n p)) (b := 1) (by omega) (by omega) (fun z => hk (hm.1.mp z))]
    refine fr_s 7 (pc' := 33) (lc' := [(0, .ref 0), (1, .int x)]) (stk' := [.int 0]) (mem' := fm (upd (upd g 18 x) 17 (g 13)) tp bt a b) (by intro _ _ _; eq_refl) ?_
    exact fr_ret (by rfl) (by rfl) (by rfl)
theorem mr_fails2 (h : mo g T n p) : ∃ g' : Nat → Int32, fr_T 1 227 [.ref 0, .int 2] (fm g tp bt a b) (some (.int 0)) (fm g' tp bt a b) ∧ fm_tx8 g g' ∧ mf g' (sp_m T n p) (sp_s T n p) := mr_fails h (by decide)
theorem mr_failsx {x : Int32} (h : mo g T n p) (hx : 0 < x.toInt) (hk : sp_k T n p ≠ 4) : ∃ g' : Nat → Int32, fr_T 1 227 [.ref 0, .int x] (fm g tp bt a b) (some (.int 0)) (fm g' tp bt a b) ∧ fm_tx8 g g' ∧ mf g' x (sp_s T n p) := by
  have := mr_fails (tp := tp) (bt := bt) (a := a) (b := b) h hx
  rw [if_neg hk] at this
  exact this
theorem mr_isSign {w : Nat} (hT : mT a T n) (hw : w < 128) (h : mo g T n p) : fr_T 1 225 [.ref 0, .int (nI w)] (fm g tp bt a b) (some (.int (if sp_k T n p = 3 ∧ T (sp_s T n p) = w then 1 else 0))) (fm g tp bt a b) := by
  obtain ⟨h0, ⟨h11, h13, -, h12, -, h15, -⟩, h18, h17⟩ := h
  have hm := mkd_1 (sp_k4 (T := T) (n := n) (p := p))
  refine fr_meth (by rfl) (by rfl) ?_
  refine fr_s 3 (pc' := 5) (lc' := [(0, .ref 0), (1, .int (nI w))]) (stk' := [.int 4, .int (g 12)]) (mem' := fm g tp bt a b) (by intro _ _ _; eq_refl) ?_
  rw [h12]
  refine fr_s 1 (pc' := cond (fx_cb .ne (nI (mkd (sp_k T n p))) 4) 20 8) (lc' := [(0, .ref 0), (1, .int (nI w))]) (stk' := []) (mem' := fm g tp bt a b) (by intro _ _ _; eq_refl) ?_
  by_cases hk : sp_k T n p = 3
  · rw [show fx_cb .ne (nI (mkd (sp_k T n p))) 4 = false from cb_neF (a := mkd (sp_k T n p)) (b := 4) (by omega) (by omega) (by omega)]
    dsimp only [cond]
    refine fr_s 3 (pc' := 13) (lc' := [(0, .ref 0), (1, .int (nI w))]) (stk' := [.int (nI w), .int (g 15)]) (mem' := fm g tp bt a b) (by intro _ _ _; eq_refl) ?_
    rw [h15 hk]
    refine fr_s 1 (pc' := cond (fx_cb .ne (nI (T (sp_s T n p))) (nI w)) 20 16) (lc' := [(0, .ref 0), (1, .int (nI w))]) (stk' := []) (mem' := fm g tp bt a b) (by intro _ _ _; eq_refl) ?_
    have hlt : sp_s T n p < n := by rcases sp_cs (T := T) h0 with z | z | z | z | z <;> omega
    have h255 := (hT.2 _ hlt).1
    by_cases e : T (sp_s T n p) = w
    · rw [show fx_cb .ne (nI (T (sp_s T n p))) (nI w) = false from cb_neF (a := T (sp_s T n p)) (b := w) (by omega) (by omega) e, if_pos ⟨hk, e⟩]
      refine fr_s 2 (pc' := 21) (lc' := [(0, .ref 0), (1, .int (nI w))]) (stk' := [.int 1]) (mem' := fm g tp bt a b) (by intro _ _ _; eq_refl) ?_
      exact fr_ret (by rfl) (by rfl) (by rfl)
    · rw [show fx_cb .ne (nI (T (sp_s T n p))) (nI w) = true from cb_neT (a := T (sp_s T n p)) (b := w) (by omega) (by omega) e, if_neg (fun z => e z.2)]
      refine fr_s 1 (pc' := 21) (lc' := [(0, .ref 0), (1, .int (nI w))]) (stk' := [.int 0]) (mem' := fm g tp bt a b) (by intro _ _ _; eq_refl) ?_
      exact fr_ret (by rfl) (by rfl) (by rfl)
  · rw [show fx_cb .ne (nI (mkd (sp_k T n p))) 4 = true from cb_neT (a := mkd (sp_k T n p)) (b := 4) (by omega) (by omega) (by omega), if_neg (fun z => hk z.1)]
    refine fr_s 1 (pc' := 21) (lc' := [(0, .ref 0), (1, .int (nI w))]) (stk' := [.int 0]) (mem' := fm g tp bt a b) (by intro _ _ _; eq_refl) ?_
    exact fr_ret (by rfl) (by rfl) (by rfl)
theorem mr_wantSign {w : Nat} (hT : mT a T n) (hw : w < 128) (h : mo g T n p) : ∃ (v : Int32) (g' : Nat → Int32), fr_T 3 229 [.ref 0, .int (nI w)] (fm g tp bt a b) (some (.int v)) (fm g' tp bt a b) ∧ fm_tx8 g g' ∧ ((sp_k T n p = 3 ∧ T (sp_s T n p) = w) ∧ v = 1 ∧ mo g' T n (sp_n T n p) ∨ ¬ (sp_k T n p = 3 ∧ T (sp_s T n p) = w) ∧ v = 0 ∧ mf g' (sp_m T n p) (sp_s T n p)) := by
  have hs := mr_isSign (tp := tp) (bt := bt) (b := b) hT hw h
  by_cases e : sp_k T n p = 3 ∧ T (sp_s T n p) = w
  · rw [if_pos e] at hs
    obtain ⟨g', k1, k2, k3⟩ := mr_aheado (tp := tp) (bt := bt) (b := b) hT h (by omega)
    refine ⟨1, g', fr_meth (by rfl) (by rfl) ?_, k2, Or.inl ⟨e, rfl, k3⟩⟩
    refine fr_s 2 (pc' := 2) (lc' := [(0, .ref 0), (1, .int (nI w))]) (stk' := [.int (nI w), .ref 0]) (mem' := fm g tp bt a b) (by intro _ _ _; eq_refl) ?_
    refine fr_ivV hs (by omega) (by rfl) (by rfl) (by rfl) (by rfl) (by rfl) (by rfl) ?_
    refine fr_s 2 (pc' := 15) (lc' := [(0, .ref 0), (1, .int (nI w))]) (stk' := [.ref 0]) (mem' := fm g tp bt a b) (by intro _ _ _; eq_refl) ?_
    refine fr_ivV k1 (by omega) (by rfl) (by rfl) (by rfl) (by rfl) (by rfl) (by rfl) ?_
    refine fr_s 1 (pc' := 19) (lc' := [(0, .ref 0), (1, .int (nI w))]) (stk' := [.int 1]) (mem' := fm g' tp bt a b) (by intro _ _ _; eq_refl) ?_
    exact fr_ret (by rfl) (by rfl) (by rfl)
  · rw [if_neg e] at hs
    obtain ⟨g', k1, k2, k3⟩ := mr_fails2 (tp := tp) (bt := bt) (a := a) (b := b) h
    refine ⟨0, g', fr_meth (by rfl) (by rfl) ?_, k2, Or.inr ⟨e, rfl, k3⟩⟩
    refine fr_s 2 (pc' := 2) (lc' := [(0, .ref 0), (1, .int (nI w))]) (stk' := [.int (nI w), .ref 0]) (mem' := fm g tp bt a b) (by intro _ _ _; eq_refl) ?_
    refine fr_ivV hs (by omega) (by rfl) (by rfl) (by rfl) (by rfl) (by rfl) (by rfl) ?_
    refine fr_s 3 (pc' := 10) (lc' := [(0, .ref 0), (1, .int (nI w))]) (stk' := [.int 2, .ref 0]) (mem' := fm g tp bt a b) (by intro _ _ _; eq_refl) ?_
    refine fr_ivV k1 (by omega) (by rfl) (by rfl) (by rfl) (by rfl) (by rfl) (by rfl) ?_
    exact fr_ret (by rfl) (by rfl) (by rfl)
theorem sp_mw_eq {m c : Nat} (hm : m < 23) (hc : c < 23) (hmc : sp_pm.getD c 0 = m) : sp_mw T n p = nI m ↔ sp_k T n p = 1 ∧ sp_kw (sp_wd T n p) = c := by
  unfold sp_mw
  by_cases h : sp_k T n p = 1 ∧ sp_kw (sp_wd T n p) < 23
  · rw [if_pos h, nI_eq (by have := (mw_all _ h.2).1; omega) (by omega)]
    constructor
    · intro e
      refine ⟨h.1, ?_⟩
      rw [← (mw_all _ h.2).2, e, ← hmc, (mw_all _ hc).2]
    · intro e
      rw [e.2]; exact hmc
  · rw [if_neg h]
    refine ⟨fun e => ?_, fun e => absurd ⟨e.1, by omega⟩ h⟩
    have h1 : (-1 : Int32).toInt = (nI m).toInt := by rw [e]
    rw [nI_i32 (by omega), show (-1 : Int32).toInt = -1 from by decide] at h1
    omega
theorem mr_wantWord {m c : Nat} (hT : mT a T n) (hm : m < 23) (hc : c < 23) (hmc : sp_pm.getD c 0 = m) (h : mo g T n p) : ∃ (v : Int32) (g' : Nat → Int32), fr_T 3 230 [.ref 0, .ref 22, .int (nI m)] (fm g tp bt a b) (some (.int v)) (fm g' tp bt a b) ∧ fm_tx8 g g' ∧ ((sp_k T n p = 1 ∧ sp_kw (sp_wd T n p) = c) ∧ v = 1 ∧ mo g' T n (sp_n T n p) ∨ ¬ (sp_k T n p = 1 ∧ sp_kw (sp_wd T n p) = c) ∧ v = 0 ∧ mf g' (sp_m T n p) (sp_s T n p)) := by
  have hs := mr_inWords (tp := tp) (bt := bt) (b := b) hT h.1 h.2.1
  have hq := sp_mw_eq (T := T) (n := n) (p := p) hm hc hmc
  by_cases e : sp_k T n p = 1 ∧ sp_kw (sp_wd T n p) = c
  · obtain ⟨g', k1, k2, k3⟩ := mr_aheado (tp := tp) (bt := bt) (b := b) hT h (by omega)
    refine ⟨1, g', fr_meth (by rfl) (by rfl) ?_, k2, Or.inl ⟨e, rfl, k3⟩⟩
    refine fr_s 2 (pc' := 2) (lc' := [(0, .ref 0), (1, .ref 22), (2, .int (nI m))]) (stk' := [.ref 22, .ref 0]) (mem' := fm g tp bt a b) (by intro _ _ _; eq_refl) ?_
    refine fr_ivV hs (by omega) (by rfl) (by rfl) (by rfl) (by rfl) (by rfl) (by rfl) ?_
    refine fr_s 2 (pc' := cond (fx_cb .eq (sp_mw T n p) (nI m)) 15 9) (lc' := [(0, .ref 0), (1, .ref 22), (2, .int (nI m))]) (stk' := []) (mem' := fm g tp bt a b) (by intro _ _ _; eq_refl) ?_
    rw [show fx_cb .eq (sp_mw T n p) (nI m) = true from decide_eq_true (hq.mpr e)]
    refine fr_s 1 (pc' := 16) (lc' := [(0, .ref 0), (1, .ref 22), (2, .int (nI m))]) (stk' := [.ref 0]) (mem' := fm g tp bt a b) (by intro _ _ _; eq_refl) ?_
    refine fr_ivV k1 (by omega) (by rfl) (by rfl) (by rfl) (by rfl) (by rfl) (by rfl) ?_
    refine fr_s 1 (pc' := 20) (lc' := [(0, .ref 0), (1, .ref 22), (2, .int (nI m))]) (stk' := [.int 1]) (mem' := fm g' tp bt a b) (by intro _ _ _; eq_refl) ?_
    exact fr_ret (by rfl) (by rfl) (by rfl)
  · obtain ⟨g', k1, k2, k3⟩ := mr_fails2 (tp := tp) (bt := bt) (a := a) (b := b) h
    refine ⟨0, g', fr_meth (by rfl) (by rfl) ?_, k2, Or.inr ⟨e, rfl, k3⟩⟩
    refine fr_s 2 (pc' := 2) (lc' := [(0, .ref 0), (1, .ref 22), (2, .int (nI m))]) (stk' := [.ref 22, .ref 0]) (mem' := fm g tp bt a b) (by intro _ _ _; eq_refl) ?_
    refine fr_ivV hs (by omega) (by rfl) (by rfl) (by rfl) (by rfl) (by rfl) (by rfl) ?_
    refine fr_s 2 (pc' := cond (fx_cb .eq (sp_mw T n p) (nI m)) 15 9) (lc' := [(0, .ref 0), (1, .ref 22), (2, .int (nI m))]) (stk' := []) (mem' := fm g tp bt a b) (by intro _ _ _; eq_refl) ?_
    rw [show fx_cb .eq (sp_mw T n p) (nI m) = false from decide_eq_false (fun z => e (hq.mp z))]
    refine fr_s 2 (pc' := 11) (lc' := [(0, .ref 0), (1, .ref 22), (2, .int (nI m))]) (stk' := [.int 2, .ref 0]) (mem' := fm g tp bt a b) (by intro _ _ _; eq_refl) ?_
    refine fr_ivV k1 (by omega) (by rfl) (by rfl) (by rfl) (by rfl) (by rfl) (by rfl) ?_
    exact fr_ret (by rfl) (by rfl) (by rfl)
theorem mT_u {t i : Nat} {x : Int32} (ht : t ≠ 7) (h : mT a T n) : mT (fm_u a t i x) T n := ⟨h.1, fun k hk => by rw [show (fm_u a t i x) 7 = a 7 from if_neg (fun z => ht z.symm)]; exact h.2 k hk⟩
theorem mr_number {t lo hi : Nat} (hT : mT a T n) (ht : t < 5894) (hlo : lo < 10000) (hhi : hi < 10000) (h : mo g T n p) : ∃ (v : Int32) (g' : Nat → Int32) (a' : Nat → Nat → Int32), fr_T 4 231 [.ref 0, .int (nI t), .int (nI lo), .int (nI hi)] (fm g tp bt a b) (some (.int v)) (fm g' tp bt a' b) ∧ fm_tx8 g g' ∧ ((sp_k T n p = 2 ∧ (lo ≤ sp_v T n p ∧ sp_v T n p ≤ hi) ∧ v = 1 ∧ a' = fm_u a 1 t (nI (sp_v T n p)) ∧ mo g' T n (sp_n T n p)) ∨ (sp_k T n p = 2 ∧ ¬ (lo ≤ sp_v T n p ∧ sp_v T n p ≤ hi) ∧ v = 0 ∧ a' = a ∧ mf g' 4 (sp_s T n p)) ∨ (¬ sp_k T n p = 2 ∧ v = 0 ∧ a' = a ∧ mf g' (sp_m T n p) (sp_s T n p))) := by
  have hm := mkd_1 (sp_k4 (T := T) (n := n) (p := p))
  have h12 := h.2.1.2.2.2.1
  by_cases hk : sp_k T n p = 2
  · have hv := sp_v_lt (T := T) h.1 hk
    have h15 := h.2.1.2.2.2.2.1 hk
    obtain ⟨g4, k1, k2, k3⟩ := mr_failsx (tp := tp) (bt := bt) (a := a) (b := b) (x := 4) h (by decide) (by omega)
    have bad : fr_R 3 gk_m231 30 [(0, .ref 0), (1, .int (nI t)), (2, .int (nI lo)), (3, .int (nI hi))] [] (fm g tp bt a b) (some (.int 0), fm g4 tp bt a b) := by
      refine fr_s 2 (pc' := 32) (lc' := [(0, .ref 0), (1, .int (nI t)), (2, .int (nI lo)), (3, .int (nI hi))]) (stk' := [.int 4, .ref 0]) (mem' := fm g tp bt a b) (by intro _ _ _; eq_refl) ?_
      refine fr_ivV k1 (by omega) (by rfl) (by rfl) (by rfl) (by rfl) (by rfl) (by rfl) ?_
      exact fr_ret (by rfl) (by rfl) (by rfl)
    have start : ∀ R, fr_R 3 gk_m231 14 [(0, .ref 0), (1, .int (nI t)), (2, .int (nI lo)), (3, .int (nI hi))] [] (fm g tp bt a b) R → fr_R 3 gk_m231 0 (lv_args 0 [.ref 0, .int (nI t), .int (nI lo), .int (nI hi)]) [] (fm g tp bt a b) R := fun R hR => by
      refine fr_s 3 (pc' := 5) (lc' := [(0, .ref 0), (1, .int (nI t)), (2, .int (nI lo)), (3, .int (nI hi))]) (stk' := [.int 3, .int (g 12)]) (mem' := fm g tp bt a b) (by intro _ _ _; eq_refl) ?_
      rw [h12, hk]
      exact fr_s 1 (pc' := 14) (lc' := [(0, .ref 0), (1, .int (nI t)), (2, .int (nI lo)), (3, .int (nI hi))]) (stk' := []) (mem' := fm g tp bt a b) (fun _ _ _ => rfl) hR
    have two : ∀ R, (lo ≤ sp_v T n p → fr_R 3 gk_m231 22 [(0, .ref 0), (1, .int (nI t)), (2, .int (nI lo)), (3, .int (nI hi))] [] (fm g tp bt a b) R) → (¬ lo ≤ sp_v T n p → fr_R 3 gk_m231 30 [(0, .ref 0), (1, .int (nI t)), (2, .int (nI lo)), (3, .int (nI hi))] [] (fm g tp bt a b) R) → fr_R 3 gk_m231 14 [(0, .ref 0), (1, .int (nI t)), (2, .int (nI lo)), (3, .int (nI hi))] [] (fm g tp bt a b) R := fun R q1 q2 => by
      refine fr_s 3 (pc' := 19) (lc' := [(0, .ref 0), (1, .int (nI t)), (2, .int (nI lo)), (3, .int (nI hi))]) (stk' := [.int (nI lo), .int (g 15)]) (mem' := fm g tp bt a b) (by intro _ _ _; eq_refl) ?_
      rw [h15]
      refine fr_s 1 (pc' := cond (fx_cb .lt (nI (sp_v T n p)) (nI lo)) 30 22) (lc' := [(0, .ref 0), (1, .int (nI t)), (2, .int (nI lo)), (3, .int (nI hi))]) (stk' := []) (mem' := fm g tp bt a b) (by intro _ _ _; eq_refl) ?_
      by_cases e : lo ≤ sp_v T n p
      · rw [show fx_cb .lt (nI (sp_v T n p)) (nI lo) = false from cb_ltF (a := sp_v T n p) (b := lo) (by omega) (by omega) (by omega)]
        exact q1 e
      · rw [show fx_cb .lt (nI (sp_v T n p)) (nI lo) = true from cb_ltT (a := sp_v T n p) (b := lo) (by omega) (by omega) (by omega)]
        exact q2 e
    have three : ∀ R, (sp_v T n p ≤ hi → fr_R 3 gk_m231 36 [(0, .ref 0), (1, .int (nI t)), (2, .int (nI lo)), (3, .int (nI hi))] [] (fm g tp bt a b) R) → (¬ sp_v T n p ≤ hi → fr_R 3 gk_m231 30 [(0, .ref 0), (1, .int (nI t)), (2, .int (nI lo)), (3, .int (nI hi))] [] (fm g tp bt a b) R) → fr_R 3 gk_m231 22 [(0, .ref 0), (1, .int (nI t)), (2, .int (nI lo)), (3, .int (nI hi))] [] (fm g tp bt a b) R := fun R q1 q2 => by
      refine fr_s 3 (pc' := 27) (lc' := [(0, .ref 0), (1, .int (nI t)), (2, .int (nI lo)), (3, .int (nI hi))]) (stk' := [.int (nI hi), .int (g 15)]) (mem' := fm g tp bt a b) (by intro _ _ _; eq_refl) ?_
      rw [h15]
      refine fr_s 1 (pc' := cond (fx_cb .le (nI (sp_v T n p)) (nI hi)) 36 30) (lc' := [(0, .ref 0), (1, .int (nI t)), (2, .int (nI lo)), (3, .int (nI hi))]) (stk' := []) (mem' := fm g tp bt a b) (by intro _ _ _; eq_refl) ?_
      by_cases e : sp_v T n p ≤ hi
      · rw [show fx_cb .le (nI (sp_v T n p)) (nI hi) = true from cb_leT (a := sp_v T n p) (b := hi) (by omega) (by omega) e]
        exact q1 e
      · rw [show fx_cb .le (nI (sp_v T n p)) (nI hi) = false from cb_leF (a := sp_v T n p) (b := hi) (by omega) (by omega) e]
        exact q2 e
    by_cases hr : lo ≤ sp_v T n p ∧ sp_v T n p ≤ hi
    · obtain ⟨g', m1, m2, m3⟩ := mr_aheado (tp := tp) (bt := bt) (b := b) (mT_u (t := 1) (i := t) (x := nI (sp_v T n p)) (by decide) hT) h (by omega)
      refine ⟨1, g', fm_u a 1 t (nI (sp_v T n p)), fr_meth (by rfl) (by rfl) (start _ (two _ (fun _ => three _ (fun _ => ?_) (fun z => absurd hr.2 z)) (fun z => absurd hr.1 z))), m2, Or.inl ⟨hk, hr, rfl, rfl, m3⟩⟩
      refine fr_s 5 (pc' := 45) (lc' := [(0, .ref 0), (1, .int (nI t)), (2, .int (nI lo)), (3, .int (nI hi))]) (stk' := [.int (g 15), .int (nI t), .ref 1]) (mem' := fm g tp bt a b) (by intro _ _ _; eq_refl) ?_
      rw [h15]
      refine fr_stI (mem' := fm g tp bt (fm_u a 1 (nI t).toNatClampNeg (nI (sp_v T n p))) b) (by rfl) (by rfl) (fx_inN (i := t) (by omega) (by omega)) fm_si1 ?_
      rw [show (nI t).toNatClampNeg = t from nI_clamp (by omega)]
      refine fr_s 1 (pc' := 47) (lc' := [(0, .ref 0), (1, .int (nI t)), (2, .int (nI lo)), (3, .int (nI hi))]) (stk' := [.ref 0]) (mem' := fm g tp bt (fm_u a 1 t (nI (sp_v T n p))) b) (by intro _ _ _; eq_refl) ?_
      refine fr_ivV m1 (by omega) (by rfl) (by rfl) (by rfl) (by rfl) (by rfl) (by rfl) ?_
      refine fr_s 1 (pc' := 51) (lc' := [(0, .ref 0), (1, .int (nI t)), (2, .int (nI lo)), (3, .int (nI hi))]) (stk' := [.int 1]) (mem' := fm g' tp bt (fm_u a 1 t (nI (sp_v T n p))) b) (by intro _ _ _; eq_refl) ?_
      exact fr_ret (by rfl) (by rfl) (by rfl)
    · refine ⟨0, g4, a, fr_meth (by rfl) (by rfl) (start _ (two _ (fun z => three _ (fun z2 => absurd ⟨z, z2⟩ hr) (fun _ => bad)) (fun _ => bad))), k2, Or.inr (Or.inl ⟨hk, hr, rfl, rfl, k3⟩)⟩
  · obtain ⟨g', k1, k2, k3⟩ := mr_fails2 (tp := tp) (bt := bt) (a := a) (b := b) h
    refine ⟨0, g', a, fr_meth (by rfl) (by rfl) ?_, k2, Or.inr (Or.inr ⟨hk, rfl, rfl, k3⟩)⟩
    refine fr_s 3 (pc' := 5) (lc' := [(0, .ref 0), (1, .int (nI t)), (2, .int (nI lo)), (3, .int (nI hi))]) (stk' := [.int 3, .int (g 12)]) (mem' := fm g tp bt a b) (by intro _ _ _; eq_refl) ?_
    rw [h12]
    refine fr_s 1 (pc' := cond (fx_cb .eq (nI (mkd (sp_k T n p))) 3) 14 8) (lc' := [(0, .ref 0), (1, .int (nI t)), (2, .int (nI lo)), (3, .int (nI hi))]) (stk' := []) (mem' := fm g tp bt a b) (by intro _ _ _; eq_refl) ?_
    rw [show fx_cb .eq (nI (mkd (sp_k T n p))) 3 = false from cb_eqF (a := mkd (sp_k T n p)) (b := 3) (by omega) (by omega) (by omega)]
    refine fr_s 2 (pc' := 10) (lc' := [(0, .ref 0), (1, .int (nI t)), (2, .int (nI lo)), (3, .int (nI hi))]) (stk' := [.int 2, .ref 0]) (mem' := fm g tp bt a b) (by intro _ _ _; eq_refl) ?_
    refine fr_ivV k1 (by omega) (by rfl) (by rfl) (by rfl) (by rfl) (by rfl) (by rfl) ?_
    exact fr_ret (by rfl) (by rfl) (by rfl)
theorem sp_nm_dec : sp_nm T n p ∨ ¬ sp_nm T n p := Classical.em _
theorem mr_isName (hT : mT a T n) (h : mo g T n p) : ∃ v : Int32, fr_T 3 232 [.ref 0, .ref 22] (fm g tp bt a b) (some (.int v)) (fm g tp bt a b) ∧ (sp_nm T n p ∧ v = 1 ∨ ¬ sp_nm T n p ∧ v = 0) := by
  have hm := mkd_1 (sp_k4 (T := T) (n := n) (p := p))
  have hs := mr_inWords (tp := tp) (bt := bt) (b := b) hT h.1 h.2.1
  obtain ⟨h0, ⟨h11, h13, ⟨e, h14, h2, h3, h4⟩, h12, -⟩, h18, h17⟩ := h
  have hle := sp_kw_le (sp_wd T n p)
  have hb := hT.1
  by_cases hk : sp_k T n p = 1
  · have he := h4 (by omega)
    have hsn := sp_n_ge (T := T) (n := n) (p := p)
    have go : ∀ R, fr_R 2 gk_m232 19 [(0, .ref 0), (1, .ref 22)] [.int 8, .int (nI (sp_n T n p - sp_s T n p))] (fm g tp bt a b) R → fr_R 2 gk_m232 0 (lv_args 0 [.ref 0, .ref 22]) [] (fm g tp bt a b) R := fun R hR => by
      refine fr_s 3 (pc' := 5) (lc' := [(0, .ref 0), (1, .ref 22)]) (stk' := [.int 2, .int (g 12)]) (mem' := fm g tp bt a b) (by intro _ _ _; eq_refl) ?_
      rw [h12, hk]
      refine fr_s 6 (pc' := 17) (lc' := [(0, .ref 0), (1, .ref 22)]) (stk' := [.int (g 14 - g 13)]) (mem' := fm g tp bt a b) (by intro _ _ _; eq_refl) ?_
      rw [h14, h13, he, tg_sub2 (x := sp_n T n p) (y := sp_s T n p) (by omega)]
      exact fr_s 1 (pc' := 19) (lc' := [(0, .ref 0), (1, .ref 22)]) (stk' := [.int 8, .int (nI (sp_n T n p - sp_s T n p))]) (mem' := fm g tp bt a b) (fun _ _ _ => rfl) hR
    have hnn : sp_n T n p ≤ n := sp_n_le h0
    by_cases h8 : sp_n T n p ≤ sp_s T n p + 8
    · have mid : ∀ R, fr_R 2 gk_m232 27 [(0, .ref 0), (1, .ref 22)] [.int (sp_mw T n p)] (fm g tp bt a b) R → fr_R 2 gk_m232 0 (lv_args 0 [.ref 0, .ref 22]) [] (fm g tp bt a b) R := fun R hR => by
        refine go _ ?_
        refine fr_s 1 (pc' := cond (fx_cb .gt (nI (sp_n T n p - sp_s T n p)) 8) 35 22) (lc' := [(0, .ref 0), (1, .ref 22)]) (stk' := []) (mem' := fm g tp bt a b) (by intro _ _ _; eq_refl) ?_
        rw [show fx_cb .gt (nI (sp_n T n p - sp_s T n p)) 8 = false from cb_gtF (a := sp_n T n p - sp_s T n p) (b := 8) (by omega) (by omega) (by omega)]
        refine fr_s 2 (pc' := 24) (lc' := [(0, .ref 0), (1, .ref 22)]) (stk' := [.ref 22, .ref 0]) (mem' := fm g tp bt a b) (by intro _ _ _; eq_refl) ?_
        exact fr_ivV hs (by omega) (by rfl) (by rfl) (by rfl) (by rfl) (by rfl) (by rfl) hR
      by_cases hw : sp_kw (sp_wd T n p) < 23
      · refine ⟨0, fr_meth (by rfl) (by rfl) (mid _ ?_), Or.inr ⟨fun z => by have := z.2.2; omega, rfl⟩⟩
        rw [show sp_mw T n p = nI (sp_pm.getD (sp_kw (sp_wd T n p)) 0) from if_pos ⟨hk, hw⟩]
        have h23 := (mw_all _ hw).1
        refine fr_s 2 (pc' := cond (fx_cb .ne (nI (sp_pm.getD (sp_kw (sp_wd T n p)) 0)) (-1)) 35 31) (lc' := [(0, .ref 0), (1, .ref 22)]) (stk' := []) (mem' := fm g tp bt a b) (by intro _ _ _; eq_refl) ?_
        rw [show fx_cb .ne (nI (sp_pm.getD (sp_kw (sp_wd T n p)) 0)) (-1) = true from cb_n_ne (by omega) (by decide)]
        refine fr_s 1 (pc' := 36) (lc' := [(0, .ref 0), (1, .ref 22)]) (stk' := [.int 0]) (mem' := fm g tp bt a b) (by intro _ _ _; eq_refl) ?_
        exact fr_ret (by rfl) (by rfl) (by rfl)
      · refine ⟨1, fr_meth (by rfl) (by rfl) (mid _ ?_), Or.inl ⟨⟨hk, h8, by omega⟩, rfl⟩⟩
        rw [show sp_mw T n p = -1 from if_neg (fun z => hw z.2)]
        refine fr_s 4 (pc' := 36) (lc' := [(0, .ref 0), (1, .ref 22)]) (stk' := [.int 1]) (mem' := fm g tp bt a b) (by intro _ _ _; eq_refl) ?_
        exact fr_ret (by rfl) (by rfl) (by rfl)
    · refine ⟨0, fr_meth (by rfl) (by rfl) (go _ ?_), Or.inr ⟨fun z => h8 z.2.1, rfl⟩⟩
      refine fr_s 1 (pc' := cond (fx_cb .gt (nI (sp_n T n p - sp_s T n p)) 8) 35 22) (lc' := [(0, .ref 0), (1, .ref 22)]) (stk' := []) (mem' := fm g tp bt a b) (by intro _ _ _; eq_refl) ?_
      rw [show fx_cb .gt (nI (sp_n T n p - sp_s T n p)) 8 = true from cb_gtT (a := sp_n T n p - sp_s T n p) (b := 8) (by omega) (by omega) (by omega)]
      refine fr_s 1 (pc' := 36) (lc' := [(0, .ref 0), (1, .ref 22)]) (stk' := [.int 0]) (mem' := fm g tp bt a b) (by intro _ _ _; eq_refl) ?_
      exact fr_ret (by rfl) (by rfl) (by rfl)
  · refine ⟨0, fr_meth (by rfl) (by rfl) ?_, Or.inr ⟨fun z => hk z.1, rfl⟩⟩
    refine fr_s 3 (pc' := 5) (lc' := [(0, .ref 0), (1, .ref 22)]) (stk' := [.int 2, .int (g 12)]) (mem' := fm g tp bt a b) (by intro _ _ _; eq_refl) ?_
    rw [h12]
    refine fr_s 1 (pc' := cond (fx_cb .ne (nI (mkd (sp_k T n p))) 2) 35 8) (lc' := [(0, .ref 0), (1, .ref 22)]) (stk' := []) (mem' := fm g tp bt a b) (by intro _ _ _; eq_refl) ?_
    rw [show fx_cb .ne (nI (mkd (sp_k T n p))) 2 = true from cb_neT (a := mkd (sp_k T n p)) (b := 2) (by omega) (by omega) (by omega)]
    refine fr_s 1 (pc' := 36) (lc' := [(0, .ref 0), (1, .ref 22)]) (stk' := [.int 0]) (mem' := fm g tp bt a b) (by intro _ _ _; eq_refl) ?_
    exact fr_ret (by rfl) (by rfl) (by rfl)
theorem fm_nmf_c (hT : mT a T n) : ∀ (r k s : Nat), s ≤ k → k + r ≤ n → fm_nmf a n r k (Int64.ofNat (sp_c8 (sp_L T s (k - s)))) = Int64.ofNat (sp_c8 (sp_L T s (k + r - s))) := by
  intro r
  induction r with
  | zero => intro k s _ _; rfl
  | succ r ih =>
    intro k s hs hk
    show fm_nmf a n r (k + 1) (Int64.ofNat (sp_c8 (sp_L T s (k - s))) <<< ((8 : Int32).toInt64 &&& 63) ||| (fm_byte a n k).toInt64) = _
    have h255 := (hT.2 k (by omega)).1
    rw [mb_in hT (by omega), mc_step (by omega)]
    have e : sp_c8 (sp_L T s (k - s)) * 256 + T k = sp_c8 (sp_L T s (k + 1 - s)) := by
      rw [show k + 1 - s = (k - s) + 1 by omega, sp_L_s, sp_c8_s, show s + (k - s) = k by omega]
    rw [e, ih (k + 1) s (by omega) (by omega), show k + 1 + r - s = k + (r + 1) - s by omega]
theorem fm_nm_c (hT : mT a T n) (hp : p ≤ n) : fm_nm a n (sp_s T n p) (sp_n T n p) = Int64.ofNat (sp_c8 (sp_wd T n p)) := by
  have hge := sp_n_ge (T := T) (n := n) (p := p)
  have hle := sp_n_le (T := T) hp
  have h := fm_nmf_c hT (sp_n T n p - sp_s T n p) (sp_s T n p) (sp_s T n p) (Nat.le_refl _) (by omega)
  rw [Nat.sub_self, show sp_s T n p + (sp_n T n p - sp_s T n p) - sp_s T n p = sp_n T n p - sp_s T n p by omega] at h
  exact h
theorem mr_nameHere (hT : mT a T n) (h : mo g T n p) (hk : sp_nm T n p) : fr_T 2 233 [.ref 0] (fm g tp bt a b) (some (.long (Int64.ofNat (sp_c8 (sp_wd T n p))))) (fm g tp bt a b) := by
  obtain ⟨e, hx, he⟩ := mtk_xp hT.1 h.2.1
  have := fr_nameHere (tp := tp) (bt := bt) (a := a) (b := b) hx
  rw [he (by have := hk.1; omega), fm_nm_c hT h.1] at this
  exact this
theorem mr_findHere {base many : Nat} (hT : mT a T n) (h : mo g T n p) (hk : sp_nm T n p) (hbm : base + many ≤ 108) : ∃ v : Int32, fr_T 4 234 [.ref 0, .int (nI base), .int (nI many)] (fm g tp bt a b) (some (.int v)) (fm g tp bt a b) ∧ sp_is (fun k => b 2 (base + k)) many (Int64.ofNat (sp_c8 (sp_wd T n p))) v := by
  obtain ⟨e, hx, he⟩ := mtk_xp hT.1 h.2.1
  obtain ⟨v, mem', ⟨w, h1, hR⟩, h2⟩ := fr_findHere (tp := tp) (bt := bt) (a := a) (b := b) (base := base) (many := many) hx hbm
  cases hR
  rw [he (by have := hk.1; omega), fm_nm_c hT h.1] at h1
  exact ⟨w, h2, h1⟩
end MRD
