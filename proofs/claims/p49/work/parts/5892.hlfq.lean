/-! ===== halves, half: the calls of both ===== -/
def hvC (hal : Bool) : SC := fun av g a _ _ v => ∃ (s : Int32) (n : Nat), av = [.int s] ∧ n ≤ 8 ∧ g 26 7 = nI n ∧ ((¬ (0 < s.toInt ∧ s.toInt < 2 ^ n) ∧ v = .int (-1)) ∨ ∃ S, s = nI S ∧ 0 < S ∧ S < 2 ^ n ∧ v = .int (cond hal (fC (a 28) n S (bC (a 28) n S)) (nI (bC (a 28) n S))))
def hvM (hal : Bool) : SM := fun av _ a _ _ v => ∃ (s : Int32) (n : Nat), av = [.int s] ∧ n ≤ 8 ∧ a 1 1 = nI n ∧ ((¬ (0 < s.toInt ∧ s.toInt < 2 ^ n) ∧ v = .int (-1)) ∨ ∃ S q, s = nI S ∧ 0 < S ∧ S < 2 ^ n ∧ bM (wtm a) n S = some q ∧ v = .int (cond hal (fM (wtm a) n S q) (nI q)))
theorem set_in {s : Int32} {n : Nat} (h8 : n ≤ 8) (h : 0 < s.toInt ∧ s.toInt < 2 ^ n) : ∃ S, s = nI S ∧ 0 < S ∧ S < 2 ^ n := by
  have hp2 : ∀ n, n ≤ 8 → (2 : Int) ^ n ≤ 256 := by decide
  have := hp2 n h8
  obtain ⟨S, h1, rfl⟩ := nI_bd (x := s) (n := 256) (by omega) (by omega)
  rw [nI_i32 (by omega)] at h
  have hq : ((2 ^ n : Nat) : Int) = 2 ^ n := by rw [Int.natCast_pow]; rfl
  rw [← hq] at h
  exact ⟨S, rfl, by omega, by omega⟩
theorem set_no {S n : Nat} (h8 : n ≤ 8) (h0 : 0 < S) (hS : S < 2 ^ n) : 0 < (nI S).toInt ∧ (nI S).toInt < 2 ^ n := by
  have hp2 : ∀ n, n ≤ 8 → 2 ^ n ≤ 256 := by decide
  have := hp2 n h8
  have hq : ((2 ^ n : Nat) : Int) = 2 ^ n := by rw [Int.natCast_pow]; rfl
  rw [nI_i32 (by omega), ← hq]
  omega
theorem wt_both {g a : Nat → Nat → Int32} {am : Nat → Nat → Int32} {n : Nat} (h8 : n ≤ 8) (e1 : g 26 7 = nI n) (hwt : ∀ i : Nat, i < 8 → (i : Int) < (g 26 7).toInt → a 28 i = am 1 (842 * 0 + 278 + 5 * i) ∧ 1 ≤ (am 1 (842 * 0 + 278 + 5 * i)).toInt ∧ (am 1 (842 * 0 + 278 + 5 * i)).toInt ≤ 99) : ∃ wf : Nat → Nat, (∀ i, i < n → wtm am i = nI (wf i) ∧ 1 ≤ wf i ∧ wf i ≤ 99) ∧ ∀ i, i < n → a 28 i = nI (wf i) := by
  have key : ∀ i, ∃ k : Nat, i < n → am 1 (278 + 5 * i) = nI k ∧ 1 ≤ k ∧ k ≤ 99 ∧ a 28 i = nI k := fun i => by
    by_cases hi : i < n
    · obtain ⟨w1, w2, w3⟩ := hwt i (by omega) (by rw [e1, nI_i32 (by omega)]; omega)
      rw [show 842 * 0 + 278 + 5 * i = 278 + 5 * i from by omega] at w1 w2 w3
      obtain ⟨k, hk, ek⟩ := nI_bd (x := am 1 (278 + 5 * i)) (n := 99) (by omega) w3
      rw [ek, nI_i32 (by omega)] at w2
      exact ⟨k, fun _ => ⟨ek, by omega, hk, w1.trans ek⟩⟩
    · exact ⟨0, fun z => absurd z hi⟩
  exact ⟨fun i => Classical.choose (key i), fun i hi => ⟨(Classical.choose_spec (key i) hi).1, (Classical.choose_spec (key i) hi).2.1, (Classical.choose_spec (key i) hi).2.2.1⟩, fun i hi => (Classical.choose_spec (key i) hi).2.2.2⟩
theorem hv_wr {hal : Bool} {av : List Value} {u w : Value} {g a g' a' : Nat → Nat → Int32} {gm gm' : Nat → Int32} {am am' : Nat → Nat → Int32} (h : wrE g a gm am) (h1 : hvC hal av g a g' a' u) (h2 : hvM hal av gm am gm' am' w) : u = w := by
  obtain ⟨s, n, rfl, h8, e1, h1⟩ := h1
  obtain ⟨s2, n2, e, h82, e2, h2⟩ := h2
  cases e
  obtain ⟨-, -, h4, -⟩ := h
  have e3 : g 26 7 = am 1 1 := h4.2.1
  have hn : n = n2 := by
    rw [e1, e2] at e3
    exact hf_inj (by omega) (by omega) e3
  subst hn
  have hwt : ∀ i : Nat, i < 8 → (i : Int) < (g 26 7).toInt → a 28 i = am 1 (842 * 0 + 278 + 5 * i) ∧ 1 ≤ (am 1 (842 * 0 + 278 + 5 * i)).toInt ∧ (am 1 (842 * 0 + 278 + 5 * i)).toInt ≤ 99 := h4.2.2.2.1
  rcases h1 with ⟨z1, rfl⟩ | ⟨S, rfl, S0, S1, rfl⟩ <;> rcases h2 with ⟨y1, rfl⟩ | ⟨S2, q, e5, T0, T1, hq, rfl⟩
  · rfl
  · subst e5
    exact absurd (set_no h8 T0 T1) z1
  · exact absurd (set_no h8 S0 S1) y1
  · have hp2 : ∀ n, n ≤ 8 → 2 ^ n ≤ 256 := by decide
    have hp := hp2 n h8
    have eS : S = S2 := hf_inj (by omega) (by omega) e5
    subst eS
    obtain ⟨wf, hm, hc⟩ := wt_both h8 e1 hwt
    obtain ⟨q2, k1, k2, k3⟩ := hv_eq (wc := a 28) (wt := wtm am) (wf := wf) hc (fun i hi => (hm i hi).1) (fun i hi => (hm i hi).2) h8 S0 S1
    rw [k1] at hq
    cases hq
    rw [k2, k3]
section HVQ
variable {l : Launch} {D : va_G} {xt : tk_XT} {ads : List Nat}
theorem hv_halvesC (hxt : tk_xtok xt) {W : List (Nat × Nat)} (hK : KC l D xt ads 172 [0] [gn_i] W) : lw_sem l D xt gc_TY h3_X ads lw_twC 20 172 [0] [gn_i] (QC W (hvC true)) := by
  refine cx_sem (S := hvC true) (k := 3) hxt (by decide) hK (fun rest g l' a b R hr hin => ?_)
  obtain ⟨s, r0, rfl, k0⟩ := av_int hr
  obtain rfl := k0.nil
  obtain ⟨n, h8, en⟩ := nI_bd (x := g 26 7) (n := 8) hin.1.2.2.2.1 hin.1.2.2.2.2
  by_cases h : 0 < s.toInt ∧ s.toInt < 2 ^ n
  · obtain ⟨S, rfl, S0, S1⟩ := set_in h8 h
    exact ⟨.int _, _, l', a, b, Nat.zero_le 1, cx_of (hl_halvesT en h8 S0 S1) (fun j hj => ⟨fm_un (by omega), rfl, rfl⟩), nI S, n, rfl, h8, en, Or.inr ⟨S, rfl, S0, S1, rfl⟩⟩
  · exact ⟨.int (-1), _, l', a, b, Nat.zero_le 1, cx_of (hl_halvesF en h8 h) (fun j hj => ⟨fm_un (by omega), rfl, rfl⟩), s, n, rfl, h8, en, Or.inl ⟨h, rfl⟩⟩
theorem hv_halvesM (hst : HS xt) : lw_sem l D xt gn_TY (gn_X lw_twM) ads lw_twM 11 341 [0] [gn_i] (fun av ws ws' v => QM (hvM true) av ws ws' v ∧ ∀ z ∈ mw_W, lw_at ws' z = lw_at ws z) := by
  refine lw_sem_imp (mx_sem (S := fun av g a g' a' v => hvM true av g a g' a' v ∧ g' 10 = g 10 ∧ g' 42 = g 42 ∧ a' = a) (k := 7) (n := 1) hst gn_M0_ms (fun g tp bt a b xs hx hI => ?_)) ?_
  · obtain ⟨s, xs0, rfl, hx0⟩ := fm_xsS hx
    obtain rfl := List.length_eq_zero_iff.mp hx0
    obtain ⟨n, h8, en⟩ := fm_B_0 hI.2.1 (i := 1) (n := 8) (by decide) rfl
    have hG : ∀ st : Int32, fm_ffr gn_M0 g a b (upd g 2 st) a b := fun st => ⟨fun k => by
      by_cases e : k = 2
      · subst e; exact Or.inl (List.mem_append_right _ (by decide))
      · exact Or.inr (pk_un e), fun t ht => Or.inr rfl, fun t => Or.inr rfl⟩
    by_cases h : 0 < s.toInt ∧ s.toInt < 2 ^ n
    · obtain ⟨S, rfl, S0, S1⟩ := set_in h8 h
      have hp2 : ∀ n, n ≤ 8 → 2 ^ n ≤ 256 := by decide
      have hp := hp2 n h8
      obtain ⟨q, q1, q2, q3⟩ := bM_some (wt := wtm a) (n := n) S0 (show S < 256 by omega)
      refine ⟨fM (wtm a) n S q, upd g 2 0, tp, bt, a, b, ?_, fm_I_u2 hI (by decide), hG 0, ⟨nI S, n, rfl, h8, en, Or.inr ⟨S, q, rfl, S0, S1, q1, rfl⟩⟩, pk_un (by decide), pk_un (by decide), rfl⟩
      exact mh_halvesT en h8 S0 S1 q1 q2 q3
    · exact ⟨-1, upd g 2 1, tp, bt, a, b, mh_halvesF en h8 h, fm_I_u2 hI (by decide), hG 1, ⟨s, n, rfl, h8, en, Or.inl ⟨h, rfl⟩⟩, pk_un (by decide), pk_un (by decide), rfl⟩
  · rintro av ws ws' v - ⟨hv, g, a, g', a', h1, h2, h3, h4, q1, q2, rfl⟩
    exact ⟨⟨hv, g, a', g', a', h1, h2, h3, h4⟩, mw_unW h1 (mw_eqV h2 q1 q2 rfl (fun _ _ => rfl))⟩
theorem hv_halfC (hxt : tk_xtok xt) {W : List (Nat × Nat)} (hK : KC l D xt ads 173 [0] [gn_i] W) : lw_sem l D xt gc_TY h3_X ads lw_twC 20 173 [0] [gn_i] (QC W (hvC false)) := by
  refine cx_sem (S := hvC false) (k := 3) hxt (by decide) hK (fun rest g l' a b R hr hin => ?_)
  obtain ⟨s, r0, rfl, k0⟩ := av_int hr
  obtain rfl := k0.nil
  obtain ⟨n, h8, en⟩ := nI_bd (x := g 26 7) (n := 8) hin.1.2.2.2.1 hin.1.2.2.2.2
  by_cases h : 0 < s.toInt ∧ s.toInt < 2 ^ n
  · obtain ⟨S, rfl, S0, S1⟩ := set_in h8 h
    exact ⟨.int _, _, l', a, b, Nat.zero_le 1, cx_of (hl_halfT en h8 S0 S1) (fun j hj => ⟨fm_un (by omega), rfl, rfl⟩), nI S, n, rfl, h8, en, Or.inr ⟨S, rfl, S0, S1, rfl⟩⟩
  · exact ⟨.int (-1), _, l', a, b, Nat.zero_le 1, cx_of (hl_halfF en h8 h) (fun j hj => ⟨fm_un (by omega), rfl, rfl⟩), s, n, rfl, h8, en, Or.inl ⟨h, rfl⟩⟩
theorem hv_halfM (hst : HS xt) : lw_sem l D xt gn_TY (gn_X lw_twM) ads lw_twM 11 342 [0] [gn_i] (fun av ws ws' v => QM (hvM false) av ws ws' v ∧ ∀ z ∈ mw_W, lw_at ws' z = lw_at ws z) := by
  refine lw_sem_imp (mx_sem (S := fun av g a g' a' v => hvM false av g a g' a' v ∧ g' 10 = g 10 ∧ g' 42 = g 42 ∧ a' = a) (k := 7) (n := 1) hst gn_M0_ms (fun g tp bt a b xs hx hI => ?_)) ?_
  · obtain ⟨s, xs0, rfl, hx0⟩ := fm_xsS hx
    obtain rfl := List.length_eq_zero_iff.mp hx0
    obtain ⟨n, h8, en⟩ := fm_B_0 hI.2.1 (i := 1) (n := 8) (by decide) rfl
    have hG : ∀ st : Int32, fm_ffr gn_M0 g a b (upd g 2 st) a b := fun st => ⟨fun k => by
      by_cases e : k = 2
      · subst e; exact Or.inl (List.mem_append_right _ (by decide))
      · exact Or.inr (pk_un e), fun t ht => Or.inr rfl, fun t => Or.inr rfl⟩
    by_cases h : 0 < s.toInt ∧ s.toInt < 2 ^ n
    · obtain ⟨S, rfl, S0, S1⟩ := set_in h8 h
      have hp2 : ∀ n, n ≤ 8 → 2 ^ n ≤ 256 := by decide
      have hp := hp2 n h8
      obtain ⟨q, q1, q2, q3⟩ := bM_some (wt := wtm a) (n := n) S0 (show S < 256 by omega)
      refine ⟨nI q, upd g 2 0, tp, bt, a, b, ?_, fm_I_u2 hI (by decide), hG 0, ⟨nI S, n, rfl, h8, en, Or.inr ⟨S, q, rfl, S0, S1, q1, rfl⟩⟩, pk_un (by decide), pk_un (by decide), rfl⟩
      have h := mh_halfT (g := g) (tp := tp) (bt := bt) (b := b) en h8 S0 S1
      rw [q1] at h
      exact h
    · exact ⟨-1, upd g 2 1, tp, bt, a, b, mh_halfF en h8 h, fm_I_u2 hI (by decide), hG 1, ⟨s, n, rfl, h8, en, Or.inl ⟨h, rfl⟩⟩, pk_un (by decide), pk_un (by decide), rfl⟩
  · rintro av ws ws' v - ⟨hv, g, a, g', a', h1, h2, h3, h4, q1, q2, rfl⟩
    exact ⟨⟨hv, g, a', g', a', h1, h2, h3, h4⟩, mw_unW h1 (mw_eqV h2 q1 q2 rfl (fun _ _ => rfl))⟩
end HVQ
