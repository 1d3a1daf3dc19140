section MH22_0
/-! ===== fx: ways and what is left as it was ===== -/
theorem fm_D_ok9 {a0 a p : Nat → Nat → Int32} {T : Nat} (hD : fm_D a0 a T) (h : fm_ok9 a p) : fm_D a0 p T := by
  obtain ⟨d1, d2, d3, d4, d5, d6⟩ := hD
  have e1 : p 1 = a 1 := h.1 1 (by decide)
  refine ⟨fun t ht => ?_, fun i h5 hd => by rw [e1]; exact d2 i h5 hd, fun i hd => fm_bd_eq (d3 i hd) (by rw [e1]), by rw [e1]; exact d4, d5, fm_bfs_bd h.2⟩
  rw [h.1 t (fun e => by subst e; exact absurd ht (by decide))]
  exact d1 t ht
theorem fm_D_sent {a0 a q : Nat → Nat → Int32} {T W : Nat} (hD : fm_D a0 a T) (hW : W < 8) (h : fm_sent a q W) : fm_D a0 q T := by
  obtain ⟨d1, d2, d3, d4, d5, d6⟩ := hD
  obtain ⟨s1, s2, s3⟩ := h
  refine ⟨fun t ht => ?_, fun i h5 hd => ?_, fun i hd => ?_, ?_, d5, s2⟩
  · rw [s1 t (fun e => by subst e; exact absurd ht (by decide)) (fun e => by subst e; exact absurd ht (by decide))]
    exact d1 t ht
  · rcases s3 i with e | ⟨e1, e2, -⟩ | ⟨e1, -⟩
    · rw [e]; exact d2 i h5 hd
    · rw [(gm_at_0rt i (by omega) (by omega)).2] at hd; cases hd
    · rw [e1, (gm_at_0w3 W hW).2] at hd; cases hd
  · rcases s3 i with e | ⟨e1, e2, c, hc, e⟩ | ⟨e1, n, hn, e⟩
    · exact fm_bd_eq (d3 i hd) e
    · unfold fm_bd
      rw [(gm_at_0rt i (by omega) (by omega)).1, e, nI_i32 (by omega)]
      exact ⟨by show (0 : Int) ≤ _; omega, by show _ ≤ (9 : Int); omega⟩
    · unfold fm_bd
      rw [e, e1, (gm_at_0w3 W hW).1, nI_i32 (by omega)]
      exact ⟨by show (0 : Int) ≤ _; omega, by show _ ≤ (20 : Int); omega⟩
  · rcases s3 5 with e | ⟨e1, -⟩ | ⟨e1, -⟩
    · rw [e]; exact d4
    · omega
    · omega
theorem fm_shlP : ∀ NC, NC ≤ 10 → ∃ P, P ≤ 1024 ∧ ((1 : Int32) <<< (nI NC &&& 31)) = nI P := fun NC h => by
  have : ∀ n, n < 11 → ((1 : Int32) <<< (nI n &&& 31)) = nI (2 ^ n) ∧ 2 ^ n ≤ 1024 := by decide
  obtain ⟨h1, h2⟩ := this NC (by omega)
  exact ⟨_, h2, h1⟩
theorem fm_lshl : ∀ n, n < 11 → (((1 : Int64) <<< ((nI n).toInt64 &&& 63)) - 1).toInt = 2 ^ n - 1 := by decide
theorem fm_bits_dec (x : Int32) (h : ¬ x = 0) : (x &&& (x - 1)).toBitVec.toNat < x.toBitVec.toNat := by
  have h0 : 0 < x.toBitVec.toNat := by
    rcases Nat.eq_zero_or_pos x.toBitVec.toNat with e | e
    · exact absurd (Int32.toBitVec_inj.mp (BitVec.eq_of_toNat_eq (by rw [e]; rfl))) h
    · exact e
  have h1 : (x - 1).toBitVec.toNat = x.toBitVec.toNat - 1 := by
    rw [Int32.toBitVec_sub, BitVec.toNat_sub]
    have hl := x.toBitVec.isLt
    rw [show (1 : Int32).toBitVec.toNat = 1 from rfl]
    omega
  have h2 : (x &&& (x - 1)).toBitVec.toNat ≤ (x - 1).toBitVec.toNat := by
    rw [Int32.toBitVec_and, BitVec.toNat_and]
    exact Nat.and_le_right
  omega
/-- a WAY is hewn, or shut -/
theorem fm_B_hew {a : Nat → Nat → Int32} (hB : fm_B a) {o t : Nat} (ho : o < 10) (ht : t < 10) (hne : ¬ o = t) : fm_B (fm_u (fm_u a 1 (10 + 6 * o) (a 1 (10 + 6 * o) ^^^ ((1 : Int32) <<< (nI t &&& 31)))) 1 (10 + 6 * t) ((fm_u a 1 (10 + 6 * o) (a 1 (10 + 6 * o) ^^^ ((1 : Int32) <<< (nI t &&& 31)))) 1 (10 + 6 * t) ^^^ ((1 : Int32) <<< (nI o &&& 31)))) := by
  obtain ⟨h1, ⟨h2, h3⟩, h4⟩ := hB
  have gc : ∀ c, c < 10 → gm_at (10 + 6 * c) = (0, 1023) := by decide
  have hv : ∀ c, c < 10 → ∃ m, m < 1024 ∧ a 1 (10 + 6 * c) = nI m := fun c hc => by
    obtain ⟨m, hm, e⟩ := fm_bd_n (n := 1023) (h1 (10 + 6 * c) (by omega)) (gc c hc)
    exact ⟨m, by omega, e⟩
  obtain ⟨mo, hmo, eo⟩ := hv o ho
  obtain ⟨mt, hmt, et⟩ := hv t ht
  generalize hA : fm_u (fm_u a 1 (10 + 6 * o) (a 1 (10 + 6 * o) ^^^ ((1 : Int32) <<< (nI t &&& 31)))) 1 (10 + 6 * t) ((fm_u a 1 (10 + 6 * o) (a 1 (10 + 6 * o) ^^^ ((1 : Int32) <<< (nI t &&& 31)))) 1 (10 + 6 * t) ^^^ ((1 : Int32) <<< (nI o &&& 31))) = A
  have v : ∀ i, A 1 i = if i = 10 + 6 * t then nI (mt ^^^ 2 ^ o) else if i = 10 + 6 * o then nI (mo ^^^ 2 ^ t) else a 1 i := fun i => by
    rw [← hA, fm_u1, fm_u1, if_neg (show ¬ 10 + 6 * t = 10 + 6 * o by omega), et, fm_xor_nat mt hmt o ho, fm_u1, eo, fm_xor_nat mo hmo t ht]
  have vt : ∀ s, s ≠ 1 → A s = a s := fun s hs => by rw [← hA, fm_ut hs, fm_ut hs]
  have hw : ∀ c, c < 10 → ∃ m m2, m < 1024 ∧ m2 < 1024 ∧ a 1 (10 + 6 * c) = nI m ∧ A 1 (10 + 6 * c) = nI m2 ∧ ∀ d, d < 10 → m2.testBit d = (m.testBit d ^^ ((decide (c = o) && decide (d = t)) || (decide (c = t) && decide (d = o)))) := fun c hc => by
    by_cases e1 : c = t
    · subst e1
      refine ⟨mt, mt ^^^ 2 ^ o, hmt, fm_xor_lt hmt ho, et, by rw [v, if_pos rfl], fun d hd => ?_⟩
      rw [Nat.testBit_xor, Nat.testBit_two_pow, decide_eq_true (rfl : c = c), decide_eq_false (show ¬ c = o from fun z => hne z.symm), Bool.false_and, Bool.false_or, Bool.true_and]
      congr 1
      exact decide_eq_decide.mpr ⟨fun z => z.symm, fun z => z.symm⟩
    · by_cases e2 : c = o
      · subst e2
        refine ⟨mo, mo ^^^ 2 ^ t, hmo, fm_xor_lt hmo ht, eo, by rw [v, if_neg (by omega), if_pos rfl], fun d hd => ?_⟩
        rw [Nat.testBit_xor, Nat.testBit_two_pow, decide_eq_true (rfl : c = c), decide_eq_false e1, Bool.false_and, Bool.or_false, Bool.true_and]
        congr 1
        exact decide_eq_decide.mpr ⟨fun z => z.symm, fun z => z.symm⟩
      · obtain ⟨m, hm, em⟩ := hv c hc
        refine ⟨m, m, hm, hm, em, by rw [v, if_neg (by omega), if_neg (by omega), em], fun d hd => ?_⟩
        rw [decide_eq_false e1, decide_eq_false e2, Bool.false_and, Bool.false_and, Bool.or_false, Bool.xor_false]
  refine ⟨fun i hi => ?_, ⟨fun s hs c d hc hd => ?_, fun s hs n hn => ?_⟩, fun i hi => by rw [vt 9 (by decide)]; exact h4 i hi⟩
  · unfold fm_bd
    rw [v]
    split
    · next e => rw [e, gc t ht, nI_i32 (by have := fm_xor_lt hmt ho; omega)]; have := fm_xor_lt hmt ho; exact ⟨by show (0 : Int) ≤ _; omega, by show _ ≤ (1023 : Int); omega⟩
    · split
      · next e => rw [e, gc o ho, nI_i32 (by have := fm_xor_lt hmo ht; omega)]; have := fm_xor_lt hmo ht; exact ⟨by show (0 : Int) ≤ _; omega, by show _ ≤ (1023 : Int); omega⟩
      · exact h1 i hi
  · have h9 := h2 s hs c d hc hd
    rcases Nat.eq_zero_or_pos s with rfl | h0
    · rw [show 842 * 0 + 10 + 6 * c = 10 + 6 * c by omega, show 842 * 0 + 10 + 6 * d = 10 + 6 * d by omega] at h9 ⊢
      obtain ⟨m, m2, hm, hm2, f0, f1, f2⟩ := hw c hc
      obtain ⟨k, k2, hk, hk2, g0, g1, g2⟩ := hw d hd
      rw [f1, g1, fm_b_nat m2 hm2 d hd, fm_b_nat k2 hk2 c hc, f2 d hd, g2 c hc]
      rw [f0, g0, fm_b_nat m hm d hd, fm_b_nat k hk c hc] at h9
      have h10 : m.testBit d = k.testBit c := by
        cases h1 : m.testBit d <;> cases h2 : k.testBit c <;> first | rfl | (rw [h1, h2] at h9; exact absurd h9 (by decide))
      rw [h10]
      congr 2
      rw [Bool.or_comm (decide (c = o) && decide (d = t)), Bool.and_comm (decide (c = t)), Bool.and_comm (decide (c = o))]
    · rw [v, v, if_neg (by omega), if_neg (by omega), if_neg (by omega), if_neg (by omega)]; exact h9
  · rw [v, if_neg (by omega), if_neg (by omega)] at hn
    have := h3 s hs n hn
    rw [v, v, if_neg (by omega), if_neg (by omega), if_neg (by omega), if_neg (by omega)]; exact this
/-- a slot is taken over by another -/
def fm_cpy (a a' : Nat → Nat → Int32) (s d : Nat) : Prop := (∀ t, t ≠ 1 → a' t = a t) ∧ (∀ i, ¬ (842 * d ≤ i ∧ i < 842 * d + 842) → a' 1 i = a 1 i) ∧ ∀ k, k < 842 → a' 1 (842 * d + k) = a 1 (842 * s + k)
theorem gm_at_s4eq : ∀ s, s < 4 → ∀ k, k < 842 → gm_at (842 * s + k) = gm_at k := by decide +kernel
theorem fm_B_cpy {a a' : Nat → Nat → Int32} {s d : Nat} (hB : fm_B a) (hs : s < 4) (hd : d < 4) (h : fm_cpy a a' s d) : fm_B a' := by
  obtain ⟨h1, ⟨h2, h3⟩, h4⟩ := hB
  obtain ⟨c1, c2, c3⟩ := h
  refine ⟨fun i hi => ?_, ⟨fun z hz c e hc he => ?_, fun z hz n hn => ?_⟩, fun i hi => by rw [c1 9 (by decide)]; exact h4 i hi⟩
  · by_cases hi2 : 842 * d ≤ i ∧ i < 842 * d + 842
    · obtain ⟨k, rfl⟩ := Nat.exists_eq_add_of_le hi2.1
      have := h1 (842 * s + k) (by omega)
      unfold fm_bd at this ⊢
      rw [c3 k (by omega), gm_at_s4eq d hd k (by omega), ← gm_at_s4eq s hs k (by omega)]
      exact this
    · exact fm_bd_eq (h1 i hi) (c2 i hi2)
  · by_cases hz2 : z = d
    · subst hz2
      have := h2 s (by omega) c e hc he
      rw [show 842 * z + 10 + 6 * c = 842 * z + (10 + 6 * c) by omega, show 842 * z + 10 + 6 * e = 842 * z + (10 + 6 * e) by omega, c3 _ (by omega), c3 _ (by omega), ← Nat.add_assoc, ← Nat.add_assoc]
      exact this
    · rw [c2 _ (by omega), c2 _ (by omega)]; exact h2 z hz c e hc he
  · by_cases hz2 : z = d
    · subst hz2
      rw [c3 6 (by omega)] at hn
      have hn6 : (n : Int) < 60 := by
        have := (h1 (842 * s + 6) (by omega)).2
        rw [gm_at_s4eq s hs 6 (by omega), show gm_at 6 = (-1, 60) from rfl] at this
        have h60 : (a 1 (842 * s + 6)).toInt ≤ 60 := this
        omega
      have := h3 s hs n hn
      rw [show 842 * z + 478 + 6 * n = 842 * z + (478 + 6 * n) by omega, show 842 * z + 479 + 6 * n = 842 * z + (479 + 6 * n) by omega, c3 _ (by omega), c3 _ (by omega), ← Nat.add_assoc, ← Nat.add_assoc]
      exact this
    · rw [c2 _ (by omega)] at hn
      have hn6 : (n : Int) < 60 := by
        have := (h1 (842 * z + 6) (by omega)).2
        rw [gm_at_s4eq z hz 6 (by omega), show gm_at 6 = (-1, 60) from rfl] at this
        have h60 : (a 1 (842 * z + 6)).toInt ≤ 60 := this
        omega
      have := h3 z hz n hn
      rw [c2 _ (by omega), c2 _ (by omega)]; exact this
theorem fm_E_f9 {a p : Nat → Nat → Int32} (hB : fm_B a) (h : fm_f9 a p) : fm_E a p := ⟨fm_B_eq hB (fun i => by rw [h.1 1 (by decide)]) h.2, fun t ht => h.1 t (fun e => by subst e; exact absurd ht (by decide)), fun i _ => by rw [h.1 1 (by decide)]⟩
theorem fm_B_t {a : Nat → Nat → Int32} (hB : fm_B a) : fm_t a := by
  obtain ⟨T, h1, h2⟩ := fm_T5 hB
  exact fm_D_t hB (fm_D_rf hB h2 (by omega))
theorem fm_B_sym {a : Nat → Nat → Int32} (hB : fm_B a) : fm_sym a := by
  obtain ⟨T, h1, h2⟩ := fm_T5 hB
  exact fm_D_sym hB (fm_D_rf hB h2 (by omega))
section FPW
variable {g : Nat → Int32} {tp bt : Int64} {a : Nat → Nat → Int32} {b : Nat → Nat → Int64}
theorem fr_wayAtP {w c k : Int32} (hBa : fm_B a) (hgb : fm_gb g) : ∃ (v : Option Value) (mem' : fx_M), fm_PO g tp bt a b (v, mem') ∧ fr_T 8 311 [.ref 0, .int w, .int c, .int k] (fm g tp bt a b) v mem' := by
  obtain ⟨v, mem', ⟨x, s, p, h1, h2, h3, h4, hR⟩, hfr⟩ := fr_wayAt (g := g) (tp := tp) (bt := bt) (b := b) (w := w) (c := c) (k := k) (fm_B_t hBa) (fm_B_sym hBa) hBa.2.2
  exact ⟨v, mem', ⟨x, _, _, _, p, b, fm_E_f9 hBa h4, fm_G_2 (fm_G_rf hgb) h2 h3, fun _ _ _ => rfl, hR⟩, hfr⟩
theorem fr_surestAtP {w c k : Int32} (hBa : fm_B a) (hgb : fm_gb g) : ∃ (v : Option Value) (mem' : fx_M), fm_PO g tp bt a b (v, mem') ∧ fr_T 9 317 [.ref 0, .int w, .int c, .int k] (fm g tp bt a b) v mem' := by
  obtain ⟨v, mem', ⟨x, s, y, p, g', h1, h2, h3, h4, h5, hR⟩, hfr⟩ := fr_surestAt (g := g) (tp := tp) (bt := bt) (b := b) (w := w) (c := c) (k := k) (fm_B_t hBa) (fm_B_sym hBa) hBa.2.2
  refine ⟨v, mem', ⟨x, _, _, _, p, b, fm_E_f9 hBa h4, fm_G_2 ?_ h2 h3, fun _ _ _ => rfl, hR⟩, hfr⟩
  rcases h5 with rfl | rfl
  · exact fm_G_rf hgb
  · exact fm_G_f (fm_G_rf hgb) (Or.inl rfl)
end FPW
end MH22_0
section MH22_1
/-! ===== fx: ways: sends, far, cut ===== -/
section FSE
variable {g : Nat → Int32} {tp bt : Int64} {a0 a : Nat → Nat → Int32} {b : Nat → Nat → Int64}
theorem fr_bits {x : Int32} {mem : fx_M} : ∃ v : Int32, fr_T 1 261 [.int x] mem (some (.int v)) mem := by
  have main : ∃ (v : Option Value) (mem' : fx_M), (fun R => ∃ v : Int32, R = (some (.int v), mem)) (v, mem') ∧ fr_T 1 261 [.int x] mem v mem' := by
    refine fe_meth (F := fun R => ∃ v : Int32, R = (some (.int v), mem)) (M := gk_m261) (by rfl) (by rfl) ?_
    have loop : ∀ (r : Nat) (k n : Int32), k.toBitVec.toNat < r → fe_R 0 gk_m261 4 [(2, .int k), (1, .int n), (0, .int x)] [] mem (fun R => ∃ v : Int32, R = (some (.int v), mem)) := by
      intro r
      induction r with
      | zero => intro k n h; exact absurd h (Nat.not_lt_zero _)
      | succ r ih =>
        intro k n h
        refine fe_s 1 (pc' := 5) (lc' := [(2, .int k), (1, .int n), (0, .int x)]) (stk' := [.int k]) (mem' := mem) (fun _ _ _ => rfl) ?_
        refine fe_s 1 (pc' := cond (fx_cb .eq k 0) 20 8) (lc' := [(2, .int k), (1, .int n), (0, .int x)]) (stk' := []) (mem' := mem) (fun _ _ _ => rfl) ?_
        by_cases e : k = 0
        · rw [show fx_cb .eq k 0 = true from decide_eq_true e]
          dsimp only [cond]
          refine fe_s 1 (pc' := 21) (lc' := [(2, .int k), (1, .int n), (0, .int x)]) (stk' := [.int n]) (mem' := mem) (fun _ _ _ => rfl) ?_
          exact fe_ret ⟨_, rfl⟩ (by rfl) (by rfl) (by rfl)
        · rw [show fx_cb .eq k 0 = false from decide_eq_false e]
          dsimp only [cond]
          refine fe_s 8 (pc' := 4) (lc' := [(2, .int (k &&& (k - 1))), (1, .int (n + 1)), (0, .int x)]) (stk' := []) (mem' := mem) (fun _ _ _ => rfl) ?_
          exact ih _ _ (by have := fm_bits_dec k e; omega)
    refine fe_s 4 (pc' := 4) (lc' := [(2, .int x), (1, .int 0), (0, .int x)]) (stk' := []) (mem' := mem) (fun _ _ _ => rfl) ?_
    exact loop _ x 0 (Nat.lt_succ_self _)
  obtain ⟨v, mem', ⟨y, hR⟩, h⟩ := main
  cases hR
  exact ⟨y, h⟩
theorem fr_send {w t0 n0 : Int32} (hBa : fm_B a) (hgb : fm_gb g) : ∃ (v : Option Value) (mem' : fx_M), (fm_PO g tp bt a b) (v, mem') ∧ fr_T 9 289 [.ref 0, .int w, .int t0, .int n0] (fm g tp bt a b) v mem' := by
  have hG := fm_G_rf hgb
  have hB := hBa
  obtain ⟨NC, hNC, eNC⟩ := fm_B_0 hB (i := 0) (n := 10) (by decide) rfl
  obtain ⟨NW, hNW, eNW⟩ := fm_B_0 hB (i := 1) (n := 8) (by decide) rfl
  obtain ⟨NG, hNG, eNG⟩ := fm_B_0 hB (i := 3) (n := 20) (by decide) rfl
  obtain ⟨T, hT9, eT⟩ := fm_T5 hB
  have hD : fm_D a a T := fm_D_rf hB eT (by omega)
  refine fe_meth (F := fm_PO g tp bt a b) (M := gk_m289) (by rfl) (by rfl) ?_
  refine fe_s 2 (pc' := 2) (lc' := [(0, .ref 0), (1, .int w), (2, .int t0), (3, .int n0)]) (stk' := [.int w, .ref 0]) (mem' := fm g tp bt a b) (fun _ _ _ => rfl) ?_
  obtain ⟨vw1, memw1, ⟨xw1, hxw1, hRw1⟩, hfrw1⟩ := fr_isWalker (w := w) (g := g) (tp := tp) (bt := bt) (b := b) (fm_D_t hB hD)
  cases hRw1
  refine fe_ivV hfrw1 (by omega) (by rfl) (by rfl) (by rfl) (by rfl) (by rfl) (by rfl) ?_
  rcases hxw1 with rfl | ⟨rfl, Ww1, hWw1, rfl⟩
  · refine fe_s 1 (pc' := cond (fx_cb .eq 0 0) 19 8) (lc' := [(0, .ref 0), (1, .int w), (2, .int t0), (3, .int n0)]) (stk' := []) (mem' := fm g tp bt a b) (fun _ _ _ => rfl) ?_
    rw [show (fx_cb .eq 0 0) = true from by decide]
    dsimp only [cond]
    refine fe_s 3 (pc' := 24) (lc' := [(4, .int 1), (0, .ref 0), (1, .int w), (2, .int t0), (3, .int n0)]) (stk' := [.int 1]) (mem' := fm g tp bt a b) (fun _ _ _ => rfl) ?_
    refine fe_s 1 (pc' := cond (fx_cb .le 1 0) 34 27) (lc' := [(4, .int 1), (0, .ref 0), (1, .int w), (2, .int t0), (3, .int n0)]) (stk' := []) (mem' := fm g tp bt a b) (fun _ _ _ => rfl) ?_
    rw [show (fx_cb .le 1 0) = false from by decide]
    dsimp only [cond]
    refine fe_s 2 (pc' := 30) (lc' := [(4, .int 1), (0, .ref 0), (1, .int w), (2, .int t0), (3, .int n0)]) (stk' := [.int 1, .ref 0]) (mem' := fm g tp bt a b) (fun _ _ _ => rfl) ?_
    refine fe_ivV (fr_refuse (x := 1)) (by omega) (by rfl) (by rfl) (by rfl) (by rfl) (by rfl) (by rfl) ?_
    exact fe_ret ⟨_, _, _, _, _, _, (fm_E_rf hBa), (fm_G_2 hG (by decide) (by decide)), (fun _ _ _ => rfl), rfl⟩ (by rfl) (by rfl) (by rfl)
  · refine fe_s 1 (pc' := cond (fx_cb .eq 1 0) 19 8) (lc' := [(0, .ref 0), (1, .int (nI Ww1)), (2, .int t0), (3, .int n0)]) (stk' := []) (mem' := fm g tp bt a b) (fun _ _ _ => rfl) ?_
    rw [show (fx_cb .eq 1 0) = false from by decide]
    dsimp only [cond]
    refine fe_s 4 (pc' := 13) (lc' := [(0, .ref 0), (1, .int (nI Ww1)), (2, .int t0), (3, .int n0)]) (stk' := [.int 20, .int n0, .int t0, .ref 0]) (mem' := fm g tp bt a b) (fun _ _ _ => rfl) ?_
    obtain ⟨vu2, memu2, ⟨uu2, huu2, h0u2, hRu2⟩, hfru2⟩ := fr_wrongTray (tray := t0) (nn := n0) (M := 20) (g := g) (tp := tp) (bt := bt) (a := a) (b := b) (by omega) ((fm_D_h hD (by decide) rfl).trans eNC) hNC
    cases hRu2
    refine fe_ivV hfru2 (by omega) (by rfl) (by rfl) (by rfl) (by rfl) (by rfl) (by rfl) ?_
    refine fe_s 3 (pc' := 24) (lc' := [(4, .int (nI uu2)), (0, .ref 0), (1, .int (nI Ww1)), (2, .int t0), (3, .int n0)]) (stk' := [.int (nI uu2)]) (mem' := fm g tp bt a b) (fun _ _ _ => rfl) ?_
    refine fe_s 1 (pc' := cond (fx_cb .le (nI uu2) 0) 34 27) (lc' := [(4, .int (nI uu2)), (0, .ref 0), (1, .int (nI Ww1)), (2, .int t0), (3, .int n0)]) (stk' := []) (mem' := fm g tp bt a b) (fun _ _ _ => rfl) ?_
    by_cases h3 : uu2 ≤ 0
    · rw [show (fx_cb .le (nI uu2) 0) = true from cb_leT (a := uu2) (b := 0) (by omega) (by omega) (by omega)]
      dsimp only [cond]
      obtain ⟨t, n, rfl, rfl, ht, hn1, hn, hc⟩ := h0u2 (by omega)
      refine fe_s 2 (pc' := 36) (lc' := [(4, .int (nI uu2)), (0, .ref 0), (1, .int (nI Ww1)), (2, .int (nI t)), (3, .int (nI n))]) (stk' := [.int (nI Ww1), .ref 0]) (mem' := fm g tp bt a b) (fun _ _ _ => rfl) ?_
      obtain ⟨v4, z5, hv4⟩ := fq_isWet (V := Ww1) (g := g) (tp := tp) (bt := bt) (a := a) (b := b) (by omega)
      refine fe_ivV hv4 (by omega) (by rfl) (by rfl) (by rfl) (by rfl) (by rfl) (by rfl) ?_
      rcases z5 with rfl | rfl
      · refine fe_s 1 (pc' := cond (fx_cb .ne 0 0) 64 42) (lc' := [(4, .int (nI uu2)), (0, .ref 0), (1, .int (nI Ww1)), (2, .int (nI t)), (3, .int (nI n))]) (stk' := []) (mem' := fm g tp bt a b) (fun _ _ _ => rfl) ?_
        rw [show (fx_cb .ne 0 0) = false from by decide]
        dsimp only [cond]
        refine fe_s 2 (pc' := 44) (lc' := [(4, .int (nI uu2)), (0, .ref 0), (1, .int (nI Ww1)), (2, .int (nI t)), (3, .int (nI n))]) (stk' := [.int (nI Ww1), .ref 0]) (mem' := fm g tp bt a b) (fun _ _ _ => rfl) ?_
        refine fe_ivV (fr_leftOfX (V := Ww1) (g := g) (tp := tp) (bt := bt) (a := a) (b := b) (by omega)) (by omega) (by rfl) (by rfl) (by rfl) (by rfl) (by rfl) (by rfl) ?_
        obtain ⟨l6, hl6, el6⟩ := fm_D_w3 hD (W := Ww1) (by omega)
        rw [el6]
        refine fe_s 1 (pc' := cond (fx_cb .gt (nI l6) 0) 64 50) (lc' := [(4, .int (nI uu2)), (0, .ref 0), (1, .int (nI Ww1)), (2, .int (nI t)), (3, .int (nI n))]) (stk' := []) (mem' := fm g tp bt a b) (fun _ _ _ => rfl) ?_
        by_cases h7 : 0 < l6
        · rw [show (fx_cb .gt (nI l6) 0) = true from cb_gtT (a := l6) (b := 0) (by omega) (by omega) (by omega)]
          dsimp only [cond]
          refine fe_s 2 (pc' := 67) (lc' := [(4, .int (nI uu2)), (0, .ref 0), (1, .int (nI Ww1)), (2, .int (nI t)), (3, .int (nI n))]) (stk' := [.int 7, .ref 0]) (mem' := fm g tp bt a b) (fun _ _ _ => rfl) ?_
          refine fe_ivV (fr_refuse (x := 7)) (by omega) (by rfl) (by rfl) (by rfl) (by rfl) (by rfl) (by rfl) ?_
          exact fe_ret ⟨_, _, _, _, _, _, (fm_E_rf hBa), (fm_G_2 hG (by decide) (by decide)), (fun _ _ _ => rfl), rfl⟩ (by rfl) (by rfl) (by rfl)
        · rw [show (fx_cb .gt (nI l6) 0) = false from cb_gtF (a := l6) (b := 0) (by omega) (by omega) (by omega)]
          dsimp only [cond]
          refine fe_s 3 (pc' := 53) (lc' := [(4, .int (nI uu2)), (0, .ref 0), (1, .int (nI Ww1)), (2, .int (nI t)), (3, .int (nI n))]) (stk' := [.int (nI Ww1), .ref 0, .ref 0]) (mem' := fm g tp bt a b) (fun _ _ _ => rfl) ?_
          refine fe_ivV (fr_whereOf (W := Ww1) (g := g) (tp := tp) (bt := bt) (a := a) (b := b) (by omega)) (by omega) (by rfl) (by rfl) (by rfl) (by rfl) (by rfl) (by rfl) ?_
          obtain ⟨l8, hl8, el8⟩ := fm_D_w1 hD (W := Ww1) (by omega)
          rw [el8]
          refine fe_s 2 (pc' := 58) (lc' := [(4, .int (nI uu2)), (0, .ref 0), (1, .int (nI Ww1)), (2, .int (nI t)), (3, .int (nI n))]) (stk' := [.int (nI n), .int (nI t), .int (nI l8), .ref 0]) (mem' := fm g tp bt a b) (fun _ _ _ => rfl) ?_
          obtain ⟨vr9, memr9, ⟨xr9, hxr9, ar9, hDr9, hRr9⟩, hfrr9⟩ := fr_isRoute (X := l8) (t := t) (n := n) (g := g) (tp := tp) (bt := bt) (a := a) (b := b) hB hD (by omega) (by omega) (by omega) hc
          cases hRr9
          refine fe_ivV hfrr9 (by omega) (by rfl) (by rfl) (by rfl) (by rfl) (by rfl) (by rfl) ?_
          rcases hxr9 with rfl | rfl
          · refine fe_s 1 (pc' := cond (fx_cb .ne 0 0) 71 64) (lc' := [(4, .int (nI uu2)), (0, .ref 0), (1, .int (nI Ww1)), (2, .int (nI t)), (3, .int (nI n))]) (stk' := []) (mem' := fm g tp bt ar9 b) (fun _ _ _ => rfl) ?_
            rw [show (fx_cb .ne 0 0) = false from by decide]
            dsimp only [cond]
            refine fe_s 2 (pc' := 67) (lc' := [(4, .int (nI uu2)), (0, .ref 0), (1, .int (nI Ww1)), (2, .int (nI t)), (3, .int (nI n))]) (stk' := [.int 7, .ref 0]) (mem' := fm g tp bt ar9 b) (fun _ _ _ => rfl) ?_
            refine fe_ivV (fr_refuse (x := 7)) (by omega) (by rfl) (by rfl) (by rfl) (by rfl) (by rfl) (by rfl) ?_
            exact fe_ret ⟨_, _, _, _, _, _, fm_E_D hB hDr9 (by omega), (fm_G_2 hG (by decide) (by decide)), (fun _ _ _ => rfl), rfl⟩ (by rfl) (by rfl) (by rfl)
          · refine fe_s 1 (pc' := cond (fx_cb .ne 1 0) 71 64) (lc' := [(4, .int (nI uu2)), (0, .ref 0), (1, .int (nI Ww1)), (2, .int (nI t)), (3, .int (nI n))]) (stk' := []) (mem' := fm g tp bt ar9 b) (fun _ _ _ => rfl) ?_
            rw [show (fx_cb .ne 1 0) = true from by decide]
            dsimp only [cond]
            refine fe_s 4 (pc' := 75) (lc' := [(4, .int (nI uu2)), (0, .ref 0), (1, .int (nI Ww1)), (2, .int (nI t)), (3, .int (nI n))]) (stk' := [.int (nI n), .int (nI t), .int (nI Ww1), .ref 0]) (mem' := fm g tp bt ar9 b) (fun _ _ _ => rfl) ?_
            obtain ⟨vd10, memd10, ⟨ad10, hDd10, hRd10⟩, hfrd10⟩ := fr_sets (W := Ww1) (t := t) (n := n) (g := g) (tp := tp) (bt := bt) (a := ar9) (b := b) hB hDr9 (by omega) (by omega) (by omega) hc
            cases hRd10
            refine fe_ivV hfrd10 (by omega) (by rfl) (by rfl) (by rfl) (by rfl) (by rfl) (by rfl) ?_
            refine fe_s 2 (pc' := 80) (lc' := [(4, .int (nI uu2)), (0, .ref 0), (1, .int (nI Ww1)), (2, .int (nI t)), (3, .int (nI n))]) (stk' := [.int (nI n), .ref 0]) (mem' := fm g tp bt ad10 b) (fun _ _ _ => rfl) ?_
            refine fe_ivV (fr_gives (x := nI n)) (by omega) (by rfl) (by rfl) (by rfl) (by rfl) (by rfl) (by rfl) ?_
            exact fe_ret ⟨_, _, _, _, _, _, fm_E_D hB hDd10 (by omega), (fm_G_2 hG (by decide) (by decide)), (fun _ _ _ => rfl), rfl⟩ (by rfl) (by rfl) (by rfl)
      · refine fe_s 1 (pc' := cond (fx_cb .ne 1 0) 64 42) (lc' := [(4, .int (nI uu2)), (0, .ref 0), (1, .int (nI Ww1)), (2, .int (nI t)), (3, .int (nI n))]) (stk' := []) (mem' := fm g tp bt a b) (fun _ _ _ => rfl) ?_
        rw [show (fx_cb .ne 1 0) = true from by decide]
        dsimp only [cond]
        refine fe_s 2 (pc' := 67) (lc' := [(4, .int (nI uu2)), (0, .ref 0), (1, .int (nI Ww1)), (2, .int (nI t)), (3, .int (nI n))]) (stk' := [.int 7, .ref 0]) (mem' := fm g tp bt a b) (fun _ _ _ => rfl) ?_
        refine fe_ivV (fr_refuse (x := 7)) (by omega) (by rfl) (by rfl) (by rfl) (by rfl) (by rfl) (by rfl) ?_
        exact fe_ret ⟨_, _, _, _, _, _, (fm_E_rf hBa), (fm_G_2 hG (by decide) (by decide)), (fun _ _ _ => rfl), rfl⟩ (by rfl) (by rfl) (by rfl)
    · rw [show (fx_cb .le (nI uu2) 0) = false from cb_leF (a := uu2) (b := 0) (by omega) (by omega) (by omega)]
      dsimp only [cond]
      refine fe_s 2 (pc' := 30) (lc' := [(4, .int (nI uu2)), (0, .ref 0), (1, .int (nI Ww1)), (2, .int t0), (3, .int n0)]) (stk' := [.int (nI uu2), .ref 0]) (mem' := fm g tp bt a b) (fun _ _ _ => rfl) ?_
      refine fe_ivV (fr_refuse (x := nI uu2)) (by omega) (by rfl) (by rfl) (by rfl) (by rfl) (by rfl) (by rfl) ?_
      exact fe_ret ⟨_, _, _, _, _, _, (fm_E_rf hBa), (fm_G_2 hG (by rw [nI_i32 (by omega)]; omega) (by rw [nI_i32 (by omega)]; omega)), (fun _ _ _ => rfl), rfl⟩ (by rfl) (by rfl) (by rfl)
theorem fr_sendTo {w c : Int32} (hBa : fm_B a) (hgb : fm_gb g) : ∃ (v : Option Value) (mem' : fx_M), (fm_PO g tp bt a b) (v, mem') ∧ fr_T 10 291 [.ref 0, .int w, .int c] (fm g tp bt a b) v mem' := by
  have hG := fm_G_rf hgb
  have hB := hBa
  obtain ⟨NC, hNC, eNC⟩ := fm_B_0 hB (i := 0) (n := 10) (by decide) rfl
  obtain ⟨NW, hNW, eNW⟩ := fm_B_0 hB (i := 1) (n := 8) (by decide) rfl
  obtain ⟨NG, hNG, eNG⟩ := fm_B_0 hB (i := 3) (n := 20) (by decide) rfl
  obtain ⟨T, hT9, eT⟩ := fm_T5 hB
  have hD : fm_D a a T := fm_D_rf hB eT (by omega)
  refine fe_meth (F := fm_PO g tp bt a b) (M := gk_m291) (by rfl) (by rfl) ?_
  refine fe_s 3 (pc' := 3) (lc' := [(0, .ref 0), (1, .int w), (2, .int c)]) (stk' := [.int c, .int w, .ref 0]) (mem' := fm g tp bt a b) (fun _ _ _ => rfl) ?_
  obtain ⟨vw1, memw1, ⟨xw1, hxw1, hRw1⟩, hfrw1⟩ := fr_areBoth (w := w) (c := c) (g := g) (tp := tp) (bt := bt) (b := b) (fm_D_t hB hD)
  cases hRw1
  refine fe_ivV hfrw1 (by omega) (by rfl) (by rfl) (by rfl) (by rfl) (by rfl) (by rfl) ?_
  rcases hxw1 with rfl | ⟨rfl, Ww1, hWw1, rfl⟩
  · refine fe_s 1 (pc' := cond (fx_cb .eq 0 0) 18 9) (lc' := [(0, .ref 0), (1, .int w), (2, .int c)]) (stk' := []) (mem' := fm g tp bt a b) (fun _ _ _ => rfl) ?_
    rw [show (fx_cb .eq 0 0) = true from by decide]
    dsimp only [cond]
    refine fe_s 3 (pc' := 21) (lc' := [(3, .int 1), (0, .ref 0), (1, .int w), (2, .int c)]) (stk' := [.int 1]) (mem' := fm g tp bt a b) (fun _ _ _ => rfl) ?_
    refine fe_s 1 (pc' := cond (fx_cb .le 1 0) 32 24) (lc' := [(3, .int 1), (0, .ref 0), (1, .int w), (2, .int c)]) (stk' := []) (mem' := fm g tp bt a b) (fun _ _ _ => rfl) ?_
    rw [show (fx_cb .le 1 0) = false from by decide]
    dsimp only [cond]
    refine fe_s 2 (pc' := 26) (lc' := [(3, .int 1), (0, .ref 0), (1, .int w), (2, .int c)]) (stk' := [.int 1, .ref 0]) (mem' := fm g tp bt a b) (fun _ _ _ => rfl) ?_
    refine fe_ivV (fr_refuse (x := 1)) (by omega) (by rfl) (by rfl) (by rfl) (by rfl) (by rfl) (by rfl) ?_
    refine fe_s 1 (pc' := 41) (lc' := [(3, .int 1), (0, .ref 0), (1, .int w), (2, .int c)]) (stk' := [.int (-1)]) (mem' := fm (upd g 2 1) tp bt a b) (fun _ _ _ => rfl) ?_
    exact fe_ret ⟨_, _, _, _, _, _, (fm_E_rf hBa), (fm_G_2 hG (by decide) (by decide)), (fun _ _ _ => rfl), rfl⟩ (by rfl) (by rfl) (by rfl)
  · refine fe_s 1 (pc' := cond (fx_cb .eq 1 0) 18 9) (lc' := [(0, .ref 0), (1, .int (nI Ww1)), (2, .int c)]) (stk' := []) (mem' := fm g tp bt a b) (fun _ _ _ => rfl) ?_
    rw [show (fx_cb .eq 1 0) = false from by decide]
    dsimp only [cond]
    refine fe_s 3 (pc' := 12) (lc' := [(0, .ref 0), (1, .int (nI Ww1)), (2, .int c)]) (stk' := [.int c, .int (nI Ww1), .ref 0]) (mem' := fm g tp bt a b) (fun _ _ _ => rfl) ?_
    obtain ⟨ve2, meme2, ⟨xe2, qe2, hxe2, hRe2, hse2⟩, hfre2⟩ := fr_sends (g := g) (tp := tp) (bt := bt) (b := b) (W := Ww1) (to := c) (fm_D_t hB hD) (fm_D_sym hB hD) hD.2.2.2.2.2 (by omega)
    cases hRe2
    have hDe2 := fm_D_sent hD (by omega) hse2
    refine fe_ivV hfre2 (by omega) (by rfl) (by rfl) (by rfl) (by rfl) (by rfl) (by rfl) ?_
    rcases hxe2 with rfl | rfl | rfl
    · refine fe_s 3 (pc' := 21) (lc' := [(3, .int 0), (0, .ref 0), (1, .int (nI Ww1)), (2, .int c)]) (stk' := [.int 0]) (mem' := fm g tp bt qe2 b) (fun _ _ _ => rfl) ?_
      refine fe_s 1 (pc' := cond (fx_cb .le 0 0) 32 24) (lc' := [(3, .int 0), (0, .ref 0), (1, .int (nI Ww1)), (2, .int c)]) (stk' := []) (mem' := fm g tp bt qe2 b) (fun _ _ _ => rfl) ?_
      rw [show (fx_cb .le 0 0) = true from by decide]
      dsimp only [cond]
      refine fe_s 3 (pc' := 35) (lc' := [(3, .int 0), (0, .ref 0), (1, .int (nI Ww1)), (2, .int c)]) (stk' := [.int (nI Ww1), .ref 0, .ref 0]) (mem' := fm g tp bt qe2 b) (fun _ _ _ => rfl) ?_
      refine fe_ivV (fr_leftOfX (V := Ww1) (g := g) (tp := tp) (bt := bt) (a := qe2) (b := b) (by omega)) (by omega) (by rfl) (by rfl) (by rfl) (by rfl) (by rfl) (by rfl) ?_
      obtain ⟨l3, hl3, el3⟩ := fm_D_w3 hDe2 (W := Ww1) (by omega)
      rw [el3]
      refine fe_ivV (fr_gives (x := nI l3)) (by omega) (by rfl) (by rfl) (by rfl) (by rfl) (by rfl) (by rfl) ?_
      exact fe_ret ⟨_, _, _, _, _, _, fm_E_D hB hDe2 (by omega), (fm_G_2 hG (by decide) (by decide)), (fun _ _ _ => rfl), rfl⟩ (by rfl) (by rfl) (by rfl)
    · refine fe_s 3 (pc' := 21) (lc' := [(3, .int 6), (0, .ref 0), (1, .int (nI Ww1)), (2, .int c)]) (stk' := [.int 6]) (mem' := fm g tp bt qe2 b) (fun _ _ _ => rfl) ?_
      refine fe_s 1 (pc' := cond (fx_cb .le 6 0) 32 24) (lc' := [(3, .int 6), (0, .ref 0), (1, .int (nI Ww1)), (2, .int c)]) (stk' := []) (mem' := fm g tp bt qe2 b) (fun _ _ _ => rfl) ?_
      rw [show (fx_cb .le 6 0) = false from by decide]
      dsimp only [cond]
      refine fe_s 2 (pc' := 26) (lc' := [(3, .int 6), (0, .ref 0), (1, .int (nI Ww1)), (2, .int c)]) (stk' := [.int 6, .ref 0]) (mem' := fm g tp bt qe2 b) (fun _ _ _ => rfl) ?_
      refine fe_ivV (fr_refuse (x := 6)) (by omega) (by rfl) (by rfl) (by rfl) (by rfl) (by rfl) (by rfl) ?_
      refine fe_s 1 (pc' := 41) (lc' := [(3, .int 6), (0, .ref 0), (1, .int (nI Ww1)), (2, .int c)]) (stk' := [.int (-1)]) (mem' := fm (upd g 2 6) tp bt qe2 b) (fun _ _ _ => rfl) ?_
      exact fe_ret ⟨_, _, _, _, _, _, fm_E_D hB hDe2 (by omega), (fm_G_2 hG (by decide) (by decide)), (fun _ _ _ => rfl), rfl⟩ (by rfl) (by rfl) (by rfl)
    · refine fe_s 3 (pc' := 21) (lc' := [(3, .int 7), (0, .ref 0), (1, .int (nI Ww1)), (2, .int c)]) (stk' := [.int 7]) (mem' := fm g tp bt qe2 b) (fun _ _ _ => rfl) ?_
      refine fe_s 1 (pc' := cond (fx_cb .le 7 0) 32 24) (lc' := [(3, .int 7), (0, .ref 0), (1, .int (nI Ww1)), (2, .int c)]) (stk' := []) (mem' := fm g tp bt qe2 b) (fun _ _ _ => rfl) ?_
      rw [show (fx_cb .le 7 0) = false from by decide]
      dsimp only [cond]
      refine fe_s 2 (pc' := 26) (lc' := [(3, .int 7), (0, .ref 0), (1, .int (nI Ww1)), (2, .int c)]) (stk' := [.int 7, .ref 0]) (mem' := fm g tp bt qe2 b) (fun _ _ _ => rfl) ?_
      refine fe_ivV (fr_refuse (x := 7)) (by omega) (by rfl) (by rfl) (by rfl) (by rfl) (by rfl) (by rfl) ?_
      refine fe_s 1 (pc' := 41) (lc' := [(3, .int 7), (0, .ref 0), (1, .int (nI Ww1)), (2, .int c)]) (stk' := [.int (-1)]) (mem' := fm (upd g 2 7) tp bt qe2 b) (fun _ _ _ => rfl) ?_
      exact fe_ret ⟨_, _, _, _, _, _, fm_E_D hB hDe2 (by omega), (fm_G_2 hG (by decide) (by decide)), (fun _ _ _ => rfl), rfl⟩ (by rfl) (by rfl) (by rfl)
theorem fr_far {w c : Int32} (hBa : fm_B a) (hgb : fm_gb g) : ∃ (v : Option Value) (mem' : fx_M), (fm_PO g tp bt a b) (v, mem') ∧ fr_T 9 310 [.ref 0, .int w, .int c] (fm g tp bt a b) v mem' := by
  have hG := fm_G_rf hgb
  have hB := hBa
  obtain ⟨NC, hNC, eNC⟩ := fm_B_0 hB (i := 0) (n := 10) (by decide) rfl
  obtain ⟨NW, hNW, eNW⟩ := fm_B_0 hB (i := 1) (n := 8) (by decide) rfl
  obtain ⟨NG, hNG, eNG⟩ := fm_B_0 hB (i := 3) (n := 20) (by decide) rfl
  obtain ⟨T, hT9, eT⟩ := fm_T5 hB
  have hD : fm_D a a T := fm_D_rf hB eT (by omega)
  refine fe_meth (F := fm_PO g tp bt a b) (M := gk_m310) (by rfl) (by rfl) ?_
  refine fe_s 3 (pc' := 3) (lc' := [(0, .ref 0), (1, .int w), (2, .int c)]) (stk' := [.int c, .int w, .ref 0]) (mem' := fm g tp bt a b) (fun _ _ _ => rfl) ?_
  obtain ⟨vw1, memw1, ⟨xw1, hxw1, hRw1⟩, hfrw1⟩ := fr_areBoth (w := w) (c := c) (g := g) (tp := tp) (bt := bt) (b := b) (fm_D_t hB hD)
  cases hRw1
  refine fe_ivV hfrw1 (by omega) (by rfl) (by rfl) (by rfl) (by rfl) (by rfl) (by rfl) ?_
  rcases hxw1 with rfl | ⟨rfl, Ww1, hWw1, rfl⟩
  · refine fe_s 1 (pc' := cond (fx_cb .ne 0 0) 15 9) (lc' := [(0, .ref 0), (1, .int w), (2, .int c)]) (stk' := []) (mem' := fm g tp bt a b) (fun _ _ _ => rfl) ?_
    rw [show (fx_cb .ne 0 0) = false from by decide]
    dsimp only [cond]
    refine fe_s 2 (pc' := 11) (lc' := [(0, .ref 0), (1, .int w), (2, .int c)]) (stk' := [.int 1, .ref 0]) (mem' := fm g tp bt a b) (fun _ _ _ => rfl) ?_
    refine fe_ivV (fr_refuse (x := 1)) (by omega) (by rfl) (by rfl) (by rfl) (by rfl) (by rfl) (by rfl) ?_
    exact fe_ret ⟨_, _, _, _, _, _, (fm_E_rf hBa), (fm_G_2 hG (by decide) (by decide)), (fun _ _ _ => rfl), rfl⟩ (by rfl) (by rfl) (by rfl)
  · refine fe_s 1 (pc' := cond (fx_cb .ne 1 0) 15 9) (lc' := [(0, .ref 0), (1, .int (nI Ww1)), (2, .int c)]) (stk' := []) (mem' := fm g tp bt a b) (fun _ _ _ => rfl) ?_
    rw [show (fx_cb .ne 1 0) = true from by decide]
    dsimp only [cond]
    refine fe_s 5 (pc' := 20) (lc' := [(0, .ref 0), (1, .int (nI Ww1)), (2, .int c)]) (stk' := [.int (nI Ww1), .ref 0, .int c, .int (nI Ww1), .ref 0]) (mem' := fm g tp bt a b) (fun _ _ _ => rfl) ?_
    obtain ⟨v2, hv2⟩ := fq_bearers (W := Ww1) (g := g) (tp := tp) (bt := bt) (a := a) (b := b) (fm_D_t hB hD) (by omega)
    refine fe_ivV hv2 (by omega) (by rfl) (by rfl) (by rfl) (by rfl) (by rfl) (by rfl) ?_
    obtain ⟨Xy3, hXy3, eXy3⟩ := fm_D_w1 hD (W := Ww1) (by omega)
    obtain ⟨vy3, memy3, ⟨py3, hpy3, hRy3⟩, hfry3⟩ := fr_laysFar (g := g) (tp := tp) (bt := bt) (b := b) (to := c) (bby := v2) (W := Ww1) (by omega) eXy3 hXy3 ((fm_D_h hD (by decide) rfl).trans eNC) hNC
    cases hRy3
    have hDy3 := fm_D_ok9 hD hpy3
    refine fe_ivV hfry3 (by omega) (by rfl) (by rfl) (by rfl) (by rfl) (by rfl) (by rfl) ?_
    rcases hpy3.2 Xy3 hXy3 with ey3 | ⟨ny3, hny3, ey3, -⟩
    · rw [ey3]
      refine fe_s 3 (pc' := 31) (lc' := [(3, .int 1000000), (0, .ref 0), (1, .int (nI Ww1)), (2, .int c)]) (stk' := [.int 1000000, .int 1000000]) (mem' := fm g tp bt py3 b) (fun _ _ _ => rfl) ?_
      refine fe_s 1 (pc' := cond (fx_cb .ne 1000000 1000000) 43 34) (lc' := [(3, .int 1000000), (0, .ref 0), (1, .int (nI Ww1)), (2, .int c)]) (stk' := []) (mem' := fm g tp bt py3 b) (fun _ _ _ => rfl) ?_
      rw [show (fx_cb .ne 1000000 1000000) = false from by decide]
      dsimp only [cond]
      refine fe_s 2 (pc' := 37) (lc' := [(3, .int 1000000), (0, .ref 0), (1, .int (nI Ww1)), (2, .int c)]) (stk' := [.int 6, .ref 0]) (mem' := fm g tp bt py3 b) (fun _ _ _ => rfl) ?_
      refine fe_ivV (fr_refuse (x := 6)) (by omega) (by rfl) (by rfl) (by rfl) (by rfl) (by rfl) (by rfl) ?_
      refine fe_s 1 (pc' := 48) (lc' := [(3, .int 1000000), (0, .ref 0), (1, .int (nI Ww1)), (2, .int c)]) (stk' := [.int (-1)]) (mem' := fm (upd g 2 6) tp bt py3 b) (fun _ _ _ => rfl) ?_
      exact fe_ret ⟨_, _, _, _, _, _, fm_E_D hB hDy3 (by omega), (fm_G_2 hG (by decide) (by decide)), (fun _ _ _ => rfl), rfl⟩ (by rfl) (by rfl) (by rfl)
    · rw [ey3]
      refine fe_s 3 (pc' := 31) (lc' := [(3, .int (nI ny3)), (0, .ref 0), (1, .int (nI Ww1)), (2, .int c)]) (stk' := [.int 1000000, .int (nI ny3)]) (mem' := fm g tp bt py3 b) (fun _ _ _ => rfl) ?_
      refine fe_s 1 (pc' := cond (fx_cb .ne (nI ny3) 1000000) 43 34) (lc' := [(3, .int (nI ny3)), (0, .ref 0), (1, .int (nI Ww1)), (2, .int c)]) (stk' := []) (mem' := fm g tp bt py3 b) (fun _ _ _ => rfl) ?_
      rw [show (fx_cb .ne (nI ny3) 1000000) = true from cb_neT (a := ny3) (b := 1000000) (by omega) (by omega) (by omega)]
      dsimp only [cond]
      refine fe_s 2 (pc' := 45) (lc' := [(3, .int (nI ny3)), (0, .ref 0), (1, .int (nI Ww1)), (2, .int c)]) (stk' := [.int (nI ny3), .ref 0]) (mem' := fm g tp bt py3 b) (fun _ _ _ => rfl) ?_
      refine fe_ivV (fr_gives (x := nI ny3)) (by omega) (by rfl) (by rfl) (by rfl) (by rfl) (by rfl) (by rfl) ?_
      exact fe_ret ⟨_, _, _, _, _, _, fm_E_D hB hDy3 (by omega), (fm_G_2 hG (by decide) (by decide)), (fun _ _ _ => rfl), rfl⟩ (by rfl) (by rfl) (by rfl)
theorem fr_surest {w c : Int32} (hBa : fm_B a) (hgb : fm_gb g) : ∃ (v : Option Value) (mem' : fx_M), (fm_PO g tp bt a b) (v, mem') ∧ fr_T 10 315 [.ref 0, .int w, .int c] (fm g tp bt a b) v mem' := by
  have hG := fm_G_rf hgb
  have hB := hBa
  obtain ⟨NC, hNC, eNC⟩ := fm_B_0 hB (i := 0) (n := 10) (by decide) rfl
  obtain ⟨NW, hNW, eNW⟩ := fm_B_0 hB (i := 1) (n := 8) (by decide) rfl
  obtain ⟨NG, hNG, eNG⟩ := fm_B_0 hB (i := 3) (n := 20) (by decide) rfl
  obtain ⟨T, hT9, eT⟩ := fm_T5 hB
  have hD : fm_D a a T := fm_D_rf hB eT (by omega)
  refine fe_meth (F := fm_PO g tp bt a b) (M := gk_m315) (by rfl) (by rfl) ?_
  refine fe_s 3 (pc' := 3) (lc' := [(0, .ref 0), (1, .int w), (2, .int c)]) (stk' := [.int c, .int w, .ref 0]) (mem' := fm g tp bt a b) (fun _ _ _ => rfl) ?_
  obtain ⟨vw1, memw1, ⟨xw1, hxw1, hRw1⟩, hfrw1⟩ := fr_isAway (w := w) (c := c) (g := g) (tp := tp) (bt := bt) (b := b) (fm_D_t hB hD)
  cases hRw1
  refine fe_ivV hfrw1 (by omega) (by rfl) (by rfl) (by rfl) (by rfl) (by rfl) (by rfl) ?_
  rcases hxw1 with rfl | ⟨rfl, Ww1, hWw1, rfl⟩
  · refine fe_s 1 (pc' := cond (fx_cb .ne 0 0) 17 9) (lc' := [(0, .ref 0), (1, .int w), (2, .int c)]) (stk' := []) (mem' := fm g tp bt a b) (fun _ _ _ => rfl) ?_
    rw [show (fx_cb .ne 0 0) = false from by decide]
    dsimp only [cond]
    refine fe_s 2 (pc' := 11) (lc' := [(0, .ref 0), (1, .int w), (2, .int c)]) (stk' := [.int 1, .ref 0]) (mem' := fm g tp bt a b) (fun _ _ _ => rfl) ?_
    refine fe_ivV (fr_refuse (x := 1)) (by omega) (by rfl) (by rfl) (by rfl) (by rfl) (by rfl) (by rfl) ?_
    refine fe_s 1 (pc' := 43) (lc' := [(0, .ref 0), (1, .int w), (2, .int c)]) (stk' := [.int (-1)]) (mem' := fm (upd g 2 1) tp bt a b) (fun _ _ _ => rfl) ?_
    exact fe_ret ⟨_, _, _, _, _, _, (fm_E_rf hBa), (fm_G_2 hG (by decide) (by decide)), (fun _ _ _ => rfl), rfl⟩ (by rfl) (by rfl) (by rfl)
  · refine fe_s 1 (pc' := cond (fx_cb .ne 1 0) 17 9) (lc' := [(0, .ref 0), (1, .int (nI Ww1)), (2, .int c)]) (stk' := []) (mem' := fm g tp bt a b) (fun _ _ _ => rfl) ?_
    rw [show (fx_cb .ne 1 0) = true from by decide]
    dsimp only [cond]
    refine fe_s 3 (pc' := 20) (lc' := [(0, .ref 0), (1, .int (nI Ww1)), (2, .int c)]) (stk' := [.int c, .int (nI Ww1), .ref 0]) (mem' := fm g tp bt a b) (fun _ _ _ => rfl) ?_
    obtain ⟨ve2, meme2, ⟨xe2, ye2, pe2, hxe2, hpe2, hRe2⟩, hfre2⟩ := fr_laysSurest (g := g) (tp := tp) (bt := bt) (b := b) (W := Ww1) (to := c) (fm_D_t hB hD) (by omega)
    cases hRe2
    have hDe2 := fm_D_ok9 hD hpe2
    refine fe_ivV hfre2 (by omega) (by rfl) (by rfl) (by rfl) (by rfl) (by rfl) (by rfl) ?_
    rcases hxe2 with rfl | rfl
    · refine fe_s 1 (pc' := cond (fx_cb .eq 0 0) 37 26) (lc' := [(0, .ref 0), (1, .int (nI Ww1)), (2, .int c)]) (stk' := []) (mem' := fm (upd g 25 ye2) tp bt pe2 b) (fun _ _ _ => rfl) ?_
      rw [show (fx_cb .eq 0 0) = true from by decide]
      dsimp only [cond]
      refine fe_s 2 (pc' := 40) (lc' := [(0, .ref 0), (1, .int (nI Ww1)), (2, .int c)]) (stk' := [.int 6, .ref 0]) (mem' := fm (upd g 25 ye2) tp bt pe2 b) (fun _ _ _ => rfl) ?_
      refine fe_ivV (fr_refuse (x := 6)) (by omega) (by rfl) (by rfl) (by rfl) (by rfl) (by rfl) (by rfl) ?_
      exact fe_ret ⟨_, _, _, _, _, _, fm_E_D hB hDe2 (by omega), (fm_G_2 (fm_G_f hG (Or.inl rfl)) (by decide) (by decide)), (fun _ _ _ => rfl), rfl⟩ (by rfl) (by rfl) (by rfl)
    · refine fe_s 1 (pc' := cond (fx_cb .eq 1 0) 37 26) (lc' := [(0, .ref 0), (1, .int (nI Ww1)), (2, .int c)]) (stk' := []) (mem' := fm (upd g 25 ye2) tp bt pe2 b) (fun _ _ _ => rfl) ?_
      rw [show (fx_cb .eq 1 0) = false from by decide]
      dsimp only [cond]
      refine fe_s 3 (pc' := 31) (lc' := [(0, .ref 0), (1, .int (nI Ww1)), (2, .int c)]) (stk' := [.int ye2, .ref 0]) (mem' := fm (upd g 25 ye2) tp bt pe2 b) (fun _ _ _ => rfl) ?_
      refine fe_ivV (fr_gives (x := ye2)) (by omega) (by rfl) (by rfl) (by rfl) (by rfl) (by rfl) (by rfl) ?_
      refine fe_s 1 (pc' := 43) (lc' := [(0, .ref 0), (1, .int (nI Ww1)), (2, .int c)]) (stk' := [.int ye2]) (mem' := fm (upd (upd g 25 ye2) 2 0) tp bt pe2 b) (fun _ _ _ => rfl) ?_
      exact fe_ret ⟨_, _, _, _, _, _, fm_E_D hB hDe2 (by omega), (fm_G_2 (fm_G_f hG (Or.inl rfl)) (by decide) (by decide)), (fun _ _ _ => rfl), rfl⟩ (by rfl) (by rfl) (by rfl)
theorem fr_surestFar {w c : Int32} (hBa : fm_B a) (hgb : fm_gb g) : ∃ (v : Option Value) (mem' : fx_M), (fm_PO g tp bt a b) (v, mem') ∧ fr_T 10 316 [.ref 0, .int w, .int c] (fm g tp bt a b) v mem' := by
  have hG := fm_G_rf hgb
  have hB := hBa
  obtain ⟨NC, hNC, eNC⟩ := fm_B_0 hB (i := 0) (n := 10) (by decide) rfl
  obtain ⟨NW, hNW, eNW⟩ := fm_B_0 hB (i := 1) (n := 8) (by decide) rfl
  obtain ⟨NG, hNG, eNG⟩ := fm_B_0 hB (i := 3) (n := 20) (by decide) rfl
  obtain ⟨T, hT9, eT⟩ := fm_T5 hB
  have hD : fm_D a a T := fm_D_rf hB eT (by omega)
  refine fe_meth (F := fm_PO g tp bt a b) (M := gk_m316) (by rfl) (by rfl) ?_
  refine fe_s 3 (pc' := 3) (lc' := [(0, .ref 0), (1, .int w), (2, .int c)]) (stk' := [.int c, .int w, .ref 0]) (mem' := fm g tp bt a b) (fun _ _ _ => rfl) ?_
  obtain ⟨vw1, memw1, ⟨xw1, hxw1, hRw1⟩, hfrw1⟩ := fr_isAway (w := w) (c := c) (g := g) (tp := tp) (bt := bt) (b := b) (fm_D_t hB hD)
  cases hRw1
  refine fe_ivV hfrw1 (by omega) (by rfl) (by rfl) (by rfl) (by rfl) (by rfl) (by rfl) ?_
  rcases hxw1 with rfl | ⟨rfl, Ww1, hWw1, rfl⟩
  · refine fe_s 1 (pc' := cond (fx_cb .ne 0 0) 17 9) (lc' := [(0, .ref 0), (1, .int w), (2, .int c)]) (stk' := []) (mem' := fm g tp bt a b) (fun _ _ _ => rfl) ?_
    rw [show (fx_cb .ne 0 0) = false from by decide]
    dsimp only [cond]
    refine fe_s 2 (pc' := 11) (lc' := [(0, .ref 0), (1, .int w), (2, .int c)]) (stk' := [.int 1, .ref 0]) (mem' := fm g tp bt a b) (fun _ _ _ => rfl) ?_
    refine fe_ivV (fr_refuse (x := 1)) (by omega) (by rfl) (by rfl) (by rfl) (by rfl) (by rfl) (by rfl) ?_
    refine fe_s 1 (pc' := 49) (lc' := [(0, .ref 0), (1, .int w), (2, .int c)]) (stk' := [.int (-1)]) (mem' := fm (upd g 2 1) tp bt a b) (fun _ _ _ => rfl) ?_
    exact fe_ret ⟨_, _, _, _, _, _, (fm_E_rf hBa), (fm_G_2 hG (by decide) (by decide)), (fun _ _ _ => rfl), rfl⟩ (by rfl) (by rfl) (by rfl)
  · refine fe_s 1 (pc' := cond (fx_cb .ne 1 0) 17 9) (lc' := [(0, .ref 0), (1, .int (nI Ww1)), (2, .int c)]) (stk' := []) (mem' := fm g tp bt a b) (fun _ _ _ => rfl) ?_
    rw [show (fx_cb .ne 1 0) = true from by decide]
    dsimp only [cond]
    refine fe_s 3 (pc' := 20) (lc' := [(0, .ref 0), (1, .int (nI Ww1)), (2, .int c)]) (stk' := [.int c, .int (nI Ww1), .ref 0]) (mem' := fm g tp bt a b) (fun _ _ _ => rfl) ?_
    obtain ⟨ve2, meme2, ⟨xe2, ye2, pe2, hxe2, hpe2, hRe2⟩, hfre2⟩ := fr_laysSurest (g := g) (tp := tp) (bt := bt) (b := b) (W := Ww1) (to := c) (fm_D_t hB hD) (by omega)
    cases hRe2
    have hDe2 := fm_D_ok9 hD hpe2
    refine fe_ivV hfre2 (by omega) (by rfl) (by rfl) (by rfl) (by rfl) (by rfl) (by rfl) ?_
    rcases hxe2 with rfl | rfl
    · refine fe_s 1 (pc' := cond (fx_cb .eq 0 0) 43 26) (lc' := [(0, .ref 0), (1, .int (nI Ww1)), (2, .int c)]) (stk' := []) (mem' := fm (upd g 25 ye2) tp bt pe2 b) (fun _ _ _ => rfl) ?_
      rw [show (fx_cb .eq 0 0) = true from by decide]
      dsimp only [cond]
      refine fe_s 2 (pc' := 46) (lc' := [(0, .ref 0), (1, .int (nI Ww1)), (2, .int c)]) (stk' := [.int 6, .ref 0]) (mem' := fm (upd g 25 ye2) tp bt pe2 b) (fun _ _ _ => rfl) ?_
      refine fe_ivV (fr_refuse (x := 6)) (by omega) (by rfl) (by rfl) (by rfl) (by rfl) (by rfl) (by rfl) ?_
      exact fe_ret ⟨_, _, _, _, _, _, fm_E_D hB hDe2 (by omega), (fm_G_2 (fm_G_f hG (Or.inl rfl)) (by decide) (by decide)), (fun _ _ _ => rfl), rfl⟩ (by rfl) (by rfl) (by rfl)
    · refine fe_s 1 (pc' := cond (fx_cb .eq 1 0) 43 26) (lc' := [(0, .ref 0), (1, .int (nI Ww1)), (2, .int c)]) (stk' := []) (mem' := fm (upd g 25 ye2) tp bt pe2 b) (fun _ _ _ => rfl) ?_
      rw [show (fx_cb .eq 1 0) = false from by decide]
      dsimp only [cond]
      refine fe_s 5 (pc' := 33) (lc' := [(0, .ref 0), (1, .int (nI Ww1)), (2, .int c)]) (stk' := [.int (nI Ww1), .ref 0, .ref 9, .ref 0]) (mem' := fm (upd g 25 ye2) tp bt pe2 b) (fun _ _ _ => rfl) ?_
      refine fe_ivV (fr_whereOf (W := Ww1) (g := (upd g 25 ye2)) (tp := tp) (bt := bt) (a := pe2) (b := b) (by omega)) (by omega) (by rfl) (by rfl) (by rfl) (by rfl) (by rfl) (by rfl) ?_
      obtain ⟨l3, hl3, el3⟩ := fm_D_w1 hDe2 (W := Ww1) (by omega)
      rw [el3]
      refine fe_ldI (by rfl) (by rfl) (fx_inN (i := l3) (by omega) (by omega)) ?_
      rw [show Int32.toNatClampNeg (nI l3) = l3 from nI_clamp (by omega)]
      refine fe_ivV (fr_gives (x := pe2 9 l3)) (by omega) (by rfl) (by rfl) (by rfl) (by rfl) (by rfl) (by rfl) ?_
      refine fe_s 1 (pc' := 49) (lc' := [(0, .ref 0), (1, .int (nI Ww1)), (2, .int c)]) (stk' := [.int (pe2 9 l3)]) (mem' := fm (upd (upd g 25 ye2) 2 0) tp bt pe2 b) (fun _ _ _ => rfl) ?_
      exact fe_ret ⟨_, _, _, _, _, _, fm_E_D hB hDe2 (by omega), (fm_G_2 (fm_G_f hG (Or.inl rfl)) (by decide) (by decide)), (fun _ _ _ => rfl), rfl⟩ (by rfl) (by rfl) (by rfl)
theorem fr_reach {w : Int32} (hBa : fm_B a) (hgb : fm_gb g) : ∃ (v : Option Value) (mem' : fx_M), (fm_PO g tp bt a b) (v, mem') ∧ fr_T 9 318 [.ref 0, .int w] (fm g tp bt a b) v mem' := by
  have hG := fm_G_rf hgb
  have hB := hBa
  obtain ⟨NC, hNC, eNC⟩ := fm_B_0 hB (i := 0) (n := 10) (by decide) rfl
  obtain ⟨NW, hNW, eNW⟩ := fm_B_0 hB (i := 1) (n := 8) (by decide) rfl
  obtain ⟨NG, hNG, eNG⟩ := fm_B_0 hB (i := 3) (n := 20) (by decide) rfl
  obtain ⟨T, hT9, eT⟩ := fm_T5 hB
  have hD : fm_D a a T := fm_D_rf hB eT (by omega)
  refine fe_meth (F := fm_PO g tp bt a b) (M := gk_m318) (by rfl) (by rfl) ?_
  refine fe_s 2 (pc' := 2) (lc' := [(0, .ref 0), (1, .int w)]) (stk' := [.int w, .ref 0]) (mem' := fm g tp bt a b) (fun _ _ _ => rfl) ?_
  obtain ⟨vw1, memw1, ⟨xw1, hxw1, hRw1⟩, hfrw1⟩ := fr_isWalker (w := w) (g := g) (tp := tp) (bt := bt) (b := b) (fm_D_t hB hD)
  cases hRw1
  refine fe_ivV hfrw1 (by omega) (by rfl) (by rfl) (by rfl) (by rfl) (by rfl) (by rfl) ?_
  rcases hxw1 with rfl | ⟨rfl, Ww1, hWw1, rfl⟩
  · refine fe_s 1 (pc' := cond (fx_cb .ne 0 0) 14 8) (lc' := [(0, .ref 0), (1, .int w)]) (stk' := []) (mem' := fm g tp bt a b) (fun _ _ _ => rfl) ?_
    rw [show (fx_cb .ne 0 0) = false from by decide]
    dsimp only [cond]
    refine fe_s 2 (pc' := 10) (lc' := [(0, .ref 0), (1, .int w)]) (stk' := [.int 1, .ref 0]) (mem' := fm g tp bt a b) (fun _ _ _ => rfl) ?_
    refine fe_ivV (fr_refuse (x := 1)) (by omega) (by rfl) (by rfl) (by rfl) (by rfl) (by rfl) (by rfl) ?_
    exact fe_ret ⟨_, _, _, _, _, _, (fm_E_rf hBa), (fm_G_2 hG (by decide) (by decide)), (fun _ _ _ => rfl), rfl⟩ (by rfl) (by rfl) (by rfl)
  · refine fe_s 1 (pc' := cond (fx_cb .ne 1 0) 14 8) (lc' := [(0, .ref 0), (1, .int (nI Ww1))]) (stk' := []) (mem' := fm g tp bt a b) (fun _ _ _ => rfl) ?_
    rw [show (fx_cb .ne 1 0) = true from by decide]
    dsimp only [cond]
    refine fe_s 2 (pc' := 16) (lc' := [(0, .ref 0), (1, .int (nI Ww1))]) (stk' := [.int (nI Ww1), .ref 0]) (mem' := fm g tp bt a b) (fun _ _ _ => rfl) ?_
    obtain ⟨v2, hv2⟩ := fq_bearers (W := Ww1) (g := g) (tp := tp) (bt := bt) (a := a) (b := b) (fm_D_t hB hD) (by omega)
    refine fe_ivV hv2 (by omega) (by rfl) (by rfl) (by rfl) (by rfl) (by rfl) (by rfl) ?_
    refine fe_s 5 (pc' := 25) (lc' := [(4, .int 0), (3, .int 0), (2, .int v2), (0, .ref 0), (1, .int (nI Ww1))]) (stk' := []) (mem' := fm g tp bt a b) (fun _ _ _ => rfl) ?_
    have loop3 : ∀ (r i3 : Nat), i3 + r = NC → ∀ (x3_3 : Int32), ∀ a_3 : Nat → Nat → Int32, fm_D a a_3 T → fe_R 8 gk_m318 25 [(4, .int (nI i3)), (3, .int x3_3), (2, .int v2), (0, .ref 0), (1, .int (nI Ww1))] [] (fm g tp bt a_3 b) (fm_PO g tp bt a b) := by
      intro r
      induction r with
      | zero =>
        intro i3 hi3 x3_3 a_3 hD_3
        obtain rfl : NC = i3 := by omega
        refine fe_s 4 (pc' := 32) (lc' := [(4, .int (nI NC)), (3, .int x3_3), (2, .int v2), (0, .ref 0), (1, .int (nI Ww1))]) (stk' := [.int 0, .ref 1, .int (nI NC)]) (mem' := fm g tp bt a_3 b) (fun _ _ _ => rfl) ?_
        refine fe_ldI (by rfl) (by rfl) (fx_inN (i := 0) (by omega) (by omega)) ?_
        rw [show Int32.toNatClampNeg (0) = 0 from rfl]
        rw [show a_3 1 0 = nI NC from (fm_D_h hD_3 (by decide) rfl).trans eNC]
        refine fe_s 1 (pc' := cond (fx_cb .ge (nI NC) (nI NC)) 67 36) (lc' := [(4, .int (nI NC)), (3, .int x3_3), (2, .int v2), (0, .ref 0), (1, .int (nI Ww1))]) (stk' := []) (mem' := fm g tp bt a_3 b) (fun _ _ _ => rfl) ?_
        rw [show (fx_cb .ge (nI NC) (nI NC)) = true from cb_geT (a := NC) (b := NC) (by omega) (by omega) (by omega)]
        dsimp only [cond]
        refine fe_s 2 (pc' := 69) (lc' := [(4, .int (nI NC)), (3, .int x3_3), (2, .int v2), (0, .ref 0), (1, .int (nI Ww1))]) (stk' := [.int x3_3, .ref 0]) (mem' := fm g tp bt a_3 b) (fun _ _ _ => rfl) ?_
        refine fe_ivV (fr_gives (x := x3_3)) (by omega) (by rfl) (by rfl) (by rfl) (by rfl) (by rfl) (by rfl) ?_
        exact fe_ret ⟨_, _, _, _, _, _, fm_E_D hB hD_3 (by omega), (fm_G_2 hG (by decide) (by decide)), (fun _ _ _ => rfl), rfl⟩ (by rfl) (by rfl) (by rfl)
      | succ r ih3 =>
        intro i3 hi3 x3_3 a_3 hD_3
        have hl3 : i3 < NC := by omega
        refine fe_s 4 (pc' := 32) (lc' := [(4, .int (nI i3)), (3, .int x3_3), (2, .int v2), (0, .ref 0), (1, .int (nI Ww1))]) (stk' := [.int 0, .ref 1, .int (nI i3)]) (mem' := fm g tp bt a_3 b) (fun _ _ _ => rfl) ?_
        refine fe_ldI (by rfl) (by rfl) (fx_inN (i := 0) (by omega) (by omega)) ?_
        rw [show Int32.toNatClampNeg (0) = 0 from rfl]
        rw [show a_3 1 0 = nI NC from (fm_D_h hD_3 (by decide) rfl).trans eNC]
        refine fe_s 1 (pc' := cond (fx_cb .ge (nI i3) (nI NC)) 67 36) (lc' := [(4, .int (nI i3)), (3, .int x3_3), (2, .int v2), (0, .ref 0), (1, .int (nI Ww1))]) (stk' := []) (mem' := fm g tp bt a_3 b) (fun _ _ _ => rfl) ?_
        rw [show (fx_cb .ge (nI i3) (nI NC)) = false from cb_geF (a := i3) (b := NC) (by omega) (by omega) (by omega)]
        dsimp only [cond]
        refine fe_s 5 (pc' := 42) (lc' := [(4, .int (nI i3)), (3, .int x3_3), (2, .int v2), (0, .ref 0), (1, .int (nI Ww1))]) (stk' := [.int v2, .int (nI i3), .int (nI Ww1), .ref 0, .int x3_3]) (mem' := fm g tp bt a_3 b) (fun _ _ _ => rfl) ?_
        obtain ⟨Xy4, hXy4, eXy4⟩ := fm_D_w1 hD_3 (W := Ww1) (by omega)
        obtain ⟨vy4, memy4, ⟨py4, hpy4, hRy4⟩, hfry4⟩ := fr_laysFar (g := g) (tp := tp) (bt := bt) (b := b) (to := nI i3) (bby := v2) (W := Ww1) (by omega) eXy4 hXy4 ((fm_D_h hD_3 (by decide) rfl).trans eNC) hNC
        cases hRy4
        have hDy4 := fm_D_ok9 hD_3 hpy4
        refine fe_ivV hfry4 (by omega) (by rfl) (by rfl) (by rfl) (by rfl) (by rfl) (by rfl) ?_
        rcases hpy4.2 Xy4 hXy4 with ey4 | ⟨ny4, hny4, ey4, -⟩
        · rw [ey4]
          refine fe_s 1 (pc' := 48) (lc' := [(4, .int (nI i3)), (3, .int x3_3), (2, .int v2), (0, .ref 0), (1, .int (nI Ww1))]) (stk' := [.int 1000000, .int 1000000, .int x3_3]) (mem' := fm g tp bt py4 b) (fun _ _ _ => rfl) ?_
          refine fe_s 1 (pc' := cond (fx_cb .ge 1000000 1000000) 58 51) (lc' := [(4, .int (nI i3)), (3, .int x3_3), (2, .int v2), (0, .ref 0), (1, .int (nI Ww1))]) (stk' := [.int x3_3]) (mem' := fm g tp bt py4 b) (fun _ _ _ => rfl) ?_
          rw [show (fx_cb .ge 1000000 1000000) = true from by decide]
          dsimp only [cond]
          refine fe_s 5 (pc' := 25) (lc' := [(4, .int ((nI i3) + 1)), (3, .int (x3_3 ||| 0)), (2, .int v2), (0, .ref 0), (1, .int (nI Ww1))]) (stk' := []) (mem' := fm g tp bt py4 b) (fun _ _ _ => rfl) ?_
          rw [show ((nI i3) + 1 : Int32) = nI (i3 + 1) from by simp only [show (1 : Int32) = nI 1 from rfl, nI_add, fm_mul]]
          exact ih3 (i3 + 1) (by omega) _ py4 hDy4
        · rw [ey4]
          refine fe_s 1 (pc' := 48) (lc' := [(4, .int (nI i3)), (3, .int x3_3), (2, .int v2), (0, .ref 0), (1, .int (nI Ww1))]) (stk' := [.int 1000000, .int (nI ny4), .int x3_3]) (mem' := fm g tp bt py4 b) (fun _ _ _ => rfl) ?_
          refine fe_s 1 (pc' := cond (fx_cb .ge (nI ny4) 1000000) 58 51) (lc' := [(4, .int (nI i3)), (3, .int x3_3), (2, .int v2), (0, .ref 0), (1, .int (nI Ww1))]) (stk' := [.int x3_3]) (mem' := fm g tp bt py4 b) (fun _ _ _ => rfl) ?_
          rw [show (fx_cb .ge (nI ny4) 1000000) = false from cb_geF (a := ny4) (b := 1000000) (by omega) (by omega) (by omega)]
          dsimp only [cond]
          refine fe_s 8 (pc' := 25) (lc' := [(4, .int ((nI i3) + 1)), (3, .int (x3_3 ||| ((1 : Int32) <<< ((nI i3) &&& 31)))), (2, .int v2), (0, .ref 0), (1, .int (nI Ww1))]) (stk' := []) (mem' := fm g tp bt py4 b) (fun _ _ _ => rfl) ?_
          rw [show ((nI i3) + 1 : Int32) = nI (i3 + 1) from by simp only [show (1 : Int32) = nI 1 from rfl, nI_add, fm_mul]]
          exact ih3 (i3 + 1) (by omega) _ py4 hDy4
    exact loop3 (NC) 0 (by omega) _ a hD
theorem fr_cutOf {T : Nat} {W : Nat} {to : Int32} (hB : fm_B a0) (hD : fm_D a0 a T) (hW : W < 8) : ∃ (v : Option Value) (mem' : fx_M), (fun R => ∃ (v : Int32) (a' : Nat → Nat → Int32), fm_D a0 a' T ∧ R = (some (.int v), fm g tp bt a' b)) (v, mem') ∧ fr_T 9 319 [.ref 0, .int (nI W), .int to] (fm g tp bt a b) v mem' := by
  obtain ⟨NC, hNC, eNC⟩ := fm_B_0 hB (i := 0) (n := 10) (by decide) rfl
  obtain ⟨NW, hNW, eNW⟩ := fm_B_0 hB (i := 1) (n := 8) (by decide) rfl
  obtain ⟨P, hP, eP⟩ := fm_shlP NC hNC
  have hT9 := hD.2.2.2.2.1
  refine fe_meth (F := fun R => ∃ (v : Int32) (a' : Nat → Nat → Int32), fm_D a0 a' T ∧ R = (some (.int v), fm g tp bt a' b)) (M := gk_m319) (by rfl) (by rfl) ?_
  refine fe_s 2 (pc' := 2) (lc' := [(0, .ref 0), (1, .int (nI W)), (2, .int to)]) (stk' := [.int (nI W), .ref 0]) (mem' := fm g tp bt a b) (fun _ _ _ => rfl) ?_
  obtain ⟨v1, hv1⟩ := fq_bearers (W := W) (g := g) (tp := tp) (bt := bt) (a := a) (b := b) (fm_D_t hB hD) (by omega)
  refine fe_ivV hv1 (by omega) (by rfl) (by rfl) (by rfl) (by rfl) (by rfl) (by rfl) ?_
  refine fe_s 4 (pc' := 9) (lc' := [(3, .int v1), (0, .ref 0), (1, .int (nI W)), (2, .int to)]) (stk' := [.int 0, .ref 0, .int v1]) (mem' := fm g tp bt a b) (fun _ _ _ => rfl) ?_
  obtain ⟨vd2, memd2, ⟨xd2, ad2, hDd2, hRd2⟩, hfrd2⟩ := fr_setOf0 (g := g) (tp := tp) (bt := bt) (a := a) (b := b) hB hD
  cases hRd2
  refine fe_ivV hfrd2 (by omega) (by rfl) (by rfl) (by rfl) (by rfl) (by rfl) (by rfl) ?_
  refine fe_s 12 (pc' := 24) (lc' := [(3, .int v1), (0, .ref 0), (1, .int (nI W)), (2, .int to)]) (stk' := [.int (nI W), .ref 0, .int 1, .int ((v1 &&& (xd2 ^^^ (-1))) &&& (((1 : Int32) <<< (to &&& 31)) ^^^ (-1)))]) (mem' := fm g tp bt ad2 b) (fun _ _ _ => rfl) ?_
  refine fe_ivV (fr_whereOf (W := W) (g := g) (tp := tp) (bt := bt) (a := ad2) (b := b) (by omega)) (by omega) (by rfl) (by rfl) (by rfl) (by rfl) (by rfl) (by rfl) ?_
  obtain ⟨l3, hl3, el3⟩ := fm_D_w1 hDd2 (W := W) (by omega)
  rw [el3]
  refine fe_s 9 (pc' := 39) (lc' := [(6, .int 0), (5, .int (-1)), (4, .int (((v1 &&& (xd2 ^^^ (-1))) &&& (((1 : Int32) <<< (to &&& 31)) ^^^ (-1))) &&& (((1 : Int32) <<< ((nI l3) &&& 31)) ^^^ (-1)))), (3, .int v1), (0, .ref 0), (1, .int (nI W)), (2, .int to)]) (stk' := []) (mem' := fm g tp bt ad2 b) (fun _ _ _ => rfl) ?_
  have loop4 : ∀ (r i4 : Nat), i4 + r = P → ∀ (x5_4 : Int32), ∀ a_4 : Nat → Nat → Int32, fm_D a0 a_4 T → fe_R 8 gk_m319 39 [(6, .int (nI i4)), (5, .int x5_4), (4, .int (((v1 &&& (xd2 ^^^ (-1))) &&& (((1 : Int32) <<< (to &&& 31)) ^^^ (-1))) &&& (((1 : Int32) <<< ((nI l3) &&& 31)) ^^^ (-1)))), (3, .int v1), (0, .ref 0), (1, .int (nI W)), (2, .int to)] [] (fm g tp bt a_4 b) (fun R => ∃ (v : Int32) (a' : Nat → Nat → Int32), fm_D a0 a' T ∧ R = (some (.int v), fm g tp bt a' b)) := by
    intro r
    induction r with
    | zero =>
      intro i4 hi4 x5_4 a_4 hD_4
      obtain rfl : P = i4 := by omega
      refine fe_s 5 (pc' := 47) (lc' := [(6, .int (nI P)), (5, .int x5_4), (4, .int (((v1 &&& (xd2 ^^^ (-1))) &&& (((1 : Int32) <<< (to &&& 31)) ^^^ (-1))) &&& (((1 : Int32) <<< ((nI l3) &&& 31)) ^^^ (-1)))), (3, .int v1), (0, .ref 0), (1, .int (nI W)), (2, .int to)]) (stk' := [.int 0, .ref 1, .int 1, .int (nI P)]) (mem' := fm g tp bt a_4 b) (fun _ _ _ => rfl) ?_
      refine fe_ldI (by rfl) (by rfl) (fx_inN (i := 0) (by omega) (by omega)) ?_
      rw [show Int32.toNatClampNeg (0) = 0 from rfl]
      rw [show a_4 1 0 = nI NC from (fm_D_h hD_4 (by decide) rfl).trans eNC]
      refine fe_s 1 (pc' := 49) (lc' := [(6, .int (nI P)), (5, .int x5_4), (4, .int (((v1 &&& (xd2 ^^^ (-1))) &&& (((1 : Int32) <<< (to &&& 31)) ^^^ (-1))) &&& (((1 : Int32) <<< ((nI l3) &&& 31)) ^^^ (-1)))), (3, .int v1), (0, .ref 0), (1, .int (nI W)), (2, .int to)]) (stk' := [.int ((1 : Int32) <<< (nI NC &&& 31)), .int (nI P)]) (mem' := fm g tp bt a_4 b) (fun _ _ _ => rfl) ?_
      rw [show ((1 : Int32) <<< (nI NC &&& 31) : Int32) = nI P from by simp only [eP, nI_add, fm_mul]]
      refine fe_s 1 (pc' := cond (fx_cb .ge (nI P) (nI P)) 109 52) (lc' := [(6, .int (nI P)), (5, .int x5_4), (4, .int (((v1 &&& (xd2 ^^^ (-1))) &&& (((1 : Int32) <<< (to &&& 31)) ^^^ (-1))) &&& (((1 : Int32) <<< ((nI l3) &&& 31)) ^^^ (-1)))), (3, .int v1), (0, .ref 0), (1, .int (nI W)), (2, .int to)]) (stk' := []) (mem' := fm g tp bt a_4 b) (fun _ _ _ => rfl) ?_
      rw [show (fx_cb .ge (nI P) (nI P)) = true from cb_geT (a := P) (b := P) (by omega) (by omega) (by omega)]
      dsimp only [cond]
      refine fe_s 1 (pc' := 111) (lc' := [(6, .int (nI P)), (5, .int x5_4), (4, .int (((v1 &&& (xd2 ^^^ (-1))) &&& (((1 : Int32) <<< (to &&& 31)) ^^^ (-1))) &&& (((1 : Int32) <<< ((nI l3) &&& 31)) ^^^ (-1)))), (3, .int v1), (0, .ref 0), (1, .int (nI W)), (2, .int to)]) (stk' := [.int x5_4]) (mem' := fm g tp bt a_4 b) (fun _ _ _ => rfl) ?_
      exact fe_ret ⟨_, _, hD_4, rfl⟩ (by rfl) (by rfl) (by rfl)
    | succ r ih4 =>
      intro i4 hi4 x5_4 a_4 hD_4
      have hl4 : i4 < P := by omega
      refine fe_s 5 (pc' := 47) (lc' := [(6, .int (nI i4)), (5, .int x5_4), (4, .int (((v1 &&& (xd2 ^^^ (-1))) &&& (((1 : Int32) <<< (to &&& 31)) ^^^ (-1))) &&& (((1 : Int32) <<< ((nI l3) &&& 31)) ^^^ (-1)))), (3, .int v1), (0, .ref 0), (1, .int (nI W)), (2, .int to)]) (stk' := [.int 0, .ref 1, .int 1, .int (nI i4)]) (mem' := fm g tp bt a_4 b) (fun _ _ _ => rfl) ?_
      refine fe_ldI (by rfl) (by rfl) (fx_inN (i := 0) (by omega) (by omega)) ?_
      rw [show Int32.toNatClampNeg (0) = 0 from rfl]
      rw [show a_4 1 0 = nI NC from (fm_D_h hD_4 (by decide) rfl).trans eNC]
      refine fe_s 1 (pc' := 49) (lc' := [(6, .int (nI i4)), (5, .int x5_4), (4, .int (((v1 &&& (xd2 ^^^ (-1))) &&& (((1 : Int32) <<< (to &&& 31)) ^^^ (-1))) &&& (((1 : Int32) <<< ((nI l3) &&& 31)) ^^^ (-1)))), (3, .int v1), (0, .ref 0), (1, .int (nI W)), (2, .int to)]) (stk' := [.int ((1 : Int32) <<< (nI NC &&& 31)), .int (nI i4)]) (mem' := fm g tp bt a_4 b) (fun _ _ _ => rfl) ?_
      rw [show ((1 : Int32) <<< (nI NC &&& 31) : Int32) = nI P from by simp only [eP, nI_add, fm_mul]]
      refine fe_s 1 (pc' := cond (fx_cb .ge (nI i4) (nI P)) 109 52) (lc' := [(6, .int (nI i4)), (5, .int x5_4), (4, .int (((v1 &&& (xd2 ^^^ (-1))) &&& (((1 : Int32) <<< (to &&& 31)) ^^^ (-1))) &&& (((1 : Int32) <<< ((nI l3) &&& 31)) ^^^ (-1)))), (3, .int v1), (0, .ref 0), (1, .int (nI W)), (2, .int to)]) (stk' := []) (mem' := fm g tp bt a_4 b) (fun _ _ _ => rfl) ?_
      rw [show (fx_cb .ge (nI i4) (nI P)) = false from cb_geF (a := i4) (b := P) (by omega) (by omega) (by omega)]
      dsimp only [cond]
      refine fe_s 5 (pc' := 59) (lc' := [(6, .int (nI i4)), (5, .int x5_4), (4, .int (((v1 &&& (xd2 ^^^ (-1))) &&& (((1 : Int32) <<< (to &&& 31)) ^^^ (-1))) &&& (((1 : Int32) <<< ((nI l3) &&& 31)) ^^^ (-1)))), (3, .int v1), (0, .ref 0), (1, .int (nI W)), (2, .int to)]) (stk' := [.int ((nI i4) &&& ((((v1 &&& (xd2 ^^^ (-1))) &&& (((1 : Int32) <<< (to &&& 31)) ^^^ (-1))) &&& (((1 : Int32) <<< ((nI l3) &&& 31)) ^^^ (-1))) ^^^ (-1)))]) (mem' := fm g tp bt a_4 b) (fun _ _ _ => rfl) ?_
      refine fe_s 1 (pc' := cond (fx_cb .ne ((nI i4) &&& ((((v1 &&& (xd2 ^^^ (-1))) &&& (((1 : Int32) <<< (to &&& 31)) ^^^ (-1))) &&& (((1 : Int32) <<< ((nI l3) &&& 31)) ^^^ (-1))) ^^^ (-1))) 0) 103 62) (lc' := [(6, .int (nI i4)), (5, .int x5_4), (4, .int (((v1 &&& (xd2 ^^^ (-1))) &&& (((1 : Int32) <<< (to &&& 31)) ^^^ (-1))) &&& (((1 : Int32) <<< ((nI l3) &&& 31)) ^^^ (-1)))), (3, .int v1), (0, .ref 0), (1, .int (nI W)), (2, .int to)]) (stk' := []) (mem' := fm g tp bt a_4 b) (fun _ _ _ => rfl) ?_
      cases h5 : fx_cb .ne ((nI i4) &&& ((((v1 &&& (xd2 ^^^ (-1))) &&& (((1 : Int32) <<< (to &&& 31)) ^^^ (-1))) &&& (((1 : Int32) <<< ((nI l3) &&& 31)) ^^^ (-1))) ^^^ (-1))) 0
      · refine fe_s 2 (pc' := 65) (lc' := [(6, .int (nI i4)), (5, .int x5_4), (4, .int (((v1 &&& (xd2 ^^^ (-1))) &&& (((1 : Int32) <<< (to &&& 31)) ^^^ (-1))) &&& (((1 : Int32) <<< ((nI l3) &&& 31)) ^^^ (-1)))), (3, .int v1), (0, .ref 0), (1, .int (nI W)), (2, .int to)]) (stk' := [.int (-1), .int x5_4]) (mem' := fm g tp bt a_4 b) (fun _ _ _ => rfl) ?_
        refine fe_s 1 (pc' := cond (fx_cb .eq x5_4 (-1)) 81 68) (lc' := [(6, .int (nI i4)), (5, .int x5_4), (4, .int (((v1 &&& (xd2 ^^^ (-1))) &&& (((1 : Int32) <<< (to &&& 31)) ^^^ (-1))) &&& (((1 : Int32) <<< ((nI l3) &&& 31)) ^^^ (-1)))), (3, .int v1), (0, .ref 0), (1, .int (nI W)), (2, .int to)]) (stk' := []) (mem' := fm g tp bt a_4 b) (fun _ _ _ => rfl) ?_
        cases h6 : fx_cb .eq x5_4 (-1)
        · refine fe_s 1 (pc' := 70) (lc' := [(6, .int (nI i4)), (5, .int x5_4), (4, .int (((v1 &&& (xd2 ^^^ (-1))) &&& (((1 : Int32) <<< (to &&& 31)) ^^^ (-1))) &&& (((1 : Int32) <<< ((nI l3) &&& 31)) ^^^ (-1)))), (3, .int v1), (0, .ref 0), (1, .int (nI W)), (2, .int to)]) (stk' := [.int (nI i4)]) (mem' := fm g tp bt a_4 b) (fun _ _ _ => rfl) ?_
          obtain ⟨vb7, hfrb7⟩ := fr_bits (x := nI i4) (mem := fm g tp bt a_4 b)
          refine fe_ivS hfrb7 (by omega) (by rfl) (by rfl) (by rfl) (by rfl) (by rfl) ?_
          refine fe_s 1 (pc' := 75) (lc' := [(6, .int (nI i4)), (5, .int x5_4), (4, .int (((v1 &&& (xd2 ^^^ (-1))) &&& (((1 : Int32) <<< (to &&& 31)) ^^^ (-1))) &&& (((1 : Int32) <<< ((nI l3) &&& 31)) ^^^ (-1)))), (3, .int v1), (0, .ref 0), (1, .int (nI W)), (2, .int to)]) (stk' := [.int x5_4, .int vb7]) (mem' := fm g tp bt a_4 b) (fun _ _ _ => rfl) ?_
          obtain ⟨vb8, hfrb8⟩ := fr_bits (x := x5_4) (mem := fm g tp bt a_4 b)
          refine fe_ivS hfrb8 (by omega) (by rfl) (by rfl) (by rfl) (by rfl) (by rfl) ?_
          refine fe_s 1 (pc' := cond (fx_cb .ge vb7 vb8) 103 81) (lc' := [(6, .int (nI i4)), (5, .int x5_4), (4, .int (((v1 &&& (xd2 ^^^ (-1))) &&& (((1 : Int32) <<< (to &&& 31)) ^^^ (-1))) &&& (((1 : Int32) <<< ((nI l3) &&& 31)) ^^^ (-1)))), (3, .int v1), (0, .ref 0), (1, .int (nI W)), (2, .int to)]) (stk' := []) (mem' := fm g tp bt a_4 b) (fun _ _ _ => rfl) ?_
          cases h9 : fx_cb .ge vb7 vb8
          · refine fe_s 8 (pc' := 90) (lc' := [(6, .int (nI i4)), (5, .int x5_4), (4, .int (((v1 &&& (xd2 ^^^ (-1))) &&& (((1 : Int32) <<< (to &&& 31)) ^^^ (-1))) &&& (((1 : Int32) <<< ((nI l3) &&& 31)) ^^^ (-1)))), (3, .int v1), (0, .ref 0), (1, .int (nI W)), (2, .int to)]) (stk' := [.int (v1 &&& ((nI i4) ^^^ (-1))), .int to, .int (nI W), .ref 0]) (mem' := fm g tp bt a_4 b) (fun _ _ _ => rfl) ?_
            obtain ⟨Xy10, hXy10, eXy10⟩ := fm_D_w1 hD_4 (W := W) (by omega)
            obtain ⟨vy10, memy10, ⟨py10, hpy10, hRy10⟩, hfry10⟩ := fr_laysFar (g := g) (tp := tp) (bt := bt) (b := b) (to := to) (bby := v1 &&& ((nI i4) ^^^ (-1))) (W := W) (by omega) eXy10 hXy10 ((fm_D_h hD_4 (by decide) rfl).trans eNC) hNC
            cases hRy10
            have hDy10 := fm_D_ok9 hD_4 hpy10
            refine fe_ivV hfry10 (by omega) (by rfl) (by rfl) (by rfl) (by rfl) (by rfl) (by rfl) ?_
            rcases hpy10.2 Xy10 hXy10 with ey10 | ⟨ny10, hny10, ey10, -⟩
            · rw [ey10]
              refine fe_s 1 (pc' := 96) (lc' := [(6, .int (nI i4)), (5, .int x5_4), (4, .int (((v1 &&& (xd2 ^^^ (-1))) &&& (((1 : Int32) <<< (to &&& 31)) ^^^ (-1))) &&& (((1 : Int32) <<< ((nI l3) &&& 31)) ^^^ (-1)))), (3, .int v1), (0, .ref 0), (1, .int (nI W)), (2, .int to)]) (stk' := [.int 1000000, .int 1000000]) (mem' := fm g tp bt py10 b) (fun _ _ _ => rfl) ?_
              refine fe_s 1 (pc' := cond (fx_cb .ne 1000000 1000000) 103 99) (lc' := [(6, .int (nI i4)), (5, .int x5_4), (4, .int (((v1 &&& (xd2 ^^^ (-1))) &&& (((1 : Int32) <<< (to &&& 31)) ^^^ (-1))) &&& (((1 : Int32) <<< ((nI l3) &&& 31)) ^^^ (-1)))), (3, .int v1), (0, .ref 0), (1, .int (nI W)), (2, .int to)]) (stk' := []) (mem' := fm g tp bt py10 b) (fun _ _ _ => rfl) ?_
              rw [show (fx_cb .ne 1000000 1000000) = false from by decide]
              dsimp only [cond]
              refine fe_s 3 (pc' := 106) (lc' := [(6, .int ((nI i4) + 1)), (5, .int (nI i4)), (4, .int (((v1 &&& (xd2 ^^^ (-1))) &&& (((1 : Int32) <<< (to &&& 31)) ^^^ (-1))) &&& (((1 : Int32) <<< ((nI l3) &&& 31)) ^^^ (-1)))), (3, .int v1), (0, .ref 0), (1, .int (nI W)), (2, .int to)]) (stk' := []) (mem' := fm g tp bt py10 b) (fun _ _ _ => rfl) ?_
              rw [show ((nI i4) + 1 : Int32) = nI (i4 + 1) from by simp only [show (1 : Int32) = nI 1 from rfl, nI_add, fm_mul]]
              refine fe_s 1 (pc' := fx_to 106 (-67)) (lc' := [(6, .int (nI (i4 + 1))), (5, .int (nI i4)), (4, .int (((v1 &&& (xd2 ^^^ (-1))) &&& (((1 : Int32) <<< (to &&& 31)) ^^^ (-1))) &&& (((1 : Int32) <<< ((nI l3) &&& 31)) ^^^ (-1)))), (3, .int v1), (0, .ref 0), (1, .int (nI W)), (2, .int to)]) (stk' := []) (mem' := fm g tp bt py10 b) (fun _ _ _ => rfl) ?_
              rw [show fx_to 106 (-67) = 39 from by decide]
              exact ih4 (i4 + 1) (by omega) _ py10 hDy10
            · rw [ey10]
              refine fe_s 1 (pc' := 96) (lc' := [(6, .int (nI i4)), (5, .int x5_4), (4, .int (((v1 &&& (xd2 ^^^ (-1))) &&& (((1 : Int32) <<< (to &&& 31)) ^^^ (-1))) &&& (((1 : Int32) <<< ((nI l3) &&& 31)) ^^^ (-1)))), (3, .int v1), (0, .ref 0), (1, .int (nI W)), (2, .int to)]) (stk' := [.int 1000000, .int (nI ny10)]) (mem' := fm g tp bt py10 b) (fun _ _ _ => rfl) ?_
              refine fe_s 1 (pc' := cond (fx_cb .ne (nI ny10) 1000000) 103 99) (lc' := [(6, .int (nI i4)), (5, .int x5_4), (4, .int (((v1 &&& (xd2 ^^^ (-1))) &&& (((1 : Int32) <<< (to &&& 31)) ^^^ (-1))) &&& (((1 : Int32) <<< ((nI l3) &&& 31)) ^^^ (-1)))), (3, .int v1), (0, .ref 0), (1, .int (nI W)), (2, .int to)]) (stk' := []) (mem' := fm g tp bt py10 b) (fun _ _ _ => rfl) ?_
              rw [show (fx_cb .ne (nI ny10) 1000000) = true from cb_neT (a := ny10) (b := 1000000) (by omega) (by omega) (by omega)]
              dsimp only [cond]
              refine fe_s 1 (pc' := 106) (lc' := [(6, .int ((nI i4) + 1)), (5, .int x5_4), (4, .int (((v1 &&& (xd2 ^^^ (-1))) &&& (((1 : Int32) <<< (to &&& 31)) ^^^ (-1))) &&& (((1 : Int32) <<< ((nI l3) &&& 31)) ^^^ (-1)))), (3, .int v1), (0, .ref 0), (1, .int (nI W)), (2, .int to)]) (stk' := []) (mem' := fm g tp bt py10 b) (fun _ _ _ => rfl) ?_
              rw [show ((nI i4) + 1 : Int32) = nI (i4 + 1) from by simp only [show (1 : Int32) = nI 1 from rfl, nI_add, fm_mul]]
              refine fe_s 1 (pc' := fx_to 106 (-67)) (lc' := [(6, .int (nI (i4 + 1))), (5, .int x5_4), (4, .int (((v1 &&& (xd2 ^^^ (-1))) &&& (((1 : Int32) <<< (to &&& 31)) ^^^ (-1))) &&& (((1 : Int32) <<< ((nI l3) &&& 31)) ^^^ (-1)))), (3, .int v1), (0, .ref 0), (1, .int (nI W)), (2, .int to)]) (stk' := []) (mem' := fm g tp bt py10 b) (fun _ _ _ => rfl) ?_
              rw [show fx_to 106 (-67) = 39 from by decide]
              exact ih4 (i4 + 1) (by omega) _ py10 hDy10
          · refine fe_s 1 (pc' := 106) (lc' := [(6, .int ((nI i4) + 1)), (5, .int x5_4), (4, .int (((v1 &&& (xd2 ^^^ (-1))) &&& (((1 : Int32) <<< (to &&& 31)) ^^^ (-1))) &&& (((1 : Int32) <<< ((nI l3) &&& 31)) ^^^ (-1)))), (3, .int v1), (0, .ref 0), (1, .int (nI W)), (2, .int to)]) (stk' := []) (mem' := fm g tp bt a_4 b) (fun _ _ _ => rfl) ?_
            rw [show ((nI i4) + 1 : Int32) = nI (i4 + 1) from by simp only [show (1 : Int32) = nI 1 from rfl, nI_add, fm_mul]]
            refine fe_s 1 (pc' := fx_to 106 (-67)) (lc' := [(6, .int (nI (i4 + 1))), (5, .int x5_4), (4, .int (((v1 &&& (xd2 ^^^ (-1))) &&& (((1 : Int32) <<< (to &&& 31)) ^^^ (-1))) &&& (((1 : Int32) <<< ((nI l3) &&& 31)) ^^^ (-1)))), (3, .int v1), (0, .ref 0), (1, .int (nI W)), (2, .int to)]) (stk' := []) (mem' := fm g tp bt a_4 b) (fun _ _ _ => rfl) ?_
            rw [show fx_to 106 (-67) = 39 from by decide]
            exact ih4 (i4 + 1) (by omega) _ a_4 hD_4
        · refine fe_s 8 (pc' := 90) (lc' := [(6, .int (nI i4)), (5, .int x5_4), (4, .int (((v1 &&& (xd2 ^^^ (-1))) &&& (((1 : Int32) <<< (to &&& 31)) ^^^ (-1))) &&& (((1 : Int32) <<< ((nI l3) &&& 31)) ^^^ (-1)))), (3, .int v1), (0, .ref 0), (1, .int (nI W)), (2, .int to)]) (stk' := [.int (v1 &&& ((nI i4) ^^^ (-1))), .int to, .int (nI W), .ref 0]) (mem' := fm g tp bt a_4 b) (fun _ _ _ => rfl) ?_
          obtain ⟨Xy11, hXy11, eXy11⟩ := fm_D_w1 hD_4 (W := W) (by omega)
          obtain ⟨vy11, memy11, ⟨py11, hpy11, hRy11⟩, hfry11⟩ := fr_laysFar (g := g) (tp := tp) (bt := bt) (b := b) (to := to) (bby := v1 &&& ((nI i4) ^^^ (-1))) (W := W) (by omega) eXy11 hXy11 ((fm_D_h hD_4 (by decide) rfl).trans eNC) hNC
          cases hRy11
          have hDy11 := fm_D_ok9 hD_4 hpy11
          refine fe_ivV hfry11 (by omega) (by rfl) (by rfl) (by rfl) (by rfl) (by rfl) (by rfl) ?_
          rcases hpy11.2 Xy11 hXy11 with ey11 | ⟨ny11, hny11, ey11, -⟩
          · rw [ey11]
            refine fe_s 1 (pc' := 96) (lc' := [(6, .int (nI i4)), (5, .int x5_4), (4, .int (((v1 &&& (xd2 ^^^ (-1))) &&& (((1 : Int32) <<< (to &&& 31)) ^^^ (-1))) &&& (((1 : Int32) <<< ((nI l3) &&& 31)) ^^^ (-1)))), (3, .int v1), (0, .ref 0), (1, .int (nI W)), (2, .int to)]) (stk' := [.int 1000000, .int 1000000]) (mem' := fm g tp bt py11 b) (fun _ _ _ => rfl) ?_
            refine fe_s 1 (pc' := cond (fx_cb .ne 1000000 1000000) 103 99) (lc' := [(6, .int (nI i4)), (5, .int x5_4), (4, .int (((v1 &&& (xd2 ^^^ (-1))) &&& (((1 : Int32) <<< (to &&& 31)) ^^^ (-1))) &&& (((1 : Int32) <<< ((nI l3) &&& 31)) ^^^ (-1)))), (3, .int v1), (0, .ref 0), (1, .int (nI W)), (2, .int to)]) (stk' := []) (mem' := fm g tp bt py11 b) (fun _ _ _ => rfl) ?_
            rw [show (fx_cb .ne 1000000 1000000) = false from by decide]
            dsimp only [cond]
            refine fe_s 3 (pc' := 106) (lc' := [(6, .int ((nI i4) + 1)), (5, .int (nI i4)), (4, .int (((v1 &&& (xd2 ^^^ (-1))) &&& (((1 : Int32) <<< (to &&& 31)) ^^^ (-1))) &&& (((1 : Int32) <<< ((nI l3) &&& 31)) ^^^ (-1)))), (3, .int v1), (0, .ref 0), (1, .int (nI W)), (2, .int to)]) (stk' := []) (mem' := fm g tp bt py11 b) (fun _ _ _ => rfl) ?_
            rw [show ((nI i4) + 1 : Int32) = nI (i4 + 1) from by simp only [show (1 : Int32) = nI 1 from rfl, nI_add, fm_mul]]
            refine fe_s 1 (pc' := fx_to 106 (-67)) (lc' := [(6, .int (nI (i4 + 1))), (5, .int (nI i4)), (4, .int (((v1 &&& (xd2 ^^^ (-1))) &&& (((1 : Int32) <<< (to &&& 31)) ^^^ (-1))) &&& (((1 : Int32) <<< ((nI l3) &&& 31)) ^^^ (-1)))), (3, .int v1), (0, .ref 0), (1, .int (nI W)), (2, .int to)]) (stk' := []) (mem' := fm g tp bt py11 b) (fun _ _ _ => rfl) ?_
            rw [show fx_to 106 (-67) = 39 from by decide]
            exact ih4 (i4 + 1) (by omega) _ py11 hDy11
          · rw [ey11]
            refine fe_s 1 (pc' := 96) (lc' := [(6, .int (nI i4)), (5, .int x5_4), (4, .int (((v1 &&& (xd2 ^^^ (-1))) &&& (((1 : Int32) <<< (to &&& 31)) ^^^ (-1))) &&& (((1 : Int32) <<< ((nI l3) &&& 31)) ^^^ (-1)))), (3, .int v1), (0, .ref 0), (1, .int (nI W)), (2, .int to)]) (stk' := [.int 1000000, .int (nI ny11)]) (mem' := fm g tp bt py11 b) (fun _ _ _ => rfl) ?_
            refine fe_s 1 (pc' := cond (fx_cb .ne (nI ny11) 1000000) 103 99) (lc' := [(6, .int (nI i4)), (5, .int x5_4), (4, .int (((v1 &&& (xd2 ^^^ (-1))) &&& (((1 : Int32) <<< (to &&& 31)) ^^^ (-1))) &&& (((1 : Int32) <<< ((nI l3) &&& 31)) ^^^ (-1)))), (3, .int v1), (0, .ref 0), (1, .int (nI W)), (2, .int to)]) (stk' := []) (mem' := fm g tp bt py11 b) (fun _ _ _ => rfl) ?_
            rw [show (fx_cb .ne (nI ny11) 1000000) = true from cb_neT (a := ny11) (b := 1000000) (by omega) (by omega) (by omega)]
            dsimp only [cond]
            refine fe_s 1 (pc' := 106) (lc' := [(6, .int ((nI i4) + 1)), (5, .int x5_4), (4, .int (((v1 &&& (xd2 ^^^ (-1))) &&& (((1 : Int32) <<< (to &&& 31)) ^^^ (-1))) &&& (((1 : Int32) <<< ((nI l3) &&& 31)) ^^^ (-1)))), (3, .int v1), (0, .ref 0), (1, .int (nI W)), (2, .int to)]) (stk' := []) (mem' := fm g tp bt py11 b) (fun _ _ _ => rfl) ?_
            rw [show ((nI i4) + 1 : Int32) = nI (i4 + 1) from by simp only [show (1 : Int32) = nI 1 from rfl, nI_add, fm_mul]]
            refine fe_s 1 (pc' := fx_to 106 (-67)) (lc' := [(6, .int (nI (i4 + 1))), (5, .int x5_4), (4, .int (((v1 &&& (xd2 ^^^ (-1))) &&& (((1 : Int32) <<< (to &&& 31)) ^^^ (-1))) &&& (((1 : Int32) <<< ((nI l3) &&& 31)) ^^^ (-1)))), (3, .int v1), (0, .ref 0), (1, .int (nI W)), (2, .int to)]) (stk' := []) (mem' := fm g tp bt py11 b) (fun _ _ _ => rfl) ?_
            rw [show fx_to 106 (-67) = 39 from by decide]
            exact ih4 (i4 + 1) (by omega) _ py11 hDy11
      · refine fe_s 1 (pc' := 106) (lc' := [(6, .int ((nI i4) + 1)), (5, .int x5_4), (4, .int (((v1 &&& (xd2 ^^^ (-1))) &&& (((1 : Int32) <<< (to &&& 31)) ^^^ (-1))) &&& (((1 : Int32) <<< ((nI l3) &&& 31)) ^^^ (-1)))), (3, .int v1), (0, .ref 0), (1, .int (nI W)), (2, .int to)]) (stk' := []) (mem' := fm g tp bt a_4 b) (fun _ _ _ => rfl) ?_
        rw [show ((nI i4) + 1 : Int32) = nI (i4 + 1) from by simp only [show (1 : Int32) = nI 1 from rfl, nI_add, fm_mul]]
        refine fe_s 1 (pc' := fx_to 106 (-67)) (lc' := [(6, .int (nI (i4 + 1))), (5, .int x5_4), (4, .int (((v1 &&& (xd2 ^^^ (-1))) &&& (((1 : Int32) <<< (to &&& 31)) ^^^ (-1))) &&& (((1 : Int32) <<< ((nI l3) &&& 31)) ^^^ (-1)))), (3, .int v1), (0, .ref 0), (1, .int (nI W)), (2, .int to)]) (stk' := []) (mem' := fm g tp bt a_4 b) (fun _ _ _ => rfl) ?_
        rw [show fx_to 106 (-67) = 39 from by decide]
        exact ih4 (i4 + 1) (by omega) _ a_4 hD_4
  exact loop4 (P) 0 (by omega) _ ad2 hDd2
theorem fr_cut {w c : Int32} (hBa : fm_B a) (hgb : fm_gb g) : ∃ (v : Option Value) (mem' : fx_M), (fm_PO g tp bt a b) (v, mem') ∧ fr_T 10 320 [.ref 0, .int w, .int c] (fm g tp bt a b) v mem' := by
  have hG := fm_G_rf hgb
  have hB := hBa
  obtain ⟨NC, hNC, eNC⟩ := fm_B_0 hB (i := 0) (n := 10) (by decide) rfl
  obtain ⟨NW, hNW, eNW⟩ := fm_B_0 hB (i := 1) (n := 8) (by decide) rfl
  obtain ⟨NG, hNG, eNG⟩ := fm_B_0 hB (i := 3) (n := 20) (by decide) rfl
  obtain ⟨T, hT9, eT⟩ := fm_T5 hB
  have hD : fm_D a a T := fm_D_rf hB eT (by omega)
  refine fe_meth (F := fm_PO g tp bt a b) (M := gk_m320) (by rfl) (by rfl) ?_
  refine fe_s 3 (pc' := 3) (lc' := [(0, .ref 0), (1, .int w), (2, .int c)]) (stk' := [.int c, .int w, .ref 0]) (mem' := fm g tp bt a b) (fun _ _ _ => rfl) ?_
  obtain ⟨vw1, memw1, ⟨xw1, hxw1, hRw1⟩, hfrw1⟩ := fr_isAway (w := w) (c := c) (g := g) (tp := tp) (bt := bt) (b := b) (fm_D_t hB hD)
  cases hRw1
  refine fe_ivV hfrw1 (by omega) (by rfl) (by rfl) (by rfl) (by rfl) (by rfl) (by rfl) ?_
  rcases hxw1 with rfl | ⟨rfl, Ww1, hWw1, rfl⟩
  · refine fe_s 1 (pc' := cond (fx_cb .ne 0 0) 15 9) (lc' := [(0, .ref 0), (1, .int w), (2, .int c)]) (stk' := []) (mem' := fm g tp bt a b) (fun _ _ _ => rfl) ?_
    rw [show (fx_cb .ne 0 0) = false from by decide]
    dsimp only [cond]
    refine fe_s 2 (pc' := 11) (lc' := [(0, .ref 0), (1, .int w), (2, .int c)]) (stk' := [.int 1, .ref 0]) (mem' := fm g tp bt a b) (fun _ _ _ => rfl) ?_
    refine fe_ivV (fr_refuse (x := 1)) (by omega) (by rfl) (by rfl) (by rfl) (by rfl) (by rfl) (by rfl) ?_
    exact fe_ret ⟨_, _, _, _, _, _, (fm_E_rf hBa), (fm_G_2 hG (by decide) (by decide)), (fun _ _ _ => rfl), rfl⟩ (by rfl) (by rfl) (by rfl)
  · refine fe_s 1 (pc' := cond (fx_cb .ne 1 0) 15 9) (lc' := [(0, .ref 0), (1, .int (nI Ww1)), (2, .int c)]) (stk' := []) (mem' := fm g tp bt a b) (fun _ _ _ => rfl) ?_
    rw [show (fx_cb .ne 1 0) = true from by decide]
    dsimp only [cond]
    refine fe_s 3 (pc' := 18) (lc' := [(0, .ref 0), (1, .int (nI Ww1)), (2, .int c)]) (stk' := [.int c, .int (nI Ww1), .ref 0]) (mem' := fm g tp bt a b) (fun _ _ _ => rfl) ?_
    obtain ⟨vd2, memd2, ⟨xd2, ad2, hDd2, hRd2⟩, hfrd2⟩ := fr_cutOf (W := Ww1) (to := c) (g := g) (tp := tp) (bt := bt) (a := a) (b := b) hB hD (by omega)
    cases hRd2
    refine fe_ivV hfrd2 (by omega) (by rfl) (by rfl) (by rfl) (by rfl) (by rfl) (by rfl) ?_
    refine fe_s 3 (pc' := 24) (lc' := [(3, .int xd2), (0, .ref 0), (1, .int (nI Ww1)), (2, .int c)]) (stk' := [.int (-1), .int xd2]) (mem' := fm g tp bt ad2 b) (fun _ _ _ => rfl) ?_
    refine fe_s 1 (pc' := cond (fx_cb .ne xd2 (-1)) 36 27) (lc' := [(3, .int xd2), (0, .ref 0), (1, .int (nI Ww1)), (2, .int c)]) (stk' := []) (mem' := fm g tp bt ad2 b) (fun _ _ _ => rfl) ?_
    cases h3 : fx_cb .ne xd2 (-1)
    · refine fe_s 2 (pc' := 30) (lc' := [(3, .int xd2), (0, .ref 0), (1, .int (nI Ww1)), (2, .int c)]) (stk' := [.int 6, .ref 0]) (mem' := fm g tp bt ad2 b) (fun _ _ _ => rfl) ?_
      refine fe_ivV (fr_refuse (x := 6)) (by omega) (by rfl) (by rfl) (by rfl) (by rfl) (by rfl) (by rfl) ?_
      refine fe_s 1 (pc' := 44) (lc' := [(3, .int xd2), (0, .ref 0), (1, .int (nI Ww1)), (2, .int c)]) (stk' := [.int (-1)]) (mem' := fm (upd g 2 6) tp bt ad2 b) (fun _ _ _ => rfl) ?_
      exact fe_ret ⟨_, _, _, _, _, _, fm_E_D hB hDd2 (by omega), (fm_G_2 hG (by decide) (by decide)), (fun _ _ _ => rfl), rfl⟩ (by rfl) (by rfl) (by rfl)
    · refine fe_s 2 (pc' := 38) (lc' := [(3, .int xd2), (0, .ref 0), (1, .int (nI Ww1)), (2, .int c)]) (stk' := [.int xd2, .ref 0]) (mem' := fm g tp bt ad2 b) (fun _ _ _ => rfl) ?_
      obtain ⟨vb4, hfrb4⟩ := fr_bits (x := xd2) (mem := fm g tp bt ad2 b)
      refine fe_ivS hfrb4 (by omega) (by rfl) (by rfl) (by rfl) (by rfl) (by rfl) ?_
      refine fe_ivV (fr_gives (x := vb4)) (by omega) (by rfl) (by rfl) (by rfl) (by rfl) (by rfl) (by rfl) ?_
      exact fe_ret ⟨_, _, _, _, _, _, fm_E_D hB hDd2 (by omega), (fm_G_2 hG (by decide) (by decide)), (fun _ _ _ => rfl), rfl⟩ (by rfl) (by rfl) (by rfl)
theorem fr_cutSet {w c : Int32} (hBa : fm_B a) (hgb : fm_gb g) : ∃ (v : Option Value) (mem' : fx_M), (fm_PO g tp bt a b) (v, mem') ∧ fr_T 10 321 [.ref 0, .int w, .int c] (fm g tp bt a b) v mem' := by
  have hG := fm_G_rf hgb
  have hB := hBa
  obtain ⟨NC, hNC, eNC⟩ := fm_B_0 hB (i := 0) (n := 10) (by decide) rfl
  obtain ⟨NW, hNW, eNW⟩ := fm_B_0 hB (i := 1) (n := 8) (by decide) rfl
  obtain ⟨NG, hNG, eNG⟩ := fm_B_0 hB (i := 3) (n := 20) (by decide) rfl
  obtain ⟨T, hT9, eT⟩ := fm_T5 hB
  have hD : fm_D a a T := fm_D_rf hB eT (by omega)
  refine fe_meth (F := fm_PO g tp bt a b) (M := gk_m321) (by rfl) (by rfl) ?_
  refine fe_s 3 (pc' := 3) (lc' := [(0, .ref 0), (1, .int w), (2, .int c)]) (stk' := [.int c, .int w, .ref 0]) (mem' := fm g tp bt a b) (fun _ _ _ => rfl) ?_
  obtain ⟨vw1, memw1, ⟨xw1, hxw1, hRw1⟩, hfrw1⟩ := fr_isAway (w := w) (c := c) (g := g) (tp := tp) (bt := bt) (b := b) (fm_D_t hB hD)
  cases hRw1
  refine fe_ivV hfrw1 (by omega) (by rfl) (by rfl) (by rfl) (by rfl) (by rfl) (by rfl) ?_
  rcases hxw1 with rfl | ⟨rfl, Ww1, hWw1, rfl⟩
  · refine fe_s 1 (pc' := cond (fx_cb .eq 0 0) 22 9) (lc' := [(0, .ref 0), (1, .int w), (2, .int c)]) (stk' := []) (mem' := fm g tp bt a b) (fun _ _ _ => rfl) ?_
    rw [show (fx_cb .eq 0 0) = true from by decide]
    dsimp only [cond]
    refine fe_s 2 (pc' := 24) (lc' := [(0, .ref 0), (1, .int w), (2, .int c)]) (stk' := [.int 1, .ref 0]) (mem' := fm g tp bt a b) (fun _ _ _ => rfl) ?_
    refine fe_ivV (fr_refuse (x := 1)) (by omega) (by rfl) (by rfl) (by rfl) (by rfl) (by rfl) (by rfl) ?_
    exact fe_ret ⟨_, _, _, _, _, _, (fm_E_rf hBa), (fm_G_2 hG (by decide) (by decide)), (fun _ _ _ => rfl), rfl⟩ (by rfl) (by rfl) (by rfl)
  · refine fe_s 1 (pc' := cond (fx_cb .eq 1 0) 22 9) (lc' := [(0, .ref 0), (1, .int (nI Ww1)), (2, .int c)]) (stk' := []) (mem' := fm g tp bt a b) (fun _ _ _ => rfl) ?_
    rw [show (fx_cb .eq 1 0) = false from by decide]
    dsimp only [cond]
    refine fe_s 4 (pc' := 13) (lc' := [(0, .ref 0), (1, .int (nI Ww1)), (2, .int c)]) (stk' := [.int c, .int (nI Ww1), .ref 0, .ref 0]) (mem' := fm g tp bt a b) (fun _ _ _ => rfl) ?_
    obtain ⟨vd2, memd2, ⟨xd2, ad2, hDd2, hRd2⟩, hfrd2⟩ := fr_cutOf (W := Ww1) (to := c) (g := g) (tp := tp) (bt := bt) (a := a) (b := b) hB hD (by omega)
    cases hRd2
    refine fe_ivV hfrd2 (by omega) (by rfl) (by rfl) (by rfl) (by rfl) (by rfl) (by rfl) ?_
    obtain ⟨vo3, memo3, ⟨so3, hso3, hto3, hRo3⟩, hfro3⟩ := fr_orNone (x := xd2) (g := g) (tp := tp) (bt := bt) (a := ad2) (b := b)
    cases hRo3
    refine fe_ivV hfro3 (by omega) (by rfl) (by rfl) (by rfl) (by rfl) (by rfl) (by rfl) ?_
    refine fe_s 1 (pc' := 27) (lc' := [(0, .ref 0), (1, .int (nI Ww1)), (2, .int c)]) (stk' := [.int xd2]) (mem' := fm (upd g 2 so3) tp bt ad2 b) (fun _ _ _ => rfl) ?_
    exact fe_ret ⟨_, _, _, _, _, _, fm_E_D hB hDd2 (by omega), (fm_G_2 hG hso3 hto3), (fun _ _ _ => rfl), rfl⟩ (by rfl) (by rfl) (by rfl)
end FSE
end MH22_1
