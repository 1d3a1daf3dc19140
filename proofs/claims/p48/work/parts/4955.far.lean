/-! ===== fx: ways and what is left as it was ===== -/
theorem fm_D_ok9 {a0 a p : Nat → Nat → Int32} {T : Nat} (hD : fm_D a0 a T) (h : fm_ok9 a p) : fm_D a0 p T := by
  obtain ⟨d1, d2, d3, d4, d5, d6⟩ := hD
  have e1 : p 1 = a 1 := h.1 1 (by decide)
  refine ⟨fun t ht => ?_, fun i h5 hd => by rw [e1]; exact d2 i h5 hd, fun i hd => fm_bd_eq (d3 i hd) (by rw [e1]), by rw [e1]; exact d4, d5, fm_bfs_bd h.2⟩
  rw [h.1 t (fun e => by subst e; exact absurd ht (by decide))]
  exact d1 t ht
theorem fm_D_sent {a0 a q : Nat → Nat → Int32} {T W : Nat} (hD : fm_D a0 a T) (hW : W < 8) (h : fm_sent a q W) : fm_D a0 q T := by
  obtain ⟨d1, d2, d3, d4, d5, d6⟩ := hD
  obtain ⟨s1, s2, s3⟩ := h
  refine ⟨fun t ht => ?_, fun i h5 hd => ?_, fun i hd => ?_, ?_, d5, s2⟩
  · rw [s1 t (fun e => by subst e; exact absurd ht (by decide)) (fun e => by subst e; exact absurd ht (by decide))]
    exact d1 t ht
  · rcases s3 i with e | ⟨e1, e2, -⟩ | ⟨e1, -⟩
    · rw [e]; exact d2 i h5 hd
    · rw [(gm_at_0rt i (by omega) (by omega)).2] at hd; cases hd
    · rw [e1, (gm_at_0w3 W hW).2] at hd; cases hd
  · rcases s3 i with e | ⟨e1, e2, c, hc, e⟩ | ⟨e1, n, hn, e⟩
    · exact fm_bd_eq (d3 i hd) e
    · unfold fm_bd
      rw [(gm_at_0rt i (by omega) (by omega)).1, e, nI_i32 (by omega)]
      exact ⟨by show (0 : Int) ≤ _; omega, by show _ ≤ (9 : Int); omega⟩
    · unfold fm_bd
      rw [e, e1, (gm_at_0w3 W hW).1, nI_i32 (by omega)]
      exact ⟨by show (0 : Int) ≤ _; omega, by show _ ≤ (20 : Int); omega⟩
  · rcases s3 5 with e | ⟨e1, -⟩ | ⟨e1, -⟩
    · rw [e]; exact d4
    · omega
    · omega
theorem fm_shlP : ∀ NC, NC ≤ 10 → ∃ P, P ≤ 1024 ∧ ((1 : Int32) <<< (nI NC &&& 31)) = nI P := fun NC h => by
  have : ∀ n, n < 11 → ((1 : Int32) <<< (nI n &&& 31)) = nI (2 ^ n) ∧ 2 ^ n ≤ 1024 := by decide
  obtain ⟨h1, h2⟩ := this NC (by omega)
  exact ⟨_, h2, h1⟩
theorem fm_lshl : ∀ n, n < 11 → (((1 : Int64) <<< ((nI n).toInt64 &&& 63)) - 1).toInt = 2 ^ n - 1 := by decide
theorem fm_bits_dec (x : Int32) (h : ¬ x = 0) : (x &&& (x - 1)).toBitVec.toNat < x.toBitVec.toNat := by
  have h0 : 0 < x.toBitVec.toNat := by
    rcases Nat.eq_zero_or_pos x.toBitVec.toNat with e | e
    · exact absurd (Int32.toBitVec_inj.mp (BitVec.eq_of_toNat_eq (by rw [e]; rfl))) h
    · exact e
  have h1 : (x - 1).toBitVec.toNat = x.toBitVec.toNat - 1 := by
    rw [Int32.toBitVec_sub, BitVec.toNat_sub]
    have hl := x.toBitVec.isLt
    rw [show (1 : Int32).toBitVec.toNat = 1 from rfl]
    omega
  have h2 : (x &&& (x - 1)).toBitVec.toNat ≤ (x - 1).toBitVec.toNat := by
    rw [Int32.toBitVec_and, BitVec.toNat_and]
    exact Nat.and_le_right
  omega
/-- a WAY is hewn, or shut -/
theorem fm_B_hew {a : Nat → Nat → Int32} (hB : fm_B a) {o t : Nat} (ho : o < 10) (ht : t < 10) (hne : ¬ o = t) : fm_B (fm_u (fm_u a 1 (10 + 6 * o) (a 1 (10 + 6 * o) ^^^ ((1 : Int32) <<< (nI t &&& 31)))) 1 (10 + 6 * t) ((fm_u a 1 (10 + 6 * o) (a 1 (10 + 6 * o) ^^^ ((1 : Int32) <<< (nI t &&& 31)))) 1 (10 + 6 * t) ^^^ ((1 : Int32) <<< (nI o &&& 31)))) := by
  obtain ⟨h1, ⟨h2, h3⟩, h4⟩ := hB
  have gc : ∀ c, c < 10 → gm_at (10 + 6 * c) = (0, 1023) := by decide
  have hv : ∀ c, c < 10 → ∃ m, m < 1024 ∧ a 1 (10 + 6 * c) = nI m := fun c hc => by
    obtain ⟨m, hm, e⟩ := fm_bd_n (n := 1023) (h1 (10 + 6 * c) (by omega)) (gc c hc)
    exact ⟨m, by omega, e⟩
  obtain ⟨mo, hmo, eo⟩ := hv o ho
  obtain ⟨mt, hmt, et⟩ := hv t ht
  generalize hA : fm_u (fm_u a 1 (10 + 6 * o) (a 1 (10 + 6 * o) ^^^ ((1 : Int32) <<< (nI t &&& 31)))) 1 (10 + 6 * t) ((fm_u a 1 (10 + 6 * o) (a 1 (10 + 6 * o) ^^^ ((1 : Int32) <<< (nI t &&& 31)))) 1 (10 + 6 * t) ^^^ ((1 : Int32) <<< (nI o &&& 31))) = A
  have v : ∀ i, A 1 i = if i = 10 + 6 * t then nI (mt ^^^ 2 ^ o) else if i = 10 + 6 * o then nI (mo ^^^ 2 ^ t) else a 1 i := fun i => by
    rw [← hA, fm_u1, fm_u1, if_neg (show ¬ 10 + 6 * t = 10 + 6 * o by omega), et, fm_xor_nat mt hmt o ho, fm_u1, eo, fm_xor_nat mo hmo t ht]
  have vt : ∀ s, s ≠ 1 → A s = a s := fun s hs => by rw [← hA, fm_ut hs, fm_ut hs]
  have hw : ∀ c, c < 10 → ∃ m m2, m < 1024 ∧ m2 < 1024 ∧ a 1 (10 + 6 * c) = nI m ∧ A 1 (10 + 6 * c) = nI m2 ∧ ∀ d, d < 10 → m2.testBit d = (m.testBit d ^^ ((decide (c = o) && decide (d = t)) || (decide (c = t) && decide (d = o)))) := fun c hc => by
    by_cases e1 : c = t
    · subst e1
      refine ⟨mt, mt ^^^ 2 ^ o, hmt, fm_xor_lt hmt ho, et, by rw [v, if_pos rfl], fun d hd => ?_⟩
      rw [Nat.testBit_xor, Nat.testBit_two_pow, decide_eq_true (rfl : c = c), decide_eq_false (show ¬ c = o from fun z => hne z.symm), Bool.false_and, Bool.false_or, Bool.true_and]
      congr 1
      exact decide_eq_decide.mpr ⟨fun z => z.symm, fun z => z.symm⟩
    · by_cases e2 : c = o
      · subst e2
        refine ⟨mo, mo ^^^ 2 ^ t, hmo, fm_xor_lt hmo ht, eo, by rw [v, if_neg (by omega), if_pos rfl], fun d hd => ?_⟩
        rw [Nat.testBit_xor, Nat.testBit_two_pow, decide_eq_true (rfl : c = c), decide_eq_false e1, Bool.false_and, Bool.or_false, Bool.true_and]
        congr 1
        exact decide_eq_decide.mpr ⟨fun z => z.symm, fun z => z.symm⟩
      · obtain ⟨m, hm, em⟩ := hv c hc
        refine ⟨m, m, hm, hm, em, by rw [v, if_neg (by omega), if_neg (by omega), em], fun d hd => ?_⟩
        rw [decide_eq_false e1, decide_eq_false e2, Bool.false_and, Bool.false_and, Bool.or_false, Bool.xor_false]
  refine ⟨fun i hi => ?_, ⟨fun s hs c d hc hd => ?_, fun s hs n hn => ?_⟩, fun i hi => by rw [vt 9 (by decide)]; exact h4 i hi⟩
  · unfold fm_bd
    rw [v]
    split
    · next e => rw [e, gc t ht, nI_i32 (by have := fm_xor_lt hmt ho; omega)]; have := fm_xor_lt hmt ho; exact ⟨by show (0 : Int) ≤ _; omega, by show _ ≤ (1023 : Int); omega⟩
    · split
      · next e => rw [e, gc o ho, nI_i32 (by have := fm_xor_lt hmo ht; omega)]; have := fm_xor_lt hmo ht; exact ⟨by show (0 : Int) ≤ _; omega, by show _ ≤ (1023 : Int); omega⟩
      · exact h1 i hi
  · have h9 := h2 s hs c d hc hd
    rcases Nat.eq_zero_or_pos s with rfl | h0
    · rw [show 842 * 0 + 10 + 6 * c = 10 + 6 * c by omega, show 842 * 0 + 10 + 6 * d = 10 + 6 * d by omega] at h9 ⊢
      obtain ⟨m, m2, hm, hm2, f0, f1, f2⟩ := hw c hc
      obtain ⟨k, k2, hk, hk2, g0, g1, g2⟩ := hw d hd
      rw [f1, g1, fm_b_nat m2 hm2 d hd, fm_b_nat k2 hk2 c hc, f2 d hd, g2 c hc]
      rw [f0, g0, fm_b_nat m hm d hd, fm_b_nat k hk c hc] at h9
      have h10 : m.testBit d = k.testBit c := by
        cases h1 : m.testBit d <;> cases h2 : k.testBit c <;> first | rfl | (rw [h1, h2] at h9; exact absurd h9 (by decide))
      rw [h10]
      congr 2
      rw [Bool.or_comm (decide (c = o) && decide (d = t)), Bool.and_comm (decide (c = t)), Bool.and_comm (decide (c = o))]
    · rw [v, v, if_neg (by omega), if_neg (by omega), if_neg (by omega), if_neg (by omega)]; exact h9
  · rw [v, if_neg (by omega), if_neg (by omega)] at hn
    have := h3 s hs n hn
    rw [v, v, if_neg (by omega), if_neg (by omega), if_neg (by omega), if_neg (by omega)]; exact this
/-- a slot is taken over by another -/
def fm_cpy (a a' : Nat → Nat → Int32) (s d : Nat) : Prop := (∀ t, t ≠ 1 → a' t = a t) ∧ (∀ i, ¬ (842 * d ≤ i ∧ i < 842 * d + 842) → a' 1 i = a 1 i) ∧ ∀ k, k < 842 → a' 1 (842 * d + k) = a 1 (842 * s + k)
theorem gm_at_s4eq : ∀ s, s < 4 → ∀ k, k < 842 → gm_at (842 * s + k) = gm_at k := by decide +kernel
theorem fm_B_cpy {a a' : Nat → Nat → Int32} {s d : Nat} (hB : fm_B a) (hs : s < 4) (hd : d < 4) (h : fm_cpy a a' s d) : fm_B a' := by
  obtain ⟨h1, ⟨h2, h3⟩, h4⟩ := hB
  obtain ⟨c1, c2, c3⟩ := h
  refine ⟨fun i hi => ?_, ⟨fun z hz c e hc he => ?_, fun z hz n hn => ?_⟩, fun i hi => by rw [c1 9 (by decide)]; exact h4 i hi⟩
  · by_cases hi2 : 842 * d ≤ i ∧ i < 842 * d + 842
    · obtain ⟨k, rfl⟩ := Nat.exists_eq_add_of_le hi2.1
      have := h1 (842 * s + k) (by omega)
      unfold fm_bd at this ⊢
      rw [c3 k (by omega), gm_at_s4eq d hd k (by omega), ← gm_at_s4eq s hs k (by omega)]
      exact this
    · exact fm_bd_eq (h1 i hi) (c2 i hi2)
  · by_cases hz2 : z = d
    · subst hz2
      have := h2 s (by omega) c e hc he
      rw [show 842 * z + 10 + 6 * c = 842 * z + (10 + 6 * c) by omega, show 842 * z + 10 + 6 * e = 842 * z + (10 + 6 * e) by omega, c3 _ (by omega), c3 _ (by omega), ← Nat.add_assoc, ← Nat.add_assoc]
      exact this
    · rw [c2 _ (by omega), c2 _ (by omega)]; exact h2 z hz c e hc he
  · by_cases hz2 : z = d
    · subst hz2
      rw [c3 6 (by omega)] at hn
      have hn6 : (n : Int) < 60 := by
        have := (h1 (842 * s + 6) (by omega)).2
        rw [gm_at_s4eq s hs 6 (by omega), show gm_at 6 = (-1, 60) from rfl] at this
        have h60 : (a 1 (842 * s + 6)).toInt ≤ 60 := this
        omega
      have := h3 s hs n hn
      rw [show 842 * z + 478 + 6 * n = 842 * z + (478 + 6 * n) by omega, show 842 * z + 479 + 6 * n = 842 * z + (479 + 6 * n) by omega, c3 _ (by omega), c3 _ (by omega), ← Nat.add_assoc, ← Nat.add_assoc]
      exact this
    · rw [c2 _ (by omega)] at hn
      have hn6 : (n : Int) < 60 := by
        have := (h1 (842 * z + 6) (by omega)).2
        rw [gm_at_s4eq z hz 6 (by omega), show gm_at 6 = (-1, 60) from rfl] at this
        have h60 : (a 1 (842 * z + 6)).toInt ≤ 60 := this
        omega
      have := h3 z hz n hn
      rw [c2 _ (by omega), c2 _ (by omega)]; exact this
theorem fm_E_f9 {a p : Nat → Nat → Int32} (hB : fm_B a) (h : fm_f9 a p) : fm_E a p := ⟨fm_B_eq hB (fun i => by rw [h.1 1 (by decide)]) h.2, fun t ht => h.1 t (fun e => by subst e; exact absurd ht (by decide)), fun i _ => by rw [h.1 1 (by decide)]⟩
theorem fm_B_t {a : Nat → Nat → Int32} (hB : fm_B a) : fm_t a := by
  obtain ⟨T, h1, h2⟩ := fm_T5 hB
  exact fm_D_t hB (fm_D_rf hB h2 (by omega))
theorem fm_B_sym {a : Nat → Nat → Int32} (hB : fm_B a) : fm_sym a := by
  obtain ⟨T, h1, h2⟩ := fm_T5 hB
  exact fm_D_sym hB (fm_D_rf hB h2 (by omega))
section FPW
variable {g : Nat → Int32} {tp bt : Int64} {a : Nat → Nat → Int32} {b : Nat → Nat → Int64}
theorem fr_wayAtP {w c k : Int32} (hBa : fm_B a) (hgb : fm_gb g) : ∃ (v : Option Value) (mem' : fx_M), fm_PO g tp bt a b (v, mem') ∧ fr_T 8 311 [.ref 0, .int w, .int c, .int k] (fm g tp bt a b) v mem' := by
  obtain ⟨v, mem', ⟨x, s, p, h1, h2, h3, h4, hR⟩, hfr⟩ := fr_wayAt (g := g) (tp := tp) (bt := bt) (b := b) (w := w) (c := c) (k := k) (fm_B_t hBa) (fm_B_sym hBa) hBa.2.2
  exact ⟨v, mem', ⟨x, _, _, _, p, b, fm_E_f9 hBa h4, fm_G_2 (fm_G_rf hgb) h2 h3, fun _ _ _ => rfl, hR⟩, hfr⟩
theorem fr_surestAtP {w c k : Int32} (hBa : fm_B a) (hgb : fm_gb g) : ∃ (v : Option Value) (mem' : fx_M), fm_PO g tp bt a b (v, mem') ∧ fr_T 9 317 [.ref 0, .int w, .int c, .int k] (fm g tp bt a b) v mem' := by
  obtain ⟨v, mem', ⟨x, s, y, p, g', h1, h2, h3, h4, h5, hR⟩, hfr⟩ := fr_surestAt (g := g) (tp := tp) (bt := bt) (b := b) (w := w) (c := c) (k := k) (fm_B_t hBa) (fm_B_sym hBa) hBa.2.2
  refine ⟨v, mem', ⟨x, _, _, _, p, b, fm_E_f9 hBa h4, fm_G_2 ?_ h2 h3, fun _ _ _ => rfl, hR⟩, hfr⟩
  rcases h5 with rfl | rfl
  · exact fm_G_rf hgb
  · exact fm_G_f (fm_G_rf hgb) (Or.inl rfl)
end FPW
