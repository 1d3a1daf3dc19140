/-! ===== fx: what walking changes of the LAKE ===== -/
/-- the places of the LAKE that walking changes, but for the STEP -/
def fm_dyn (i : Nat) : Bool := decide (8 ≤ i ∧ i < 68 ∧ ((i - 8) % 6 = 1 ∨ (i - 8) % 6 = 4 ∨ (i - 8) % 6 = 5) ∨ 68 ≤ i ∧ i < 278 ∨ 278 ≤ i ∧ i < 318 ∧ ¬ (i - 278) % 5 = 0 ∨ 318 ≤ i ∧ i < 478)
/-- arrays that may be anything of their kind behind a call -/
def fm_okt (t : Nat) : Bool := decide (t = 1 ∨ t = 9 ∨ t = 16 ∨ 19 ≤ t ∧ t ≤ 21)
def fm_XA (a : Nat → Nat → Int32) : Prop := (∀ s, s < 7 → fm_sy a (842 * s)) ∧ ∀ s, s < 4 → ∀ n : Nat, (n : Int) < (a 1 (842 * s + 6)).toInt → fm_ro (a 1 (842 * s + 478 + 6 * n)) (a 1 (842 * s + 479 + 6 * n))
def fm_bd (a : Nat → Nat → Int32) (i : Nat) : Prop := (gm_at i).1 ≤ (a 1 i).toInt ∧ (a 1 i).toInt ≤ (gm_at i).2
/-- the memory is as it must be between two calls -/
def fm_B (a : Nat → Nat → Int32) : Prop := (∀ i, i < 5894 → fm_bd a i) ∧ fm_XA a ∧ ∀ i, i < 10 → 0 ≤ (a 9 i).toInt ∧ (a 9 i).toInt ≤ 1000000
/-- the LAKE has been walked on -/
def fm_D (a0 a : Nat → Nat → Int32) (T : Nat) : Prop := (∀ t, fm_okt t = false → a t = a0 t) ∧ (∀ i, i ≠ 5 → fm_dyn i = false → a 1 i = a0 1 i) ∧ (∀ i, fm_dyn i = true → fm_bd a i) ∧ a 1 5 = nI T ∧ T ≤ 10030 ∧ ∀ i, i < 10 → 0 ≤ (a 9 i).toInt ∧ (a 9 i).toInt ≤ 1000000
section FD
variable {a0 a : Nat → Nat → Int32} {T : Nat}
theorem fm_dyn_lt {i : Nat} (h : fm_dyn i = true) : 8 ≤ i ∧ i < 478 := by
  have := of_decide_eq_true h
  omega
theorem fm_D_rf (hB : fm_B a) (hT : a 1 5 = nI T) (hT9 : T ≤ 10030) : fm_D a a T := ⟨fun _ _ => rfl, fun _ _ _ => rfl, fun i hi => hB.1 i (by have := fm_dyn_lt hi; omega), hT, hT9, hB.2.2⟩
theorem fm_D_h (hD : fm_D a0 a T) {i : Nat} (h5 : i ≠ 5) (hd : fm_dyn i = false) : a 1 i = a0 1 i := hD.2.1 i h5 hd
theorem fm_bd_n {i n : Nat} (h : fm_bd a i) (hg : gm_at i = (0, (n : Int))) : ∃ m, m ≤ n ∧ a 1 i = nI m := by
  unfold fm_bd at h
  rw [hg] at h
  exact nI_bd h.1 h.2
theorem gm_at_0w1 : ∀ w, w < 8 → gm_at (279 + 5 * w) = (0, 9) ∧ fm_dyn (279 + 5 * w) = true := by decide
theorem gm_at_0w2 : ∀ w, w < 8 → gm_at (280 + 5 * w) = (0, 1) ∧ fm_dyn (280 + 5 * w) = true := by decide
theorem gm_at_0w3 : ∀ w, w < 8 → gm_at (281 + 5 * w) = (0, 20) ∧ fm_dyn (281 + 5 * w) = true := by decide
theorem gm_at_0w4 : ∀ w, w < 8 → gm_at (282 + 5 * w) = (-2147483648, 2147483647) ∧ fm_dyn (282 + 5 * w) = true := by decide
theorem gm_at_0rt : ∀ i, i < 478 → 318 ≤ i → gm_at i = (0, 9) ∧ fm_dyn i = true := by decide +kernel
theorem gm_at_0cm : ∀ i, i < 278 → 68 ≤ i → gm_at i = (-2147483648, 2147483647) ∧ fm_dyn i = true := by decide +kernel
theorem gm_at_0c1 : ∀ c, c < 10 → gm_at (9 + 6 * c) = (-2147483648, 2147483647) ∧ fm_dyn (9 + 6 * c) = true := by decide
theorem gm_at_0c4 : ∀ c, c < 10 → gm_at (12 + 6 * c) = (0, 1) ∧ fm_dyn (12 + 6 * c) = true := by decide
theorem gm_at_0c5 : ∀ c, c < 10 → gm_at (13 + 6 * c) = (-2147483648, 2147483647) ∧ fm_dyn (13 + 6 * c) = true := by decide
theorem fm_D_w1 (hD : fm_D a0 a T) {W : Nat} (hW : W < 8) : ∃ X, X < 10 ∧ a 1 (279 + 5 * W) = nI X := by
  obtain ⟨h1, h2⟩ := gm_at_0w1 W hW
  obtain ⟨m, hm, e⟩ := fm_bd_n (n := 9) (hD.2.2.1 _ h2) h1
  exact ⟨m, by omega, e⟩
theorem fm_D_w3 (hD : fm_D a0 a T) {W : Nat} (hW : W < 8) : ∃ X, X ≤ 20 ∧ a 1 (281 + 5 * W) = nI X := by
  obtain ⟨h1, h2⟩ := gm_at_0w3 W hW
  exact fm_bd_n (n := 20) (hD.2.2.1 _ h2) h1
theorem fm_D_rt (hD : fm_D a0 a T) {i : Nat} (h1 : 318 ≤ i) (h2 : i < 478) : ∃ X, X < 10 ∧ a 1 i = nI X := by
  obtain ⟨g1, g2⟩ := gm_at_0rt i h2 h1
  obtain ⟨m, hm, e⟩ := fm_bd_n (n := 9) (hD.2.2.1 _ g2) g1
  exact ⟨m, by omega, e⟩
theorem fm_B_0 (hB : fm_B a0) {i n : Nat} (hi : i < 5894) (hg : gm_at i = (0, (n : Int))) : ∃ m, m ≤ n ∧ a0 1 i = nI m := fm_bd_n (hB.1 i hi) hg
theorem fm_D_t (hB : fm_B a0) (hD : fm_D a0 a T) : fm_t a := by
  refine ⟨?_, ?_, ?_, ⟨T, hD.2.2.2.2.1, hD.2.2.2.1⟩, fun w hw => fm_D_w1 hD hw⟩
  · rw [fm_D_h hD (by decide) (by decide)]; exact fm_B_0 hB (by decide) rfl
  · rw [fm_D_h hD (by decide) (by decide)]; exact fm_B_0 hB (by decide) rfl
  · rw [fm_D_h hD (by decide) (by decide)]; exact fm_B_0 hB (by decide) rfl
theorem fm_dyn_c2 : ∀ c, c < 10 → fm_dyn (10 + 6 * c) = false := by decide
theorem fm_D_sym (hB : fm_B a0) (hD : fm_D a0 a T) : fm_sym a := fun A B hA hB2 => by
  rw [fm_D_h hD (by omega) (fm_dyn_c2 A hA), fm_D_h hD (by omega) (fm_dyn_c2 B hB2)]
  have := hB.2.1.1 0 (by omega) A B hA hB2
  rw [show 842 * 0 + 10 + 6 * A = 10 + 6 * A by omega, show 842 * 0 + 10 + 6 * B = 10 + 6 * B by omega] at this
  exact this
theorem fm_D_u (hD : fm_D a0 a T) {i : Nat} {v : Int32} (hd : fm_dyn i = true) (hb : (gm_at i).1 ≤ v.toInt ∧ v.toInt ≤ (gm_at i).2) : fm_D a0 (fm_u a 1 i v) T := by
  obtain ⟨d1, d2, d3, d4, d5, d6⟩ := hD
  have hi := fm_dyn_lt hd
  have ht : ∀ t, fm_okt t = false → t ≠ 1 := fun t h e => by subst e; exact absurd h (by decide)
  refine ⟨fun t h => by rw [fm_ut (ht t h)]; exact d1 t h, fun j h5 hj => ?_, fun j hj => ?_, ?_, d5, fun j hj => by rw [fm_ut (by decide)]; exact d6 j hj⟩
  · rw [fm_u1, if_neg (fun e => by rw [e, hd] at hj; cases hj)]; exact d2 j h5 hj
  · unfold fm_bd
    rw [fm_u1]
    split
    · next e => rw [e]; exact hb
    · exact d3 j hj
  · rw [fm_u1, if_neg (by omega)]; exact d4
theorem fm_D_T (hD : fm_D a0 a T) {T' : Nat} (hT : T' ≤ 10030) : fm_D a0 (fm_u a 1 5 (nI T')) T' := by
  obtain ⟨d1, d2, d3, d4, d5, d6⟩ := hD
  have ht : ∀ t, fm_okt t = false → t ≠ 1 := fun t h e => by subst e; exact absurd h (by decide)
  refine ⟨fun t h => by rw [fm_ut (ht t h)]; exact d1 t h, fun j h5 hj => ?_, fun j hj => ?_, ?_, hT, fun j hj => by rw [fm_ut (by decide)]; exact d6 j hj⟩
  · rw [fm_u1, if_neg h5]; exact d2 j h5 hj
  · unfold fm_bd
    rw [fm_u1, if_neg (by have := fm_dyn_lt hj; omega)]
    exact d3 j hj
  · rw [fm_u1, if_pos rfl]
theorem fm_D_ot (hD : fm_D a0 a T) {t i : Nat} {v : Int32} (h1 : t ≠ 1) (h9 : t ≠ 9) (ht : fm_okt t = true) : fm_D a0 (fm_u a t i v) T := by
  obtain ⟨d1, d2, d3, d4, d5, d6⟩ := hD
  have e1 : (fm_u a t i v) 1 = a 1 := fm_utt (fun e => h1 e.symm)
  have e9 : (fm_u a t i v) 9 = a 9 := fm_utt (fun e => h9 e.symm)
  refine ⟨fun s h => by rw [fm_utt (fun e => by subst e; rw [h] at ht; cases ht)]; exact d1 s h, fun j h5 hj => by rw [e1]; exact d2 j h5 hj, fun j hj => ?_, by rw [e1]; exact d4, d5, fun j hj => by rw [e9]; exact d6 j hj⟩
  unfold fm_bd
  rw [e1]
  exact d3 j hj
theorem fm_in_full (v : Int32) : (-2147483648 : Int) ≤ v.toInt ∧ v.toInt ≤ 2147483647 := by
  have h1 := v.le_toInt
  have h2 := v.toInt_lt
  omega
theorem fm_Dw1 (hD : fm_D a0 a T) {W X : Nat} (hW : W < 8) (hX : X < 10) : fm_D a0 (fm_u a 1 (279 + 5 * W) (nI X)) T := fm_D_u hD (gm_at_0w1 W hW).2 (by rw [(gm_at_0w1 W hW).1, nI_i32 (by omega)]; exact ⟨by show (0 : Int) ≤ _; omega, by show _ ≤ (9 : Int); omega⟩)
theorem fm_Dw2 (hD : fm_D a0 a T) {W X : Nat} (hW : W < 8) (hX : X < 2) : fm_D a0 (fm_u a 1 (280 + 5 * W) (nI X)) T := fm_D_u hD (gm_at_0w2 W hW).2 (by rw [(gm_at_0w2 W hW).1, nI_i32 (by omega)]; exact ⟨by show (0 : Int) ≤ _; omega, by show _ ≤ (1 : Int); omega⟩)
theorem fm_Dw3 (hD : fm_D a0 a T) {W X : Nat} (hW : W < 8) (hX : X ≤ 20) : fm_D a0 (fm_u a 1 (281 + 5 * W) (nI X)) T := fm_D_u hD (gm_at_0w3 W hW).2 (by rw [(gm_at_0w3 W hW).1, nI_i32 (by omega)]; exact ⟨by show (0 : Int) ≤ _; omega, by show _ ≤ (20 : Int); omega⟩)
theorem fm_Dw4 (hD : fm_D a0 a T) {W : Nat} {v : Int32} (hW : W < 8) : fm_D a0 (fm_u a 1 (282 + 5 * W) v) T := fm_D_u hD (gm_at_0w4 W hW).2 (by rw [(gm_at_0w4 W hW).1]; exact fm_in_full v)
theorem fm_Drt (hD : fm_D a0 a T) {i X : Nat} (h1 : 318 ≤ i) (h2 : i < 478) (hX : X < 10) : fm_D a0 (fm_u a 1 i (nI X)) T := fm_D_u hD (gm_at_0rt i h2 h1).2 (by rw [(gm_at_0rt i h2 h1).1, nI_i32 (by omega)]; exact ⟨by show (0 : Int) ≤ _; omega, by show _ ≤ (9 : Int); omega⟩)
theorem fm_Dcm (hD : fm_D a0 a T) {i : Nat} {v : Int32} (h1 : 68 ≤ i) (h2 : i < 278) : fm_D a0 (fm_u a 1 i v) T := fm_D_u hD (gm_at_0cm i h2 h1).2 (by rw [(gm_at_0cm i h2 h1).1]; exact fm_in_full v)
theorem fm_Dc1 (hD : fm_D a0 a T) {C : Nat} {v : Int32} (hC : C < 10) : fm_D a0 (fm_u a 1 (9 + 6 * C) v) T := fm_D_u hD (gm_at_0c1 C hC).2 (by rw [(gm_at_0c1 C hC).1]; exact fm_in_full v)
theorem fm_Dc4 (hD : fm_D a0 a T) {C X : Nat} (hC : C < 10) (hX : X < 2) : fm_D a0 (fm_u a 1 (12 + 6 * C) (nI X)) T := fm_D_u hD (gm_at_0c4 C hC).2 (by rw [(gm_at_0c4 C hC).1, nI_i32 (by omega)]; exact ⟨by show (0 : Int) ≤ _; omega, by show _ ≤ (1 : Int); omega⟩)
theorem fm_Dc5 (hD : fm_D a0 a T) {C : Nat} {v : Int32} (hC : C < 10) : fm_D a0 (fm_u a 1 (13 + 6 * C) v) T := fm_D_u hD (gm_at_0c5 C hC).2 (by rw [(gm_at_0c5 C hC).1]; exact fm_in_full v)
theorem fm_bd_eq {i : Nat} {b : Nat → Nat → Int32} (h : fm_bd a i) (e : b 1 i = a 1 i) : fm_bd b i := by
  unfold fm_bd at h ⊢
  rw [e]; exact h
/-- between two calls again -/
theorem fm_D_B (hB : fm_B a0) (hD : fm_D a0 a T) (hT : T ≤ 9999) : fm_B a := by
  have hh : ∀ i, 478 ≤ i → a 1 i = a0 1 i := fun i hi => fm_D_h hD (by omega) (by
    cases h : fm_dyn i
    · rfl
    · have := fm_dyn_lt h; omega)
  refine ⟨fun i hi => ?_, ⟨fun s hs c d hc hd => ?_, fun s hs n hn => ?_⟩, hD.2.2.2.2.2⟩
  · by_cases h5 : i = 5
    · subst h5
      unfold fm_bd
      rw [hD.2.2.2.1, nI_i32 (by omega), show gm_at 5 = (0, 9999) from rfl]
      exact ⟨by show (0 : Int) ≤ _; omega, by show _ ≤ (9999 : Int); omega⟩
    · cases h : fm_dyn i
      · exact fm_bd_eq (hB.1 i hi) (fm_D_h hD h5 h)
      · exact hD.2.2.1 i h
  · have h := hB.2.1.1 s hs c d hc hd
    rcases Nat.eq_zero_or_pos s with rfl | h0
    · rw [show 842 * 0 + 10 + 6 * c = 10 + 6 * c by omega, show 842 * 0 + 10 + 6 * d = 10 + 6 * d by omega] at h ⊢
      rw [fm_D_h hD (by omega) (fm_dyn_c2 c hc), fm_D_h hD (by omega) (fm_dyn_c2 d hd)]
      exact h
    · rw [hh _ (by omega), hh _ (by omega)]; exact h
  · have e6 : a 1 (842 * s + 6) = a0 1 (842 * s + 6) := by
      rcases Nat.eq_zero_or_pos s with rfl | h0
      · exact fm_D_h hD (by omega) rfl
      · exact hh _ (by omega)
    rw [e6] at hn
    rw [hh _ (by omega), hh _ (by omega)]
    exact hB.2.1.2 s hs n hn
end FD
