/-! ===== fx: the LAKE kept, and taken back ===== -/
def fm_K (a a0 : Nat → Nat → Int32) (to : Nat) : Prop := (∀ t, t ≠ 1 → a0 t = a t) ∧ (∀ i, ¬ (to ≤ i ∧ i < to + 478) → a0 1 i = a 1 i) ∧ ∀ k, k < 478 → a0 1 (to + k) = a 1 k
def fm_Rs (a1 a9 : Nat → Nat → Int32) (to : Nat) : Prop := (∀ t, t ≠ 1 → a9 t = a1 t) ∧ (∀ i, 478 ≤ i → a9 1 i = a1 1 i) ∧ ∀ k, k < 478 → a9 1 k = a1 1 (to + k)
theorem gm_at_k5 : ∀ k, k < 478 → gm_at (4210 + k) = gm_at k := by decide +kernel
theorem gm_at_k6 : ∀ k, k < 478 → gm_at (5052 + k) = gm_at k := by decide +kernel
theorem fm_B_eq {a b : Nat → Nat → Int32} (hB : fm_B a) (h : ∀ i, b 1 i = a 1 i) (h9 : ∀ i, i < 10 → 0 ≤ (b 9 i).toInt ∧ (b 9 i).toInt ≤ 1000000) : fm_B b := by
  obtain ⟨h1, ⟨h2, h3⟩, -⟩ := hB
  refine ⟨fun i hi => fm_bd_eq (h1 i hi) (h i), ⟨fun s hs c d hc hd => ?_, fun s hs n hn => ?_⟩, h9⟩
  · rw [h, h]; exact h2 s hs c d hc hd
  · rw [h] at hn
    rw [h, h]; exact h3 s hs n hn
theorem fm_kept {a a0 : Nat → Nat → Int32} {to : Nat} (hB : fm_B a) (ht : to = 4210 ∨ to = 5052) (h : fm_K a a0 to) : fm_B a0 := by
  obtain ⟨k1, k2, k3⟩ := h
  obtain ⟨h1, ⟨h2, h3⟩, h4⟩ := hB
  refine ⟨fun i hi => ?_, ⟨fun s hs c d hc hd => ?_, fun s hs n hn => ?_⟩, fun i hi => by rw [k1 9 (by decide)]; exact h4 i hi⟩
  · by_cases hi2 : to ≤ i ∧ i < to + 478
    · obtain ⟨k, rfl⟩ := Nat.exists_eq_add_of_le hi2.1
      have hg : gm_at (to + k) = gm_at k := by
        rcases ht with rfl | rfl
        · exact gm_at_k5 k (by omega)
        · exact gm_at_k6 k (by omega)
      have := h1 k (by omega)
      unfold fm_bd at this ⊢
      rw [k3 k (by omega), hg]
      exact this
    · exact fm_bd_eq (h1 i hi) (k2 i hi2)
  · by_cases hs2 : 842 * s = to
    · have := h2 0 (by omega) c d hc hd
      rw [show 842 * 0 + 10 + 6 * c = 10 + 6 * c by omega, show 842 * 0 + 10 + 6 * d = 10 + 6 * d by omega] at this
      rw [show 842 * s + 10 + 6 * c = to + (10 + 6 * c) by omega, show 842 * s + 10 + 6 * d = to + (10 + 6 * d) by omega, k3 _ (by omega), k3 _ (by omega)]
      exact this
    · rw [k2 _ (by omega), k2 _ (by omega)]
      exact h2 s hs c d hc hd
  · rw [k2 _ (by omega)] at hn
    have e6 := h3 s hs n hn
    have hn6 : (n : Int) < 60 := by
      have := (h1 (842 * s + 6) (by omega)).2
      have hg : (gm_at (842 * s + 6)).2 ≤ 60 := by
        have : ∀ s, s < 4 → (gm_at (842 * s + 6)).2 ≤ 60 := by decide
        exact this s hs
      omega
    rw [k2 _ (by omega), k2 _ (by omega)]
    exact e6
theorem fm_restd {a a0 a1 a9 : Nat → Nat → Int32} {to T : Nat} (hB : fm_B a0) (ht : to = 4210 ∨ to = 5052) (h : fm_K a a0 to) (hD : fm_D a0 a1 T) (hr : fm_Rs a1 a9 to) : fm_B a9 ∧ (∀ i, ¬ (to ≤ i ∧ i < to + 478) → a9 1 i = a 1 i) ∧ ∀ t, fm_okt t = false → a9 t = a t := by
  obtain ⟨k1, k2, k3⟩ := h
  obtain ⟨r1, r2, r3⟩ := hr
  have hh : ∀ i, 478 ≤ i → a1 1 i = a0 1 i := fun i hi => fm_D_h hD (by omega) (by
    cases h : fm_dyn i
    · rfl
    · have := fm_dyn_lt h; omega)
  have he : ∀ i, a9 1 i = a0 1 i := fun i => by
    rcases Nat.lt_or_ge i 478 with hi | hi
    · rw [r3 i hi, hh _ (by omega), k3 i hi, k2 i (by omega)]
    · rw [r2 i hi, hh i hi]
  refine ⟨fm_B_eq hB he (fun i hi => by rw [r1 9 (by decide)]; exact hD.2.2.2.2.2 i hi), fun i hi => by rw [he, k2 i hi], fun t ht2 => ?_⟩
  have h1 : t ≠ 1 := fun e => by subst e; exact absurd ht2 (by decide)
  rw [r1 t h1, hD.1 t ht2, k1 t h1]
/-- arrays of which a call says nothing -/
def fm_okE (t : Nat) : Bool := decide (t = 1 ∨ t = 9 ∨ 10 ≤ t ∧ t ≤ 13 ∨ t = 16 ∨ 19 ≤ t ∧ t ≤ 21)
/-- what stands in the LAKE and the kept ones, and isn't walked on -/
def fm_st (i : Nat) : Bool := decide (i < 3368 ∧ i ≠ 5) && !fm_dyn i
theorem fm_st_n {i : Nat} (h : fm_st i = true) : i < 3368 := (of_decide_eq_true (Bool.and_eq_true_iff.mp h).1).1
theorem fm_st_5 {i : Nat} (h : fm_st i = true) : i ≠ 5 := (of_decide_eq_true (Bool.and_eq_true_iff.mp h).1).2
theorem fm_st_d {i : Nat} (h : fm_st i = true) : fm_dyn i = false := by
  have := (Bool.and_eq_true_iff.mp h).2
  cases e : fm_dyn i
  · rfl
  · rw [e] at this; cases this
def fm_Ew (a a' : Nat → Nat → Int32) : Prop := fm_B a' ∧ ∀ t, fm_okE t = false → a' t = a t
def fm_E (a a' : Nat → Nat → Int32) : Prop := fm_B a' ∧ (∀ t, fm_okE t = false → a' t = a t) ∧ ∀ i, fm_st i = true → a' 1 i = a 1 i
theorem fm_E_w {a a' : Nat → Nat → Int32} (h : fm_E a a') : fm_Ew a a' := ⟨h.1, h.2.1⟩
theorem fm_okE_t {t : Nat} (h : fm_okE t = false) : fm_okt t = false := by
  have := of_decide_eq_false h
  exact decide_eq_false (by omega)
theorem fm_E_rf {a : Nat → Nat → Int32} (h : fm_B a) : fm_E a a := ⟨h, fun _ _ => rfl, fun _ _ => rfl⟩
theorem fm_E_D {a0 a : Nat → Nat → Int32} {T : Nat} (hB : fm_B a0) (hD : fm_D a0 a T) (hT : T ≤ 9999) : fm_E a0 a := ⟨fm_D_B hB hD hT, fun t ht => hD.1 t (fm_okE_t ht), fun i hi => hD.2.1 i (fm_st_5 hi) (fm_st_d hi)⟩
theorem fm_E_tr {a b c : Nat → Nat → Int32} (h : fm_E a b) (h2 : fm_E b c) : fm_E a c := ⟨h2.1, fun t ht => (h2.2.1 t ht).trans (h.2.1 t ht), fun i hi => (h2.2.2 i hi).trans (h.2.2 i hi)⟩
/-- fields of which a call says nothing but their bounds -/
def fm_okg (j : Nat) : Bool := decide (j = 2 ∨ j = 25 ∨ j = 30 ∨ j = 36 ∨ j = 37 ∨ j = 41)
def fm_gb (g : Nat → Int32) : Prop := (0 ≤ (g 2).toInt ∧ (g 2).toInt ≤ 9) ∧ (0 ≤ (g 30).toInt ∧ (g 30).toInt ≤ 4) ∧ (0 ≤ (g 37).toInt ∧ (g 37).toInt ≤ 300) ∧ 0 ≤ (g 41).toInt ∧ (g 41).toInt ≤ 1
def fm_G (g g' : Nat → Int32) : Prop := (∀ j, fm_okg j = false → g' j = g j) ∧ fm_gb g'
theorem fm_G_rf {g : Nat → Int32} (h : fm_gb g) : fm_G g g := ⟨fun _ _ => rfl, h⟩
theorem fm_G_tr {g g1 g2 : Nat → Int32} (h : fm_G g g1) (h2 : fm_G g1 g2) : fm_G g g2 := ⟨fun j hj => (h2.1 j hj).trans (h.1 j hj), h2.2⟩
theorem fm_G_2 {g g1 : Nat → Int32} {x : Int32} (h : fm_G g g1) (h1 : 0 ≤ x.toInt) (h2 : x.toInt ≤ 9) : fm_G g (upd g1 2 x) := by
  obtain ⟨k1, k2, k3, k4, k5⟩ := h
  refine ⟨fun j hj => ?_, ?_, ?_, ?_, ?_⟩
  · rw [pk_un (fun e => by subst e; exact absurd hj (by decide))]; exact k1 j hj
  · rw [pk_us]; exact ⟨h1, h2⟩
  · rw [pk_un (by decide)]; exact k3
  · rw [pk_un (by decide)]; exact k4
  · rw [pk_un (by decide)]; exact k5
theorem fm_G_f {g g1 : Nat → Int32} {x : Int32} {k : Nat} (h : fm_G g g1) (hk : k = 25 ∨ k = 36) : fm_G g (upd g1 k x) := by
  obtain ⟨k1, k2, k3, k4, k5⟩ := h
  refine ⟨fun j hj => ?_, ?_, ?_, ?_, ?_⟩
  · rw [pk_un (fun e => by subst e; rcases hk with rfl | rfl <;> exact absurd hj (by decide))]; exact k1 j hj
  · rw [pk_un (by omega)]; exact k2
  · rw [pk_un (by omega)]; exact k3
  · rw [pk_un (by omega)]; exact k4
  · rw [pk_un (by omega)]; exact k5
theorem fm_G_30 {g g1 : Nat → Int32} {n : Nat} (h : fm_G g g1) (hn : n ≤ 4) : fm_G g (upd g1 30 (nI n)) := by
  obtain ⟨k1, k2, k3, k4, k5⟩ := h
  refine ⟨fun j hj => ?_, ?_, ?_, ?_, ?_⟩
  · rw [pk_un (fun e => by subst e; exact absurd hj (by decide))]; exact k1 j hj
  · rw [pk_un (by decide)]; exact k2
  · rw [pk_us, nI_i32 (by omega)]; omega
  · rw [pk_un (by decide)]; exact k4
  · rw [pk_un (by decide)]; exact k5
theorem fm_G_37 {g g1 : Nat → Int32} {n : Nat} (h : fm_G g g1) (hn : n ≤ 300) : fm_G g (upd g1 37 (nI n)) := by
  obtain ⟨k1, k2, k3, k4, k5⟩ := h
  refine ⟨fun j hj => ?_, ?_, ?_, ?_, ?_⟩
  · rw [pk_un (fun e => by subst e; exact absurd hj (by decide))]; exact k1 j hj
  · rw [pk_un (by decide)]; exact k2
  · rw [pk_un (by decide)]; exact k3
  · rw [pk_us, nI_i32 (by omega)]; omega
  · rw [pk_un (by decide)]; exact k5
theorem fm_G_41 {g g1 : Nat → Int32} (h : fm_G g g1) : fm_G g (upd g1 41 1) := by
  obtain ⟨k1, k2, k3, k4, k5⟩ := h
  refine ⟨fun j hj => ?_, ?_, ?_, ?_, ?_⟩
  · rw [pk_un (fun e => by subst e; exact absurd hj (by decide))]; exact k1 j hj
  · rw [pk_un (by decide)]; exact k2
  · rw [pk_un (by decide)]; exact k3
  · rw [pk_un (by decide)]; exact k4
  · rw [pk_us]; decide
/-- what a public call leaves behind -/
def fm_PO (g : Nat → Int32) (tp bt : Int64) (a : Nat → Nat → Int32) (b : Nat → Nat → Int64) (R : Option Value × fx_M) : Prop := ∃ (v : Int32) (g' : Nat → Int32) (tp' bt' : Int64) (a' : Nat → Nat → Int32) (b' : Nat → Nat → Int64), fm_E a a' ∧ fm_G g g' ∧ (∀ t, t ≠ 17 → t ≠ 18 → b' t = b t) ∧ R = (some (.int v), fm g' tp' bt' a' b')
def fm_PZ (g : Nat → Int32) (tp bt : Int64) (a : Nat → Nat → Int32) (b : Nat → Nat → Int64) (R : Option Value × fx_M) : Prop := ∃ (v : Int32) (g' : Nat → Int32) (tp' bt' : Int64) (a' : Nat → Nat → Int32) (b' : Nat → Nat → Int64), (v = 0 ∨ v = 1) ∧ fm_E a a' ∧ fm_G g g' ∧ (∀ t, t ≠ 17 → t ≠ 18 → b' t = b t) ∧ R = (some (.int v), fm g' tp' bt' a' b')
def fm_PW (g : Nat → Int32) (tp bt : Int64) (a : Nat → Nat → Int32) (b : Nat → Nat → Int64) (R : Option Value × fx_M) : Prop := ∃ (v : Int32) (g' : Nat → Int32) (tp' bt' : Int64) (a' : Nat → Nat → Int32) (b' : Nat → Nat → Int64), (v = 0 ∨ v = 1) ∧ fm_Ew a a' ∧ fm_G g g' ∧ (∀ t, t ≠ 17 → t ≠ 18 → b' t = b t) ∧ R = (some (.int v), fm g' tp' bt' a' b')
theorem fm_i64c {x : Int32} {C : Nat} (h : x.toInt64 = Int64.ofNat C) (hC : C < 10) : x = nI C := by
  apply Int32.toInt_inj.mp
  rw [← Int32.toInt_toInt64 x, h, nI_i32 (by omega), Int64.toInt_ofNat_of_lt (by omega)]
theorem fm_T5 {a : Nat → Nat → Int32} (hB : fm_B a) : ∃ T, T ≤ 9999 ∧ a 1 5 = nI T := fm_B_0 hB (i := 5) (n := 9999) (by decide) rfl
