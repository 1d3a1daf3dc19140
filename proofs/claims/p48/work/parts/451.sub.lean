/-! ===== tk: a contract of a part of the world holds in the whole ===== -/
theorem rk_Met_case {l : Launch} {y : MethodName} {ws : List Jvm.Cond} {rm : Room} {Pc : Array Value → State → Prop} {Qc : Array Value → State → Outcome → State → Prop} {mc ms : Nat} {free : Addr → Prop} (h : ∀ a U, Pc a U → ∃ (Pc' : Array Value → State → Prop) (Qc' : Array Value → State → Outcome → State → Prop), Met l y ws rm Pc' Qc' mc ms free ∧ Pc' a U ∧ ∀ o t, U.WarmedH t.vm → Qc' a U o t → Qc a U o t) : Met l y ws rm Pc Qc mc ms free := by
  unfold Met
  intro p e ha hcs hk s m args below hfr happ hP hK
  obtain ⟨Pc', Qc', hm, hP', hQ⟩ := h args s hP
  unfold Met at hm
  obtain ⟨n, o, g1, g2, g3, g4, L, g5, g6⟩ := hm p e ha hcs hk s m args below hfr happ hP' hK
  exact ⟨n, o, g1, g2, g3, hQ o _ g5.2.1 g4, L, g5, g6⟩
/-- a field's reference stays among the types of S -/
def tk_clF (S : Nat → Bool) (n : Nat) (f : tk_F) : Bool := cond (Nat.beq f.1 2) ((List.range n).all (fun i => S (f.2.1.toNat + i * f.2.2.toNat))) true
def tk_clT (S : Nat → Bool) (q : tk_TY) : Bool := match q with
  | .inl o => o.2.all (fun f => tk_clF S 1 f && (!(Nat.beq f.1 2) || decide (f.2.2 = 0)))
  | .inr q => tk_clF S q.2.1 q.2.2
/-- the types of S are alike in both, and closed -/
def tk_sbT (S : Nat → Bool) (TY TL : tk_TT) : Prop := (∀ t, S t = true → TL.1[t]? = TY.1[t]? ∧ TL.2.2.1 t = TY.2.2.1 t) ∧ TL.2.1 = TY.2.1 ∧ ∀ t q, S t = true → TY.1[t]? = some q → tk_clT S q = true
section TKSB
variable {ro : Nat → Nat → Int → Prop} {reg : Nat → Nat → tk_I} {adA adB twA twB : List Nat} {S : Nat → Bool}
/-- which of the two parts: 0 the first -/
def tk_prt {α : Type} (b : Bool) (A B : List α) : List α := cond b A B
theorem tk_ty_sub (hA : ∀ (j t : Nat), twA[j]? = some t → S t = true) (hB : ∀ (j t : Nat), twB[j]? = some t → S t = false) (hlen : twA.length = adA.length) {t y : Nat} (hS : S t = true) : tk_ty (adA ++ adB) (twA ++ twB) t y ↔ tk_ty adA twA t y := by
  constructor
  · rintro ⟨j, h1, h2⟩
    by_cases hj : j < adA.length
    · exact ⟨j, by rw [List.getElem?_append_left hj] at h1; exact h1, by rw [List.getElem?_append_left (by omega)] at h2; exact h2⟩
    · rw [List.getElem?_append_right (by omega)] at h2
      have := hB _ _ h2
      rw [hS] at this
      cases this
  · rintro ⟨j, h1, h2⟩
    exact ⟨j, by rw [List.getElem?_append_left (List.getElem?_eq_some_iff.mp h1).1]; exact h1, by rw [List.getElem?_append_left (List.getElem?_eq_some_iff.mp h2).1]; exact h2⟩
theorem tk_ty_sub2 (hA : ∀ (j t : Nat), twA[j]? = some t → S t = false) (hB : ∀ (j t : Nat), twB[j]? = some t → S t = true) (hlen : twA.length = adA.length) {t y : Nat} (hS : S t = true) : tk_ty (adA ++ adB) (twA ++ twB) t y ↔ tk_ty adB twB t y := by
  constructor
  · rintro ⟨j, h1, h2⟩
    by_cases hj : j < twA.length
    · rw [List.getElem?_append_left hj] at h2
      have := hA _ _ h2
      rw [hS] at this
      cases this
    · exact ⟨j - adA.length, by rw [List.getElem?_append_right (by omega)] at h1; exact h1, by rw [List.getElem?_append_right (by omega), hlen] at h2; exact h2⟩
  · rintro ⟨j, h1, h2⟩
    exact ⟨adA.length + j, by rw [List.getElem?_append_right (by omega), show adA.length + j - adA.length = j by omega]; exact h1, by rw [List.getElem?_append_right (by omega), show adA.length + j - twA.length = j by omega]; exact h2⟩
/-- a typed value, in the part and in the whole -/
theorem tk_fv_sub {adL twL ads tw : List Nat} (hty : ∀ t y, S t = true → (tk_ty adL twL t y ↔ tk_ty ads tw t y)) {n t i : Nat} {f : tk_F} {v : Value} (hi : i < n) (hf : tk_clF S n f = true) : tk_fv ro reg adL twL t i f v ↔ tk_fv ro reg ads tw t i f v := by
  unfold tk_fv
  split
  · exact Iff.rfl
  · exact Iff.rfl
  · next e =>
    have hS : S (f.2.1.toNat + i * f.2.2.toNat) = true := by
      unfold tk_clF at hf
      rw [show Nat.beq f.1 2 = true by rw [e]; rfl] at hf
      exact List.all_eq_true.mp hf i (List.mem_range.mpr hi)
    constructor
    · rintro ⟨y, e1, h1⟩
      exact ⟨y, e1, (hty _ _ hS).mp h1⟩
    · rintro ⟨y, e1, h1⟩
      exact ⟨y, e1, (hty _ _ hS).mpr h1⟩
  · exact Iff.rfl
  · exact Iff.rfl
  · exact Iff.rfl
  · exact Iff.rfl
  · exact Iff.rfl
theorem tk_fv_i0 {ads tw : List Nat} {t i : Nat} {f : tk_F} {v : Value} (h : (!(Nat.beq f.1 2) || decide (f.2.2 = 0)) = true) : ∀ {adL twL : List Nat}, (tk_fv ro reg adL twL t 0 f v ↔ tk_fv ro reg ads tw t 0 f v) → f.1 = 2 → (tk_fv ro reg adL twL t i f v ↔ tk_fv ro reg ads tw t i f v) := by
  intro adL twL hh e
  rw [e] at h
  have h0 : f.2.2 = 0 := by
    rw [Bool.or_eq_true, decide_eq_true_eq] at h
    rcases h with h | h
    · cases h
    · exact h
  unfold tk_fv at hh ⊢
  rw [e, h0] at hh ⊢
  simpa using hh
theorem tk_cl_sub {TY TL : tk_TT} {adL twL ads tw : List Nat} (hT : tk_sbT S TY TL) (hty : ∀ t y, S t = true → (tk_ty adL twL t y ↔ tk_ty ads tw t y)) {U : State} {t : Nat} {e : va_E} (hS : S t = true) : tk_cl TL ro adL twL U t e ↔ tk_cl TY ro ads tw U t e := by
  obtain ⟨h1, h2, h3⟩ := hT
  unfold tk_cl
  rw [(h1 t hS).1, h2]
  cases hq : TY.1[t]? with
  | none => exact Iff.rfl
  | some q =>
    have hc := h3 t q hS hq
    cases q with
    | inl o =>
      dsimp only
      have key : ∀ (i : Nat) (f : tk_F) (v : Value), o.2[i]? = some f → (tk_fv ro TY.2.1 adL twL t i f v ↔ tk_fv ro TY.2.1 ads tw t i f v) := by
        intro i f v hf
        have := List.all_eq_true.mp hc f (List.mem_of_getElem? hf)
        rw [Bool.and_eq_true] at this
        by_cases e2 : f.1 = 2
        · exact tk_fv_i0 this.2 (tk_fv_sub hty (n := 1) (by decide) this.1) e2
        · unfold tk_fv
          split
          · exact Iff.rfl
          · exact Iff.rfl
          · next e => exact absurd e e2
          · exact Iff.rfl
          · exact Iff.rfl
          · exact Iff.rfl
          · exact Iff.rfl
          · exact Iff.rfl
      constructor
      · rintro ⟨vs, g1, g2, g3⟩
        exact ⟨vs, g1, g2, fun i f v hf hv => (key i f v hf).mp (g3 i f v hf hv)⟩
      · rintro ⟨vs, g1, g2, g3⟩
        exact ⟨vs, g1, g2, fun i f v hf hv => (key i f v hf).mpr (g3 i f v hf hv)⟩
    | inr q =>
      dsimp only
      have key : ∀ (i : Nat) (v : Value), i < q.2.1 → (tk_fv ro TY.2.1 adL twL t i q.2.2 v ↔ tk_fv ro TY.2.1 ads tw t i q.2.2 v) := fun i v hi => tk_fv_sub hty hi hc
      have harr : ∀ cA, tk_ar ro TY.2.1 adL twL t q cA e ↔ tk_ar ro TY.2.1 ads tw t q cA e := by
        intro cA
        unfold tk_ar
        split
        all_goals first
          | exact Iff.rfl
          | (constructor
             · rintro ⟨f, g1, g2⟩
               exact ⟨f, g1, fun i hi => (key i _ hi).mp (g2 i hi)⟩
             · rintro ⟨f, g1, g2⟩
               exact ⟨f, g1, fun i hi => (key i _ hi).mpr (g2 i hi)⟩)
      constructor
      · rintro ⟨cA, g1, g2, g3⟩
        exact ⟨cA, g1, g2, (harr cA).mp g3⟩
      · rintro ⟨cA, g1, g2, g3⟩
        exact ⟨cA, g1, g2, (harr cA).mpr g3⟩
end TKSB
