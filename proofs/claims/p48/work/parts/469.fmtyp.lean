/-! ===== fx and tk: what the types say of the model's memory ===== -/
section FMT
variable {U : State} {tw ads : List Nat} {ws : va_W} {h0 : Nat} {ps : fx_P} {σ : List Nat} {TY : tk_TT} {ro : Nat → Nat → Int → Prop} {g : Nat → Int32} {tp bt : Int64} {a : Nat → Nat → Int32} {b : Nat → Nat → Int64} {mem : fx_M}
theorem fm_cl (h5 : rk_A2 (fun t (q : Nat × va_E) => tk_cl TY ro ads tw U t q.2) tw ws) (hat : fm_at U tw ws h0 ps σ mem) {t : Nat} (ht : t < 22) {e : fx_E} (he : mem[t]? = some e) : ∃ q, ps[t]? = some q ∧ tk_cl TY ro ads tw U t (fx_c ps q.2 e) := by
  obtain ⟨a1, a2, a3, a4, a5⟩ := hat
  have hs : σ[t]? = some σ[t] := List.getElem?_eq_getElem (by omega)
  obtain ⟨b1, q, e1, b2, b3, b4⟩ := a5 t _ hs
  obtain rfl : e = e1 := Option.some.inj (he.symm.trans b3)
  obtain ⟨q2, c1, c2⟩ := h5.get b1
  rw [b4] at c1
  obtain rfl := Option.some.inj c1
  exact ⟨q, b2, c2⟩
/-- an int array's elements, by its type -/
theorem fm_tyI (h5 : rk_A2 (fun t (q : Nat × va_E) => tk_cl TY ro ads tw U t q.2) tw ws) (hat : fm_at U tw ws h0 ps σ mem) {t n : Nat} {f : Nat → Int32} {fl : tk_F} (ht : t < 22) (he : mem[t]? = some (.inr (.int, n, .inl f))) (hk : TY.1[t]? = some (.inr (.int, n, fl))) : ∀ i, i < n → tk_fv ro TY.2.1 ads tw t i fl (.int (f i)) := by
  obtain ⟨q, -, h⟩ := fm_cl h5 hat ht he
  unfold tk_cl at h
  rw [hk] at h
  obtain ⟨cA, -, -, h⟩ := h
  obtain ⟨f2, e2, h⟩ : ∃ f2 : Nat → Int32, fx_c ps q.2 (.inr (.int, n, .inl f)) = .inl (cA, n, .inl f2) ∧ ∀ i, i < n → tk_fv ro TY.2.1 ads tw t i fl (.int (f2 i)) := h
  have e3 : f = f2 := by
    have : (Sum.inl (q.2, n, Sum.inl f) : va_E) = .inl (cA, n, .inl f2) := e2
    cases this
    rfl
  subst e3
  exact h
theorem fm_tyA (hT : fm_Ty TY) (h5 : rk_A2 (fun t (q : Nat × va_E) => tk_cl TY ro ads tw U t q.2) tw ws) (hat : fm_at U tw ws h0 ps σ (fm g tp bt a b)) {i : Nat} (hi : i < 5894) : (gm_at i).1 ≤ (a 1 i).toInt ∧ (a 1 i).toInt ≤ (gm_at i).2 := by
  have h := fm_tyI h5 hat (t := 1) (by decide) rfl (by rw [hT.1]; rfl) i hi
  obtain ⟨x, hx, h1, h2⟩ : ∃ x : Int32, Value.int (a 1 i) = .int x ∧ (TY.2.1 1 i).1 ≤ x.toInt ∧ x.toInt ≤ (TY.2.1 1 i).2 := h
  cases hx
  rw [hT.2.1] at h1 h2
  exact ⟨h1, h2⟩
theorem nI_bd {x : Int32} {n : Nat} (h0 : 0 ≤ x.toInt) (h1 : x.toInt ≤ (n : Int)) : ∃ m, m ≤ n ∧ x = nI m := by
  obtain ⟨j, hj, rfl⟩ := nI_of (x := x) (fun z => by have := Int32.lt_iff_toInt_lt.mp z; have e : (0 : Int32).toInt = 0 := rfl; omega)
  rw [nI_toInt hj] at h1
  exact ⟨j, by omega, rfl⟩
theorem fm_tyP (hT : fm_Ty TY) (h5 : rk_A2 (fun t (q : Nat × va_E) => tk_cl TY ro ads tw U t q.2) tw ws) (hat : fm_at U tw ws h0 ps σ (fm g tp bt a b)) {i n : Nat} (hi : i < 5894) (hn : gm_at i = (0, (n : Int))) : ∃ m, m ≤ n ∧ a 1 i = nI m := by
  obtain ⟨h1, h2⟩ := fm_tyA hT h5 hat hi
  rw [hn] at h1 h2
  exact nI_bd h1 h2
/-- the heads of the LAKE are within their bounds -/
theorem fm_tyt (hT : fm_Ty TY) (h5 : rk_A2 (fun t (q : Nat × va_E) => tk_cl TY ro ads tw U t q.2) tw ws) (hat : fm_at U tw ws h0 ps σ (fm g tp bt a b)) : fm_t a := by
  refine ⟨fm_tyP hT h5 hat (by decide) rfl, fm_tyP hT h5 hat (by decide) rfl, fm_tyP hT h5 hat (by decide) rfl, ?_, fun w hw => ?_⟩
  · obtain ⟨m, h1, h2⟩ := fm_tyP (n := 9999) hT h5 hat (i := 5) (by decide) rfl
    exact ⟨m, by omega, h2⟩
  have h9 : ∀ w, w < 8 → gm_at (279 + 5 * w) = (0, ((9 : Nat) : Int)) := by decide
  obtain ⟨m, h1, h2⟩ := fm_tyP (n := 9) hT h5 hat (i := 279 + 5 * w) (by omega) (h9 w hw)
  exact ⟨m, by omega, h2⟩
end FMT
/-- an argument that is a symbol of its own -/
theorem fm_arg {env : List tk_I} {vals : List Int} {rads : List Nat} {k : Nat} {v : Value} {lo hi : Int} (hE : tk_E env vals) (h : tk_g vals rads (0, k + 1, 1, 0) v) (hk : env[k]? = some (lo, hi)) : ∃ x : Int32, v = .int x ∧ lo ≤ x.toInt ∧ x.toInt ≤ hi ∧ vals[k]? = some x.toInt := by
  obtain ⟨x, rfl, hx⟩ := tk_g0 h rfl
  obtain ⟨z, hz, h1⟩ := hE.get hk
  unfold tk_num at hx
  dsimp only at hx
  rw [hz] at hx
  dsimp only at hx h1
  have : z = x.toInt := by
    have := Option.some.inj hx
    omega
  subst this
  exact ⟨x, rfl, h1.1, h1.2, hz⟩
