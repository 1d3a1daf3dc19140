/-! ===== the class's world as a memory of hx ===== -/
theorem arrV_congr {cI : ClassId} {N : Nat} {f g : Nat → Value} (h : ∀ j, j < N → f j = g j) : arrV cI N f = arrV cI N g := by
  unfold arrV
  have e : (fun j : Fin N => f j.val) = (fun j : Fin N => g j.val) := funext (fun j => h j.val j.isLt)
  rw [e]
/-- the place of an address -/
def hc_ix : List Nat → Nat → Nat
  | [], _ => 0
  | a :: r, y => if a = y then 0 else hc_ix r y + 1
theorem hc_ix_ok {y : Nat} : ∀ {l : List Nat}, y ∈ l → l[hc_ix l y]? = some y := by
  intro l
  induction l with
  | nil => intro h; exact absurd h List.not_mem_nil
  | cons a r ih =>
    intro h
    unfold hc_ix
    by_cases e : a = y
    · rw [if_pos e, e]; rfl
    · rw [if_neg e]
      rcases List.mem_cons.mp h with h | h
      · exact absurd h.symm e
      · rw [List.getElem?_cons_succ]; exact ih h
theorem hc_ix_at {l : List Nat} {j y : Nat} (hd : ∀ i k : Nat, ∀ x, l[i]? = some x → l[k]? = some x → i = k) (h : l[j]? = some y) : hc_ix l y = j := hd _ _ y (hc_ix_ok (List.mem_of_getElem? h)) h
def hc_bk (ads : List Nat) (v : Value) : Value := match v with
  | .ref y => .ref (hc_ix ads y)
  | v => v
def hc_ad (ads : List Nat) (n : Nat) (f : Nat → Option Nat) : Nat → Option Nat := fun i => if i < n then (f i).map (hc_ix ads) else none
def hc_z (ads : List Nat) (z : vp_A) : vp_A := match z.2 with
  | .inr (.inr (.inr (.inr f))) => (z.1, .inr (.inr (.inr (.inr (hc_ad ads z.1 f)))))
  | _ => z
def hc_ft (t : Nat) : FieldType := match gc_ty[t]? with
  | some (.inr q) => q.1
  | _ => .int
def hc_e (ads : List Nat) (t : Nat) (e : va_E) : fx_E := match e with
  | .inr o => .inl (o.1, o.2.map (hc_bk ads))
  | .inl q => .inr (hc_ft t, hc_z ads q.2)
def hc_cl (e : va_E) : ClassId := match e with
  | .inl q => q.1
  | .inr _ => (0 : Nat)
def hc_mem (ads tw : List Nat) (ws : va_W) : fx_M := List.zipWith (fun t (q : Nat × va_E) => hc_e ads t q.2) tw ws
def hc_ps (ws : va_W) : fx_P := ws.map (fun q => (q.1, hc_cl q.2))
/-- the world out of its memory -/
def hc_w (ads tw : List Nat) (ws : va_W) : va_W := fx_w (hc_ps ws) (hc_mem ads tw ws)
section HCI
variable {ads tw : List Nat} {ws : va_W} {U : State}
theorem hc_ps_at {j : Nat} {q : Nat × va_E} (h : ws[j]? = some q) : (hc_ps ws)[j]? = some (q.1, hc_cl q.2) := by
  unfold hc_ps
  rw [List.getElem?_map, h]
  rfl
theorem hc_mem_at {j t : Nat} {q : Nat × va_E} (h : ws[j]? = some q) (ht : tw[j]? = some t) : (hc_mem ads tw ws)[j]? = some (hc_e ads t q.2) := by
  unfold hc_mem
  rw [List.getElem?_zipWith, h, ht]
theorem hc_mem_len (hl : ws.length = tw.length) : (hc_mem ads tw ws).length = ws.length := by
  unfold hc_mem
  rw [List.length_zipWith, hl, Nat.min_self]
theorem hc_ps_len : (hc_ps ws).length = ws.length := List.length_map ..
theorem hc_fad (h4 : ws.map Prod.fst = ads) {y : Nat} (h : y ∈ ads) : fx_ad (hc_ps ws) (hc_ix ads y) = y := by
  have h1 := hc_ix_ok h
  rw [← h4, List.getElem?_map] at h1
  obtain ⟨q, hq, e⟩ := Option.map_eq_some_iff.mp h1
  unfold fx_ad
  rw [h4] at hq
  rw [hc_ps_at hq]
  exact e
theorem tk_ty_mem {t y : Nat} (h : tk_ty ads tw t y) : y ∈ ads := by
  obtain ⟨j, h1, -⟩ := h
  exact List.mem_of_getElem? h1
theorem hc_fv (h4 : ws.map Prod.fst = ads) {reg : Nat → Nat → tk_I} {t i : Nat} {f : tk_F} {v : Value} (h : tk_fv lc_ro reg ads tw t i f v) : fx_v (hc_ps ws) (hc_bk ads v) = v := by
  unfold tk_fv at h
  split at h
  all_goals first
    | exact h.elim
    | (obtain ⟨x, rfl, -⟩ := h; rfl)
    | (obtain ⟨y, rfl, hy⟩ := h
       show Value.ref (fx_ad (hc_ps ws) (hc_ix ads y)) = _
       rw [hc_fad h4 (tk_ty_mem hy)])
/-- a cell out of its entry: the same, but for what stands behind a row's end -/
theorem hc_c (h4 : ws.map Prod.fst = ads) {t : Nat} {e : va_E} (hc : tk_cl gc_TY lc_ro ads tw U t e) (ht : t < gc_ty.length) : (∀ i, tk_pos (fx_c (hc_ps ws) (hc_cl e) (hc_e ads t e)) i = tk_pos e i) ∧ (∀ (D : va_G) (a : Nat) (H : Heap), va_at D gk_cl (a, e) H → va_at D gk_cl (a, fx_c (hc_ps ws) (hc_cl e) (hc_e ads t e)) H) ∧ tk_cl gc_TY lc_ro ads tw U t (fx_c (hc_ps ws) (hc_cl e) (hc_e ads t e)) ∧ ∀ (ty : FieldType) (z : vp_A), hc_e ads t e = .inr (ty, z) → ArrOfT U (hc_cl e) ty ∧ va_RA U (hc_cl e) ty := by
  unfold tk_cl at hc
  have hk : gc_TY.1[t]? = some gc_ty[t] := List.getElem?_eq_getElem ht
  have hk2 : gc_ty[t]? = some gc_ty[t] := hk
  rw [hk] at hc
  cases hT : gc_ty[t] with
  | inl o =>
    rw [hT] at hc hk hk2
    obtain ⟨vs, rfl, hl, hvs⟩ := hc
    have e1 : fx_c (hc_ps ws) (hc_cl (.inr (o.1, vs))) (hc_e ads t (.inr (o.1, vs))) = .inr (o.1, vs) := by
      show (Sum.inr (o.1, (vs.map (hc_bk ads)).map (fx_v (hc_ps ws))) : va_E) = .inr (o.1, vs)
      congr 2
      apply List.ext_getElem?
      intro i
      rw [List.getElem?_map, List.getElem?_map]
      cases hi : vs[i]? with
      | none => rfl
      | some v =>
        have hlt : i < o.2.length := by rw [← hl]; exact (List.getElem?_eq_some_iff.mp hi).1
        have := hvs i _ v (List.getElem?_eq_getElem hlt) hi
        show some (fx_v (hc_ps ws) (hc_bk ads v)) = some v
        rw [hc_fv h4 this]
    rw [e1]
    refine ⟨fun _ => rfl, fun _ _ _ h => h, ?_, fun ty z h => nomatch h⟩
    unfold tk_cl
    rw [hk]
    exact ⟨vs, rfl, hl, hvs⟩
  | inr q =>
    rw [hT] at hc hk hk2
    obtain ⟨cA, g1, g2, g3⟩ := hc
    have hft : hc_ft t = q.1 := by unfold hc_ft; rw [hk2]
    have fin : ∀ z : vp_A, e = .inl (cA, z) → ∀ (ty : FieldType) (z' : vp_A), hc_e ads t e = .inr (ty, z') → ArrOfT U (hc_cl e) ty ∧ va_RA U (hc_cl e) ty := by
      rintro z rfl ty z' h
      have h : (Sum.inr (hc_ft t, hc_z ads z) : fx_E) = .inr (ty, z') := h
      cases h
      rw [hft]
      exact ⟨g1, g2⟩
    have hq3 : ∀ n, q.1 = n → q.1 = n := fun _ h => h
    unfold tk_ar at g3
    have refs : ∀ f : Nat → Option Nat, e = .inl (cA, q.2.1, .inr (.inr (.inr (.inr f)))) → (∀ i, i < q.2.1 → tk_fv lc_ro gc_TY.2.1 ads tw t i q.2.2 (va_rf (f i))) → (∀ i, tk_pos (fx_c (hc_ps ws) (hc_cl e) (hc_e ads t e)) i = tk_pos e i) ∧ (∀ (D : va_G) (a : Nat) (H : Heap), va_at D gk_cl (a, e) H → va_at D gk_cl (a, fx_c (hc_ps ws) (hc_cl e) (hc_e ads t e)) H) ∧ fx_c (hc_ps ws) (hc_cl e) (hc_e ads t e) = .inl (cA, q.2.1, .inr (.inr (.inr (.inr (fun i => ((hc_ad ads q.2.1 f) i).map (fx_ad (hc_ps ws))))))) ∧ ∀ i, i < q.2.1 → va_rf (((hc_ad ads q.2.1 f) i).map (fx_ad (hc_ps ws))) = va_rf (f i) := by
      rintro f rfl hf
      have key : ∀ i, i < q.2.1 → va_rf (((hc_ad ads q.2.1 f) i).map (fx_ad (hc_ps ws))) = va_rf (f i) := fun i hi => by
        have h1 := hc_fv h4 (hf i hi)
        unfold hc_ad
        rw [if_pos hi]
        cases hfi : f i with
        | none => rfl
        | some y =>
          rw [hfi] at h1
          exact h1
      refine ⟨fun i => ?_, fun D a H h => ?_, rfl, key⟩
      · show (if i < q.2.1 then some (va_rf (((hc_ad ads q.2.1 f) i).map (fx_ad (hc_ps ws)))) else none) = (if i < q.2.1 then some (va_rf (f i)) else none)
        by_cases hi : i < q.2.1
        · rw [if_pos hi, if_pos hi, key i hi]
        · rw [if_neg hi, if_neg hi]
      · have h : H[a]? = some (arrV cA q.2.1 (fun j => va_rf (f j))) := h
        show H[a]? = some (arrV cA q.2.1 (fun j => va_rf (((hc_ad ads q.2.1 f) j).map (fx_ad (hc_ps ws)))))
        rw [h, arrV_congr key]
    split at g3
    · obtain ⟨f, rfl, hf⟩ := g3
      refine ⟨fun _ => rfl, fun _ _ _ h => h, ?_, fin _ rfl⟩
      show tk_cl gc_TY lc_ro ads tw U t (.inl (cA, q.2.1, .inl f))
      unfold tk_cl
      rw [hk]
      refine ⟨cA, g1, g2, ?_⟩
      unfold tk_ar
      rename_i e0
      rw [e0]
      exact ⟨f, rfl, hf⟩
    · obtain ⟨f, rfl, hf⟩ := g3
      refine ⟨fun _ => rfl, fun _ _ _ h => h, ?_, fin _ rfl⟩
      show tk_cl gc_TY lc_ro ads tw U t (.inl (cA, q.2.1, .inl f))
      unfold tk_cl
      rw [hk]
      refine ⟨cA, g1, g2, ?_⟩
      unfold tk_ar
      rename_i e0
      rw [e0]
      exact ⟨f, rfl, hf⟩
    · obtain ⟨f, rfl, hf⟩ := g3
      refine ⟨fun _ => rfl, fun _ _ _ h => h, ?_, fin _ rfl⟩
      show tk_cl gc_TY lc_ro ads tw U t (.inl (cA, q.2.1, .inr (.inl f)))
      unfold tk_cl
      rw [hk]
      refine ⟨cA, g1, g2, ?_⟩
      unfold tk_ar
      rename_i e0
      rw [e0]
      exact ⟨f, rfl, hf⟩
    · obtain ⟨f, e2, hf⟩ := g3
      obtain ⟨r1, r2, r3, r4⟩ := refs f e2 hf
      refine ⟨r1, r2, ?_, fin _ e2⟩
      rw [r3]
      unfold tk_cl
      rw [hk]
      refine ⟨cA, g1, g2, ?_⟩
      unfold tk_ar
      rename_i e0
      rw [e0]
      exact ⟨_, rfl, fun i hi => by rw [r4 i hi]; exact hf i hi⟩
    · obtain ⟨f, e2, hf⟩ := g3
      obtain ⟨r1, r2, r3, r4⟩ := refs f e2 hf
      refine ⟨r1, r2, ?_, fin _ e2⟩
      rw [r3]
      unfold tk_cl
      rw [hk]
      refine ⟨cA, g1, g2, ?_⟩
      unfold tk_ar
      rename_i e0
      rw [e0]
      exact ⟨_, rfl, fun i hi => by rw [r4 i hi]; exact hf i hi⟩
    · exact g3.elim
theorem hc_w_get (hl : ws.length = tw.length) {j : Nat} {q : Nat × va_E} (h : ws[j]? = some q) : ∃ t, tw[j]? = some t ∧ (hc_w ads tw ws)[j]? = some (q.1, fx_c (hc_ps ws) (hc_cl q.2) (hc_e ads t q.2)) := by
  have hlt : j < tw.length := by rw [← hl]; exact (List.getElem?_eq_some_iff.mp h).1
  have ht : tw[j]? = some tw[j] := List.getElem?_eq_getElem hlt
  refine ⟨_, ht, ?_⟩
  unfold hc_w fx_w
  rw [List.getElem?_zipWith, hc_ps_at h, hc_mem_at h ht]
theorem hc_w_len (hl : ws.length = tw.length) : (hc_w ads tw ws).length = ws.length := by
  unfold hc_w fx_w
  rw [List.length_zipWith, hc_ps_len, hc_mem_len hl, Nat.min_self]
theorem hc_w_inv (hl : ws.length = tw.length) {j : Nat} {q : Nat × va_E} (h : (hc_w ads tw ws)[j]? = some q) : ∃ (q0 : Nat × va_E) (t : Nat), ws[j]? = some q0 ∧ tw[j]? = some t ∧ q = (q0.1, fx_c (hc_ps ws) (hc_cl q0.2) (hc_e ads t q0.2)) := by
  have hlt : j < ws.length := by rw [← hc_w_len (ads := ads) hl]; exact (List.getElem?_eq_some_iff.mp h).1
  obtain ⟨t, ht, h2⟩ := hc_w_get (ads := ads) hl (List.getElem?_eq_getElem hlt)
  rw [h] at h2
  exact ⟨ws[j], t, List.getElem?_eq_getElem hlt, ht, Option.some.inj h2⟩
/-- a world with the same places -/
def hc_sm (ws ws' : va_W) : Prop := ∀ j : Nat, (∀ (y : Nat) (e : va_E), ws'[j]? = some (y, e) → ∃ e0, ws[j]? = some (y, e0) ∧ ∀ i, tk_pos e i = tk_pos e0 i)
theorem gc_X_sm {ws' : va_W} (h : hc_sm ws ws') (hX : gc_X tw ws) : gc_X tw ws' := by
  refine ⟨fun t to ta j jo ja y yo ya r e eo ea n x v h1 h2 h3 h4 h5 h6 h7 h8 h9 h10 h11 h12 h13 h14 h15 => ?_, fun t to ta j1 j2 y1 y2 yo k e1 e2 h1 h2 h3 h4 h5 h6 h7 h8 => ?_⟩
  · obtain ⟨f, k1, k2⟩ := h j y e h6
    obtain ⟨fo, k3, k4⟩ := h jo yo eo h7
    obtain ⟨fa, k5, k6⟩ := h ja ya ea h8
    rw [k2] at h9 h10 h11
    rw [k4] at h13
    rw [k6] at h14
    exact hX.1 t to ta j jo ja y yo ya r f fo fa n x v h1 h2 h3 h4 h5 k1 k3 k5 h9 h10 h11 h12 h13 h14 h15
  · obtain ⟨f1, k1, k2⟩ := h j1 y1 e1 h5
    obtain ⟨f2, k3, k4⟩ := h j2 y2 e2 h6
    rw [k2] at h7
    rw [k4] at h8
    exact hX.2 t to ta j1 j2 y1 y2 yo k f1 f2 h1 h2 h3 h4 k1 k3 h7 h8
end HCI
