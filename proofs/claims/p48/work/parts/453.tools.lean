/-! ===== tk: large methods in pieces; a contract by the cases of a number; a contract beside what else is known of the world ===== -/
theorem tk_methL_of {hk : Nat → tk_S → Option (List tk_S)} {TY : tk_TT} {fty : rk_F} {mci : List Nat} {P : List rk_M2} {call : tk_Ca} {fuel n : Nat} {K : tk_K} {Hs : List tk_Hd} (M : rk_M2) (hM : P[K.1]? = some M) (h0 : ((Nat.ble M.2.1 21 && Nat.ble (tk_sum K.2.1) M.2.1) && cond (Hs.any (fun h => Nat.beq h.1 0)) (tk_run00 hk TY fty mci call fuel K Hs M) (tk_run0 hk TY fty mci call fuel K Hs M)) = true) (hall : Hs.all (fun h => tk_hok n h && tk_run1 hk TY fty mci call fuel K Hs M h) = true) : tk_methL hk TY fty mci P call fuel n K Hs = true := by
  unfold tk_methL
  rw [hM]
  dsimp only
  rw [Bool.and_eq_true] at h0
  rw [h0.1, h0.2, hall]
  rfl
theorem tk_all_app {α : Type} {f : α → Bool} {l k : List α} (h1 : l.all f = true) (h2 : k.all f = true) : (l ++ k).all f = true := by
  rw [List.all_append, h1, h2]
  rfl
def tk_Kset (K : tk_K) (i : Nat) (J : tk_I) : tk_K := (K.1, K.2.1, (K.2.2.1.1.set i J, K.2.2.1.2), K.2.2.2)
section TKT
variable {l : Launch} {D : va_G} {cl : List vw_C} {tbl xw : List Jvm.Cond} {fty : rk_F} {cln : List String} {MN : List rk_N} {mci : List Nat} {P : List rk_M2} {xt : tk_XT} {TY : tk_TT} {ro : Nat → Nat → Int → Prop} {X : va_W → Prop} {ads tw : List Nat}
theorem tk_contractP {hk : Nat → tk_S → Option (List tk_S)} (hhk : tk_hkok TY ro X ads tw hk) (hXs : tk_xs TY X ads tw) (hxt : tk_xtok xt) (hok : rk_ok tbl xw cl fty cln MN mci P) (inl : List Nat) (fuel n m : Nat) {Ks : List tk_K} {d D' : Nat} (hK : ∀ K ∈ Ks, tk_KS l D cl tbl xw xt MN P TY ro X ads tw d K) {K : tk_K} {Hs : List tk_Hd} {M : rk_M2} (hM : P[K.1]? = some M) (h0 : ((Nat.ble M.2.1 21 && Nat.ble (tk_sum K.2.1) M.2.1) && cond (Hs.any (fun h => Nat.beq h.1 0)) (tk_run00 hk TY fty mci (tk_callI inl K.2.2.2.2.2.2 TY fty mci P fuel Ks n) fuel K Hs M) (tk_run0 hk TY fty mci (tk_callI inl K.2.2.2.2.2.2 TY fty mci P fuel Ks n) fuel K Hs M)) = true) (hall : Hs.all (fun h => tk_hok m h && tk_run1 hk TY fty mci (tk_callI inl K.2.2.2.2.2.2 TY fty mci P fuel Ks n) fuel K Hs M h) = true) (hD : d + n + 1 = D') : tk_KS l D cl tbl xw xt MN P TY ro X ads tw D' K :=
  tk_contract hhk hXs hxt hok inl fuel n m hK (tk_methL_of M hM h0 hall) hD
theorem tk_KS_join {K : tk_K} {i : Nat} {I J0 : tk_I} {Ls : List tk_I} {d : Nat} (hi : K.2.2.1.1[i]? = some I) (h0 : J0 ∈ Ls) (hcov : ∀ x : Int, I.1 ≤ x → x ≤ I.2 → ∃ J ∈ Ls, J.1 ≤ x ∧ x ≤ J.2) (h : ∀ J ∈ Ls, tk_KS l D cl tbl xw xt MN P TY ro X ads tw d (tk_Kset K i J)) : tk_KS l D cl tbl xw xt MN P TY ro X ads tw d K := by
  intro q hq
  obtain ⟨M, hM, hM21, -⟩ := h J0 h0 q hq
  refine ⟨M, hM, hM21, fun vals rads ws av sz hH h3 hA2 h4 h9 hob => ?_⟩
  obtain ⟨x, hx, b1, b2⟩ := hH.1.get hi
  obtain ⟨J, hJ, c1, c2⟩ := hcov x b1 b2
  obtain ⟨M', hM', -, hmet⟩ := h J hJ q hq
  have e : M' = M := Option.some.inj (hM'.symm.trans hM)
  subst e
  exact hmet vals rads ws av sz ⟨rk_A2.setL (R := fun (I : tk_I) (x : Int) => I.1 ≤ x ∧ x ≤ I.2) ⟨c1, c2⟩ hH.1 hx, hH.2⟩ h3 hA2 h4 h9 hob
/-- consecutive bounds cover -/
def tk_cvr : List tk_I → Int → Int → Bool
  | [], a, b => decide (b < a)
  | J :: r, a, b => decide (J.1 ≤ a) && tk_cvr r (J.2 + 1) b
theorem tk_cvr_ok : ∀ {Ls : List tk_I} {a b : Int}, tk_cvr Ls a b = true → ∀ x : Int, a ≤ x → x ≤ b → ∃ J ∈ Ls, J.1 ≤ x ∧ x ≤ J.2 := by
  intro Ls
  induction Ls with
  | nil =>
    intro a b h x h1 h2
    have := of_decide_eq_true (show decide (b < a) = true from h)
    omega
  | cons J r ih =>
    intro a b h x h1 h2
    have h := Bool.and_eq_true_iff.mp (show (decide (J.1 ≤ a) && tk_cvr r (J.2 + 1) b) = true from h)
    have h3 := of_decide_eq_true h.1
    by_cases hx : x ≤ J.2
    · exact ⟨J, List.mem_cons_self, by omega, hx⟩
    · obtain ⟨J', g1, g2⟩ := ih h.2 x (by omega) h2
      exact ⟨J', List.mem_cons_of_mem _ g1, g2⟩
/-- the same types, but for the places that are not to be written -/
def tk_TF (TY : tk_TT) (FX : List (Nat × Nat)) (G : tk_S → Nat → Nat → tk_V → tk_V → Bool) : tk_TT := (TY.1, TY.2.1, TY.2.2.1, FX, G)
def tk_X1 (TY : tk_TT) (FX : List (Nat × Nat)) (X : va_W → Prop) (tw : List Nat) : Prop := ∀ (m : List (Nat × Nat)) (ws ws' : va_W), ws'.map Prod.fst = ws.map Prod.fst → (∀ z ∈ m, ¬ z ∈ FX) → tk_un TY m tw ws ws' → X ws → X ws'
theorem tk_KS_X {FX : List (Nat × Nat)} {G : tk_S → Nat → Nat → tk_V → tk_V → Bool} {X0 : va_W → Prop} (hX1 : tk_X1 TY FX X tw) (hX0 : ∀ ws, X0 ws) {d : Nat} {K : tk_K} (hm : ∀ z ∈ K.2.2.2.2.2.2, ¬ z ∈ FX) (h : tk_KS l D cl tbl xw xt MN P TY ro X0 ads tw d K) : tk_KS l D cl tbl xw xt MN P (tk_TF TY FX G) ro X ads tw d K := by
  intro q hq
  obtain ⟨M, hM, hM21, hmet⟩ := h q hq
  refine ⟨M, hM, hM21, fun vals rads ws av sz hH h3 hA2 h4 h9 hob => rk_Met_case (fun a U hP => ?_)⟩
  obtain ⟨p1, p2, p3, p4, p5, p6, p7, p8, p10⟩ := hP
  refine ⟨tk_Pre D cl xw xt TY ro X0 ads tw ws sz av, tk_Post D cl TY ro X0 ads tw K.2.2.2.2.2 vals rads ws (va_A ws sz), rk_Met_imp (hmet vals rads ws av sz hH h3 hA2 h4 h9 hob) (fun _ _ z => z) (fun _ _ _ _ _ _ z => z) (fun _ z => z), ⟨p1, p2, p3, p4, p5, p6, p7, p8, hX0 _⟩, ?_⟩
  rintro oc t hW ⟨⟨x, hx, vals', rads', ws', k1, k2, b3, b4, b5, b6, b7, b8, b9, b10, b11⟩, hF⟩
  exact ⟨⟨x, hx, vals', rads', ws', k1, k2, b3, b4, b5, b6, b7, b8, b9, ⟨b10.1, hX1 _ _ _ (by rw [b5, h4]) hm b10.1 p10⟩, b11⟩, hF⟩
end TKT
