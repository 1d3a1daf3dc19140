/-! ===== tk: small methods are run where they are called, the others by their contracts ===== -/
def tk_callI (inl : List Nat) (mods : List (Nat × Nat)) (TY : tk_TT) (fty : rk_F) (mci : List Nat) (P : List rk_M2) (fuel : Nat) (Ks : List tk_K) : Nat → tk_Ca
  | 0 => tk_tbl TY Ks
  | n + 1 => fun f as w rf fa => cond (inl.any (fun g => Nat.beq g f)) (tk_meth mods TY fty mci P fuel (tk_callI inl mods TY fty mci P fuel Ks n) f as w rf fa) (tk_tbl TY Ks f as w rf fa)
section TKLI
variable {l : Launch} {D : va_G} {cl : List vw_C} {tbl xw : List Jvm.Cond} {fty : rk_F} {cln : List String} {MN : List rk_N} {mci : List Nat} {P : List rk_M2} {xt : tk_XT} {TY : tk_TT} {ro : Nat → Nat → Int → Prop} {X : va_W → Prop} {ads tw : List Nat}
theorem tk_callI_ok (hXs : tk_xs TY X ads tw) (hxt : tk_xtok xt) (hok : rk_ok tbl xw cl fty cln MN mci P) (inl : List Nat) (mods : List (Nat × Nat)) (fuel : Nat) {Ks : List tk_K} {d : Nat} (hK : ∀ K ∈ Ks, tk_KS l D cl tbl xw xt MN P TY ro X ads tw d K) : ∀ n : Nat, tk_SC l D cl tbl xw xt MN P TY ro X ads tw (d + n) (tk_callI inl mods TY fty mci P fuel Ks n) := by
  intro n
  induction n with
  | zero => exact tk_tbl_ok hK
  | succ n ih =>
    intro f as w rf fa o h
    unfold tk_callI at h
    cases hb : inl.any (fun g => Nat.beq g f) with
    | true =>
      rw [hb] at h
      exact tk_meth_ok l D hXs hxt hok fuel ih f as w rf fa o h
    | false =>
      rw [hb] at h
      exact tk_tbl_ok (fun K hm => tk_KS_up (show d ≤ d + (n + 1) by omega) (hK K hm)) f as w rf fa o h
/-- a contract by its run -/
theorem tk_contract {hk : Nat → tk_S → Option (List tk_S)} (hhk : tk_hkok TY ro X ads tw hk) (hXs : tk_xs TY X ads tw) (hxt : tk_xtok xt) (hok : rk_ok tbl xw cl fty cln MN mci P) (inl : List Nat) (fuel n m : Nat) {Ks : List tk_K} {d D' : Nat} (hK : ∀ K ∈ Ks, tk_KS l D cl tbl xw xt MN P TY ro X ads tw d K) {K : tk_K} {Hs : List tk_Hd} (h : tk_methL hk TY fty mci P (tk_callI inl K.2.2.2.2.2.2 TY fty mci P fuel Ks n) fuel m K Hs = true) (hD : d + n + 1 = D') : tk_KS l D cl tbl xw xt MN P TY ro X ads tw D' K := by
  subst hD
  exact tk_methL_ok hhk hXs hxt hok (tk_callI_ok hXs hxt hok inl _ fuel hK n) h
end TKLI
