def gk_sum0 : Nat → List rk_V → List rk_T → List rk_H → Option rk_O := fun _ _ _ _ => none
def gk_new (ci : Nat) : rk_H := .inl (ci, (gk_fty.getD ci []).map (fun t => .inl (defaultValue t.1)))
def gk_chk (f : Nat) (n : Nat) : Bool := match rk_run gk_P gk_fty gk_cln gk_mci gk_sum0 30000 6 f [.inr (.inl 0)] [] [gk_new n] with
  | some o => o.2.2.length == 1
  | none => false
set_option maxRecDepth 1000000 in
theorem gk_tst3 : gk_chk 201 12 = true := by decide +kernel
