/-! ===== stubs, for the while ===== -/
theorem gk_rok : rk_ok gk_tbl gk_xw gk_cl gk_fty gk_cln gk_MN gk_mci gk_P := sorry
abbrev gk_okr12 (r : Nat × Nat × Nat × Nat) : Prop := rk_lok gk_tbl gk_xw gk_cl "GooseIceLaw" r ∧ rk_cok gk_tbl gk_xw gk_MN gk_P "GooseIceLaw" r ∧ rk_kok gk_tbl "GooseIceLaw" r
theorem gk_lkok12 : ∀ r ∈ gk_lk12, gk_okr12 r := sorry
