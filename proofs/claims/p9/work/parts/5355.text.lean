/-! ===== the law: the model's text, by the Statement's own words ===== -/
def gk_tm2 (i : Nat) : Term := Term.string "GooseIceModel" 189
theorem lw_hallL : ((flatC (Jvm.Cond.and given_1 narrow_1)).drop 132).take 117 = (List.range 117).map (fun j => Cond.eq (.elem (.field (gk_tm2 0) "java/lang/String" "value" "[B") (.int (Int32.ofNat j))) (.int (sk_b.getD j 0))) := by decide +kernel
theorem lw_hall2 : ∀ j : Nat, j < 117 → (Cond.eq (.elem (.field (gk_tm2 0) "java/lang/String" "value" "[B") (.int (Int32.ofNat j))) (.int (sk_b.getD j 0))) ∈ flatC (Jvm.Cond.and given_1 narrow_1) := fun j hj => by
  have h : (Cond.eq (.elem (.field (gk_tm2 0) "java/lang/String" "value" "[B") (.int (Int32.ofNat j))) (.int (sk_b.getD j 0))) ∈ (List.range 117).map (fun j => Cond.eq (.elem (.field (gk_tm2 0) "java/lang/String" "value" "[B") (.int (Int32.ofNat j))) (.int (sk_b.getD j 0))) := List.mem_map.mpr ⟨j, List.mem_range.mpr hj, rfl⟩
  rw [← lw_hallL] at h
  exact List.mem_of_mem_drop (List.mem_of_mem_take h)
