/-! ===== the class: Life.act: what a STEP's row says ===== -/
def gc_l20 : List Int := [1, 2, 3, 4, 5, 6, 7, 8, 9, 10, 11, 12, 13, 14, 15, 16, 17, 18, 19, 20]
theorem gc_l20_in : ∀ n : Nat, n < 20 → ((n : Int) + 1) ∈ gc_l20 := by decide +kernel
def gc_hk1 (st : tk_S) (row op a c : tk_V) (T : Nat) : Bool := (match st.2.2.2.1[T]?, st.2.2.2.1[op.2.1]?, st.2.2.2.1[a.2.1]? with
  | some t, some to, some ta => gc_rl.any (fun q => Nat.beq q.1 t && (Nat.beq q.2.1 to && Nat.beq q.2.2 ta))
  | _, _, _ => false) && ((Nat.beq op.1 2 && (Nat.beq a.1 2 && Nat.beq c.1 0)) && (tk_le st.2.2.1.1 st.2.2.1.2 row c 1 && (tk_ix st.2.2.1.1 row 30 && (match tk_fl st.2.2.2.2 op.2.1 row with
  | some o => Nat.beq o.1 0 && (match tk_iv st.2.2.1.1 o with
    | some J => decide (J.1 = 13) && decide (J.2 = 13)
    | none => false)
  | none => false))))
def gc_hkA : Nat → tk_S → Option (List tk_S) := fun pc st => cond (Nat.beq pc 88) (match tk_ld st.1 2, tk_ld st.1 3 with
  | some T, some row => cond (Nat.beq T.1 2 && Nat.beq row.1 0) (match tk_fl st.2.2.2.2 T.2.1 (tk_ky 0), tk_fl st.2.2.2.2 T.2.1 (tk_ky 2), tk_fl st.2.2.2.2 T.2.1 (tk_ky 6) with
    | some op, some a, some c => cond (gc_hk1 st (tk_nm st.2.2.1.1 row) op a c T.2.1) (some (gc_l20.map (fun v => (st.1, st.2.1, st.2.2.1, st.2.2.2.1, (a.2.1, tk_nm st.2.2.1.1 row, (0, 0, 0, v)) :: st.2.2.2.2)))) none
    | _, _, _ => none) none
  | _, _ => none) none
theorem gc_ta_ty : ∀ q ∈ gc_rl, gc_ty[q.2.2]? = some (.inr (.int, 30, (3, (q.2.2 : Int), 0))) := by
  intro q hq
  simp only [gc_rl, List.mem_cons, List.not_mem_nil, or_false] at hq
  rcases hq with rfl | rfl | rfl
  all_goals rfl
theorem gc_hkA_ok {ro : Nat → Nat → Int → Prop} {ads tw : List Nat} : tk_hkok gc_TY ro (gc_X tw) ads tw gc_hkA := by
  intro mods ws0 s D cl Ad vals0 rads0 nL K pc st l h kk
  intro vals rads H locs ls stk lc hH hR hl hL hS
  unfold gc_hkA at h
  cases hpc : Nat.beq pc 88 with
  | false => rw [hpc] at h; cases h
  | true =>
    rw [hpc] at h
    dsimp only [cond] at h
    split at h
    · next T row hT hrow =>
      cases hk : (Nat.beq T.1 2 && Nat.beq row.1 0) with
      | false => rw [hk] at h; cases h
      | true =>
        rw [hk] at h
        rw [Bool.and_eq_true] at hk
        dsimp only at h
        split at h
        · next op a c hop ha hc =>
          cases h1 : gc_hk1 st (tk_nm st.2.2.1.1 row) op a c T.2.1 with
          | false => rw [h1] at h; cases h
          | true =>
            rw [h1] at h
            cases h
            unfold gc_hk1 at h1
            rw [Bool.and_eq_true, Bool.and_eq_true, Bool.and_eq_true, Bool.and_eq_true, Bool.and_eq_true, Bool.and_eq_true] at h1
            obtain ⟨b1, ⟨b2, b3, b4⟩, b5, b6, b7⟩ := h1
            split at b1
            · next t to ta ht hto hta =>
              obtain ⟨q, hq, hqe⟩ := List.any_eq_true.mp b1
              rw [Bool.and_eq_true, Bool.and_eq_true] at hqe
              obtain ⟨e1, e2, e3⟩ := hqe
              have e1 := Nat.eq_of_beq_eq_true e1
              have e2 := Nat.eq_of_beq_eq_true e2
              have e3 := Nat.eq_of_beq_eq_true e3
              subst e1
              subst e2
              subst e3
              obtain ⟨hv0, hr0, h3, ws, h4, h5, h6, h7, h8, hun, h9⟩ := id hR
              obtain ⟨vT, hvT, gT⟩ := tk_ld_ok hL hT
              obtain ⟨xT, hxT, rfl⟩ := tk_g2 gT (Nat.eq_of_beq_eq_true hk.1)
              obtain ⟨vr, hvr, gr⟩ := tk_ld_ok hL hrow
              obtain ⟨zr, rfl, -⟩ := tk_g0 gr (Nat.eq_of_beq_eq_true hk.2)
              have gr2 := tk_nm_ok hH.1 gr
              have hnk : (tk_nm st.2.2.1.1 row).1 = 0 := by
                have := Nat.eq_of_beq_eq_true hk.2
                unfold tk_nm
                split
                · split
                  · split
                    · exact this
                    · exact this
                  · exact this
                · exact this
              obtain ⟨zr2, ez, hzr⟩ := tk_g0 gr2 hnk
              cases ez
              -- the cells
              obtain ⟨xT', hxT', hty⟩ := h3.get ht
              rw [hxT] at hxT'
              cases hxT'
              obtain ⟨jT, eT, hwT, hjT, -⟩ := tk_cell h4 h5 hty
              obtain ⟨yo, po, hro⟩ := gc_flR h9 h7 hop (Nat.eq_of_beq_eq_true b2) hxT (i := 0) rfl hwT
              obtain ⟨ya, pa, hra⟩ := gc_flR h9 h7 ha (Nat.eq_of_beq_eq_true b3) hxT (i := 2) rfl hwT
              obtain ⟨cz, pc6, hcn⟩ := gc_flI h9 h7 hc (Nat.eq_of_beq_eq_true b4) hxT (i := 6) rfl hwT
              obtain ⟨xo', hxo', htyo⟩ := h3.get hto
              rw [hro] at hxo'
              cases hxo'
              obtain ⟨jo, eo, hwo, hjo, -⟩ := tk_cell h4 h5 htyo
              obtain ⟨xa', hxa', htya⟩ := h3.get hta
              rw [hra] at hxa'
              cases hxa'
              obtain ⟨ja, ea, hwa, hob⟩ := tk_ob_of h4 h5 _ _ htya
              have hja : tw[ja]? = some q.2.2 := by
                obtain ⟨j2, hj2, hj3⟩ := htya
                rw [← h4, List.getElem?_map] at hj2
                obtain ⟨z, hz, ez⟩ := Option.map_eq_some_iff.mp hj2
                have := h7.1 ja j2 _ z hwa hz ez.symm
                rw [this]
                exact hj3
              obtain ⟨hin, hlt, hti⟩ := tk_ix_ok hH.1 hzr b6
              have hri : tk_num vals (tk_nm st.2.2.1.1 row) = some ((zr.toNatClampNeg : Nat) : Int) := by rw [hti]; exact hzr
              rw [show gc_TY.1[q.2.2]? = some (.inr (.int, 30, (3, (q.2.2 : Int), 0))) from gc_ta_ty q hq] at hob
              obtain ⟨cA, z, rfl, hz30, hel⟩ := hob
              have hv := hel zr.toNatClampNeg hlt
              unfold tk_fv at hv
              obtain ⟨v, hv1, -, -⟩ := hv
              have pv : tk_pos (.inl (cA, z)) zr.toNatClampNeg = some (.int v) := by
                show (if zr.toNatClampNeg < z.1 then some (tk_el z zr.toNatClampNeg) else none) = _
                rw [if_pos (by rw [hz30]; exact hlt), hv1]
              split at b7
              · next o ho =>
                rw [Bool.and_eq_true] at b7
                obtain ⟨uo, px, hun1⟩ := gc_flI h9 h7 ho (Nat.eq_of_beq_eq_true b7.1) hro hri hwo
                have b8 := b7.2
                split at b8
                · next J hJ =>
                  rw [Bool.and_eq_true, decide_eq_true_eq, decide_eq_true_eq] at b8
                  have bb := tk_iv_ok hH.1 hun1 hJ
                  have hle := tk_le_ok hH.1 hH.2 hri hcn b5
                  have hXX := hun.2.1 q.1 q.2.1 q.2.2 jT jo ja xT yo ya zr.toNatClampNeg eT eo (.inl (cA, z)) cz uo v hq trivial hjT hjo hja hwT hwo hwa po pa pc6 (by omega) px pv (by omega)
                  have hmem : v.toInt ∈ gc_l20 := by
                    have := gc_l20_in (v.toInt - 1).toNat (by omega)
                    rw [show (((v.toInt - 1).toNat : Nat) : Int) + 1 = v.toInt by omega] at this
                    exact this
                  refine kk _ (List.mem_map.mpr ⟨v.toInt, hmem, rfl⟩) vals rads H locs ls stk lc hH ⟨hv0, hr0, h3, ws, h4, h5, h6, h7, h8, hun, fun z1 hz1 => ?_⟩ hl hL hS
                  rcases List.mem_cons.mp hz1 with rfl | hz1
                  · exact ⟨ya, ja, zr.toNatClampNeg, _, _, hra, hri, hwa, pv, tk_gi rfl rfl⟩
                  · exact h9 z1 hz1
                · cases b8
              · cases b7
            · cases b1
        · cases h
    · cases h
