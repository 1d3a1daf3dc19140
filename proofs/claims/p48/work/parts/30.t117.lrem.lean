/-! ===== tk: what is left of a long by a long above 0: below it ===== -/
theorem tk_lrem_nn {x y : Int64} (hx : 0 ≤ x.toInt) (hy : 0 < y.toInt) : (x - x / y * y).toInt = x.toInt % y.toInt := by
  have b1 := Int64.toInt_lt x
  have hq0 : 0 ≤ x.toInt / y.toInt := Int.ediv_nonneg hx (Int.le_of_lt hy)
  have hq1 : x.toInt / y.toInt ≤ x.toInt := Int.ediv_le_self _ hx
  have hdm := Int.mul_ediv_add_emod x.toInt y.toInt
  have hr0 := Int.emod_nonneg x.toInt (show y.toInt ≠ 0 by omega)
  have hr1 := Int.emod_lt_of_pos x.toInt hy
  have hm0 : 0 ≤ y.toInt * (x.toInt / y.toInt) := Int.mul_nonneg (Int.le_of_lt hy) hq0
  have e1 : (x / y).toInt = x.toInt / y.toInt := by
    rw [Int64.toInt_div, Int.tdiv_eq_ediv_of_nonneg hx]
    apply Int.bmod_eq_of_le <;> omega
  generalize hq : x.toInt / y.toInt = q at *
  generalize hm : y.toInt * q = mm at *
  have e2 : (x / y * y).toInt = mm := by
    rw [Int64.toInt_mul, e1, Int.mul_comm, hm]
    apply Int.bmod_eq_of_le <;> omega
  have hsub : x.toInt - mm = x.toInt % y.toInt := by omega
  rw [Int64.toInt_sub, e2, hsub]
  apply Int.bmod_eq_of_le <;> omega
def tk_lremW (w : tk_W) (a b : tk_V) : Option (tk_V × tk_W) := match tk_iv w.1 a, tk_iv w.1 b with
  | some I, some J => if 0 ≤ I.1 ∧ 0 < J.1 ∧ ¬ (a.2.1 = 0 ∧ b.2.1 = 0) then some ((1, w.1.length + 1, 1, 0), (w.1 ++ [(0, min I.2 (J.2 - 1))], if 0 < b.2.1 ∧ b.2.2.1 = 1 then (w.1.length, b.2.1 - 1, b.2.2.2 - 1) :: w.2 else w.2)) else none
  | _, _ => none
def tk_f_lrem (pc : Nat) : tk_Fn := fun st => match st.2.1 with
  | b :: a :: r => if a.1 = 1 ∧ b.1 = 1 then (match tk_lremW st.2.2.1 a b with
    | some q => some [(pc, (st.1, q.1 :: r, q.2, st.2.2.2))]
    | none => none) else none
  | _ => none
section TKLR
variable {p : Program} {l : Launch} {e : Env} {R : Room} {s : State} {m : MethodId} {args : Array Value} {below : List Frame} {meth : Method} {c : Code} {Q : State → Prop} {cc : ByteArray} {nL : Nat} {Hr : tk_Hr}
theorem tk_lrem_ok (hx : p.tables.exec = Jvm.exec) (hb : c.code = cc) (hgr : tk_gr Hr) {pc : Nat} {st : tk_S} {res : List (Nat × tk_S)} (hdg : decode cc pc = .ok (.lrem, 1)) (hF : tk_f_lrem (pc + 1) st = some res) (kk : ∀ q ∈ res, tk_St (rk_KW p l e R s m args below meth c Q) nL Hr q.1 q.2) : tk_St (rk_KW p l e R s m args below meth c Q) nL Hr pc st := by
  obtain ⟨lo, sk, w, rest⟩ := st
  intro vals rads H locs ls stk lc hH hR hl hL hS
  dsimp only at hH hR hL hS
  unfold tk_f_lrem at hF
  dsimp only at hF
  split at hF
  · next b a r =>
    split at hF
    · next hc =>
      split at hF
      · next q hq =>
        cases hF
        obtain ⟨vb, k1, rfl, gb, hS1⟩ := hS.cons
        obtain ⟨va, k2, rfl, ga, hS2⟩ := hS1.cons
        obtain ⟨x, rfl, hx1⟩ := tk_g1 ga hc.1
        obtain ⟨y, rfl, hy1⟩ := tk_g1 gb hc.2
        unfold tk_lremW at hq
        split at hq
        · next I J hI hJ =>
          split at hq
          · next h0 =>
            cases hq
            have p1 := tk_iv_ok hH.1 hx1 hI
            have p2 := tk_iv_ok hH.1 hy1 hJ
            have er := tk_lrem_nn (x := x) (y := y) (by omega) (by omega)
            have hr0 := Int.emod_nonneg x.toInt (show y.toInt ≠ 0 by omega)
            have hr1 := Int.emod_lt_of_pos x.toInt (show 0 < y.toInt by omega)
            have hr2 : x.toInt % y.toInt ≤ x.toInt := by
              have hq0 : 0 ≤ y.toInt * (x.toInt / y.toInt) := Int.mul_nonneg (by omega) (Int.ediv_nonneg (by omega) (by omega))
              have hdm := Int.mul_ediv_add_emod x.toInt y.toInt
              omega
            have hne : ¬ y = 0 := fun z => by
              have : y.toInt = 0 := by rw [z]; rfl
              omega
            refine lv_lrem hx hb hdg hne ?_
            have hlen : w.1.length = vals.length := hH.1.len
            have hget : (vals ++ [x.toInt % y.toInt])[w.1.length]? = some (x.toInt % y.toInt) := by
              rw [hlen, List.getElem?_append_right (Nat.le_refl _), Nat.sub_self]
              rfl
            have hL' := hL.grow [x.toInt % y.toInt] []
            have hS' := tk_skG hS2 [x.toInt % y.toInt] []
            rw [List.append_nil] at hL' hS'
            refine kk _ (List.mem_singleton.mpr rfl) (vals ++ [x.toInt % y.toInt]) rads H locs ls _ lc ⟨rk_A2.push hH.1 ⟨by dsimp only; omega, by dsimp only; omega⟩, ?_⟩ (hgr _ _ _ _ _ _ _ hR) hl hL' ⟨tk_gl rfl ?_, hS'⟩
            · dsimp only
              split
              · next h1 =>
                intro z hz
                rcases List.mem_cons.mp hz with rfl | hz
                · obtain ⟨k, v, e1, hv, e2⟩ := tk_sym hy1 h1.1
                  rw [h1.2] at e2
                  have hv' : (vals ++ [x.toInt % y.toInt])[b.2.1 - 1]? = some v := by
                    rw [e1]
                    show (vals ++ [x.toInt % y.toInt])[k]? = some v
                    rw [List.getElem?_append_left (List.getElem?_eq_some_iff.mp hv).1]
                    exact hv
                  exact ⟨_, _, hget, hv', by dsimp only; omega⟩
                · exact tk_C_grow _ hH.2 z hz
              · exact tk_C_grow _ hH.2
            · rw [er]
              show (match (vals ++ [x.toInt % y.toInt])[w.1.length]? with
                | some z => some (((1 : Nat) : Int) * z + 0)
                | none => none) = some (x.toInt % y.toInt)
              rw [hget]
              show some (((1 : Nat) : Int) * (x.toInt % y.toInt) + 0) = some (x.toInt % y.toInt)
              congr 1
              omega
          · cases hq
        · cases hq
      · cases hF
    · cases hF
  · cases hF
end TKLR
