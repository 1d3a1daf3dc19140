/-! ===== rk: the law's frame: the script's ints are the symbols 0 to 5, the script the symbol 6, its length the symbol 7 ===== -/
def rk_lawx : rk_Ext := fun pc ins st =>
  let lo := st.1; let sk := st.2.1; let env := st.2.2.1; let hp := st.2.2.2.1; let nc := st.2.2.2.2.1; let ns := st.2.2.2.2.2
  match ins with
  | .aload_n k => match rk_ld lo k with
    | some (.inr (.inr (.inl 6))) => some [(pc + 1, (lo, .inr (.inr (.inl 6)) :: sk, env, hp, nc, ns))]
    | _ => none
  | .arraylength => match sk with
    | .inr (.inr (.inl 6)) :: r => some [(pc + 1, (lo, rk_norm env (.inr (.inr (.inl 7))) :: r, env, hp, nc, ns))]
    | _ => none
  | .iaload => match sk with
    | ix :: .inr (.inr (.inl 6)) :: r => match rk_ix env ix 6, rk_iv env (.inr (.inr (.inl 7))) with
      | some i, some J => if 6 ≤ J.1 then some [(pc + 1, (lo, rk_norm env (.inr (.inr (.inl i))) :: r, env, hp, nc, ns))] else none
      | _, _ => none
    | _ => none
  | _ => none
section RKX
variable {p : Program} {l : Launch} {e : Env} {R : Room} {s : State} {m : MethodId} {args : Array Value} {below : List Frame} {meth : Method} {c : Code} {Q : State → Prop} {cc : ByteArray} {D : va_G} {cl : List vw_C} {Ad : Nat → Prop} {nL : Nat} {ads0 : List Nat} {b L : Nat} {xs : Nat → Int32}
def rk_v0 (b L : Nat) (xs : Nat → Int32) : List Value := [.int (xs 0), .int (xs 1), .int (xs 2), .int (xs 3), .int (xs 4), .int (xs 5), .ref b, .int (Int32.ofNat L)]
theorem rk_v0_at {vals : List Value} (h : ∃ k, vals = rk_v0 b L xs ++ k) {i : Nat} {v : Value} (hi : (rk_v0 b L xs)[i]? = some v) : vals[i]? = some v := by
  obtain ⟨k, rfl⟩ := h
  rw [List.getElem?_append_left (List.getElem?_eq_some_iff.mp hi).1]
  exact hi
theorem rk_v0_x {i : Nat} (hi : i < 6) : (rk_v0 b L xs)[i]? = some (.int (xs i)) := by
  match i, hi with
  | 0, _ => rfl
  | 1, _ => rfl
  | 2, _ => rfl
  | 3, _ => rfl
  | 4, _ => rfl
  | 5, _ => rfl
set_option maxHeartbeats 4000000 in
theorem rk_lawx_ok (hx : p.tables.exec = Jvm.exec) (hb : c.code = cc) (hX : va_X b L xs s s.heap) (hbl : b < s.heap.size) (hbA : ¬ Ad b) (hL : L < 2147483648) (pc : Nat) (ins : Instr) (len : Nat) (st : rk_S) (res : List (Nat × rk_S)) (hdg : decode cc pc = .ok (ins, len)) (hlen : rk_len ins len = true) (h : rk_lawx pc ins st = some res) (kk : ∀ q ∈ res, rk_W (rk_KW p l e R s m args below meth c Q) s D cl Ad nL (rk_v0 b L xs) ads0 q.1 q.2) : rk_W (rk_KW p l e R s m args below meth c Q) s D cl Ad nL (rk_v0 b L xs) ads0 pc st := by
  obtain ⟨lo, sk, env, hp, nc, ns⟩ := st
  intro vals ws H locs ls stk lc hG hl hL2 hS
  dsimp only at hG hL2 hS ⊢
  have hpre := hG.2.2.2.2.2.1
  have h6 : rk_g vals (ws.map Prod.fst) (.inr (.inr (.inl 6))) (.ref b) := rk_v0_at hpre rfl
  have h7 : rk_g vals (ws.map Prod.fst) (.inr (.inr (.inl 7))) (.int (Int32.ofNat L)) := rk_v0_at hpre rfl
  cases ins
  case aload_n k =>
    simp [rk_len] at hlen; subst hlen
    simp only [rk_lawx] at h
    split at h
    · next ha =>
      cases h
      obtain ⟨v, hv, hg⟩ := rk_ld_ok hL2 ha
      have ev : v = .ref b := Option.some.inj ((show vals[6]? = some v from hg).symm.trans h6)
      subst ev
      exact lv_aload_n hx hb hdg rfl (hl.2.2 _ hv) (kk _ (List.mem_singleton.mpr rfl) vals ws H locs ls _ lc hG hl hL2 ⟨hg, hS⟩)
    · cases h
  case arraylength =>
    simp [rk_len] at hlen; subst hlen
    simp only [rk_lawx] at h
    split at h
    · next r =>
      cases h
      obtain ⟨v, k1, rfl, hg, hSn⟩ := hS.cons; clear hS; have hS := hSn; clear hSn
      have ev : v = .ref b := Option.some.inj ((show vals[6]? = some v from hg).symm.trans h6)
      subst ev
      exact va_slen hx hb hX hbl hbA hG.2.2.2.2.1 hdg (kk _ (List.mem_singleton.mpr rfl) vals ws H locs ls _ lc hG hl hL2 ⟨rk_norm_ok hG.1 h7, hS⟩)
    · cases h
  case iaload =>
    simp [rk_len] at hlen; subst hlen
    simp only [rk_lawx] at h
    split at h
    · next ix r =>
      split at h
      · next i J hi hJ =>
        split at h
        · next h6J =>
          cases h
          obtain ⟨vi, k0, rfl, hgi, hSn⟩ := hS.cons; clear hS; have hS := hSn; clear hSn
          obtain ⟨v, k1, rfl, hg, hSn⟩ := hS.cons; clear hS; have hS := hSn; clear hSn
          have ev : v = .ref b := Option.some.inj ((show vals[6]? = some v from hg).symm.trans h6)
          subst ev
          obtain ⟨xi, rfl, hin, rfl⟩ := rk_ix_ok hG.1 hgi hi
          obtain ⟨y, ey, y1, y2⟩ := rk_iv_ok hG.1 h7 hJ
          cases ey
          have hLn : (Int32.ofNat L).toInt = L := nI_toInt (n := L) hL
          have hLi : 6 ≤ L := by omega
          have hi6 := (vp_in_iff.mp hin)
          have hin2 : vp_in xi L := vp_in_iff.mpr ⟨hi6.1, by omega⟩
          have hlt : xi.toNatClampNeg < 6 := by have : xi.toNatClampNeg = xi.toInt.toNat := rfl; omega
          exact va_sld hx hb hX hbl hbA hG.2.2.2.2.1 hin2 hdg (kk _ (List.mem_singleton.mpr rfl) vals ws H locs ls _ lc hG hl hL2 ⟨rk_norm_ok hG.1 (rk_v0_at hpre (rk_v0_x hlt)), hS⟩)
        · cases h
      · cases h
    · cases h
  all_goals (simp [rk_lawx] at h)
end RKX
