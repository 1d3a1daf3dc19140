section MH17_0
/-! ===== the law: two typed worlds; a call of the one leaves the other ===== -/
def lw_T (TY : tk_TT) (X : va_W → Prop) (ads tw : List Nat) (s : State) (D : va_G) (Ad : Nat → Prop) (H : Heap) (ws : va_W) : Prop := ws.map Prod.fst = ads ∧ rk_A2 (fun t (q : Nat × va_E) => tk_cl TY lc_ro ads tw s t q.2) tw ws ∧ va_P D gk_cl ws H ∧ va_D Ad ws ∧ X ws
/-- arguments by their kinds -/
def lq_as : Nat → List Nat → List tk_V
  | _, [] => []
  | j, k :: r => (k, j + 1, 1, 0) :: lq_as (j + 1) r
def lq_av (p : Nat × tk_I) (v : Value) : Prop := (p.1 = 0 ∧ ∃ x : Int32, v = .int x ∧ p.2.1 ≤ x.toInt ∧ x.toInt ≤ p.2.2) ∨ (p.1 = 1 ∧ ∃ x : Int64, v = .long x ∧ p.2.1 ≤ x.toInt ∧ x.toInt ≤ p.2.2)
theorem lq_num {pre vals : List Int} {x : Int} {k : Nat} : tk_num (pre ++ x :: vals) (k, pre.length + 1, 1, 0) = some x := by
  unfold tk_num
  dsimp only
  rw [List.getElem?_append_right (Nat.le_refl _), Nat.sub_self]
  show some (((1 : Nat) : Int) * x + 0) = _
  congr 1
  omega
theorem lq_as_ok {rads : List Nat} : ∀ (L : List (Nat × tk_I)) (av : List Value) (pre : List Int), rk_A2 lq_av L av → ∃ vals : List Int, tk_E (L.map Prod.snd) vals ∧ rk_A2 (tk_g (pre ++ vals) rads) (lq_as pre.length (L.map Prod.fst)) av := by
  intro L
  induction L with
  | nil =>
    intro av pre h
    rw [h.nil]
    exact ⟨[], trivial, trivial⟩
  | cons p L ih =>
    intro av pre h
    obtain ⟨v, k, rfl, g1, g2⟩ := h.cons
    rcases g1 with ⟨e, x, rfl, b1, b2⟩ | ⟨e, x, rfl, b1, b2⟩
    · obtain ⟨vals, h1, h2⟩ := ih k (pre ++ [x.toInt]) g2
      rw [List.append_assoc, List.length_append] at h2
      refine ⟨x.toInt :: vals, ⟨⟨b1, b2⟩, h1⟩, ⟨?_, h2⟩⟩
      show tk_g (pre ++ x.toInt :: vals) rads (p.1, pre.length + 1, 1, 0) (.int x)
      rw [e]
      exact ⟨x, rfl, lq_num⟩
    · obtain ⟨vals, h1, h2⟩ := ih k (pre ++ [x.toInt]) g2
      rw [List.append_assoc, List.length_append] at h2
      refine ⟨x.toInt :: vals, ⟨⟨b1, b2⟩, h1⟩, ⟨?_, h2⟩⟩
      show tk_g (pre ++ x.toInt :: vals) rads (p.1, pre.length + 1, 1, 0) (.long x)
      rw [e]
      exact ⟨x, rfl, lq_num⟩
section LWC
variable {p : Program} {l : Launch} {e : Env} {R : Room} {s : State} {m : MethodId} {args : Array Value} {below : List Frame} {meth : Method} {c : Code} {Q : State → Prop} {cc : ByteArray} {D : va_G} {Ad : Nat → Prop} {xt : tk_XT} {lk : List (Nat × Nat × Nat × Nat)} {cs : List (Nat × Value)} {own : String} {nL : Nat}
set_option maxHeartbeats 4000000 in
theorem lw_call {TY1 TY2 : tk_TT} {X1 X2 : va_W → Prop} {ads1 tw1 ads2 tw2 : List Nat} (hxt : tk_xtok xt) (hXt : xt Ad s s.heap) (hx : p.tables.exec = Jvm.exec) (hb : c.code = cc) (hml : c.maxLocals = nL) (hF : rk_Fr s m args meth D gk_cl Ad gk_tbl gk_xw gk_fty gk_cln own lk cs) (hck : ∀ r ∈ lk, rk_cok gk_tbl gk_xw gk_MN gk_P own r)
    (hdis : ∀ x ∈ ads2, ¬ x ∈ ads1) {d f : Nat} {kinds : List Nat} {envs : List tk_I} {ys : List tk_X} {mods : List (Nat × Nat)} (hK : tk_KS l D gk_cl gk_tbl gk_xw xt gk_MN gk_P TY1 lc_ro X1 ads1 tw1 d (f, (2, 0, 0, 0) :: lq_as 0 kinds, (envs, []), [0], [], ys, mods)) (hfr : d + 1 ≤ R.frames) (hlo : 40 * (d + 1) ≤ R.locals) {o1 : Nat × List tk_F} (hT0 : TY1.1[0]? = some (.inl o1)) (hmc : gk_mci[f]? = some o1.1) {ax : Nat} (hax : tk_ty ads1 tw1 0 ax)
    {pc idx n : Nat} (hlk : rk_lk lk idx = some (5, f, n)) (hn : kinds.length = n) (hke : kinds.length = envs.length) {av rest : List Value} (hav : rk_A2 lq_av (kinds.zip envs) av) (hsum : (rest.map fun v => v.category).sum ≤ 8)
    (hdg : decode cc pc = .ok (.invokevirtual idx, 3)) {H : Heap} {locs : List Loc} {ls : Array Slot} {nc ns : Nat} (hnc : nc ≤ R.cells) (hns : ns ≤ R.slots) {lc : List (Nat × Value)} (hl : lv_has ls nL lc) {ws1 ws2 : va_W} (h1 : lw_T TY1 X1 ads1 tw1 s D Ad H ws1) (h2 : lw_T TY2 X2 ads2 tw2 s D Ad H ws2) (hS : va_S Ad s.heap H locs)
    (kk : ∀ y ∈ ys, ∀ (vals' : List Int) (rads' : List Nat) (ws1' : va_W) (H' : Heap) (locs' : List Loc) (v : Option Value), tk_H y.2.1 vals' → lw_T TY1 X1 ads1 tw1 s D Ad H' ws1' → lw_T TY2 X2 ads2 tw2 s D Ad H' ws2 → va_S Ad s.heap H' locs' → tk_un TY1 mods tw1 ws1 ws1' → tk_ret y.1 vals' rads' (.returned v) → W p l e R s m args below meth c H' locs' nc ns Q (F0 m (pc + 3) ls (v.toList ++ rest))) : W p l e R s m args below meth c H locs nc ns Q (F0 m pc ls (av.reverse ++ .ref ax :: rest)) := by
  obtain ⟨hgw, hxo, -, -, hlenM, hmok, hmci⟩ := gk_rok
  obtain ⟨hts, hxw, hown, hK0, hA, hcl, hlkk, hini, hac, hcs⟩ := hF
  have hfix : CallFix p m c cc nL s args gk_tbl own := ⟨hx, hb, hml, hown, hts⟩
  obtain ⟨a1, a2, a3, a4, a5⟩ := id h1
  obtain ⟨b1, b2, b3, b4, b5⟩ := id h2
  obtain ⟨vals, hE, hG⟩ := lq_as_ok (rads := [ax]) (kinds.zip envs) av [] hav
  rw [List.map_snd_zip (by omega)] at hE
  rw [List.map_fst_zip (by omega)] at hG
  have hlen : av.length = n := by
    have := hav.len
    rw [List.length_zip] at this
    omega
  obtain ⟨j, e1, hw, hj, hc1⟩ := tk_cell a1 a2 hax
  unfold tk_cl at hc1
  rw [hT0] at hc1
  obtain ⟨vs, rfl, hvl, hvs⟩ := hc1
  have hck1 := hck _ (rk_lk_mem hlk)
  obtain ⟨q, hq, w1, w2, w3, w4⟩ := hck1
  obtain ⟨M, hM, hM21, hmet⟩ := hK q hq
  obtain ⟨m1, m2, m3, m4, m5, -⟩ := hmok f q M hq hM
  obtain ⟨kq, hkq, -⟩ := a3 j _ hw
  have hkn := hmci f o1.1 q kq hmc hq hkq
  have hrecv := va_recv hK0 a3 hkq hw
  rw [hkn] at hrecv
  have hs : tk_hs TY1 lc_ro X1 ads1 tw1 s D gk_cl Ad vals [ax] H locs [0] [] ws1 := ⟨⟨hax, trivial⟩, a1, a2, a3, a4, hS, fun q hq => absurd hq List.not_mem_nil⟩
  have hH : tk_H (envs, []) vals := ⟨hE, fun q hq => absurd hq List.not_mem_nil⟩
  have hr : va_Run p l e R s m args below meth c H locs nc ns 0 0 (F0 m pc ls (av.reverse ++ .ref ax :: rest)) rest (tk_Post D gk_cl TY1 lc_ro X1 ads1 tw1 (ys, mods) vals [ax] ws1 (va_A ws1 H.size) (Value.ref ax :: av).toArray) (va_A ws1 H.size) :=
    va_runV (C := q.1) hfix (hmet vals [ax] ws1 (.ref ax :: av) H.size hH ⟨hax, trivial⟩ ⟨⟨ax, rfl, rfl⟩, hG⟩ a1 (fun q hq => absurd hq List.not_mem_nil) (tk_ob_of a1 a2)) ⟨callB_of n hts (rk_good hgw m4) rfl rfl rfl (hts _ m5) (hts _ w1) ⟨m3.1, m3.2, w4⟩ ⟨hfr, by show 8 + (M.2.1 + 11) + 40 * d ≤ R.locals; omega⟩, hts _ w2, hts _ w3⟩ ⟨tk_blind hxo hxt, hrecv, fun U hU hW => tk_pre hxo hxw hxt hXt hA hK0 hs a5 U hU hW⟩ rfl hlen hl.1 rfl (lv_room hsum) hdg ⟨hnc, hns⟩
  have hsub : ∀ q, va_A ws1 H.size q → Ad q := by
    rintro q (⟨k, e1, hk⟩ | hq)
    · exact a4.2 k _ hk
    · exact hA q (Nat.le_trans hS.1 hq)
  intro T hT X
  obtain ⟨v, st₀, t, T', L, h0, X', hLf, e1', e2, ⟨⟨y, hym, vals', rads', ws1', c1, c2, c3, c4, c5, c6, c7, c8, c9, c10, c11⟩, hFr⟩, go⟩ := hr T hT X
  have hal : t.vm.Alike s.vm := by rw [← e2]; exact X'.warmed.alike.symm
  have hS1 : va_S Ad s.heap t.heap (locs ++ L) := by
    refine ⟨Nat.le_trans hS.1 (by rw [← h0]; exact hFr.1), fun q hq hn => ?_, fun z hz => ?_⟩
    · rw [hFr.2 q (by rw [h0]; exact Nat.lt_of_lt_of_le hq hS.1) (fun z => hn (hsub q z)), h0]
      exact hS.2.1 q hq hn
    · rcases List.mem_append.mp hz with z1 | z1
      · exact hS.2.2 z z1
      · exact hsub _ (hLf z z1)
  have hT1 : lw_T TY1 X1 ads1 tw1 s D Ad t.heap ws1' := ⟨c5, c6.mono (fun _ _ h => tk_cl_moved hal h), c7, c8.weaken (fun _ _ _ z => hsub _ z), c10.2⟩
  have hT2 : lw_T TY2 X2 ads2 tw2 s D Ad t.heap ws2 := ⟨b1, b2, fun i q hq => (b3 i q hq).kept (by
    rw [← h0]
    refine hFr.2 q.1 (by rw [h0]; exact (b3 i q hq).lt) ?_
    rintro (⟨k, e9, hk⟩ | hge)
    · exact hdis q.1 (by rw [← b1]; exact List.mem_map.mpr ⟨q, List.mem_of_getElem? hq, rfl⟩) (by rw [← a1]; exact List.mem_map.mpr ⟨_, List.mem_of_getElem? hk, rfl⟩)
    · have := (b3 i q hq).lt
      omega), b4, b5⟩
  obtain ⟨t2, d1, d2⟩ := kk y hym vals' rads' ws1' t.heap (locs ++ L) v c3 hT1 hT2 hS1 c10.1 c11 T' e1' X'
  exact ⟨t2, go t2 d1, d2⟩
end LWC
end MH17_0
section MH17_1
/-! ===== the law: a small run of its calls, the stack by kinds ===== -/
/-- (0, k): the script's int i + k; (1, n): n; (2, _): the script; (3, _): the object; (4, _): the model's; (5, k): the place i + k; (6, _): an int; (7, _): a long -/
abbrev lq_V : Type := Nat × Nat
def lq_g (b ax am i : Nat) (xs : Nat → Int32) (a : lq_V) (v : Value) : Prop := match a.1 with
  | 0 => v = .int (xs (i + a.2))
  | 1 => v = .int (nI a.2)
  | 2 => v = .ref b
  | 3 => v = .ref ax
  | 4 => v = .ref am
  | 5 => v = .int (nI (i + a.2))
  | 6 => ∃ x : Int32, v = .int x
  | 7 => ∃ x : Int64, v = .long x
  | _ => False
def lq_int (a : lq_V) : Bool := Nat.beq a.1 0 || (Nat.beq a.1 1 || (Nat.beq a.1 5 || Nat.beq a.1 6))
def lq_cat (a : lq_V) : Nat := cond (Nat.beq a.1 7) 2 1
/-- a row: the link's number, whose it is, the method, its arguments' kinds and bounds, what it returns -/
abbrev lq_R : Type := Nat × Nat × Nat × List Nat × List tk_I × lq_V
def lq_fit (B : Nat → tk_I) (a : lq_V) (k : Nat) (I : tk_I) : Bool := match a.1 with
  | 0 => Nat.beq k 0 && (decide (I.1 ≤ (B a.2).1) && decide ((B a.2).2 ≤ I.2))
  | 1 => Nat.beq k 0 && (decide (I.1 ≤ (a.2 : Int)) && (decide ((a.2 : Int) ≤ I.2) && decide (a.2 < 2147483648)))
  | 6 => Nat.beq k 0 && (decide (I.1 ≤ -2147483648) && decide (2147483647 ≤ I.2))
  | 7 => Nat.beq k 1 && (decide (I.1 ≤ -9223372036854775808) && decide (9223372036854775807 ≤ I.2))
  | _ => false
def lq_fits (B : Nat → tk_I) : List lq_V → List Nat → List tk_I → Bool
  | [], [], [] => true
  | a :: r, k :: ks, I :: Is => lq_fit B a k I && lq_fits B r ks Is
  | _, _, _ => false
def lq_pop : Nat → List lq_V → List lq_V → Option (List lq_V × List lq_V)
  | 0, acc, sk => some (acc, sk)
  | n + 1, acc, a :: sk => lq_pop n (a :: acc) sk
  | _ + 1, _, [] => none
def lq_sum : List lq_V → Nat
  | [] => 0
  | a :: r => lq_cat a + lq_sum r
def lq_ry (ret : lq_V) (y : tk_X) : Bool := match y.1 with
  | some a => (Nat.beq ret.1 6 && Nat.beq a.1 0) || ((Nat.beq ret.1 7 && Nat.beq a.1 1) || (Nat.beq ret.1 1 && (decide (a = (0, 0, 0, (ret.2 : Int))) && decide (ret.2 < 2147483648))))
  | none => false
def lq_call (B : Nat → tk_I) (T : List lq_R) (idx : Nat) (st : List lq_V) : Option (lq_R × List lq_V) := match T.find? (fun r => Nat.beq r.1 idx), rk_lk gk_lk12 idx with
  | some r, some (kd, f, n) => (match lq_pop n [] st with
    | some (as, a :: rest) => if (kd = 5 ∧ f = r.2.2.1 ∧ n = r.2.2.2.1.length ∧ gk_mci[f]? = some (cond (Nat.beq r.2.1 3) 11 12)) ∧ (a.1 = r.2.1 ∧ (r.2.1 = 3 ∨ r.2.1 = 4)) ∧ lq_fits B as r.2.2.2.1 r.2.2.2.2.1 = true ∧ lq_sum rest ≤ 8 then some (r, rest) else none
    | _ => none)
  | _, _ => none
def lq_step (B : Nat → tk_I) (T : List lq_R) (pc : Nat) (ins : Instr) (st : List lq_V) : Option (List (Nat × List lq_V)) := match ins with
  | .aload_n k => if (k : Nat) = 0 then some [(pc + 1, (2, 0) :: st)] else if (k : Nat) = 1 then some [(pc + 1, (3, 0) :: st)] else if (k : Nat) = 2 then some [(pc + 1, (4, 0) :: st)] else none
  | .iload_n k => if (k : Nat) = 3 then some [(pc + 1, (5, 0) :: st)] else none
  | .iconst n => if 0 ≤ n ∧ n ≤ 5 then some [(pc + 1, (1, n.toNat) :: st)] else none
  | .bipush _ => some [(pc + 2, (6, 0) :: st)]
  | .iadd => match st with
    | (1, k) :: (5, j) :: r => if k ≤ 5 ∧ j ≤ 5 then some [(pc + 1, (5, j + k) :: r)] else none
    | _ => none
  | .iaload => match st with
    | (5, k) :: (2, _) :: r => if k < 6 then some [(pc + 1, (0, k) :: r)] else none
    | _ => none
  | .i2l => match st with
    | a :: r => if lq_int a = true then some [(pc + 1, (7, 0) :: r)] else none
    | _ => none
  | .lshl => match st with
    | a :: (7, _) :: r => if lq_int a = true then some [(pc + 1, (7, 0) :: r)] else none
    | _ => none
  | .land => match st with
    | (7, _) :: (7, _) :: r => some [(pc + 1, (7, 0) :: r)]
    | _ => none
  | .lor => match st with
    | (7, _) :: (7, _) :: r => some [(pc + 1, (7, 0) :: r)]
    | _ => none
  | .ldc2_w idx => match rk_cst gk_lcs idx with
    | some (.long _) => some [(pc + 3, (7, 0) :: st)]
    | _ => none
  | .pop => match st with
    | a :: r => if lq_int a = true then some [(pc + 1, r)] else none
    | _ => none
  | .pop2 => match st with
    | (7, _) :: r => some [(pc + 1, r)]
    | _ => none
  | .goto off => if 0 ≤ (pc : Int) + off then some [(((pc : Int) + off).toNat, st)] else none
  | .ifCond .eq off => match st with
    | a :: r => if lq_int a = true ∧ 0 ≤ (pc : Int) + off then some [(((pc : Int) + off).toNat, r), (pc + 3, r)] else none
    | _ => none
  | .if_icmp .eq off => match st with
    | (1, k) :: (1, j) :: r => if k = j ∧ 0 ≤ (pc : Int) + off then some [(((pc : Int) + off).toNat, r)] else none
    | _ => none
  | .invokevirtual idx => match lq_call B T idx st with
    | some (r, rest) => some [(pc + 3, r.2.2.2.2.2 :: rest)]
    | none => none
  | _ => none
def lq_at : List (Nat × Instr × Nat) → Nat → Option (Instr × Nat)
  | [], _ => none
  | q :: r, pc => cond (Nat.beq q.1 pc) (some q.2) (lq_at r pc)
theorem lq_at_ok {pc : Nat} {q : Instr × Nat} : ∀ {l : List (Nat × Instr × Nat)}, lq_at l pc = some q → (pc, q) ∈ l := by
  intro l
  induction l with
  | nil => intro h; cases h
  | cons r l ih =>
    intro h
    unfold lq_at at h
    cases hb : Nat.beq r.1 pc with
    | true =>
      rw [hb] at h
      have h : some r.2 = some q := h
      cases h
      rw [← Nat.eq_of_beq_eq_true hb]
      exact List.mem_cons_self
    | false =>
      rw [hb] at h
      exact List.mem_cons_of_mem _ (ih h)
def lq_run (B : Nat → tk_I) (T : List lq_R) (li : List (Nat × Instr × Nat)) (stop : Nat) : Nat → Nat → List lq_V → Bool
  | 0, _, _ => false
  | n + 1, pc, st => cond (Nat.beq pc stop) st.isEmpty (match lq_at li pc with
    | some (ins, len) => rk_len ins len && (match lq_step B T pc ins st with
      | some l => l.all (fun q => lq_run B T li stop n q.1 q.2)
      | none => false)
    | none => false)
theorem lq_pop_ok {α : Type} {R : lq_V → α → Prop} : ∀ (n : Nat) {acc sk as r : List lq_V} {va stk : List α}, lq_pop n acc sk = some (as, r) → rk_A2 R acc va → rk_A2 R sk stk → ∃ (v2 r2 : List α), rk_A2 R as (v2 ++ va) ∧ rk_A2 R r r2 ∧ stk = v2.reverse ++ r2 ∧ v2.length = n := by
  intro n
  induction n with
  | zero => intro acc sk as r va stk h ha hs; cases h; exact ⟨[], stk, by simpa using ha, hs, by simp, rfl⟩
  | succ n ih =>
    intro acc sk as r va stk h ha hs
    cases sk with
    | nil => cases h
    | cons a sk =>
      obtain ⟨v, k, rfl, hg, hs⟩ := hs.cons
      obtain ⟨v2, r2, h1, h2, rfl, h4⟩ := ih (show lq_pop n (a :: acc) sk = some (as, r) from h) (show rk_A2 R (a :: acc) (v :: va) from ⟨hg, ha⟩) hs
      exact ⟨v2 ++ [v], r2, by simpa using h1, h2, by simp, by simp [h4]⟩
section LQG
variable {b ax am i : Nat} {xs : Nat → Int32}
theorem lq_int_ok {a : lq_V} {v : Value} (h : lq_int a = true) (hg : lq_g b ax am i xs a v) : ∃ x : Int32, v = .int x := by
  unfold lq_int at h
  rw [Bool.or_eq_true, Bool.or_eq_true, Bool.or_eq_true] at h
  unfold lq_g at hg
  rcases h with h | h | h | h
  all_goals
    rw [Nat.eq_of_beq_eq_true h] at hg
    first
      | exact ⟨_, hg⟩
      | exact hg
theorem lq_cat_ok {a : lq_V} {v : Value} (hg : lq_g b ax am i xs a v) : v.category = lq_cat a := by
  unfold lq_g at hg
  unfold lq_cat
  split at hg
  all_goals
    rename_i h
    first
      | exact hg.elim
      | (rw [h]; subst hg; rfl)
      | (rw [h]; obtain ⟨x, rfl⟩ := hg; rfl)
theorem lq_sum_ok : ∀ {r : List lq_V} {stk : List Value}, rk_A2 (lq_g b ax am i xs) r stk → (stk.map fun v => v.category).sum = lq_sum r := by
  intro r
  induction r with
  | nil => intro stk h; rw [h.nil]; rfl
  | cons a r ih =>
    intro stk h
    obtain ⟨v, k, rfl, hg, hs⟩ := h.cons
    simp [lq_sum, lq_cat_ok hg, ih hs]
theorem lq_fit_ok {B : Nat → tk_I} (hB : ∀ k, (B k).1 ≤ (xs (i + k)).toInt ∧ (xs (i + k)).toInt ≤ (B k).2) {a : lq_V} {v : Value} {k : Nat} {I : tk_I} (hg : lq_g b ax am i xs a v) (h : lq_fit B a k I = true) : lq_av (k, I) v := by
  unfold lq_fit at h
  unfold lq_g at hg
  split at h
  · next e =>
    rw [e] at hg
    rw [Bool.and_eq_true, Bool.and_eq_true, decide_eq_true_eq, decide_eq_true_eq] at h
    have hg : v = .int (xs (i + a.2)) := hg
    have := hB a.2
    exact Or.inl ⟨Nat.eq_of_beq_eq_true h.1, _, hg, Int.le_trans h.2.1 this.1, Int.le_trans this.2 h.2.2⟩
  · next e =>
    rw [e] at hg
    rw [Bool.and_eq_true, Bool.and_eq_true, Bool.and_eq_true, decide_eq_true_eq, decide_eq_true_eq, decide_eq_true_eq] at h
    have hg : v = .int (nI a.2) := hg
    exact Or.inl ⟨Nat.eq_of_beq_eq_true h.1, _, hg, by rw [nI_i32 h.2.2.2]; exact h.2.1, by rw [nI_i32 h.2.2.2]; exact h.2.2.1⟩
  · next e =>
    rw [e] at hg
    rw [Bool.and_eq_true, Bool.and_eq_true, decide_eq_true_eq, decide_eq_true_eq] at h
    obtain ⟨x, hx⟩ : ∃ x : Int32, v = .int x := hg
    have := fm_i32 x
    exact Or.inl ⟨Nat.eq_of_beq_eq_true h.1, x, hx, by have := h.2.1; show I.1 ≤ x.toInt; omega, by have := h.2.2; show x.toInt ≤ I.2; omega⟩
  · next e =>
    rw [e] at hg
    rw [Bool.and_eq_true, Bool.and_eq_true, decide_eq_true_eq, decide_eq_true_eq] at h
    obtain ⟨x, hx⟩ : ∃ x : Int64, v = .long x := hg
    have h1 := Int64.le_toInt x
    have h2 := Int64.toInt_lt x
    exact Or.inr ⟨Nat.eq_of_beq_eq_true h.1, x, hx, by have := h.2.1; show I.1 ≤ x.toInt; omega, by have := h.2.2; show x.toInt ≤ I.2; omega⟩
  · cases h
theorem lq_fits_ok {B : Nat → tk_I} (hB : ∀ k, (B k).1 ≤ (xs (i + k)).toInt ∧ (xs (i + k)).toInt ≤ (B k).2) : ∀ {as : List lq_V} {ks : List Nat} {Is : List tk_I} {av : List Value}, rk_A2 (lq_g b ax am i xs) as av → lq_fits B as ks Is = true → rk_A2 lq_av (ks.zip Is) av ∧ ks.length = Is.length := by
  intro as
  induction as with
  | nil =>
    intro ks Is av hg h
    rw [hg.nil]
    cases ks with
    | nil => cases Is with
      | nil => exact ⟨trivial, rfl⟩
      | cons _ _ => cases h
    | cons _ _ => cases Is <;> cases h
  | cons a as ih =>
    intro ks Is av hg h
    obtain ⟨v, k, rfl, g1, g2⟩ := hg.cons
    cases ks with
    | nil => cases Is <;> cases h
    | cons k0 ks => cases Is with
      | nil => cases h
      | cons I Is =>
        have h := Bool.and_eq_true_iff.mp (show (lq_fit B a k0 I && lq_fits B as ks Is) = true from h)
        obtain ⟨q1, q2⟩ := ih g2 h.2
        exact ⟨⟨lq_fit_ok hB g1 h.1, q1⟩, by rw [List.length_cons, List.length_cons, q2]⟩
theorem lq_ry_ok {ret : lq_V} {y : tk_X} {vals : List Int} {rads : List Nat} {v : Option Value} (h : lq_ry ret y = true) (hr : tk_ret y.1 vals rads (.returned v)) : ∃ u, v = some u ∧ lq_g b ax am i xs ret u := by
  unfold lq_ry at h
  split at h
  · next a ha =>
    rw [ha] at hr
    obtain ⟨u, hg, eu⟩ := hr
    have ev : v = some u := Outcome.returned.inj eu
    refine ⟨u, ev, ?_⟩
    rw [Bool.or_eq_true, Bool.or_eq_true, Bool.and_eq_true, Bool.and_eq_true, Bool.and_eq_true, Bool.and_eq_true, decide_eq_true_eq, decide_eq_true_eq] at h
    unfold lq_g
    rcases h with ⟨h1, h2⟩ | ⟨h1, h2⟩ | ⟨h1, h2, h3⟩
    · rw [Nat.eq_of_beq_eq_true h1]
      obtain ⟨x, rfl, -⟩ := tk_g0 hg (Nat.eq_of_beq_eq_true h2)
      exact ⟨x, rfl⟩
    · rw [Nat.eq_of_beq_eq_true h1]
      obtain ⟨x, rfl, -⟩ := tk_g1 hg (Nat.eq_of_beq_eq_true h2)
      exact ⟨x, rfl⟩
    · rw [Nat.eq_of_beq_eq_true h1]
      subst h2
      obtain ⟨x, rfl, hx⟩ := tk_g0 hg rfl
      have hx : some (ret.2 : Int) = some x.toInt := hx
      have e : x.toInt = (nI ret.2).toInt := by rw [nI_i32 h3]; exact (Option.some.inj hx).symm
      show Value.int x = .int (nI ret.2)
      rw [Int32.toInt_inj.mp e]
  · cases h
end LQG
end MH17_1
section MH17_2
/-! ===== the law: the small run is sound ===== -/
section LQS
variable {p : Program} {l : Launch} {e : Env} {R : Room} {s : State} {m : MethodId} {args : Array Value} {below : List Frame} {meth : Method} {c : Code} {Q : State → Prop} {D : va_G} {Ad : Nat → Prop} {xt : tk_XT} {b ax am i L nc ns : Nat} {xs : Nat → Int32} {adC adM : List Nat}
def gn_TY : tk_TT := tk_TF gm_TY gn_FX (fun _ _ _ _ _ => false)
theorem gn_fmTy : fm_Ty gn_TY := ⟨rfl, rfl, rfl⟩
/-- both worlds stand -/
def lw_J (s : State) (D : va_G) (Ad : Nat → Prop) (adC adM : List Nat) (H : Heap) (locs : List Loc) : Prop := (∃ ws, lw_T gc_TY (gc_X lw_twC) adC lw_twC s D Ad H ws) ∧ (∃ ws, lw_T gn_TY (gn_X lw_twM) adM lw_twM s D Ad H ws) ∧ va_S Ad s.heap H locs
def lw_lc (b ax am i : Nat) : List (Nat × Value) := [(3, .int (nI i)), (2, .ref am), (1, .ref ax), (0, .ref b)]
def lq_St (K : rk_K) (s : State) (D : va_G) (Ad : Nat → Prop) (adC adM : List Nat) (b ax am i : Nat) (xs : Nat → Int32) (nc ns pc : Nat) (st : List lq_V) : Prop := ∀ (H : Heap) (locs : List Loc) (ls : Array Slot) (stk : List Value), lw_J s D Ad adC adM H locs → lv_has ls 4 (lw_lc b ax am i) → rk_A2 (lq_g b ax am i xs) st stk → K pc ls stk H locs nc ns
/-- the contract that a row names -/
def lq_con (l : Launch) (D : va_G) (xt : tk_XT) (adC adM : List Nat) (r : lq_R) : Prop := (r.2.1 = 3 → ∃ (ys : List tk_X) (mods : List (Nat × Nat)), tk_KS l D gk_cl gk_tbl gk_xw xt gk_MN gk_P gc_TY lc_ro (gc_X lw_twC) adC lw_twC 20 (r.2.2.1, (2, 0, 0, 0) :: lq_as 0 r.2.2.2.1, (r.2.2.2.2.1, []), [0], [], ys, mods) ∧ ys.all (lq_ry r.2.2.2.2.2) = true) ∧ (r.2.1 = 4 → ∃ (ys : List tk_X) (mods : List (Nat × Nat)), tk_KS l D gk_cl gk_tbl gk_xw xt gk_MN gk_P gn_TY lc_ro (gn_X lw_twM) adM lw_twM 20 (r.2.2.1, (2, 0, 0, 0) :: lq_as 0 r.2.2.2.1, (r.2.2.2.2.1, []), [0], [], ys, mods) ∧ ys.all (lq_ry r.2.2.2.2.2) = true)
set_option maxHeartbeats 8000000 in
theorem lq_step_ok (hxt : tk_xtok xt) (hXt : xt Ad s s.heap) (hx : p.tables.exec = Jvm.exec) (hb : c.code = code) (hml : c.maxLocals = 4) (hF : rk_Fr s m args meth D gk_cl Ad gk_tbl gk_xw gk_fty gk_cln "GooseIceLaw" gk_lk12 gk_lcs) (hfr : 21 ≤ R.frames) (hlo : 840 ≤ R.locals) (hX : va_X b L xs s s.heap) (hbl : b < s.heap.size) (hbA : ¬ Ad b) (hL : L < 2147483648) (hi : i + 6 ≤ L) (hdis : ∀ x ∈ adM, ¬ x ∈ adC) (haC : tk_ty adC lw_twC 0 ax) (haM : tk_ty adM lw_twM 0 am) (hnc : nc ≤ R.cells) (hns : ns ≤ R.slots)
    {B : Nat → tk_I} (hB : ∀ k, (B k).1 ≤ (xs (i + k)).toInt ∧ (xs (i + k)).toInt ≤ (B k).2) {T : List lq_R} (hT : ∀ r ∈ T, lq_con l D xt adC adM r) {pc : Nat} {ins : Instr} {len : Nat} {st : List lq_V} {res : List (Nat × List lq_V)} (hdg : decode code pc = .ok (ins, len)) (hlen : rk_len ins len = true) (h : lq_step B T pc ins st = some res) (kk : ∀ q ∈ res, lq_St (rk_KW p l e R s m args below meth c Q) s D Ad adC adM b ax am i xs nc ns q.1 q.2) : lq_St (rk_KW p l e R s m args below meth c Q) s D Ad adC adM b ax am i xs nc ns pc st := by
  intro H locs ls stk hJ hl hS
  have hS0 : va_S Ad s.heap H locs := hJ.2.2
  cases ins
  case aload_n k =>
    simp [rk_len] at hlen; subst hlen
    simp only [lq_step] at h
    split at h
    · next e => cases h; exact lv_aload_n hx hb hdg e (lv_at hl 3 rfl) (kk _ (List.mem_singleton.mpr rfl) H locs ls _ hJ hl ⟨rfl, hS⟩)
    · split at h
      · next e => cases h; exact lv_aload_n hx hb hdg e (lv_at hl 2 rfl) (kk _ (List.mem_singleton.mpr rfl) H locs ls _ hJ hl ⟨rfl, hS⟩)
      · split at h
        · next e => cases h; exact lv_aload_n hx hb hdg e (lv_at hl 1 rfl) (kk _ (List.mem_singleton.mpr rfl) H locs ls _ hJ hl ⟨rfl, hS⟩)
        · cases h
  case iload_n k =>
    simp [rk_len] at hlen; subst hlen
    simp only [lq_step] at h
    split at h
    · next e => cases h; exact lv_iload_n hx hb hdg e (lv_at hl 0 rfl) (kk _ (List.mem_singleton.mpr rfl) H locs ls _ hJ hl ⟨rfl, hS⟩)
    · cases h
  case iconst n =>
    simp [rk_len] at hlen; subst hlen
    simp only [lq_step] at h
    split at h
    · next e =>
      cases h
      have hv : Int32.ofInt n = nI n.toNat := by
        rcases (by omega : n = 0 ∨ n = 1 ∨ n = 2 ∨ n = 3 ∨ n = 4 ∨ n = 5) with rfl | rfl | rfl | rfl | rfl | rfl <;> rfl
      exact lv_iconst hx hb hdg hv (kk _ (List.mem_singleton.mpr rfl) H locs ls _ hJ hl ⟨rfl, hS⟩)
    · cases h
  case bipush n =>
    simp [rk_len] at hlen; subst hlen
    simp only [lq_step] at h
    cases h
    exact lv_bipush hx hb hdg rfl (kk _ (List.mem_singleton.mpr rfl) H locs ls _ hJ hl ⟨⟨_, rfl⟩, hS⟩)
  case iadd =>
    simp [rk_len] at hlen; subst hlen
    simp only [lq_step] at h
    split at h
    · next k j r =>
      split at h
      · next e =>
        cases h
        obtain ⟨v1, k1, rfl, g1, hS1⟩ := hS.cons
        obtain ⟨v2, k2, rfl, g2, hS2⟩ := hS1.cons
        have g1 : v1 = .int (nI k) := g1
        have g2 : v2 = .int (nI (i + j)) := g2
        subst g1 g2
        refine lv_iadd hx hb hdg (kk _ (List.mem_singleton.mpr rfl) H locs ls _ hJ hl ⟨?_, hS2⟩)
        show Value.int (nI (i + j) + nI k) = .int (nI (i + (j + k)))
        rw [nI_add, Nat.add_assoc]
      · cases h
    · cases h
  case iaload =>
    simp [rk_len] at hlen; subst hlen
    simp only [lq_step] at h
    split at h
    · next k j r =>
      split at h
      · next e =>
        cases h
        obtain ⟨v1, k1, rfl, g1, hS1⟩ := hS.cons
        obtain ⟨v2, k2, rfl, g2, hS2⟩ := hS1.cons
        have g1 : v1 = .int (nI (i + k)) := g1
        have g2 : v2 = .ref b := g2
        subst g1 g2
        have hin : vp_in (nI (i + k)) L := vp_in_iff.mpr (by rw [nI_i32 (by omega)]; omega)
        refine va_sld hx hb hX hbl hbA hS0 hin hdg (kk _ (List.mem_singleton.mpr rfl) H locs ls _ hJ hl ⟨?_, hS2⟩)
        show Value.int (xs (nI (i + k)).toNatClampNeg) = .int (xs (i + k))
        rw [show (nI (i + k)).toNatClampNeg = i + k from nI_clamp (by omega)]
      · cases h
    · cases h
  case i2l =>
    simp [rk_len] at hlen; subst hlen
    simp only [lq_step] at h
    split at h
    · next a r =>
      split at h
      · next e =>
        cases h
        obtain ⟨v1, k1, rfl, g1, hS1⟩ := hS.cons
        obtain ⟨x, rfl⟩ := lq_int_ok e g1
        exact lv_i2l hx hb hdg rfl (kk _ (List.mem_singleton.mpr rfl) H locs ls _ hJ hl ⟨⟨_, rfl⟩, hS1⟩)
      · cases h
    · cases h
  case lshl =>
    simp [rk_len] at hlen; subst hlen
    simp only [lq_step] at h
    split at h
    · next a j r =>
      split at h
      · next e =>
        cases h
        obtain ⟨v1, k1, rfl, g1, hS1⟩ := hS.cons
        obtain ⟨v2, k2, rfl, ⟨y, rfl⟩, hS2⟩ := hS1.cons
        obtain ⟨x, rfl⟩ := lq_int_ok e g1
        exact lv_lshl hx hb hdg rfl (kk _ (List.mem_singleton.mpr rfl) H locs ls _ hJ hl ⟨⟨_, rfl⟩, hS2⟩)
      · cases h
    · cases h
  case land =>
    simp [rk_len] at hlen; subst hlen
    simp only [lq_step] at h
    split at h
    · cases h
      obtain ⟨v1, k1, rfl, ⟨x, rfl⟩, hS1⟩ := hS.cons
      obtain ⟨v2, k2, rfl, ⟨y, rfl⟩, hS2⟩ := hS1.cons
      exact lv_land hx hb hdg (kk _ (List.mem_singleton.mpr rfl) H locs ls _ hJ hl ⟨⟨_, rfl⟩, hS2⟩)
    · cases h
  case lor =>
    simp [rk_len] at hlen; subst hlen
    simp only [lq_step] at h
    split at h
    · cases h
      obtain ⟨v1, k1, rfl, ⟨x, rfl⟩, hS1⟩ := hS.cons
      obtain ⟨v2, k2, rfl, ⟨y, rfl⟩, hS2⟩ := hS1.cons
      exact lv_lor hx hb hdg (kk _ (List.mem_singleton.mpr rfl) H locs ls _ hJ hl ⟨⟨_, rfl⟩, hS2⟩)
    · cases h
  case ldc2_w idx =>
    simp [rk_len] at hlen; subst hlen
    simp only [lq_step] at h
    split at h
    · next x hc1 =>
      cases h
      obtain ⟨hts, hxw, hown, hK, hA, hcl, hlk, hini, hac, hcs⟩ := hF
      exact lv_ldc2 hx hb hown (hts _ ((hcs _ (rk_cst_mem hc1)).2 x rfl)) hdg (kk _ (List.mem_singleton.mpr rfl) H locs ls _ hJ hl ⟨⟨_, rfl⟩, hS⟩)
    · cases h
  case pop =>
    simp [rk_len] at hlen; subst hlen
    simp only [lq_step] at h
    split at h
    · next a r =>
      split at h
      · next e =>
        cases h
        obtain ⟨v1, k1, rfl, g1, hS1⟩ := hS.cons
        obtain ⟨x, rfl⟩ := lq_int_ok e g1
        exact lv_pop hx hb hdg rfl (kk _ (List.mem_singleton.mpr rfl) H locs ls _ hJ hl hS1)
      · cases h
    · cases h
  case pop2 =>
    simp [rk_len] at hlen; subst hlen
    simp only [lq_step] at h
    split at h
    · cases h
      obtain ⟨v1, k1, rfl, ⟨x, rfl⟩, hS1⟩ := hS.cons
      exact lv_pop2_2 hx hb hdg rfl (kk _ (List.mem_singleton.mpr rfl) H locs ls _ hJ hl hS1)
    · cases h
  case goto off =>
    simp [rk_len] at hlen; subst hlen
    simp only [lq_step] at h
    split at h
    · next e =>
      cases h
      exact lv_goto (tgt := ((pc : Int) + off).toNat) hx hb hdg (by omega) (kk _ (List.mem_singleton.mpr rfl) H locs ls _ hJ hl hS)
    · cases h
  case ifCond cnd off =>
    simp [rk_len] at hlen; subst hlen
    cases cnd
    case eq =>
      simp only [lq_step] at h
      split at h
      · next a r =>
        split at h
        · next e =>
          cases h
          obtain ⟨v1, k1, rfl, g1, hS1⟩ := hS.cons
          obtain ⟨x, rfl⟩ := lq_int_ok e.1 g1
          exact lv_if_eq (tgt := ((pc : Int) + off).toNat) hx hb hdg (by omega) (fun _ => kk _ List.mem_cons_self H locs ls _ hJ hl hS1) (fun _ => kk _ (List.mem_cons_of_mem _ List.mem_cons_self) H locs ls _ hJ hl hS1)
        · cases h
      · cases h
    all_goals (simp [lq_step] at h)
  case if_icmp cnd off =>
    simp [rk_len] at hlen; subst hlen
    cases cnd
    case eq =>
      simp only [lq_step] at h
      split at h
      · next k j r =>
        split at h
        · next e =>
          cases h
          obtain ⟨v1, k1, rfl, g1, hS1⟩ := hS.cons
          obtain ⟨v2, k2, rfl, g2, hS2⟩ := hS1.cons
          have g1 : v1 = .int (nI k) := g1
          have g2 : v2 = .int (nI j) := g2
          obtain ⟨rfl, e2⟩ := e
          subst g1 g2
          exact lv_icmp_eq (tgt := ((pc : Int) + off).toNat) hx hb hdg (by omega) (fun _ => kk _ (List.mem_singleton.mpr rfl) H locs ls _ hJ hl hS2) (fun q => absurd rfl q)
        · cases h
      · cases h
    all_goals (simp [lq_step] at h)
  case invokevirtual idx =>
    simp [rk_len] at hlen; subst hlen
    simp only [lq_step] at h
    split at h
    · next r rest hcl =>
      cases h
      unfold lq_call at hcl
      split at hcl
      · next r' kd f n hfd hlk =>
        split at hcl
        · next as a rest' hpop =>
          split at hcl
          · next hc =>
            cases hcl
            obtain ⟨⟨rfl, rfl, rfl, hmc⟩, ⟨ha1, hside⟩, hfit, hsum⟩ := hc
            obtain ⟨v2, r2, ha, hr, rfl, hn⟩ := lq_pop_ok r.2.2.2.1.length hpop (show rk_A2 (lq_g b ax am i xs) [] [] from trivial) hS
            rw [List.append_nil] at ha
            obtain ⟨vr, stk', rfl, hgr, hS1⟩ := hr.cons
            obtain ⟨hav, hke⟩ := lq_fits_ok hB ha hfit
            have hcon := hT _ (List.mem_of_find?_eq_some hfd)
            have hsum' : (stk'.map fun v => v.category).sum ≤ 8 := by rw [lq_sum_ok hS1]; exact hsum
            obtain ⟨⟨wsC, hC⟩, ⟨wsM, hM⟩, -⟩ := id hJ
            rcases hside with h3 | h4
            · obtain ⟨ys, mods, hK, hys⟩ := hcon.1 h3
              have hvr : vr = .ref ax := by
                unfold lq_g at hgr
                rw [ha1, h3] at hgr
                exact hgr
              subst hvr
              rw [h3] at hmc
              refine lw_call (lc := lw_lc b ax am i) hxt hXt hx hb hml hF (fun r hr => (gk_lkok12 r hr).2.1) hdis hK hfr (by omega) (o1 := (11, _)) rfl hmc haC hlk rfl hke hav hsum' hdg hnc hns hl hC hM hS0 (fun y hy vals' rads' ws1' H' locs' v hH' h1' h2' hS' hun' hret => ?_)
              obtain ⟨u, rfl, hu⟩ := lq_ry_ok (b := b) (ax := ax) (am := am) (i := i) (xs := xs) (List.all_eq_true.mp hys y hy) hret
              exact kk _ (List.mem_singleton.mpr rfl) H' locs' ls _ ⟨⟨_, h1'⟩, ⟨_, h2'⟩, hS'⟩ hl ⟨hu, hS1⟩
            · obtain ⟨ys, mods, hK, hys⟩ := hcon.2 h4
              have hvr : vr = .ref am := by
                unfold lq_g at hgr
                rw [ha1, h4] at hgr
                exact hgr
              subst hvr
              rw [h4] at hmc
              refine lw_call (lc := lw_lc b ax am i) hxt hXt hx hb hml hF (fun r hr => (gk_lkok12 r hr).2.1) (fun x h1 h2 => hdis x h2 h1) hK hfr (by omega) (o1 := (12, _)) rfl hmc haM hlk rfl hke hav hsum' hdg hnc hns hl hM hC hS0 (fun y hy vals' rads' ws1' H' locs' v hH' h1' h2' hS' hun' hret => ?_)
              obtain ⟨u, rfl, hu⟩ := lq_ry_ok (b := b) (ax := ax) (am := am) (i := i) (xs := xs) (List.all_eq_true.mp hys y hy) hret
              exact kk _ (List.mem_singleton.mpr rfl) H' locs' ls _ ⟨⟨_, h2'⟩, ⟨_, h1'⟩, hS'⟩ hl ⟨hu, hS1⟩
          · cases hcl
        · cases hcl
      · cases hcl
    · cases h
  all_goals (simp [lq_step] at h)
theorem lq_run_ok (hxt : tk_xtok xt) (hXt : xt Ad s s.heap) (hx : p.tables.exec = Jvm.exec) (hb : c.code = code) (hml : c.maxLocals = 4) (hF : rk_Fr s m args meth D gk_cl Ad gk_tbl gk_xw gk_fty gk_cln "GooseIceLaw" gk_lk12 gk_lcs) (hfr : 21 ≤ R.frames) (hlo : 840 ≤ R.locals) (hX : va_X b L xs s s.heap) (hbl : b < s.heap.size) (hbA : ¬ Ad b) (hL : L < 2147483648) (hi : i + 6 ≤ L) (hdis : ∀ x ∈ adM, ¬ x ∈ adC) (haC : tk_ty adC lw_twC 0 ax) (haM : tk_ty adM lw_twM 0 am) (hnc : nc ≤ R.cells) (hns : ns ≤ R.slots)
    {B : Nat → tk_I} (hB : ∀ k, (B k).1 ≤ (xs (i + k)).toInt ∧ (xs (i + k)).toInt ≤ (B k).2) {T : List lq_R} (hT : ∀ r ∈ T, lq_con l D xt adC adM r) {li : List (Nat × Instr × Nat)} (hli : ∀ r ∈ li, decode code r.1 = .ok r.2) {stop : Nat} (hstop : lq_St (rk_KW p l e R s m args below meth c Q) s D Ad adC adM b ax am i xs nc ns stop []) : ∀ (n pc : Nat) (st : List lq_V), lq_run B T li stop n pc st = true → lq_St (rk_KW p l e R s m args below meth c Q) s D Ad adC adM b ax am i xs nc ns pc st := by
  intro n
  induction n with
  | zero => intro pc st h; cases h
  | succ n ih =>
    intro pc st h
    unfold lq_run at h
    cases hb1 : Nat.beq pc stop with
    | true =>
      rw [hb1] at h
      have h : st.isEmpty = true := h
      rw [Nat.eq_of_beq_eq_true hb1, List.isEmpty_iff.mp h]
      exact hstop
    | false =>
      rw [hb1] at h
      dsimp only [cond] at h
      split at h
      · next ins len hat =>
        rw [Bool.and_eq_true] at h
        obtain ⟨h1, h2⟩ := h
        split at h2
        · next res hres =>
          have hdg : decode code pc = .ok (ins, len) := hli (pc, ins, len) (lq_at_ok hat)
          refine lq_step_ok (pc := pc) (ins := ins) (len := len) (st := st) (res := res) hxt hXt hx hb hml hF hfr hlo hX hbl hbA hL hi hdis haC haM hnc hns hB hT hdg h1 hres (fun q hq => ?_)
          exact ih q.1 q.2 (List.all_eq_true.mp h2 q hq)
        · cases h2
      · cases h
end LQS
end MH17_2
section MH17_3
/-! ===== the law: what a call gives, told by a relation of the worlds before and behind it ===== -/
def lw_Post (D : va_G) (TY : tk_TT) (X : va_W → Prop) (ads tw : List Nat) (Q : va_W → Value → Prop) (Ad : Nat → Prop) : Array Value → State → Outcome → State → Prop := fun _ st oc t =>
  (∃ (ws' : va_W) (v : Value), ws'.map Prod.fst = ads ∧ rk_A2 (fun b (q : Nat × va_E) => tk_cl TY lc_ro ads tw t b q.2) tw ws' ∧ va_P D gk_cl ws' t.heap ∧ va_D Ad ws' ∧ X ws' ∧ Q ws' v ∧ oc = .returned (some v)) ∧ va_F Ad st t
def lw_sem (l : Launch) (D : va_G) (xt : tk_XT) (TY : tk_TT) (X : va_W → Prop) (ads tw : List Nat) (d f : Nat) (kinds : List Nat) (envs : List tk_I) (Q : List Value → va_W → va_W → Value → Prop) : Prop :=
  ∀ q : rk_N, gk_MN[f]? = some q → ∃ M, gk_P[f]? = some M ∧ M.2.1 ≤ 21 ∧ ∀ (ax : Nat) (ws : va_W) (av : List Value) (sz : Nat), tk_ty ads tw 0 ax → rk_A2 lq_av (kinds.zip envs) av → ws.map Prod.fst = ads → tk_ob TY lc_ro ads tw ws →
    Met l q.2.1 (Jvm.Cond.code q.2.1 q.2.2 M.2.1 M.2.2.2.2.1 :: gk_tbl) { frames := d, cells := 0, slots := 0, locals := 40 * d } (tk_Pre D gk_cl gk_xw xt TY lc_ro X ads tw ws sz (.ref ax :: av)) (lw_Post D TY X ads tw (Q av ws) (va_A ws sz)) 0 0 (va_A ws sz)
/-- what stands at a place of a world -/
def lw_at (ws : va_W) (z : Nat × Nat) : Option Value := match ws[z.1]? with
  | some q => tk_pos q.2 z.2
  | none => none
/-- an int, a long -/
def lr_ty (k : Nat) (v : Value) : Prop := match k with
  | 0 => ∃ x : Int32, v = .int x
  | 1 => ∃ x : Int64, v = .long x
  | _ => False
theorem gk_row {f : Nat} {q : rk_N} (hqn : gk_MN[f]? = some q) : ∃ M, gk_P[f]? = some M ∧ M.2.1 ≤ 21 := by
  have hlen : gk_MN.length = gk_P.length := gk_rok.2.2.2.2.1
  have hlt : f < gk_P.length := by rw [← hlen]; exact (List.getElem?_eq_some_iff.mp hqn).1
  refine ⟨gk_P[f], List.getElem?_eq_getElem hlt, ?_⟩
  have hall : gk_P.all (fun M => Nat.ble M.2.1 21) = true := by decide +kernel
  exact Nat.le_of_ble_eq_true (List.all_eq_true.mp hall _ (List.getElem_mem hlt))
section LSM
variable {l : Launch} {D : va_G} {xt : tk_XT} {TY : tk_TT} {X : va_W → Prop} {ads tw : List Nat} {d f : Nat} {kinds : List Nat} {envs : List tk_I} {Q : List Value → va_W → va_W → Value → Prop}
theorem lw_sem_imp {Q' : List Value → va_W → va_W → Value → Prop} (h : lw_sem l D xt TY X ads tw d f kinds envs Q) (hQ : ∀ av ws ws' v, rk_A2 lq_av (kinds.zip envs) av → Q av ws ws' v → Q' av ws ws' v) : lw_sem l D xt TY X ads tw d f kinds envs Q' := by
  intro q hq
  obtain ⟨M, h1, h2, h3⟩ := h q hq
  refine ⟨M, h1, h2, fun ax ws av sz a1 a2 a3 a4 => rk_Met_imp (h3 ax ws av sz a1 a2 a3 a4) (fun _ _ z => z) ?_ (fun _ z => z)⟩
  rintro a st oc t - - ⟨⟨ws', v, b1, b2, b3, b4, b5, b6, b7⟩, hF⟩
  exact ⟨⟨ws', v, b1, b2, b3, b4, b5, hQ _ _ _ _ a2 b6, b7⟩, hF⟩
theorem lw_sem_up {d' : Nat} (hd : d ≤ d') (h : lw_sem l D xt TY X ads tw d f kinds envs Q) : lw_sem l D xt TY X ads tw d' f kinds envs Q := by
  intro q hq
  obtain ⟨M, hM, hM21, hmet⟩ := h q hq
  refine ⟨M, hM, hM21, fun ax ws av sz a1 a2 a3 a4 => ?_⟩
  have := hmet ax ws av sz a1 a2 a3 a4
  unfold Met at this ⊢
  exact MetFree.respec this (fun _ _ z => z) hd (by show 40 * d ≤ 40 * d'; omega) (Nat.le_refl _) (Nat.le_refl _)
/-- out of contracts by tk: which one, the world says -/
theorem lw_sem_K (h : ∀ (U : State) (ax : Nat) (ws : va_W) (av : List Value), tk_ty ads tw 0 ax → rk_A2 lq_av (kinds.zip envs) av → ws.map Prod.fst = ads → rk_A2 (fun b (q : Nat × va_E) => tk_cl TY lc_ro ads tw U b q.2) tw ws → va_D (fun _ => True) ws → X ws → ∃ (as : List tk_V) (w : tk_W) (rf rads : List Nat) (fa : tk_FA) (ys : List tk_X) (mods : List (Nat × Nat)) (vals : List Int), tk_KS l D gk_cl gk_tbl gk_xw xt gk_MN gk_P TY lc_ro X ads tw d (f, (2, 0, 0, 0) :: as, w, 0 :: rf, fa, ys, mods) ∧ tk_H w vals ∧ rk_A2 (fun t y => tk_ty ads tw t y) rf rads ∧ rk_A2 (tk_g vals (ax :: rads)) as av ∧ (∀ z ∈ fa, tk_fk vals (ax :: rads) ws z) ∧ ∀ y ∈ ys, ∀ (t : State) (vals' : List Int) (rads' : List Nat) (ws' : va_W) (oc : Outcome), (∃ k, vals' = vals ++ k) → (∃ k, rads' = (ax :: rads) ++ k) → tk_H y.2.1 vals' → (∀ q ∈ y.2.2.2, tk_fk vals' rads' ws' q) → ws'.map Prod.fst = ads → rk_A2 (fun b (q : Nat × va_E) => tk_cl TY lc_ro ads tw t b q.2) tw ws' → tk_un TY mods tw ws ws' → tk_ret y.1 vals' rads' oc → ∃ v, oc = .returned (some v) ∧ Q av ws ws' v) : lw_sem l D xt TY X ads tw d f kinds envs Q := by
  intro q hq
  obtain ⟨M, hM, hM21⟩ := gk_row hq
  refine ⟨M, hM, hM21, fun ax ws av sz a1 a2 a3 a4 => rk_Met_case (fun aU U hP => ?_)⟩
  obtain ⟨p1, p2, p3, p4, p5, p6, p7, p8, p10⟩ := id hP
  obtain ⟨as, w, rf, rads, fa, ys, mods, vals, hK, hH, hR, hG, hfa, hQ⟩ := h U ax ws av a1 a2 a3 p6 p5 p10
  obtain ⟨M2, hM2, -, hmet⟩ := hK q hq
  obtain rfl : M = M2 := Option.some.inj (hM.symm.trans hM2)
  refine ⟨_, _, hmet vals (ax :: rads) ws (.ref ax :: av) sz hH ⟨a1, hR⟩ ⟨⟨ax, rfl, rfl⟩, hG⟩ a3 hfa a4, hP, ?_⟩
  rintro oc t - ⟨⟨y, hy, vals', rads', ws', c1, c2, c3, c4, c5, c6, c7, c8, c9, c10, c11⟩, hF⟩
  obtain ⟨v, e, hq2⟩ := hQ y hy t vals' rads' ws' oc c1 c2 c3 c9 c5 c6 c10.1 c11
  exact ⟨⟨ws', v, c5, c6, c7, c8, c10.2, hq2, e⟩, hF⟩
/-- where a contract writes none of the places looked at -/
def lr_un (tw : List Nat) (TY : tk_TT) (mods : List (Nat × Nat)) (W : List (Nat × Nat)) : Bool := W.all (fun z => match tw[z.1]? with
  | some t => !(tk_in mods t (tk_rg TY t z.2))
  | none => false)
def lw_unQ (cat : Nat) (W : List (Nat × Nat)) : List Value → va_W → va_W → Value → Prop := fun _ ws ws' v => lr_ty cat v ∧ ∀ z ∈ W, lw_at ws' z = lw_at ws z
theorem lw_un_at {mods W : List (Nat × Nat)} {ws ws' : va_W} (hl : ws.length = tw.length) (hu : lr_un tw TY mods W = true) (h : tk_un TY mods tw ws ws') : ∀ z ∈ W, lw_at ws' z = lw_at ws z := by
  intro z hz
  have h1 := List.all_eq_true.mp hu z hz
  cases ht : tw[z.1]? with
  | none => rw [ht] at h1; cases h1
  | some t =>
    rw [ht] at h1
    have hlt : z.1 < ws.length := by rw [hl]; exact (List.getElem?_eq_some_iff.mp ht).1
    have hw : ws[z.1]? = some (ws[z.1].1, ws[z.1].2) := List.getElem?_eq_getElem hlt
    obtain ⟨e', g1, g2, -⟩ := h z.1 _ _ hw
    have h1 : (!(tk_in mods t (tk_rg TY t z.2))) = true := h1
    unfold lw_at
    rw [g1, hw]
    exact g2 z.2 t ht (fun hm => by rw [tk_in_ok.mpr hm] at h1; cases h1)
def lr_ry (cat : Nat) (y : tk_X) : Bool := match y.1 with
  | some a => Nat.beq a.1 cat && Nat.ble cat 1
  | none => false
theorem lr_ry_ok {cat : Nat} {y : tk_X} {vals : List Int} {rads : List Nat} {oc : Outcome} (h : lr_ry cat y = true) (hr : tk_ret y.1 vals rads oc) : ∃ v, oc = .returned (some v) ∧ lr_ty cat v ∧ ∃ a, y.1 = some a ∧ tk_g vals rads a v := by
  unfold lr_ry at h
  split at h
  · next a ha =>
    rw [ha] at hr
    obtain ⟨u, hg, eu⟩ := hr
    rw [Bool.and_eq_true] at h
    have h1 := Nat.eq_of_beq_eq_true h.1
    have h2 := Nat.le_of_ble_eq_true h.2
    refine ⟨u, eu, ?_, a, ha, hg⟩
    rcases (by omega : cat = 0 ∨ cat = 1) with rfl | rfl
    · obtain ⟨x, rfl, -⟩ := tk_g0 hg h1
      exact ⟨x, rfl⟩
    · obtain ⟨x, rfl, -⟩ := tk_g1 hg h1
      exact ⟨x, rfl⟩
  · cases h
theorem lw_len {ws : va_W} (h4 : ws.map Prod.fst = ads) (hl : ads.length = tw.length) : ws.length = tw.length := by rw [← hl, ← h4, List.length_map]
theorem lw_sem_un {cat : Nat} {W mods : List (Nat × Nat)} {ys : List tk_X} (hl : ads.length = tw.length) (hke : kinds.length = envs.length) (hK : tk_KS l D gk_cl gk_tbl gk_xw xt gk_MN gk_P TY lc_ro X ads tw d (f, (2, 0, 0, 0) :: lq_as 0 kinds, (envs, []), [0], [], ys, mods)) (hys : ys.all (lr_ry cat) = true) (hW : lr_un tw TY mods W = true) : lw_sem l D xt TY X ads tw d f kinds envs (lw_unQ cat W) := by
  refine lw_sem_K (fun U ax ws av a1 a2 a3 a4 a5 a6 => ?_)
  obtain ⟨vals, hE, hG⟩ := lq_as_ok (rads := [ax]) (kinds.zip envs) av [] a2
  rw [List.map_snd_zip (by omega)] at hE
  rw [List.map_fst_zip (by omega)] at hG
  refine ⟨_, (envs, []), [], [], [], ys, mods, vals, hK, ⟨hE, fun q hq => absurd hq List.not_mem_nil⟩, trivial, hG, fun z hz => absurd hz List.not_mem_nil, fun y hy t vals' rads' ws' oc k1 k2 k3 k4 k5 k6 k7 k8 => ?_⟩
  obtain ⟨v, e, h1, -⟩ := lr_ry_ok (List.all_eq_true.mp hys y hy) k8
  exact ⟨v, e, h1, lw_un_at (lw_len a3 hl) hW k7⟩
/-- a fact about a place of the world, from what stands there -/
theorem lw_fk {vals : List Int} {rads : List Nat} {ws : va_W} {r j i : Nat} {y : Nat} {e : va_E} {a : tk_V} {v : Value} (hr : rads[r]? = some y) (hw : ws[j]? = some (y, e)) (hv : lw_at ws (j, i) = some v) (hg : tk_g vals rads a v) : tk_fk vals rads ws (r, (0, 0, 0, (i : Int)), a) := by
  unfold lw_at at hv
  dsimp only at hv
  rw [hw] at hv
  exact ⟨y, j, i, e, v, hr, rfl, hw, hv, hg⟩
/-- and back -/
theorem lw_fk_at {vals : List Int} {rads : List Nat} {ws ws' : va_W} (hD : va_D (fun _ => True) ws) (hm : ws'.map Prod.fst = ws.map Prod.fst) {r j i : Nat} {y : Nat} {e : va_E} {a : tk_V} (hr : rads[r]? = some y) (hw : ws[j]? = some (y, e)) (h : tk_fk vals rads ws' (r, (0, 0, 0, (i : Int)), a)) : ∃ v, lw_at ws' (j, i) = some v ∧ tk_g vals rads a v := by
  obtain ⟨y2, j2, i2, e2, v, h1, h2, h3, h4, h5⟩ := h
  have h1 : rads[r]? = some y2 := h1
  rw [hr] at h1
  cases h1
  have h2 : some (i : Int) = some (i2 : Int) := h2
  have hi : i = i2 := Int.ofNat.inj (Option.some.inj h2)
  subst hi
  have h6 : (ws'.map Prod.fst)[j2]? = some y := by rw [List.getElem?_map, h3]; rfl
  rw [hm, List.getElem?_map] at h6
  obtain ⟨q, hq, e6⟩ := Option.map_eq_some_iff.mp h6
  have ej := hD.1 j2 j q _ hq hw e6
  subst ej
  refine ⟨v, ?_, h5⟩
  unfold lw_at
  dsimp only
  rw [h3]
  exact h4
theorem lw_rads {rads rads' : List Nat} {r y : Nat} (h : ∃ k, rads' = rads ++ k) (hr : rads[r]? = some y) : rads'[r]? = some y := by
  obtain ⟨k, rfl⟩ := h
  rw [List.getElem?_append_left (List.getElem?_eq_some_iff.mp hr).1]
  exact hr
theorem lw_vals {vals vals' : List Int} {r : Nat} {x : Int} (h : ∃ k, vals' = vals ++ k) (hr : vals[r]? = some x) : vals'[r]? = some x := by
  obtain ⟨k, rfl⟩ := h
  rw [List.getElem?_append_left (List.getElem?_eq_some_iff.mp hr).1]
  exact hr
end LSM
section LWC2
variable {p : Program} {l : Launch} {e : Env} {R : Room} {s : State} {m : MethodId} {args : Array Value} {below : List Frame} {meth : Method} {c : Code} {Q : State → Prop} {cc : ByteArray} {D : va_G} {Ad : Nat → Prop} {xt : tk_XT} {lk : List (Nat × Nat × Nat × Nat)} {cs : List (Nat × Value)} {own : String} {nL : Nat}
set_option maxHeartbeats 4000000 in
theorem lw_call2 {TY1 TY2 : tk_TT} {X1 X2 : va_W → Prop} {ads1 tw1 ads2 tw2 : List Nat} (hxt : tk_xtok xt) (hXt : xt Ad s s.heap) (hx : p.tables.exec = Jvm.exec) (hb : c.code = cc) (hml : c.maxLocals = nL) (hF : rk_Fr s m args meth D gk_cl Ad gk_tbl gk_xw gk_fty gk_cln own lk cs) (hck : ∀ r ∈ lk, rk_cok gk_tbl gk_xw gk_MN gk_P own r)
    (hdis : ∀ x ∈ ads2, ¬ x ∈ ads1) {d f : Nat} {kinds : List Nat} {envs : List tk_I} {QQ : List Value → va_W → va_W → Value → Prop} (hK : lw_sem l D xt TY1 X1 ads1 tw1 d f kinds envs QQ) (hfr : d + 1 ≤ R.frames) (hlo : 40 * (d + 1) ≤ R.locals) {o1 : Nat × List tk_F} (hT0 : TY1.1[0]? = some (.inl o1)) (hmc : gk_mci[f]? = some o1.1) {ax : Nat} (hax : tk_ty ads1 tw1 0 ax)
    {pc idx n : Nat} (hlk : rk_lk lk idx = some (5, f, n)) (hn : kinds.length = n) (hke : kinds.length = envs.length) {av rest : List Value} (hav : rk_A2 lq_av (kinds.zip envs) av) (hsum : (rest.map fun v => v.category).sum ≤ 8)
    (hdg : decode cc pc = .ok (.invokevirtual idx, 3)) {H : Heap} {locs : List Loc} {ls : Array Slot} {nc ns : Nat} (hnc : nc ≤ R.cells) (hns : ns ≤ R.slots) {lc : List (Nat × Value)} (hl : lv_has ls nL lc) {ws1 ws2 : va_W} (h1 : lw_T TY1 X1 ads1 tw1 s D Ad H ws1) (h2 : lw_T TY2 X2 ads2 tw2 s D Ad H ws2) (hS : va_S Ad s.heap H locs)
    (kk : ∀ (ws1' : va_W) (H' : Heap) (locs' : List Loc) (v : Value), QQ av ws1 ws1' v → lw_T TY1 X1 ads1 tw1 s D Ad H' ws1' → lw_T TY2 X2 ads2 tw2 s D Ad H' ws2 → va_S Ad s.heap H' locs' → W p l e R s m args below meth c H' locs' nc ns Q (F0 m (pc + 3) ls (v :: rest))) : W p l e R s m args below meth c H locs nc ns Q (F0 m pc ls (av.reverse ++ .ref ax :: rest)) := by
  obtain ⟨hgw, hxo, -, -, hlenM, hmok, hmci⟩ := gk_rok
  obtain ⟨hts, hxw, hown, hK0, hA, hcl, hlkk, hini, hac, hcs⟩ := hF
  have hfix : CallFix p m c cc nL s args gk_tbl own := ⟨hx, hb, hml, hown, hts⟩
  obtain ⟨a1, a2, a3, a4, a5⟩ := id h1
  obtain ⟨b1, b2, b3, b4, b5⟩ := id h2
  have hlen : av.length = n := by
    have := hav.len
    rw [List.length_zip] at this
    omega
  obtain ⟨j, e1, hw, hj, hc1⟩ := tk_cell a1 a2 hax
  unfold tk_cl at hc1
  rw [hT0] at hc1
  obtain ⟨vs, rfl, hvl, hvs⟩ := hc1
  have hck1 := hck _ (rk_lk_mem hlk)
  obtain ⟨q, hq, w1, w2, w3, w4⟩ := hck1
  obtain ⟨M, hM, hM21, hmet⟩ := hK q hq
  obtain ⟨m1, m2, m3, m4, m5, -⟩ := hmok f q M hq hM
  obtain ⟨kq, hkq, -⟩ := a3 j _ hw
  have hkn := hmci f o1.1 q kq hmc hq hkq
  have hrecv := va_recv hK0 a3 hkq hw
  rw [hkn] at hrecv
  have hs : tk_hs TY1 lc_ro X1 ads1 tw1 s D gk_cl Ad [] [ax] H locs [0] [] ws1 := ⟨⟨hax, trivial⟩, a1, a2, a3, a4, hS, fun q hq => absurd hq List.not_mem_nil⟩
  have hr : va_Run p l e R s m args below meth c H locs nc ns 0 0 (F0 m pc ls (av.reverse ++ .ref ax :: rest)) rest (lw_Post D TY1 X1 ads1 tw1 (QQ av ws1) (va_A ws1 H.size) (Value.ref ax :: av).toArray) (va_A ws1 H.size) :=
    va_runV (C := q.1) hfix (hmet ax ws1 av H.size hax hav a1 (tk_ob_of a1 a2)) ⟨callB_of n hts (rk_good hgw m4) rfl rfl rfl (hts _ m5) (hts _ w1) ⟨m3.1, m3.2, w4⟩ ⟨hfr, by show 8 + (M.2.1 + 11) + 40 * d ≤ R.locals; omega⟩, hts _ w2, hts _ w3⟩ ⟨tk_blind hxo hxt, hrecv, fun U hU hW => tk_pre hxo hxw hxt hXt hA hK0 hs a5 U hU hW⟩ rfl hlen hl.1 rfl (lv_room hsum) hdg ⟨hnc, hns⟩
  have hsub : ∀ q, va_A ws1 H.size q → Ad q := by
    rintro q (⟨k, e1, hk⟩ | hq)
    · exact a4.2 k _ hk
    · exact hA q (Nat.le_trans hS.1 hq)
  intro T hT X
  obtain ⟨v, st₀, t, T', L, h0, X', hLf, e1', e2, ⟨⟨ws1', v1, c5, c6, c7, c8, c9, c10, c11⟩, hFr⟩, go⟩ := hr T hT X
  have ev : v = some v1 := Outcome.returned.inj c11
  subst ev
  have hal : t.vm.Alike s.vm := by rw [← e2]; exact X'.warmed.alike.symm
  have hS1 : va_S Ad s.heap t.heap (locs ++ L) := by
    refine ⟨Nat.le_trans hS.1 (by rw [← h0]; exact hFr.1), fun q hq hn => ?_, fun z hz => ?_⟩
    · rw [hFr.2 q (by rw [h0]; exact Nat.lt_of_lt_of_le hq hS.1) (fun z => hn (hsub q z)), h0]
      exact hS.2.1 q hq hn
    · rcases List.mem_append.mp hz with z1 | z1
      · exact hS.2.2 z z1
      · exact hsub _ (hLf z z1)
  have hT1 : lw_T TY1 X1 ads1 tw1 s D Ad t.heap ws1' := ⟨c5, c6.mono (fun _ _ h => tk_cl_moved hal h), c7, c8.weaken (fun _ _ _ z => hsub _ z), c9⟩
  have hT2 : lw_T TY2 X2 ads2 tw2 s D Ad t.heap ws2 := ⟨b1, b2, fun i q hq => (b3 i q hq).kept (by
    rw [← h0]
    refine hFr.2 q.1 (by rw [h0]; exact (b3 i q hq).lt) ?_
    rintro (⟨k, e9, hk⟩ | hge)
    · exact hdis q.1 (by rw [← b1]; exact List.mem_map.mpr ⟨q, List.mem_of_getElem? hq, rfl⟩) (by rw [← a1]; exact List.mem_map.mpr ⟨_, List.mem_of_getElem? hk, rfl⟩)
    · have := (b3 i q hq).lt
      omega), b4, b5⟩
  obtain ⟨t2, d1, d2⟩ := kk ws1' t.heap (locs ++ L) v1 c10 hT1 hT2 hS1 T' e1' X'
  exact ⟨t2, go t2 d1, d2⟩
end LWC2
theorem gm_fmTy : fm_Ty gm_TY := ⟨rfl, rfl, rfl⟩
end MH17_3
section MH17_4
/-! ===== the model's calls by fx: what they give, exactly ===== -/
theorem fx_v_id {ps : fx_P} {v : Value} (h : fx_kd v ≤ 1) : fx_v ps v = v := by
  cases v with
  | ref j => exact absurd (show (2 : Nat) ≤ 1 from h) (by decide)
  | _ => rfl
section FMS
variable {l : Launch} {D : va_G} {xt : tk_XT} {TY : tk_TT} {X : va_W → Prop} {ads tw : List Nat}
set_option maxHeartbeats 8000000 in
theorem fm_sem0 (hst : ∀ (Ad : Nat → Prop) (U : State) (H : Heap), xt Ad U H → ∃ pl v tx, sk_X pl v Ad U H ∧ vk_R "GooseIceModel" 189 tx pl U) (hT : fm_Ty TY) {k f : Nat} {kinds : List Nat} {envs : List tk_I} {mods : List (Nat × Nat)} {Q : List Value → va_W → va_W → Value → Prop}
    (hex : ∀ (U : State) (rest : List Value) (ws : va_W) (h0 : Nat) (ps : fx_P) (σ : List Nat) (g : Nat → Int32) (tp bt : Int64) (a : Nat → Nat → Int32) (b : Nat → Nat → Int64), rk_A2 lq_av (kinds.zip envs) rest → rk_A2 (fun t (q : Nat × va_E) => tk_cl TY lc_ro ads tw U t q.2) tw ws → ws.map Prod.fst = ads → va_D (fun _ => True) ws → fm_at U tw ws h0 ps σ (fm g tp bt a b) → X ws →
      ∃ (v : Value) (mem' : fx_M), fx_kd v ≤ 1 ∧ fr_T k f (.ref 0 :: rest) (fm g tp bt a b) (some v) mem' ∧ (∀ (t : Nat) (e e' : fx_E), (fm g tp bt a b)[t]? = some e → mem'[t]? = some e' → fm_chg2 TY lc_ro ads tw mods ps t e e') ∧ X (fx_put ws σ (fx_w ps mem')) ∧ Q rest ws (fx_put ws σ (fx_w ps mem')) v) : lw_sem l D xt TY X ads tw (k + 4) f kinds envs Q := by
  intro qn hqn
  -- the method's own table row
  obtain ⟨M, hM, hM21⟩ : ∃ M, gk_P[f]? = some M ∧ M.2.1 ≤ 21 := by
    have hlen : gk_MN.length = gk_P.length := gk_rok.2.2.2.2.1
    have hlt : f < gk_P.length := by rw [← hlen]; exact (List.getElem?_eq_some_iff.mp hqn).1
    refine ⟨gk_P[f], List.getElem?_eq_getElem hlt, ?_⟩
    have hall : gk_P.all (fun M => Nat.ble M.2.1 21) = true := by decide +kernel
    exact Nat.le_of_ble_eq_true (List.all_eq_true.mp hall _ (List.getElem_mem hlt))
  refine ⟨M, hM, hM21, fun h0 ws rest sz hty hA2' h4 hob => rk_Met_case (fun aU U hP => ?_)⟩
  obtain ⟨p1, p2, p3, p4, p5, p6, p7, p8, p10⟩ := hP
  obtain ⟨pl, v9, tx9, hsX, hsR⟩ := hst _ _ _ p8
  obtain ⟨g, tp, bt, a, b, ps, σ, hat, hz⟩ := fm_in pl hT h4 p6 hty
  obtain ⟨v, mem', hvv, hfr, hchg, hX2, hQ⟩ := hex U rest ws h0 ps σ g tp bt a b hA2' p6 h4 p5 hat p10
  obtain ⟨M2, hM2, -, hmet⟩ := fr_Met (l := l) (D := D) hfr qn hqn
  obtain rfl : M = M2 := Option.some.inj (hM.symm.trans hM2)
  obtain ⟨a1, a2, ⟨c0, a3⟩, a4, a5⟩ := id hat
  have hsub : ∀ (j : Nat) (q : Nat × va_E), (fx_w ps (fm g tp bt a b))[j]? = some q → ∃ i : Nat, ws[i]? = some q := by
    intro j q hj
    have hl : j < (fx_w ps (fm g tp bt a b)).length := (List.getElem?_eq_some_iff.mp hj).1
    have hl2 : j < ps.length := by
      unfold fx_w at hl
      rw [List.length_zipWith] at hl
      omega
    have hl3 : j < 22 := by
      unfold fx_w at hl
      rw [List.length_zipWith, show (fm g tp bt a b).length = 22 from rfl] at hl
      omega
    have hs : σ[j]? = some σ[j] := List.getElem?_eq_getElem (by omega)
    obtain ⟨b1, q1, e1, b2, b3, b4⟩ := a5 j _ hs
    refine ⟨σ[j], ?_⟩
    rw [b4, ← hj]
    unfold fx_w
    rw [List.getElem?_zipWith, b2, b3]
  have hPf : va_P D gk_cl (fx_w ps (fm g tp bt a b)) U.heap := fun j q hj => by
    obtain ⟨i, hi⟩ := hsub j q hj
    exact p3 i q hi
  have hidx : ∀ (j : Nat) (q : Nat × va_E), (fx_w ps (fm g tp bt a b))[j]? = some q → ∃ i : Nat, σ[j]? = some i ∧ ws[i]? = some q := by
    intro j q hj
    have hl : j < (fx_w ps (fm g tp bt a b)).length := (List.getElem?_eq_some_iff.mp hj).1
    have hl2 : j < ps.length := by
      unfold fx_w at hl
      rw [List.length_zipWith] at hl
      omega
    have hl3 : j < 22 := by
      unfold fx_w at hl
      rw [List.length_zipWith, show (fm g tp bt a b).length = 22 from rfl] at hl
      omega
    have hs : σ[j]? = some σ[j] := List.getElem?_eq_getElem (by omega)
    obtain ⟨b1, q1, e1, b2, b3, b4⟩ := a5 j _ hs
    refine ⟨σ[j], hs, ?_⟩
    rw [b4, ← hj]
    unfold fx_w
    rw [List.getElem?_zipWith, b2, b3]
  have hDf : va_D (fun _ => True) (fx_w ps (fm g tp bt a b)) := ⟨fun i j q1 q2 hi hj e => by
    obtain ⟨i', g1, g2⟩ := hidx i q1 hi
    obtain ⟨j', g3, g4⟩ := hidx j q2 hj
    have := p5.1 i' j' q1 q2 g2 g4 e
    subst this
    exact fm_at_inj hat i j i' g1 g3, fun _ _ _ => trivial⟩
  have hfree : ∀ q, va_A (fx_w ps (fm g tp bt a b)) sz q → va_A ws sz q := by
    rintro q (⟨k1, e1, hk1⟩ | hq)
    · obtain ⟨i, hi⟩ := hsub k1 _ hk1
      exact Or.inl ⟨i, e1, hi⟩
    · exact Or.inr hq
  have hrest : rest.map (fx_v ps) = rest := by
    apply List.ext_getElem?
    intro i
    rw [List.getElem?_map]
    cases hi : rest[i]? with
    | none => rfl
    | some v =>
      obtain ⟨av0, hav, hg⟩ := hA2'.getR hi
      rcases hg with ⟨-, x, rfl, -⟩ | ⟨-, x, rfl, -⟩
      · rfl
      · rfl
  have hargs : (Value.ref 0 :: rest).map (fx_v ps) = .ref h0 :: rest := by
    show fx_v ps (.ref 0) :: rest.map (fx_v ps) = _
    rw [hrest]
    show Value.ref (fx_ad ps 0) :: rest = _
    unfold fx_ad
    rw [a3]
  refine ⟨fx_Pre D ps (fm g tp bt a b) sz (.ref 0 :: rest), fx_Post D ps mem' (some v) (va_A (fx_w ps (fm g tp bt a b)) sz), rk_Met_imp (hmet ps sz) (fun _ _ z => z) (fun _ _ _ _ _ _ z => z) hfree, ⟨by rw [hargs]; exact p1, p2, hPf, p4, hDf, a4, p7, ⟨v9, tx9, by rw [a1]; show sk_X (fx_ad ps 22) _ _ _ _; rw [hz]; exact hsX.narrow hfree, by rw [a1]; show vk_R _ _ _ (fx_ad ps 22) _; rw [hz]; exact hsR⟩⟩, ?_⟩
  rintro oc t hW ⟨⟨e1, hOt, hPt, hDt⟩, hF⟩
  obtain ⟨hput1, hput2⟩ := fm_put hat hOt
  have hmap : (fx_put ws σ (fx_w ps mem')).map Prod.fst = ads := by
    rw [← h4]
    apply List.ext_getElem?
    intro i
    rw [List.getElem?_map, List.getElem?_map]
    rcases fm_in_or (σ := σ) i with ⟨tt, ht⟩ | hno
    · obtain ⟨-, q, e, e', g1, g2, g3, g4, g5⟩ := hput2 tt i ht
      rw [g4, g5]
      rfl
    · rw [hput1 i hno]
  have hlenw : (fx_put ws σ (fx_w ps mem')).length = tw.length := by rw [fx_put_len]; exact p6.len.symm
  have hcl' : ∀ (i tt : Nat) (q : Nat × va_E), tw[i]? = some tt → (fx_put ws σ (fx_w ps mem'))[i]? = some q → tk_cl TY lc_ro ads tw t tt q.2 := by
    intro i tt q htw hq
    rcases fm_in_or (σ := σ) i with ⟨t2, ht⟩ | hno
    · obtain ⟨k1, q1, e, e', g1, g2, g3, g4, g5⟩ := hput2 t2 i ht
      rw [htw] at k1
      obtain rfl : tt = t2 := Option.some.inj k1
      rw [g5] at hq
      cases hq
      obtain ⟨qq, hqq, hc0⟩ := p6.get htw
      rw [g4] at hqq
      cases hqq
      rcases hchg tt e e' g2 g3 with rfl | ⟨kd, n, f1, f2, fl, hkd, rfl, rfl, k3, k4, -⟩ | ⟨n, f1, f2, fl, rfl, rfl, k3, k4, -⟩ | ⟨ci, vs, vs', fs, rfl, rfl, k3, k4, k5, k6, -⟩
      · exact tk_cl_moved hW.alike hc0
      · obtain ⟨m1, m2⟩ := hOt.2 tt q1 _ _ g1 g3
        show tk_cl TY lc_ro ads tw t tt (.inl (q1.2, n, .inl f2))
        unfold tk_cl
        rw [k3]
        rcases hkd with rfl | rfl
        · exact ⟨q1.2, m1, m2, f2, rfl, k4⟩
        · exact ⟨q1.2, m1, m2, f2, rfl, k4⟩
      · obtain ⟨m1, m2⟩ := hOt.2 tt q1 _ _ g1 g3
        show tk_cl TY lc_ro ads tw t tt (.inl (q1.2, n, .inr (.inl f2)))
        unfold tk_cl
        rw [k3]
        exact ⟨q1.2, m1, m2, f2, rfl, k4⟩
      · unfold tk_cl at hc0
        rw [k3] at hc0
        obtain ⟨vz, hvz, hvzl, hvzf⟩ := hc0
        cases hvz
        show tk_cl TY lc_ro ads tw t tt (.inr (ci, vs'.map (fx_v ps)))
        unfold tk_cl
        rw [k3]
        refine ⟨_, rfl, by rw [List.length_map]; exact k4, fun i2 f2 v2 hf2 hv2 => ?_⟩
        rw [List.getElem?_map] at hv2
        obtain ⟨v3, hv3, rfl⟩ := Option.map_eq_some_iff.mp hv2
        by_cases h2 : f2.1 = 2
        · have := k6 i2 f2 hf2 h2
          rw [hv3] at this
          exact hvzf i2 f2 _ hf2 (by rw [List.getElem?_map, ← this]; rfl)
        · exact k5 i2 f2 v3 hf2 hv3 h2
    · rw [hput1 i hno] at hq
      obtain ⟨qq, hqq, hc0⟩ := p6.get htw
      rw [hq] at hqq
      cases hqq
      exact tk_cl_moved hW.alike hc0
  have hnin : ∀ (i : Nat) (q : Nat × va_E), (∀ t2 : Nat, ¬ σ[t2]? = some i) → ws[i]? = some q → ¬ va_A (fx_w ps (fm g tp bt a b)) sz q.1 := by
    rintro i q hno hq (⟨k1, ee, hk1⟩ | hge)
    · obtain ⟨i', g1, g2⟩ := hidx k1 _ hk1
      have := p5.1 i i' q _ hq g2 rfl
      subst this
      exact hno k1 g1
    · have := (p3 i q hq).lt
      rw [p2] at this
      omega
  have hPw : va_P D gk_cl (fx_put ws σ (fx_w ps mem')) t.heap := by
    intro i q hq
    rcases fm_in_or (σ := σ) i with ⟨t2, ht⟩ | hno
    · obtain ⟨k1, q1, e, e', g1, g2, g3, g4, g5⟩ := hput2 t2 i ht
      rw [g5] at hq
      cases hq
      refine hPt t2 _ ?_
      unfold fx_w
      rw [List.getElem?_zipWith, g1, g3]
    · rw [hput1 i hno] at hq
      exact (p3 i q hq).kept (hF.2 q.1 (p3 i q hq).lt (hnin i q hno hq))
  have hget : ∀ (i : Nat) (q : Nat × va_E), (fx_put ws σ (fx_w ps mem'))[i]? = some q → ∃ e9, ws[i]? = some (q.1, e9) := by
    intro i q hq
    rcases fm_in_or (σ := σ) i with ⟨t2, ht⟩ | hno
    · obtain ⟨k1, q1, e, e', g1, g2, g3, g4, g5⟩ := hput2 t2 i ht
      rw [g5] at hq
      cases hq
      exact ⟨_, g4⟩
    · rw [hput1 i hno] at hq
      exact ⟨q.2, hq⟩
  have hDw : va_D (va_A ws sz) (fx_put ws σ (fx_w ps mem')) := ⟨fun i j q1 q2 hi hj e => by
    obtain ⟨e9, g1⟩ := hget i q1 hi
    obtain ⟨e8, g2⟩ := hget j q2 hj
    exact p5.1 i j _ _ g1 g2 e, fun i q hi => by
    obtain ⟨e9, g1⟩ := hget i q hi
    exact Or.inl ⟨i, e9, g1⟩⟩
  refine ⟨⟨fx_put ws σ (fx_w ps mem'), v, hmap, rk_A2_of (by rw [hlenw]) (fun i tt q h1 h2 => hcl' i tt q h1 h2), hPw, hDw, hX2, hQ, ?_⟩, hF.1, fun q h9' hn9 => hF.2 q h9' (fun z => hn9 (hfree q z))⟩
  rw [e1]
  show Outcome.returned (some (fx_v ps v)) = .returned (some v)
  rw [fx_v_id hvv]

end FMS
/-- what stands in the model's world -/
def fw_is (ws : va_W) (g : Nat → Int32) (tp bt : Int64) (a : Nat → Nat → Int32) (b : Nat → Nat → Int64) : Prop := (∀ (k : Nat) (v : Value), (fm_o g tp bt)[k]? = some v → fx_kd v ≤ 1 → lw_at ws (0, k) = some v) ∧ (∀ (t n : Nat) (ty : FieldType) (f : Nat → Int32) (i : Nat), (fm g tp bt a b)[t]? = some (.inr (ty, n, .inl f)) → i < n → lw_at ws (t, i) = some (.int (f i))) ∧ ∀ (t n : Nat) (ty : FieldType) (f : Nat → Int64) (i : Nat), (fm g tp bt a b)[t]? = some (.inr (ty, n, .inr (.inl f))) → i < n → lw_at ws (t, i) = some (.long (f i))
section FMIS
variable {g g' g2 : Nat → Int32} {tp bt tp' bt' tp2 bt2 : Int64} {a a' a2 : Nat → Nat → Int32} {b b' b2 : Nat → Nat → Int64}
theorem fw_of {w : va_W} {ps : fx_P} (h : ∀ (t : Nat) (e : fx_E), (fm g tp bt a b)[t]? = some e → ∃ q : Nat × ClassId, w[t]? = some (q.1, fx_c ps q.2 e)) : fw_is w g tp bt a b := by
  refine ⟨fun k v hk hd => ?_, fun t n ty f i ht hi => ?_, fun t n ty f i ht hi => ?_⟩
  · obtain ⟨q, hq⟩ := h 0 _ rfl
    unfold lw_at
    dsimp only
    rw [hq]
    show ((fm_o g tp bt).map (fx_v ps))[k]? = some v
    rw [List.getElem?_map, hk]
    show some (fx_v ps v) = some v
    rw [fx_v_id hd]
  · obtain ⟨q, hq⟩ := h t _ ht
    unfold lw_at
    dsimp only
    rw [hq]
    show (if i < n then some (Value.int (f i)) else none) = _
    rw [if_pos hi]
  · obtain ⟨q, hq⟩ := h t _ ht
    unfold lw_at
    dsimp only
    rw [hq]
    show (if i < n then some (Value.long (f i)) else none) = _
    rw [if_pos hi]
theorem lw_twM_at {t j : Nat} (h : lw_twM[j]? = some t) : j = t := by
  unfold lw_twM at h
  obtain ⟨h1, h2⟩ := List.getElem?_eq_some_iff.mp h
  rw [List.getElem_range] at h2
  exact h2
theorem fm_len22 : (fm g tp bt a b).length = 22 := rfl
theorem fw_is_at {U : State} {ws : va_W} {h0 : Nat} {ps : fx_P} {σ : List Nat} (hat : fm_at U lw_twM ws h0 ps σ (fm g tp bt a b)) : fw_is ws g tp bt a b := by
  refine fw_of (ps := ps) (fun t e he => ?_)
  have ht : t < 22 := by rw [← fm_len22 (g := g) (tp := tp) (bt := bt) (a := a) (b := b)]; exact (List.getElem?_eq_some_iff.mp he).1
  have hl1 : t < σ.length := by have := hat.2.1; omega
  have hs : σ[t]? = some (σ[t]'hl1) := List.getElem?_eq_getElem hl1
  obtain ⟨h1, q, e0, g1, g2, g3⟩ := hat.2.2.2.2 t _ hs
  rw [he] at g2
  cases g2
  rw [lw_twM_at h1] at g3
  exact ⟨q, g3⟩
theorem fw_is_put {U : State} {ws : va_W} {h0 : Nat} {ps : fx_P} {σ : List Nat} (hat : fm_at U lw_twM ws h0 ps σ (fm g tp bt a b)) : fw_is (fx_put ws σ (fx_w ps (fm g' tp' bt' a' b'))) g' tp' bt' a' b' := by
  refine fw_of (ps := ps) (fun t e he => ?_)
  have ht : t < 22 := by rw [← fm_len22 (g := g') (tp := tp') (bt := bt') (a := a') (b := b')]; exact (List.getElem?_eq_some_iff.mp he).1
  have hl1 : t < σ.length := by have := hat.2.1; omega
  have hs : σ[t]? = some (σ[t]'hl1) := List.getElem?_eq_getElem hl1
  obtain ⟨h1, q, e0, g1, g2, g3⟩ := hat.2.2.2.2 t _ hs
  have hs2 : σ[t]? = some t := hs.trans (congrArg some (lw_twM_at h1))
  rw [lw_twM_at h1] at g3
  refine ⟨q, fx_put_in ws (List.getElem?_eq_some_iff.mp g3).1 σ _ t (fm_at_inj hat) hs2 ?_⟩
  unfold fx_w
  rw [List.getElem?_zipWith, g1, he]
theorem fm_o_inj (k : Nat) (h : fm g tp bt a b = fm g2 tp2 bt2 a2 b2) : (fm_o g tp bt)[k]? = (fm_o g2 tp2 bt2)[k]? := by
  have h1 : fm_o g tp bt = fm_o g2 tp2 bt2 := congrArg (fun m : fx_M => match m with
    | .inl o :: _ => o.2
    | _ => []) h
  rw [h1]
/-- a public call of the model -/
theorem fm_sem {l : Launch} {D : va_G} {xt : tk_XT} {TY : tk_TT} {ads : List Nat} (hst : ∀ (Ad : Nat → Prop) (U : State) (H : Heap), xt Ad U H → ∃ pl v tx, sk_X pl v Ad U H ∧ vk_R "GooseIceModel" 189 tx pl U) (hT : fm_Ty TY) {k f n : Nat} {mods : List (Nat × Nat)} (hM : fm_ms mods) {Q : List Int32 → (Nat → Int32) → Int64 → Int64 → (Nat → Nat → Int32) → (Nat → Nat → Int64) → (Nat → Int32) → Int64 → Int64 → (Nat → Nat → Int32) → (Nat → Nat → Int64) → Int32 → Prop}
    (hfr : ∀ (g : Nat → Int32) (tp bt : Int64) (a : Nat → Nat → Int32) (b : Nat → Nat → Int64) (xs : List Int32), xs.length = n → fm_I g a → ∃ (v : Int32) (g' : Nat → Int32) (tp' bt' : Int64) (a' : Nat → Nat → Int32) (b' : Nat → Nat → Int64), fr_T k f (.ref 0 :: xs.map Value.int) (fm g tp bt a b) (some (.int v)) (fm g' tp' bt' a' b') ∧ fm_I g' a' ∧ fm_ffr mods g a b g' a' b' ∧ Q xs g tp bt a b g' tp' bt' a' b' v) : lw_sem l D xt TY (gn_X lw_twM) ads lw_twM (k + 4) f (List.replicate n 0) (List.replicate n gn_i) (fun av ws ws' v => ∃ (xs : List Int32) (g : Nat → Int32) (tp bt : Int64) (a : Nat → Nat → Int32) (b : Nat → Nat → Int64) (g' : Nat → Int32) (tp' bt' : Int64) (a' : Nat → Nat → Int32) (b' : Nat → Nat → Int64) (x : Int32), av = xs.map Value.int ∧ v = .int x ∧ fw_is ws g tp bt a b ∧ fw_is ws' g' tp' bt' a' b' ∧ fm_I g a ∧ fm_I g' a' ∧ Q xs g tp bt a b g' tp' bt' a' b' x) := by
  refine fm_sem0 (mods := mods) hst hT (fun U rest ws h0 ps σ g tp bt a b hrest hty hfst hD hat hX => ?_)
  obtain ⟨xs, hxl, rfl⟩ : ∃ xs : List Int32, xs.length = n ∧ rest = xs.map Value.int := by
    have : ∀ (n : Nat) (rest : List Value), rk_A2 lq_av ((List.replicate n 0).zip (List.replicate n gn_i)) rest → ∃ xs : List Int32, xs.length = n ∧ rest = xs.map Value.int := by
      intro n
      induction n with
      | zero => intro rest h; rw [h.nil]; exact ⟨[], rfl, rfl⟩
      | succ n ih =>
        intro rest h
        obtain ⟨v, r, rfl, h1, h2⟩ := rk_A2.cons (show rk_A2 lq_av ((0, gn_i) :: (List.replicate n 0).zip (List.replicate n gn_i)) rest from h)
        obtain ⟨xs, e1, rfl⟩ := ih r h2
        rcases h1 with ⟨-, x, rfl, -⟩ | ⟨h1, -⟩
        · exact ⟨x :: xs, by rw [List.length_cons, e1], rfl⟩
        · cases h1
    exact this n rest hrest
  have hI := fm_I_of hT hty hat hX
  obtain ⟨v, g', tp', bt', a', b', h1, h2, h3, h4⟩ := hfr g tp bt a b xs hxl hI
  exact ⟨.int v, _, Nat.zero_le 1, h1, fm_chgA hT h2 hM h3, fm_X2 hat hX h2.2.1.2.1 (fm_B_60 h2.2.1.1), xs, g, tp, bt, a, b, g', tp', bt', a', b', v, rfl, rfl, fw_is_at hat, fw_is_put hat, hI, h2, h4⟩
end FMIS
/-- a field of an object -/
theorem lw_fld {TY : tk_TT} {ads tw : List Nat} {U : State} {ws : va_W} {t y i j0 : Nat} {lo hi : Int} {o : Nat × List tk_F} (h4 : ws.map Prod.fst = ads) (h5 : rk_A2 (fun b (q : Nat × va_E) => tk_cl TY lc_ro ads tw U b q.2) tw ws) (hty : tk_ty ads tw t y) (ho : TY.1[t]? = some (.inl o)) (hf : o.2[i]? = some (0, lo, hi)) (hj : ∀ j, tw[j]? = some t → j = j0) : ∃ (e : va_E) (x : Int32), ws[j0]? = some (y, e) ∧ lw_at ws (j0, i) = some (.int x) ∧ lo ≤ x.toInt ∧ x.toInt ≤ hi := by
  obtain ⟨j, e, hw, ht, hc⟩ := tk_cell h4 h5 hty
  have := hj j ht
  subst this
  unfold tk_cl at hc
  rw [ho] at hc
  obtain ⟨vs, rfl, hvl, hvs⟩ := hc
  have hlt : i < vs.length := by rw [hvl]; exact (List.getElem?_eq_some_iff.mp hf).1
  obtain ⟨x, hx, h1, h2⟩ : ∃ x : Int32, vs[i] = .int x ∧ lo ≤ x.toInt ∧ x.toInt ≤ hi := hvs i _ _ hf (List.getElem?_eq_getElem hlt)
  refine ⟨_, x, hw, ?_, h1, h2⟩
  unfold lw_at
  dsimp only
  rw [hw]
  show vs[i]? = _
  rw [List.getElem?_eq_getElem hlt, hx]
theorem lw_twC0 : ∀ j, lw_twC[j]? = some 0 → j = 0 := by
  intro j h
  have hb : j < 270 := lw_ltC h
  have : ∀ j, j < 270 → lw_twC[j]? = some 0 → j = 0 := by decide +kernel
  exact this j hb h
theorem tk_g_int {vals : List Int} {rads : List Nat} {c : Int} {v : Value} (h : tk_g vals rads (0, 0, 0, c) v) : ∃ x : Int32, v = .int x ∧ x.toInt = c := by
  obtain ⟨x, rfl, hx⟩ := tk_g0 h rfl
  exact ⟨x, rfl, (Option.some.inj (show some c = some x.toInt from hx)).symm⟩
theorem tk_g_nI {vals : List Int} {rads : List Nat} {k : Nat} {v : Value} (hk : k < 2147483648) (h : tk_g vals rads (0, 0, 0, (k : Int)) v) : v = .int (nI k) := by
  obtain ⟨x, rfl, hx⟩ := tk_g_int h
  have e : x.toInt = (nI k).toInt := by rw [nI_i32 hk]; exact hx
  rw [Int32.toInt_inj.mp e]
theorem tk_g_of {vals : List Int} {rads : List Nat} {k : Nat} (hk : k < 2147483648) : tk_g vals rads (0, 0, 0, (k : Int)) (.int (nI k)) := ⟨nI k, rfl, by show some (k : Int) = _; rw [nI_i32 hk]⟩
end MH17_4
section MH17_5
/-! ===== the tape: how many bytes it has ===== -/
def fd_Q (z : Nat × Nat) : List Value → va_W → va_W → Value → Prop := fun _ ws ws' v => ∃ s : Nat, s ≤ 900 ∧ lw_at ws z = some (.int (nI s)) ∧ (s ≤ 880 ∧ v = .int (nI (s + 20)) ∧ lw_at ws' z = some (.int (nI (s + 20))) ∨ 880 < s ∧ v = .int (-1) ∧ lw_at ws' z = some (.int (nI s)))
def lk_Q (M : Int) (z : Nat × Nat) : List Value → va_W → va_W → Value → Prop := fun av ws ws' v => lr_ty 0 v ∧ ∃ (s : Nat) (n : Int32), av = [.int n] ∧ s ≤ 900 ∧ lw_at ws z = some (.int (nI s)) ∧ (¬ (0 ≤ n.toInt ∧ n.toInt ≤ (s : Int) ∧ n.toInt ≤ M) ∧ lw_at ws' z = some (.int (nI s)) ∨ (0 ≤ n.toInt ∧ n.toInt ≤ (s : Int) ∧ n.toInt ≤ M) ∧ lw_at ws' z = some (.int (nI 0)))
theorem fd_int {z : Nat × Nat} {av : List Value} {c0 c1 : va_W} {v : Value} (h : fd_Q z av c0 c1 v) : lr_ty 0 v := by
  obtain ⟨k, -, -, ⟨-, rfl, -⟩ | ⟨-, rfl, -⟩⟩ := h
  · exact ⟨_, rfl⟩
  · exact ⟨_, rfl⟩
theorem nI_injS {k j : Nat} (hk : k < 2147483648) (hj : j < 2147483648) (h : some (Value.int (nI k)) = some (.int (nI j))) : k = j := by
  have h1 : nI k = nI j := Value.int.inj (Option.some.inj h)
  have h2 : (nI k).toInt = (nI j).toInt := by rw [h1]
  rw [nI_i32 hk, nI_i32 hj] at h2
  omega
theorem fd_rel {z y : Nat × Nat} {av av2 : List Value} {c0 c1 m0 m1 : va_W} {u w : Value} (h : lw_at c0 z = lw_at m0 y) (h1 : fd_Q z av c0 c1 u) (h2 : fd_Q y av2 m0 m1 w) : u = w ∧ lw_at c1 z = lw_at m1 y := by
  obtain ⟨k, a1, a2, a3⟩ := h1
  obtain ⟨j, b1, b2, b3⟩ := h2
  have e : k = j := nI_injS (by omega) (by omega) (by rw [← a2, ← b2, h])
  subst e
  rcases a3 with ⟨p1, p2, p3⟩ | ⟨p1, p2, p3⟩ <;> rcases b3 with ⟨q1, q2, q3⟩ | ⟨q1, q2, q3⟩
  · exact ⟨by rw [p2, q2], by rw [p3, q3]⟩
  · omega
  · omega
  · exact ⟨by rw [p2, q2], by rw [p3, q3]⟩
theorem lk_rel {M : Int} {z y : Nat × Nat} {av : List Value} {c0 c1 m0 m1 : va_W} {u w : Value} (h : lw_at c0 z = lw_at m0 y) (h1 : lk_Q M z av c0 c1 u) (h2 : lk_Q M y av m0 m1 w) : lw_at c1 z = lw_at m1 y := by
  obtain ⟨-, k, n, a0, a1, a2, a3⟩ := h1
  obtain ⟨-, j, n', b0, b1, b2, b3⟩ := h2
  have e : k = j := nI_injS (by omega) (by omega) (by rw [← a2, ← b2, h])
  subst e
  rw [a0] at b0
  have e : n = n' := by injection b0 with a b; exact Value.int.inj a
  subst e
  rcases a3 with ⟨p1, p2⟩ | ⟨p1, p2⟩ <;> rcases b3 with ⟨q1, q2⟩ | ⟨q1, q2⟩
  · rw [p2, q2]
  · exact absurd q1 p1
  · exact absurd p1 q1
  · rw [p2, q2]
theorem lw_twC6 : ∀ j, lw_twC[j]? = some 6 → j = 9 := by
  intro j h
  have hb : j < 270 := lw_ltC h
  have : ∀ j, j < 270 → lw_twC[j]? = some 6 → j = 9 := by decide +kernel
  exact this j hb h
theorem lw_twC9 : lw_twC[9]? = some 6 := by decide +kernel
/-- a field that is a reference -/
theorem lw_fldr {TY : tk_TT} {ads tw : List Nat} {U : State} {ws : va_W} {t y i j0 : Nat} {lo : Int} {o : Nat × List tk_F} (h4 : ws.map Prod.fst = ads) (h5 : rk_A2 (fun b (q : Nat × va_E) => tk_cl TY lc_ro ads tw U b q.2) tw ws) (hty : tk_ty ads tw t y) (ho : TY.1[t]? = some (.inl o)) (hf : o.2[i]? = some (2, lo, 0)) (hj : ∀ j, tw[j]? = some t → j = j0) : ∃ (e : va_E) (x : Nat), ws[j0]? = some (y, e) ∧ lw_at ws (j0, i) = some (.ref x) ∧ tk_ty ads tw lo.toNat x := by
  obtain ⟨j, e, hw, ht, hc⟩ := tk_cell h4 h5 hty
  have := hj j ht
  subst this
  unfold tk_cl at hc
  rw [ho] at hc
  obtain ⟨vs, rfl, hvl, hvs⟩ := hc
  have hlt : i < vs.length := by rw [hvl]; exact (List.getElem?_eq_some_iff.mp hf).1
  obtain ⟨x, hx, h1⟩ : ∃ x : Nat, vs[i] = .ref x ∧ tk_ty ads tw (lo.toNat + i * (0 : Int).toNat) x := hvs i _ _ hf (List.getElem?_eq_getElem hlt)
  refine ⟨_, x, hw, ?_, by rw [show lo.toNat + i * (0 : Int).toNat = lo.toNat by show lo.toNat + i * 0 = _; omega] at h1; exact h1⟩
  unfold lw_at
  dsimp only
  rw [hw]
  show vs[i]? = _
  rw [List.getElem?_eq_getElem hlt, hx]
section FDC
variable {l : Launch} {D : va_G} {xt : tk_XT} {ads tw : List Nat}
def fd_KC : tk_K := (134, [(2, 0, 0, 0), (0, 1, 1, 0), (0, 2, 1, 0), (0, 3, 1, 0), (0, 4, 1, 0), (0, 5, 1, 0)], ([((-2147483648), 2147483647), ((-2147483648), 2147483647), ((-2147483648), 2147483647), ((-2147483648), 2147483647), ((-2147483648), 2147483647), (0, 900)], []), [0, 6], [(0, (0, 0, 0, 7), (2, 1, 0, 0)), (1, (0, 0, 0, 2), (0, 6, 1, 0))], ([(some (0, 6, 1, 20), ([((-2147483648), 2147483647), ((-2147483648), 2147483647), ((-2147483648), 2147483647), ((-2147483648), 2147483647), ((-2147483648), 2147483647), (0, 880)], []), [0, 6], [(1, (0, 0, 0, 2), (0, 6, 1, 20))]), (some (0, 0, 0, (-1)), ([((-2147483648), 2147483647), ((-2147483648), 2147483647), ((-2147483648), 2147483647), ((-2147483648), 2147483647), ((-2147483648), 2147483647), (881, 900)], []), [0, 6], [(1, (0, 0, 0, 2), (0, 6, 1, 0))])], [(6, 2), (7, 0)]))
theorem fd_C (hU : gc_U tw) (hxt : tk_xtok xt) : tk_KS l D gk_cl gk_tbl gk_xw xt gk_MN gk_P gc_TY lc_ro (gc_X tw) ads tw 3 fd_KC := tk_contract (hk := tk_hk0) tk_hk0_ok (gc_xs hU) hxt gk_rok [100, 101] 9000 2 0 (Ks := []) (d := 0) (fun _ h => absurd h List.not_mem_nil) (Hs := []) (by decide +kernel) rfl
def fd_KM : tk_K := (219, [(2, 0, 0, 0), (0, 1, 1, 0), (0, 2, 1, 0), (0, 3, 1, 0), (0, 4, 1, 0), (0, 5, 1, 0)], ([((-2147483648), 2147483647), ((-2147483648), 2147483647), ((-2147483648), 2147483647), ((-2147483648), 2147483647), ((-2147483648), 2147483647), (0, 900)], []), [0], [(0, (0, 0, 0, 10), (0, 6, 1, 0))], ([(some (0, 6, 1, 20), ([((-2147483648), 2147483647), ((-2147483648), 2147483647), ((-2147483648), 2147483647), ((-2147483648), 2147483647), ((-2147483648), 2147483647), (0, 880)], []), [0], [(0, (0, 0, 0, 10), (0, 6, 1, 20))]), (some (0, 0, 0, (-1)), ([((-2147483648), 2147483647), ((-2147483648), 2147483647), ((-2147483648), 2147483647), ((-2147483648), 2147483647), ((-2147483648), 2147483647), (881, 900)], []), [0], [(0, (0, 0, 0, 10), (0, 6, 1, 0))])], [(0, 10), (6, 0)]))
theorem fd_M0 (hU : gm_U tw) (hxt : tk_xtok xt) : tk_KS l D gk_cl gk_tbl gk_xw xt gk_MN gk_P gm_TY lc_ro (gm_X tw) ads tw 3 fd_KM := tk_contract (hk := tk_hk0) tk_hk0_ok (gm_xs hU) hxt gk_rok [220] 9000 2 0 (Ks := []) (d := 0) (fun _ h => absurd h List.not_mem_nil) (Hs := []) (by decide +kernel) rfl
def lk_KC : tk_K := (135, [(2, 0, 0, 0), (0, 1, 1, 0)], ([((-2147483648), 2147483647), (0, 900)], []), [0, 6], [(0, (0, 0, 0, 7), (2, 1, 0, 0)), (1, (0, 0, 0, 2), (0, 2, 1, 0))], ([(some (0, 0, 0, (-1)), ([((-2147483648), (-1)), (0, 900)], []), [0, 6], [(1, (0, 0, 0, 2), (0, 2, 1, 0))]), (some (0, 0, 0, (-1)), ([(0, 2147483647), (0, 900)], [(1, 0, (-1))]), [0, 6], [(1, (0, 0, 0, 2), (0, 2, 1, 0))]), (some (0, 3, 1, 0), ([(0, 900), (0, 900), ((-2147483648), 2147483647)], [(0, 1, 0)]), [0, 6], [(1, (0, 0, 0, 2), (0, 0, 0, 0))])], gc_K49.2.2.2.2.2.2))
theorem lk_C (hU : gc_U tw) (hxt : tk_xtok xt) : tk_KS l D gk_cl gk_tbl gk_xw xt gk_MN gk_P gc_TY lc_ro (gc_X tw) ads tw 12 lk_KC := tk_contract (hk := tk_hk0) tk_hk0_ok (gc_xs hU) hxt gk_rok [102, 186, 187] 9000 1 0 (Ks := [gc_K12, gc_K44, gc_K47, gc_K48]) (d := 10) (List.forall_mem_cons.mpr ⟨tk_KS_up (by decide) (gc_12 hU hxt), (List.forall_mem_cons.mpr ⟨tk_KS_up (by decide) (gc_44 hU hxt), (List.forall_mem_cons.mpr ⟨tk_KS_up (by decide) (gc_47 hU hxt), (List.forall_mem_cons.mpr ⟨tk_KS_up (by decide) (gc_48 hU hxt), (fun _ h => absurd h List.not_mem_nil)⟩)⟩)⟩)⟩) (Hs := []) (by decide +kernel) rfl
def ta_KC : tk_K := (136, [(2, 0, 0, 0), (0, 1, 1, 0)], ([((-2147483648), 2147483647), (0, 900)], []), [0, 6], [(0, (0, 0, 0, 7), (2, 1, 0, 0)), (1, (0, 0, 0, 2), (0, 2, 1, 0))], ([(some (0, 0, 0, (-1)), ([((-2147483648), (-1)), (0, 900)], []), [0, 6], [(1, (0, 0, 0, 2), (0, 2, 1, 0))]), (some (0, 0, 0, (-1)), ([(0, 2147483647), (0, 900)], [(1, 0, (-1))]), [0, 6], [(1, (0, 0, 0, 2), (0, 2, 1, 0))]), (some (0, 0, 0, (-1)), ([(301, 2147483647), (0, 900)], []), [0, 6], [(1, (0, 0, 0, 2), (0, 2, 1, 0))]), (some (0, 3, 1, 0), ([(0, 300), (0, 900), ((-2147483648), 2147483647)], [(0, 1, 0)]), [0, 6], [(1, (0, 0, 0, 2), (0, 0, 0, 0))])], gc_K61.2.2.2.2.2.2))
theorem ta_C (hU : gc_U tw) (hxt : tk_xtok xt) : tk_KS l D gk_cl gk_tbl gk_xw xt gk_MN gk_P gc_TY lc_ro (gc_X tw) ads tw 13 ta_KC := tk_contract (hk := tk_hk0) tk_hk0_ok (gc_xs hU) hxt gk_rok [102, 186, 187] 9000 1 0 (Ks := [gc_K12, gc_K59, gc_K60]) (d := 11) (List.forall_mem_cons.mpr ⟨tk_KS_up (by decide) (gc_12 hU hxt), (List.forall_mem_cons.mpr ⟨tk_KS_up (by decide) (gc_59 hU hxt), (List.forall_mem_cons.mpr ⟨tk_KS_up (by decide) (gc_60 hU hxt), (fun _ h => absurd h List.not_mem_nil)⟩)⟩)⟩) (Hs := []) (by decide +kernel) rfl
/-- the reader's place of the tape's length, in the class's world -/
theorem fd_wC {U : State} {ax : Nat} {ws : va_W} (a1 : tk_ty ads lw_twC 0 ax) (a3 : ws.map Prod.fst = ads) (a4 : rk_A2 (fun b (q : Nat × va_E) => tk_cl gc_TY lc_ro ads lw_twC U b q.2) lw_twC ws) : ∃ (e e2 : va_E) (yr s : Nat), ws[0]? = some (ax, e) ∧ lw_at ws (0, 7) = some (.ref yr) ∧ tk_ty ads lw_twC 6 yr ∧ ws[9]? = some (yr, e2) ∧ s ≤ 900 ∧ lw_at ws (9, 2) = some (.int (nI s)) := by
  obtain ⟨e, yr, hw, hat, hty⟩ := lw_fldr (i := 7) (lo := 6) a3 a4 a1 rfl rfl lw_twC0
  obtain ⟨e2, x, hw2, hat2, h1, h2⟩ := lw_fld (i := 2) (lo := 0) (hi := 900) a3 a4 (show tk_ty ads lw_twC 6 yr from hty) rfl rfl lw_twC6
  obtain ⟨s, hs, rfl⟩ := nI_bd (n := 900) h1 h2
  exact ⟨e, e2, yr, s, hw, hat, hty, hw2, hs, hat2⟩
theorem fd_semC (hxt : tk_xtok xt) : lw_sem l D xt gc_TY (gc_X lw_twC) ads lw_twC 3 134 [0, 0, 0, 0, 0] [gn_i, gn_i, gn_i, gn_i, gn_i] (fd_Q (9, 2)) := by
  refine lw_sem_K (fun U ax ws av a1 a2 a3 a4 a5 a6 => ?_)
  obtain ⟨e, e2, yr, s, hw, hat, hty, hw2, hs, hat2⟩ := fd_wC a1 a3 a4
  obtain ⟨vals, hE, hG⟩ := lq_as_ok (rads := [ax, yr]) ([0, 0, 0, 0, 0].zip [gn_i, gn_i, gn_i, gn_i, gn_i]) av [] a2
  have hl : vals.length = 5 := by have := hE.len; exact this.symm
  have h6 : (vals ++ [(s : Int)])[5]? = some (s : Int) := by rw [List.getElem?_append_right (by omega), hl]; rfl
  have hn6 : ∀ c : Int, tk_num (vals ++ [(s : Int)]) (0, 6, 1, c) = some ((s : Int) + c) := fun c => by
    show (match (vals ++ [(s : Int)])[5]? with
      | some z => some (((1 : Nat) : Int) * z + c)
      | none => none) = _
    rw [h6]
    show some (1 * (s : Int) + c) = _
    rw [Int.one_mul]
  have hg6 : tk_g (vals ++ [(s : Int)]) [ax, yr] (0, 6, 1, 0) (.int (nI s)) := ⟨nI s, rfl, by rw [hn6 0, nI_i32 (by omega), Int.add_zero]⟩
  refine ⟨_, _, [6], [yr], _, _, _, vals ++ [(s : Int)], fd_C lw_gcU hxt, ⟨hE.push ⟨by show (0 : Int) ≤ _; omega, by show _ ≤ (900 : Int); omega⟩, fun q hq => absurd hq List.not_mem_nil⟩, ⟨hty, trivial⟩, hG.mono (fun _ _ h => tk_g_grow [(s : Int)] [] h), ?_, ?_⟩
  · intro z hz
    rcases List.mem_cons.mp hz with hz | hz
    · rw [hz]
      exact lw_fk (r := 0) (j := 0) (i := 7) rfl hw hat ⟨yr, rfl, rfl⟩
    · rw [List.mem_singleton.mp hz]
      exact lw_fk (r := 1) (j := 9) (i := 2) rfl hw2 hat2 hg6
  · intro y hy t vals' rads' ws' oc k1 k2 k3 k4 k5 k6 k7 k8
    have hv6 : vals'[5]? = some (s : Int) := lw_vals k1 h6
    have hn' : ∀ c : Int, tk_num vals' (0, 6, 1, c) = some ((s : Int) + c) := fun c => by
      obtain ⟨kk, rfl⟩ := k1
      exact tk_num_grow kk (hn6 c)
    have hr1 : rads'[1]? = some yr := lw_rads (r := 1) k2 rfl
    have hE' : ∀ (I : tk_I), y.2.1.1[5]? = some I → I.1 ≤ (s : Int) ∧ (s : Int) ≤ I.2 := fun I hI => by
      obtain ⟨z, hz, h⟩ := k3.1.get hI
      rw [hv6] at hz
      cases hz
      exact h
    rcases List.mem_cons.mp hy with hy | hy
    · subst hy
      have hb := hE' (0, 880) rfl
      obtain ⟨v, g1, g2⟩ := lw_fk_at (j := 9) (i := 2) a5 (k5.trans a3.symm) hr1 hw2 (k4 _ (List.mem_singleton.mpr rfl))
      obtain ⟨x, rfl, hx⟩ := tk_g0 g2 rfl
      rw [hn' 20] at hx
      have e1 : x = nI (s + 20) := Int32.toInt_inj.mp (by rw [nI_i32 (by omega)]; have := Option.some.inj hx; omega)
      obtain ⟨u, hg, eu⟩ := k8
      obtain ⟨x2, rfl, hx2⟩ := tk_g0 hg rfl
      rw [hn' 20] at hx2
      have e3 : x2 = nI (s + 20) := Int32.toInt_inj.mp (by rw [nI_i32 (by omega)]; have := Option.some.inj hx2; omega)
      exact ⟨_, eu, s, hs, hat2, Or.inl ⟨by have := hb.2; omega, by rw [e3], by rw [g1, e1]⟩⟩
    · rw [List.mem_singleton.mp hy] at hE' k4 k8
      have hb := hE' (881, 900) rfl
      obtain ⟨v, g1, g2⟩ := lw_fk_at (j := 9) (i := 2) a5 (k5.trans a3.symm) hr1 hw2 (k4 _ (List.mem_singleton.mpr rfl))
      obtain ⟨x, rfl, hx⟩ := tk_g0 g2 rfl
      rw [hn' 0] at hx
      have e1 : x = nI s := Int32.toInt_inj.mp (by rw [nI_i32 (by omega)]; have := Option.some.inj hx; omega)
      obtain ⟨u, hg, eu⟩ := k8
      obtain ⟨x2, rfl, hx2⟩ := tk_g_int hg
      exact ⟨_, eu, s, hs, hat2, Or.inr ⟨by have := hb.1; omega, congrArg Value.int (Int32.toInt_inj.mp hx2), by rw [g1, e1]⟩⟩
theorem fd_semM (hxt : tk_xtok xt) : lw_sem l D xt gn_TY (gn_X lw_twM) ads lw_twM 3 219 [0, 0, 0, 0, 0] [gn_i, gn_i, gn_i, gn_i, gn_i] (fd_Q (0, 10)) := by
  refine lw_sem_K (fun U ax ws av a1 a2 a3 a4 a5 a6 => ?_)
  obtain ⟨e, x0, hw, hat2, h1, h2⟩ := lw_fld (i := 10) (lo := 0) (hi := 900) a3 a4 a1 rfl rfl (fun j h => lw_twM_at h)
  obtain ⟨s, hs, rfl⟩ := nI_bd (n := 900) h1 h2
  obtain ⟨vals, hE, hG⟩ := lq_as_ok (rads := [ax]) ([0, 0, 0, 0, 0].zip [gn_i, gn_i, gn_i, gn_i, gn_i]) av [] a2
  have hl : vals.length = 5 := by have := hE.len; exact this.symm
  have h6 : (vals ++ [(s : Int)])[5]? = some (s : Int) := by rw [List.getElem?_append_right (by omega), hl]; rfl
  have hn6 : ∀ c : Int, tk_num (vals ++ [(s : Int)]) (0, 6, 1, c) = some ((s : Int) + c) := fun c => by
    show (match (vals ++ [(s : Int)])[5]? with
      | some z => some (((1 : Nat) : Int) * z + c)
      | none => none) = _
    rw [h6]
    show some (1 * (s : Int) + c) = _
    rw [Int.one_mul]
  have hg6 : tk_g (vals ++ [(s : Int)]) [ax] (0, 6, 1, 0) (.int (nI s)) := ⟨nI s, rfl, by rw [hn6 0, nI_i32 (by omega), Int.add_zero]⟩
  refine ⟨_, _, [], [], _, _, _, vals ++ [(s : Int)], tk_KS_X (gn_X1 gm_fmTy) (fun _ => True.intro) (by decide) (fd_M0 True.intro hxt), ⟨hE.push ⟨by show (0 : Int) ≤ _; omega, by show _ ≤ (900 : Int); omega⟩, fun q hq => absurd hq List.not_mem_nil⟩, trivial, hG.mono (fun _ _ h => tk_g_grow [(s : Int)] [] h), ?_, ?_⟩
  · intro z hz
    rw [List.mem_singleton.mp hz]
    exact lw_fk (r := 0) (j := 0) (i := 10) rfl hw hat2 hg6
  · intro y hy t vals' rads' ws' oc k1 k2 k3 k4 k5 k6 k7 k8
    have hv6 : vals'[5]? = some (s : Int) := lw_vals k1 h6
    have hn' : ∀ c : Int, tk_num vals' (0, 6, 1, c) = some ((s : Int) + c) := fun c => by
      obtain ⟨kk, rfl⟩ := k1
      exact tk_num_grow kk (hn6 c)
    have hr1 : rads'[0]? = some ax := lw_rads (r := 0) k2 rfl
    have hE' : ∀ (I : tk_I), y.2.1.1[5]? = some I → I.1 ≤ (s : Int) ∧ (s : Int) ≤ I.2 := fun I hI => by
      obtain ⟨z, hz, h⟩ := k3.1.get hI
      rw [hv6] at hz
      cases hz
      exact h
    rcases List.mem_cons.mp hy with hy | hy
    · subst hy
      have hb := hE' (0, 880) rfl
      obtain ⟨v, g1, g2⟩ := lw_fk_at (j := 0) (i := 10) a5 (k5.trans a3.symm) hr1 hw (k4 _ (List.mem_singleton.mpr rfl))
      obtain ⟨x, rfl, hx⟩ := tk_g0 g2 rfl
      rw [hn' 20] at hx
      have e1 : x = nI (s + 20) := Int32.toInt_inj.mp (by rw [nI_i32 (by omega)]; have := Option.some.inj hx; omega)
      obtain ⟨u, hg, eu⟩ := k8
      obtain ⟨x2, rfl, hx2⟩ := tk_g0 hg rfl
      rw [hn' 20] at hx2
      have e3 : x2 = nI (s + 20) := Int32.toInt_inj.mp (by rw [nI_i32 (by omega)]; have := Option.some.inj hx2; omega)
      exact ⟨_, eu, s, hs, hat2, Or.inl ⟨by have := hb.2; omega, by rw [e3], by rw [g1, e1]⟩⟩
    · rw [List.mem_singleton.mp hy] at hE' k4 k8
      have hb := hE' (881, 900) rfl
      obtain ⟨v, g1, g2⟩ := lw_fk_at (j := 0) (i := 10) a5 (k5.trans a3.symm) hr1 hw (k4 _ (List.mem_singleton.mpr rfl))
      obtain ⟨x, rfl, hx⟩ := tk_g0 g2 rfl
      rw [hn' 0] at hx
      have e1 : x = nI s := Int32.toInt_inj.mp (by rw [nI_i32 (by omega)]; have := Option.some.inj hx; omega)
      obtain ⟨u, hg, eu⟩ := k8
      obtain ⟨x2, rfl, hx2⟩ := tk_g_int hg
      exact ⟨_, eu, s, hs, hat2, Or.inr ⟨by have := hb.1; omega, congrArg Value.int (Int32.toInt_inj.mp hx2), by rw [g1, e1]⟩⟩
theorem lk_semC (hxt : tk_xtok xt) : lw_sem l D xt gc_TY (gc_X lw_twC) ads lw_twC 12 135 [0] [gn_i] (lk_Q 900 (9, 2)) := by
  refine lw_sem_K (fun U ax ws av a1 a2 a3 a4 a5 a6 => ?_)
  obtain ⟨e, e2, yr, s, hw, hat, hty, hw2, hs, hat2⟩ := fd_wC a1 a3 a4
  obtain ⟨v1, r1, rfl, h1, a2'⟩ := rk_A2.cons (show rk_A2 lq_av [(0, gn_i)] av from a2)
  obtain rfl := a2'.nil
  obtain ⟨n, rfl, hn1, hn2⟩ : ∃ n : Int32, v1 = .int n ∧ (-2147483648 : Int) ≤ n.toInt ∧ n.toInt ≤ 2147483647 := by
    rcases h1 with ⟨-, x, e, b1, b2⟩ | ⟨h1, -⟩
    · exact ⟨x, e, b1, b2⟩
    · cases h1
  refine ⟨_, _, [6], [yr], _, _, _, [n.toInt, (s : Int)], lk_C lw_gcU hxt, ⟨⟨⟨hn1, hn2⟩, ⟨by show (0 : Int) ≤ _; omega, by show _ ≤ (900 : Int); omega⟩, trivial⟩, fun q hq => absurd hq List.not_mem_nil⟩, ⟨hty, trivial⟩, ⟨⟨n, rfl, by show some (1 * n.toInt + 0) = _; congr 1; omega⟩, trivial⟩, ?_, ?_⟩
  · intro z hz
    rcases List.mem_cons.mp hz with hz | hz
    · rw [hz]
      exact lw_fk (r := 0) (j := 0) (i := 7) rfl hw hat ⟨yr, rfl, rfl⟩
    · rw [List.mem_singleton.mp hz]
      exact lw_fk (r := 1) (j := 9) (i := 2) rfl hw2 hat2 ⟨nI s, rfl, by show some (1 * (s : Int) + 0) = _; rw [nI_i32 (by omega)]; congr 1; omega⟩
  · intro y hy t vals' rads' ws' oc k1 k2 k3 k4 k5 k6 k7 k8
    have hv0 : vals'[0]? = some n.toInt := lw_vals k1 rfl
    have hv1 : vals'[1]? = some (s : Int) := lw_vals k1 rfl
    have hr1 : rads'[1]? = some yr := lw_rads (r := 1) k2 rfl
    have hE0 : ∀ (I : tk_I), y.2.1.1[0]? = some I → I.1 ≤ n.toInt ∧ n.toInt ≤ I.2 := fun I hI => by
      obtain ⟨z, hz, h⟩ := k3.1.get hI
      rw [hv0] at hz
      cases hz
      exact h
    have hC : ∀ q ∈ y.2.1.2, ∃ x y2 : Int, vals'[q.1]? = some x ∧ vals'[q.2.1]? = some y2 ∧ x ≤ y2 + q.2.2 := k3.2
    have keep : ∀ {v : Value}, tk_g vals' rads' (0, 2, 1, 0) v → v = .int (nI s) := fun {v} g2 => by
      obtain ⟨x, rfl, hx⟩ := tk_g0 g2 rfl
      have hx : (match vals'[1]? with
        | some z => some (((1 : Nat) : Int) * z + 0)
        | none => none) = some x.toInt := hx
      rw [hv1] at hx
      have hx : some (1 * (s : Int) + 0) = some x.toInt := hx
      exact congrArg Value.int (Int32.toInt_inj.mp (by rw [nI_i32 (by omega)]; have := Option.some.inj hx; omega))
    rcases List.mem_cons.mp hy with hy | hy
    · subst hy
      have hb := hE0 ((-2147483648), (-1)) rfl
      obtain ⟨v, g1, g2⟩ := lw_fk_at (j := 9) (i := 2) a5 (k5.trans a3.symm) hr1 hw2 (k4 _ (List.mem_singleton.mpr rfl))
      obtain ⟨u, hg, eu⟩ := k8
      obtain ⟨x2, rfl, hx2⟩ := tk_g_int hg
      exact ⟨_, eu, ⟨_, rfl⟩, s, n, rfl, hs, hat2, Or.inl ⟨fun h => by have := hb.2; have := h.1; omega, by rw [g1, keep g2]⟩⟩
    rcases List.mem_cons.mp hy with hy | hy
    · subst hy
      obtain ⟨p, q, hp, hq, hpq⟩ := hC (1, 0, (-1)) (List.mem_singleton.mpr rfl)
      rw [hv1] at hp
      rw [hv0] at hq
      cases hp
      cases hq
      obtain ⟨v, g1, g2⟩ := lw_fk_at (j := 9) (i := 2) a5 (k5.trans a3.symm) hr1 hw2 (k4 _ (List.mem_singleton.mpr rfl))
      obtain ⟨u, hg, eu⟩ := k8
      obtain ⟨x2, rfl, hx2⟩ := tk_g_int hg
      exact ⟨_, eu, ⟨_, rfl⟩, s, n, rfl, hs, hat2, Or.inl ⟨fun h => by have q1 : (s : Int) ≤ n.toInt + (-1) := hpq; have := h.2.1; omega, by rw [g1, keep g2]⟩⟩
    · rw [List.mem_singleton.mp hy] at hE0 hC k4 k8
      have hb := hE0 (0, 900) rfl
      obtain ⟨p, q, hp, hq, hpq⟩ := hC (0, 1, 0) (List.mem_singleton.mpr rfl)
      rw [hv0] at hp
      rw [hv1] at hq
      cases hp
      cases hq
      obtain ⟨v, g1, g2⟩ := lw_fk_at (j := 9) (i := 2) a5 (k5.trans a3.symm) hr1 hw2 (k4 _ (List.mem_singleton.mpr rfl))
      obtain ⟨u, hg, eu⟩ := k8
      obtain ⟨x2, rfl, -⟩ := tk_g0 hg rfl
      exact ⟨_, eu, ⟨_, rfl⟩, s, n, rfl, hs, hat2, Or.inr ⟨⟨hb.1, by have q1 : n.toInt ≤ (s : Int) + 0 := hpq; omega, hb.2⟩, by rw [g1, tk_g_nI (k := 0) (by decide) g2]⟩⟩
theorem ta_semC (hxt : tk_xtok xt) : lw_sem l D xt gc_TY (gc_X lw_twC) ads lw_twC 13 136 [0] [gn_i] (lk_Q 300 (9, 2)) := by
  refine lw_sem_K (fun U ax ws av a1 a2 a3 a4 a5 a6 => ?_)
  obtain ⟨e, e2, yr, s, hw, hat, hty, hw2, hs, hat2⟩ := fd_wC a1 a3 a4
  obtain ⟨v1, r1, rfl, h1, a2'⟩ := rk_A2.cons (show rk_A2 lq_av [(0, gn_i)] av from a2)
  obtain rfl := a2'.nil
  obtain ⟨n, rfl, hn1, hn2⟩ : ∃ n : Int32, v1 = .int n ∧ (-2147483648 : Int) ≤ n.toInt ∧ n.toInt ≤ 2147483647 := by
    rcases h1 with ⟨-, x, e, b1, b2⟩ | ⟨h1, -⟩
    · exact ⟨x, e, b1, b2⟩
    · cases h1
  refine ⟨_, _, [6], [yr], _, _, _, [n.toInt, (s : Int)], ta_C lw_gcU hxt, ⟨⟨⟨hn1, hn2⟩, ⟨by show (0 : Int) ≤ _; omega, by show _ ≤ (900 : Int); omega⟩, trivial⟩, fun q hq => absurd hq List.not_mem_nil⟩, ⟨hty, trivial⟩, ⟨⟨n, rfl, by show some (1 * n.toInt + 0) = _; congr 1; omega⟩, trivial⟩, ?_, ?_⟩
  · intro z hz
    rcases List.mem_cons.mp hz with hz | hz
    · rw [hz]
      exact lw_fk (r := 0) (j := 0) (i := 7) rfl hw hat ⟨yr, rfl, rfl⟩
    · rw [List.mem_singleton.mp hz]
      exact lw_fk (r := 1) (j := 9) (i := 2) rfl hw2 hat2 ⟨nI s, rfl, by show some (1 * (s : Int) + 0) = _; rw [nI_i32 (by omega)]; congr 1; omega⟩
  · intro y hy t vals' rads' ws' oc k1 k2 k3 k4 k5 k6 k7 k8
    have hv0 : vals'[0]? = some n.toInt := lw_vals k1 rfl
    have hv1 : vals'[1]? = some (s : Int) := lw_vals k1 rfl
    have hr1 : rads'[1]? = some yr := lw_rads (r := 1) k2 rfl
    have hE0 : ∀ (I : tk_I), y.2.1.1[0]? = some I → I.1 ≤ n.toInt ∧ n.toInt ≤ I.2 := fun I hI => by
      obtain ⟨z, hz, h⟩ := k3.1.get hI
      rw [hv0] at hz
      cases hz
      exact h
    have hC : ∀ q ∈ y.2.1.2, ∃ x y2 : Int, vals'[q.1]? = some x ∧ vals'[q.2.1]? = some y2 ∧ x ≤ y2 + q.2.2 := k3.2
    have keep : ∀ {v : Value}, tk_g vals' rads' (0, 2, 1, 0) v → v = .int (nI s) := fun {v} g2 => by
      obtain ⟨x, rfl, hx⟩ := tk_g0 g2 rfl
      have hx : (match vals'[1]? with
        | some z => some (((1 : Nat) : Int) * z + 0)
        | none => none) = some x.toInt := hx
      rw [hv1] at hx
      have hx : some (1 * (s : Int) + 0) = some x.toInt := hx
      exact congrArg Value.int (Int32.toInt_inj.mp (by rw [nI_i32 (by omega)]; have := Option.some.inj hx; omega))
    rcases List.mem_cons.mp hy with hy | hy
    · subst hy
      have hb := hE0 ((-2147483648), (-1)) rfl
      obtain ⟨v, g1, g2⟩ := lw_fk_at (j := 9) (i := 2) a5 (k5.trans a3.symm) hr1 hw2 (k4 _ (List.mem_singleton.mpr rfl))
      obtain ⟨u, hg, eu⟩ := k8
      obtain ⟨x2, rfl, hx2⟩ := tk_g_int hg
      exact ⟨_, eu, ⟨_, rfl⟩, s, n, rfl, hs, hat2, Or.inl ⟨fun h => by have := hb.2; have := h.1; omega, by rw [g1, keep g2]⟩⟩
    rcases List.mem_cons.mp hy with hy | hy
    · subst hy
      obtain ⟨p, q, hp, hq, hpq⟩ := hC (1, 0, (-1)) (List.mem_singleton.mpr rfl)
      rw [hv1] at hp
      rw [hv0] at hq
      cases hp
      cases hq
      obtain ⟨v, g1, g2⟩ := lw_fk_at (j := 9) (i := 2) a5 (k5.trans a3.symm) hr1 hw2 (k4 _ (List.mem_singleton.mpr rfl))
      obtain ⟨u, hg, eu⟩ := k8
      obtain ⟨x2, rfl, hx2⟩ := tk_g_int hg
      exact ⟨_, eu, ⟨_, rfl⟩, s, n, rfl, hs, hat2, Or.inl ⟨fun h => by have q1 : (s : Int) ≤ n.toInt + (-1) := hpq; have := h.2.1; omega, by rw [g1, keep g2]⟩⟩
    rcases List.mem_cons.mp hy with hy | hy
    · subst hy
      have hb := hE0 (301, 2147483647) rfl
      obtain ⟨v, g1, g2⟩ := lw_fk_at (j := 9) (i := 2) a5 (k5.trans a3.symm) hr1 hw2 (k4 _ (List.mem_singleton.mpr rfl))
      obtain ⟨u, hg, eu⟩ := k8
      obtain ⟨x2, rfl, hx2⟩ := tk_g_int hg
      exact ⟨_, eu, ⟨_, rfl⟩, s, n, rfl, hs, hat2, Or.inl ⟨fun h => by have := hb.1; have := h.2.2; omega, by rw [g1, keep g2]⟩⟩
    · rw [List.mem_singleton.mp hy] at hE0 hC k4 k8
      have hb := hE0 (0, 300) rfl
      obtain ⟨p, q, hp, hq, hpq⟩ := hC (0, 1, 0) (List.mem_singleton.mpr rfl)
      rw [hv0] at hp
      rw [hv1] at hq
      cases hp
      cases hq
      obtain ⟨v, g1, g2⟩ := lw_fk_at (j := 9) (i := 2) a5 (k5.trans a3.symm) hr1 hw2 (k4 _ (List.mem_singleton.mpr rfl))
      obtain ⟨u, hg, eu⟩ := k8
      obtain ⟨x2, rfl, -⟩ := tk_g0 hg rfl
      exact ⟨_, eu, ⟨_, rfl⟩, s, n, rfl, hs, hat2, Or.inr ⟨⟨hb.1, by have q1 : n.toInt ≤ (s : Int) + 0 := hpq; omega, hb.2⟩, by rw [g1, tk_g_nI (k := 0) (by decide) g2]⟩⟩
theorem lk_semM (hst : ∀ (Ad : Nat → Prop) (U : State) (H : Heap), xt Ad U H → ∃ pl v tx, sk_X pl v Ad U H ∧ vk_R "GooseIceModel" 189 tx pl U) : lw_sem l D xt gn_TY (gn_X lw_twM) ads lw_twM 14 246 [0] [gn_i] (lk_Q 900 (0, 10)) := by
  refine lw_sem_imp (fm_sem (k := 10) (f := 246) (n := 1) hst gn_fmTy gn_M1_ms (Q := fun xs g _ _ _ _ g' _ _ _ _ v => ∃ n : Int32, xs = [n] ∧ ∃ s : Nat, s ≤ 900 ∧ g 10 = nI s ∧ (¬ (0 ≤ n.toInt ∧ n.toInt ≤ (s : Int) ∧ n.toInt ≤ 900) ∧ g' 10 = nI s ∨ (0 ≤ n.toInt ∧ n.toInt ≤ (s : Int) ∧ n.toInt ≤ 900) ∧ g' 10 = nI 0)) (fun g tp bt a b xs hx hI => ?_)) ?_
  · obtain ⟨x0, xs0, rfl, hx0⟩ := fm_xsS hx
    obtain rfl := List.length_eq_zero_iff.mp hx0
    obtain ⟨s, hs, es⟩ := fm_I_10 hI
    obtain ⟨v, mem', hP, hf⟩ := fr_lake (g := g) (tp := tp) (bt := bt) (a := a) (b := b) (n := x0) ⟨s, hs, es⟩
    obtain ⟨v, g', tp', bt', a', b', e, h1, h2⟩ := fm_I_FL hI hP
    cases e
    refine ⟨v, g', tp', bt', a', b', hf, h1, h2, x0, rfl, s, hs, es, ?_⟩
    obtain ⟨v2, g2, a2, b2, e, hz⟩ := hP
    have e2 : g' 10 = g2 10 := Value.int.inj (Option.some.inj (fm_o_inj 10 (congrArg Prod.snd e)))
    rw [e2]
    have cv : (0 ≤ x0 ∧ x0 ≤ g 10 ∧ x0 ≤ 900) ↔ (0 ≤ x0.toInt ∧ x0.toInt ≤ (s : Int) ∧ x0.toInt ≤ 900) := by
      rw [Int32.le_iff_toInt_le, Int32.le_iff_toInt_le, Int32.le_iff_toInt_le, es, nI_i32 (by omega), show (900 : Int32).toInt = 900 from rfl, show (0 : Int32).toInt = 0 from rfl]
    rcases hz with ⟨z1, -, z3, -⟩ | ⟨z1, z2⟩
    · exact Or.inl ⟨fun h => z1 (cv.mpr h), by rw [z3, ← es]; rfl⟩
    · exact Or.inr ⟨cv.mp z1, z2.2.1⟩
  · rintro av ws ws' v - ⟨xs, g, tp, bt, a, b, g', tp', bt', a', b', x, rfl, rfl, k1, k2, -, -, n, rfl, s, hs, k3, k4⟩
    have p1 : lw_at ws (0, 10) = some (.int (g 10)) := k1.1 10 _ rfl (Nat.zero_le 1)
    have p2 : lw_at ws' (0, 10) = some (.int (g' 10)) := k2.1 10 _ rfl (Nat.zero_le 1)
    refine ⟨⟨_, rfl⟩, s, n, rfl, hs, by rw [p1, k3], ?_⟩
    rcases k4 with ⟨z1, z2⟩ | ⟨z1, z2⟩
    · exact Or.inl ⟨z1, by rw [p2, z2]⟩
    · exact Or.inr ⟨z1, by rw [p2, z2]⟩
theorem ta_semM (hst : ∀ (Ad : Nat → Prop) (U : State) (H : Heap), xt Ad U H → ∃ pl v tx, sk_X pl v Ad U H ∧ vk_R "GooseIceModel" 189 tx pl U) : lw_sem l D xt gn_TY (gn_X lw_twM) ads lw_twM 17 252 [0] [gn_i] (lk_Q 300 (0, 10)) := by
  refine lw_sem_imp (fm_sem (k := 13) (f := 252) (n := 1) hst gn_fmTy gn_M1_ms (Q := fun xs g _ _ _ _ g' _ _ _ _ v => ∃ n : Int32, xs = [n] ∧ ∃ s : Nat, s ≤ 900 ∧ g 10 = nI s ∧ (¬ (0 ≤ n.toInt ∧ n.toInt ≤ (s : Int) ∧ n.toInt ≤ 300) ∧ g' 10 = nI s ∨ (0 ≤ n.toInt ∧ n.toInt ≤ (s : Int) ∧ n.toInt ≤ 300) ∧ g' 10 = nI 0)) (fun g tp bt a b xs hx hI => ?_)) ?_
  · obtain ⟨x0, xs0, rfl, hx0⟩ := fm_xsS hx
    obtain rfl := List.length_eq_zero_iff.mp hx0
    obtain ⟨s, hs, es⟩ := fm_I_10 hI
    obtain ⟨v, mem', hP, hf⟩ := fr_tales (g := g) (tp := tp) (bt := bt) (a := a) (b := b) (n := x0) (fm_I_TH hI)
    obtain ⟨v, g', tp', bt', a', b', e, h1, h2⟩ := fm_I_FTA hI hP
    cases e
    refine ⟨v, g', tp', bt', a', b', hf, h1, h2, x0, rfl, s, hs, es, ?_⟩
    obtain ⟨v2, g2, a2, e, hz⟩ := hP
    have e2 : g' 10 = g2 10 := Value.int.inj (Option.some.inj (fm_o_inj 10 (congrArg Prod.snd e)))
    rw [e2]
    have cv : (0 ≤ x0 ∧ x0 ≤ g 10 ∧ x0 ≤ 300) ↔ (0 ≤ x0.toInt ∧ x0.toInt ≤ (s : Int) ∧ x0.toInt ≤ 300) := by
      rw [Int32.le_iff_toInt_le, Int32.le_iff_toInt_le, Int32.le_iff_toInt_le, es, nI_i32 (by omega), show (300 : Int32).toInt = 300 from rfl, show (0 : Int32).toInt = 0 from rfl]
    rcases hz with ⟨z1, -, z3, -⟩ | ⟨z1, z2⟩
    · exact Or.inl ⟨fun h => z1 (cv.mpr h), by rw [z3, ← es]; rfl⟩
    · exact Or.inr ⟨cv.mp z1, z2.2.1⟩
  · rintro av ws ws' v - ⟨xs, g, tp, bt, a, b, g', tp', bt', a', b', x, rfl, rfl, k1, k2, -, -, n, rfl, s, hs, k3, k4⟩
    have p1 : lw_at ws (0, 10) = some (.int (g 10)) := k1.1 10 _ rfl (Nat.zero_le 1)
    have p2 : lw_at ws' (0, 10) = some (.int (g' 10)) := k2.1 10 _ rfl (Nat.zero_le 1)
    refine ⟨⟨_, rfl⟩, s, n, rfl, hs, by rw [p1, k3], ?_⟩
    rcases k4 with ⟨z1, z2⟩ | ⟨z1, z2⟩
    · exact Or.inl ⟨z1, by rw [p2, z2]⟩
    · exact Or.inr ⟨z1, by rw [p2, z2]⟩
end FDC
end MH17_5
section MH17_6
/-! ===== hx: fx over a part of a world: the memory first, addresses of other cells behind it ===== -/
def hx_ok (U : State) (ps : fx_P) (mem : fx_M) : Prop := mem.length ≤ ps.length ∧ ∀ (j : Nat) (q : Nat × ClassId) (ty : FieldType) (z : vp_A), ps[j]? = some q → mem[j]? = some (.inr (ty, z)) → ArrOfT U q.2 ty ∧ va_RA U q.2 ty
theorem hx_w_get {U : State} {ps : fx_P} {mem : fx_M} (h : hx_ok U ps mem) {j : Nat} {e : fx_E} (hj : mem[j]? = some e) : ∃ q, ps[j]? = some q ∧ fx_ad ps j = q.1 ∧ (fx_w ps mem)[j]? = some (q.1, fx_c ps q.2 e) := by
  have hlt : j < ps.length := Nat.lt_of_lt_of_le (List.getElem?_eq_some_iff.mp hj).1 h.1
  have hq : ps[j]? = some ps[j] := List.getElem?_eq_getElem hlt
  refine ⟨ps[j], hq, ?_, ?_⟩
  · unfold fx_ad
    rw [hq]
  · unfold fx_w
    rw [List.getElem?_zipWith, hq, hj]
theorem hx_ok_obj {U : State} {ps : fx_P} {mem : fx_M} (h : hx_ok U ps mem) (j : Nat) (o : Nat × List Value) : hx_ok U ps (mem.set j (.inl o)) := by
  refine ⟨by rw [List.length_set]; exact h.1, fun i q ty z hq hm => ?_⟩
  rw [List.getElem?_set] at hm
  split at hm
  · split at hm <;> cases hm
  · exact h.2 i q ty z hq hm
theorem hx_ok_arr {U : State} {ps : fx_P} {mem : fx_M} (h : hx_ok U ps mem) {j : Nat} {ty : FieldType} {z z' : vp_A} (hj : mem[j]? = some (.inr (ty, z))) : hx_ok U ps (mem.set j (.inr (ty, z'))) := by
  refine ⟨by rw [List.length_set]; exact h.1, fun i q ty2 z2 hq hm => ?_⟩
  rw [List.getElem?_set] at hm
  split at hm
  · next e =>
    subst e
    split at hm
    · cases hm
      exact h.2 _ _ _ _ hq hj
    · cases hm
  · exact h.2 i q ty2 z2 hq hm
section HXM
variable {p : Program} {l : Launch} {e : Env} {R : Room} {s : State} {m : MethodId} {args : Array Value} {below : List Frame} {meth : Method} {c : Code} {Q : State → Prop} {cc : ByteArray} {D : va_G} {cl : List vw_C} {Ad : Nat → Prop} {tbl xw : List Jvm.Cond} {fty : rk_F} {cln : List String} {own : String}
theorem hx_arr {lk : List (Nat × Nat × Nat × Nat)} {cs : List (Nat × Value)} (hF : rk_Fr s m args meth D cl Ad tbl xw fty cln own lk cs) {ps : fx_P} {mem : fx_M} (hO : hx_ok s ps mem) {j : Nat} {ty : FieldType} {z : vp_A} (hj : mem[j]? = some (.inr (ty, z))) : ∃ q, ps[j]? = some q ∧ fx_ad ps j = q.1 ∧ (fx_w ps mem)[j]? = some (q.1, .inl (q.2, fx_z ps z)) ∧ va_K D cl [(q.2, ty)] s := by
  obtain ⟨q, h1, h2, h3⟩ := hx_w_get hO hj
  obtain ⟨g1, g2⟩ := hO.2 j q ty z h1 hj
  exact ⟨q, h1, h2, h3, rk_K1 hF.2.2.2.1 g1 g2⟩
set_option maxHeartbeats 8000000 in
theorem hx_mem_ok {M : rk_M2} (hx : p.tables.exec = Jvm.exec) (hb : c.code = cc) (hml : c.maxLocals = M.2.1) (hF : rk_Fr s m args meth D cl Ad tbl xw fty cln own M.2.2.1 M.2.2.2.1) (hfr : 1 ≤ R.frames) (hlo : 40 ≤ R.locals) {pc : Nat} {ins : Instr} {len : Nat} (hdg : decode cc pc = .ok (ins, len)) (hlen : rk_len ins len = true) {ps : fx_P} {lc : fx_L} {stk : List Value} {mem : fx_M} {zz : Nat × fx_L × List Value × fx_M} (h : fx_mem fty M pc ins lc stk mem = some zz) (hO : hx_ok s ps mem) {H : Heap} {locs : List Loc} {ls : Array Slot} (hP : va_P D cl (fx_w ps mem) H) (hD : va_D Ad (fx_w ps mem)) (hS : va_S Ad s.heap H locs) (hl : lv_has ls M.2.1 (fx_lm ps lc)) (kk : ∀ (H' : Heap) (locs' : List Loc) (ls' : Array Slot), hx_ok s ps zz.2.2.2 → va_P D cl (fx_w ps zz.2.2.2) H' → va_D Ad (fx_w ps zz.2.2.2) → va_S Ad s.heap H' locs' → lv_has ls' M.2.1 (fx_lm ps zz.2.1) → rk_KW p l e R s m args below meth c Q zz.1 ls' (zz.2.2.1.map (fx_v ps)) H' locs' 0 0) : rk_KW p l e R s m args below meth c Q pc ls (stk.map (fx_v ps)) H locs 0 0 := by
  have hF0 := hF
  obtain ⟨hts, hxw, hown, hK, hA, hcl, hlk, hini, hac, hcs⟩ := hF0
  cases ins
  case getfield idx =>
    simp [rk_len] at hlen; subst hlen
    change (match rk_lk M.2.2.1 idx with
      | some q => fx_gf (pc + 3) q.1 q.2.1 q.2.2
      | none => fx_none) lc stk mem = some zz at h
    cases hlk1 : rk_lk M.2.2.1 idx with
    | none => rw [hlk1] at h; exact fx_nos h
    | some q =>
      rw [hlk1] at h
      obtain ⟨kd, ci, k⟩ := q
      change fx_gf (pc + 3) kd ci k lc stk mem = some zz at h
      unfold fx_gf at h
      split at h
      · next j r =>
        split at h
        · next o hj =>
          cases hc : (Nat.ble kd 2 && Nat.beq o.1 ci) with
          | false => rw [hc] at h; exact fx_nos h
          | true =>
            rw [hc] at h
            dsimp only [cond] at h
            rw [Bool.and_eq_true] at hc
            have hkd := Nat.le_of_ble_eq_true hc.1
            have hci := Nat.eq_of_beq_eq_true hc.2
            obtain ⟨ci2, vs⟩ := o
            dsimp only at hci
            subst hci
            split at h
            · next v hv =>
              obtain rfl := Option.some.inj h
              obtain ⟨q, h1, h2, h3⟩ := hx_w_get hO hj
              have hw : (fx_w ps mem)[j]? = some (fx_ad ps j, .inr (ci2, vs.map (fx_v ps))) := by rw [h2]; exact h3
              have hv2 : (vs.map (fx_v ps))[k]? = some (fx_v ps v) := by rw [List.getElem?_map, hv]; rfl
              have fin := kk H locs ls hO hP hD hS hl
              have hr := hlk _ (rk_lk_mem hlk1)
              show rk_KW p l e R s m args below meth c Q pc ls (.ref (fx_ad ps j) :: r.map (fx_v ps)) H locs 0 0
              rcases (show kd = 0 ∨ kd = 1 ∨ kd = 2 by omega) with rfl | rfl | rfl
              · obtain ⟨q, hq, hkN, hm⟩ := hr
                exact va_get (C := q.1) (T := q.2.1) (N := q.2.2) hx hb hts (hcl _ _ hq).1 hown hK hP j hw hq k hkN (hts _ hm) (fun _ h9 => h9) hv2 hdg fin
              · obtain ⟨q, host, hq, hkN, hm⟩ := hr
                exact va_getN (C := q.1) (T := q.2.1) (N := q.2.2) hx hb hts (hcl _ _ hq).1 hown hK hP j hw hq k hkN (va_Nw.use rfl (hxw _ hm)) (fun _ h9 => h9) hv2 hdg fin
              · obtain ⟨q, hq, hkN, hm, -⟩ := hr
                exact va_get (C := q.1) (T := q.2.1) (N := q.2.2) hx hb hts (hcl _ _ hq).1 hown hK hP j hw hq k hkN (hts _ hm) (fun _ h9 => h9) hv2 hdg fin
            · exact fx_nos h
        · exact fx_nos h
      · exact fx_nos h
  case putfield idx =>
    simp [rk_len] at hlen; subst hlen
    change (match rk_lk M.2.2.1 idx with
      | some q => fx_pf fty (pc + 3) q.1 q.2.1 q.2.2
      | none => fx_none) lc stk mem = some zz at h
    cases hlk1 : rk_lk M.2.2.1 idx with
    | none => rw [hlk1] at h; exact fx_nos h
    | some q =>
      rw [hlk1] at h
      obtain ⟨kd, ci, k⟩ := q
      change fx_pf fty (pc + 3) kd ci k lc stk mem = some zz at h
      unfold fx_pf at h
      split at h
      · next v j r =>
        split at h
        · next o ft hj hft =>
          obtain ⟨hc, rfl⟩ := fx_if_inv h
          rw [Bool.and_eq_true, Bool.and_eq_true, Bool.and_eq_true, Bool.and_eq_true] at hc
          obtain ⟨c1, c2, c3, c4, c5⟩ := hc
          have hkd := Nat.le_of_ble_eq_true c1
          have hci := Nat.eq_of_beq_eq_true c2
          have hkl : k < o.2.length := Nat.le_of_ble_eq_true c3
          have hft2 : ft.2 = false := by
            cases hz : ft.2 with
            | false => rfl
            | true => rw [hz] at c5; cases c5
          obtain ⟨ci2, vs⟩ := o
          dsimp only at hci hkl hj
          subst hci
          obtain ⟨hv1, hn, hfi⟩ := fx_vt_ok (ps := ps) c4
          obtain ⟨q, h1, h2, h3⟩ := hx_w_get hO hj
          have hw : (fx_w ps mem)[j]? = some (fx_ad ps j, .inr (ci2, vs.map (fx_v ps))) := by rw [h2]; exact h3
          have eset : fx_w ps (mem.set j (.inl (ci2, vs.set k v))) = (fx_w ps mem).set j (fx_ad ps j, .inr (ci2, (vs.map (fx_v ps)).set k v)) := by
            rw [fx_w_set ps mem j _ q h1, h2]
            show (fx_w ps mem).set j (q.1, .inr (ci2, (vs.set k v).map (fx_v ps))) = _
            rw [List.map_set, hv1]
          have fin : ∀ (H1 : Heap) (locs1 : List Loc), va_P D cl ((fx_w ps mem).set j (fx_ad ps j, .inr (ci2, (vs.map (fx_v ps)).set k v))) H1 → va_D Ad ((fx_w ps mem).set j (fx_ad ps j, .inr (ci2, (vs.map (fx_v ps)).set k v))) → va_S Ad s.heap H1 locs1 → rk_KW p l e R s m args below meth c Q (pc + 3) ls (r.map (fx_v ps)) H1 locs1 0 0 := fun H1 locs1 g1 g2 g3 => kk H1 locs1 ls (hx_ok_obj hO _ _) (by rw [eset]; exact g1) (by rw [eset]; exact g2) g3 hl
          show rk_KW p l e R s m args below meth c Q pc ls (fx_v ps v :: .ref (fx_ad ps j) :: r.map (fx_v ps)) H locs 0 0
          rw [hv1]
          have hr := hlk _ (rk_lk_mem hlk1)
          obtain ⟨tf, htf, htk⟩ := Option.bind_eq_some_iff.mp hft
          have hkl2 : k < (vs.map (fx_v ps)).length := by rw [List.length_map]; exact hkl
          rcases (show kd = 0 ∨ kd = 1 by omega) with rfl | rfl
          · obtain ⟨q, hq, hkN, hm1⟩ := hr
            obtain ⟨d1, d2, -, tf', htf', hlenT, hT2⟩ := hcl _ _ hq
            cases htf.symm.trans htf'
            obtain ⟨t1, t2⟩ := hT2 k ft htk
            exact va_put (C := q.1) (T := q.2.1) (N := q.2.2) hx hb hts d1 _ (rk_ty hlenT hT2) d2 hown hK hP hD hS j hw hq k hkN (hts _ hm1) (fun _ h9 => h9) (t2.trans hft2) t1 hn hfi hkl2 hdg fin
          · obtain ⟨q, host, hq, hkN, hm1⟩ := hr
            obtain ⟨d1, d2, -, tf', htf', hlenT, hT2⟩ := hcl _ _ hq
            cases htf.symm.trans htf'
            obtain ⟨t1, t2⟩ := hT2 k ft htk
            exact va_putN (C := q.1) (T := q.2.1) (N := q.2.2) hx hb hts d1 _ (rk_ty hlenT hT2) d2 hown hK hP hD hS j hw hq k hkN (va_Nw.use rfl (hxw _ hm1)) (fun _ h9 => h9) (t2.trans hft2) t1 hn hfi hkl2 hdg fin
        · exact fx_nos h
      · exact fx_nos h
  case iaload =>
    simp [rk_len] at hlen; subst hlen
    change fx_ia (pc + 1) lc stk mem = some zz at h
    unfold fx_ia at h
    split at h
    · next i j r =>
      split at h
      · next n f hj =>
        obtain ⟨hc, rfl⟩ := fx_if_inv h
        obtain ⟨q, h1, h2, h3, h4⟩ := hx_arr hF hO hj
        show rk_KW p l e R s m args below meth c Q pc ls (.int i :: .ref (fx_ad ps j) :: r.map (fx_v ps)) H locs 0 0
        rw [h2]
        exact va_iald hx hb h4 hP j 0 h3 rfl (fx_in_ok hc) hdg (kk H locs ls hO hP hD hS hl)
      · exact fx_nos h
    · exact fx_nos h
  case baload =>
    simp [rk_len] at hlen; subst hlen
    change fx_ba (pc + 1) lc stk mem = some zz at h
    unfold fx_ba at h
    split at h
    · next i j r =>
      split at h
      · next n f hj =>
        obtain ⟨hc, rfl⟩ := fx_if_inv h
        obtain ⟨q, h1, h2, h3, h4⟩ := hx_arr hF hO hj
        show rk_KW p l e R s m args below meth c Q pc ls (.int i :: .ref (fx_ad ps j) :: r.map (fx_v ps)) H locs 0 0
        rw [h2]
        exact va_bald hx hb h4 hP j 0 h3 rfl (fx_in_ok hc) hdg (kk H locs ls hO hP hD hS hl)
      · exact fx_nos h
    · exact fx_nos h
  case laload =>
    simp [rk_len] at hlen; subst hlen
    change fx_la (pc + 1) lc stk mem = some zz at h
    unfold fx_la at h
    split at h
    · next i j r =>
      split at h
      · next n f hj =>
        obtain ⟨hc, rfl⟩ := fx_if_inv h
        obtain ⟨q, h1, h2, h3, h4⟩ := hx_arr hF hO hj
        show rk_KW p l e R s m args below meth c Q pc ls (.int i :: .ref (fx_ad ps j) :: r.map (fx_v ps)) H locs 0 0
        rw [h2]
        exact va_lald hx hb h4 hP j 0 h3 rfl (fx_in_ok hc) hdg (kk H locs ls hO hP hD hS hl)
      · exact fx_nos h
    · exact fx_nos h
  case iastore =>
    simp [rk_len] at hlen; subst hlen
    change fx_is (pc + 1) lc stk mem = some zz at h
    unfold fx_is at h
    split at h
    · next v i j r =>
      split at h
      · next n f hj =>
        obtain ⟨hc, rfl⟩ := fx_if_inv h
        obtain ⟨q, h1, h2, h3, h4⟩ := hx_arr hF hO hj
        have eset : fx_w ps (mem.set j (.inr (.int, n, .inl (upd f i.toNatClampNeg v)))) = (fx_w ps mem).set j (q.1, .inl (q.2, n, .inl (upd f i.toNatClampNeg v))) := fx_w_set ps mem j _ q h1
        show rk_KW p l e R s m args below meth c Q pc ls (.int v :: .int i :: .ref (fx_ad ps j) :: r.map (fx_v ps)) H locs 0 0
        rw [h2]
        refine va_iast hx hb h4 hP hD hS j 0 h3 rfl (fx_in_ok hc) hdg (fun H1 locs1 hP1 hD1 hS1 => ?_)
        exact kk H1 locs1 ls (hx_ok_arr hO hj) (by rw [eset]; exact hP1) (by rw [eset]; exact hD1) hS1 hl
      · exact fx_nos h
    · exact fx_nos h
  case bastore =>
    simp [rk_len] at hlen; subst hlen
    change fx_bs (pc + 1) lc stk mem = some zz at h
    unfold fx_bs at h
    split at h
    · next v i j r =>
      split at h
      · next n f hj =>
        obtain ⟨hc, rfl⟩ := fx_if_inv h
        obtain ⟨q, h1, h2, h3, h4⟩ := hx_arr hF hO hj
        have eset : fx_w ps (mem.set j (.inr (.byte, n, .inl (upd f i.toNatClampNeg v.toInt8.toInt32)))) = (fx_w ps mem).set j (q.1, .inl (q.2, n, .inl (upd f i.toNatClampNeg v.toInt8.toInt32))) := fx_w_set ps mem j _ q h1
        show rk_KW p l e R s m args below meth c Q pc ls (.int v :: .int i :: .ref (fx_ad ps j) :: r.map (fx_v ps)) H locs 0 0
        rw [h2]
        refine va_bast hx hb h4 hP hD hS j 0 h3 rfl (fx_in_ok hc) hdg (fun H1 locs1 hP1 hD1 hS1 => ?_)
        exact kk H1 locs1 ls (hx_ok_arr hO hj) (by rw [eset]; exact hP1) (by rw [eset]; exact hD1) hS1 hl
      · exact fx_nos h
    · exact fx_nos h
  case lastore =>
    simp [rk_len] at hlen; subst hlen
    change fx_ls (pc + 1) lc stk mem = some zz at h
    unfold fx_ls at h
    split at h
    · next v i j r =>
      split at h
      · next n f hj =>
        obtain ⟨hc, rfl⟩ := fx_if_inv h
        obtain ⟨q, h1, h2, h3, h4⟩ := hx_arr hF hO hj
        have eset : fx_w ps (mem.set j (.inr (.long, n, .inr (.inl (vp_updL f i.toNatClampNeg v))))) = (fx_w ps mem).set j (q.1, .inl (q.2, n, .inr (.inl (vp_updL f i.toNatClampNeg v)))) := fx_w_set ps mem j _ q h1
        show rk_KW p l e R s m args below meth c Q pc ls (.long v :: .int i :: .ref (fx_ad ps j) :: r.map (fx_v ps)) H locs 0 0
        rw [h2]
        refine va_last hx hb h4 hP hD hS j 0 h3 rfl (fx_in_ok hc) hdg (fun H1 locs1 hP1 hD1 hS1 => ?_)
        exact kk H1 locs1 ls (hx_ok_arr hO hj) (by rw [eset]; exact hP1) (by rw [eset]; exact hD1) hS1 hl
      · exact fx_nos h
    · exact fx_nos h
  case ldc idx =>
    simp [rk_len] at hlen; subst hlen
    change fx_ct (pc + 2) (tk_csti (rk_cst M.2.2.2.1 idx)) lc stk mem = some zz at h
    cases hc1 : rk_cst M.2.2.2.1 idx with
    | none => rw [hc1] at h; exact fx_nos h
    | some v =>
      rw [hc1] at h
      cases v with
      | int x =>
        obtain rfl := Option.some.inj h
        exact lv_ldc hx hb hown (hts _ ((hcs _ (rk_cst_mem hc1)).1 x rfl)) hdg (kk H locs ls hO hP hD hS hl)
      | _ => exact fx_nos h
  case ldc_w idx =>
    simp [rk_len] at hlen; subst hlen
    change fx_ct (pc + 3) (tk_csti (rk_cst M.2.2.2.1 idx)) lc stk mem = some zz at h
    cases hc1 : rk_cst M.2.2.2.1 idx with
    | none => rw [hc1] at h; exact fx_nos h
    | some v =>
      rw [hc1] at h
      cases v with
      | int x =>
        obtain rfl := Option.some.inj h
        exact lv_ldcw hx hb hown (hts _ ((hcs _ (rk_cst_mem hc1)).1 x rfl)) hdg (kk H locs ls hO hP hD hS hl)
      | _ => exact fx_nos h
  case ldc2_w idx =>
    simp [rk_len] at hlen; subst hlen
    change fx_ct (pc + 3) (tk_cstl (rk_cst M.2.2.2.1 idx)) lc stk mem = some zz at h
    cases hc1 : rk_cst M.2.2.2.1 idx with
    | none => rw [hc1] at h; exact fx_nos h
    | some v =>
      rw [hc1] at h
      cases v with
      | long x =>
        obtain rfl := Option.some.inj h
        exact lv_ldc2 hx hb hown (hts _ ((hcs _ (rk_cst_mem hc1)).2 x rfl)) hdg (kk H locs ls hO hP hD hS hl)
      | _ => exact fx_nos h
  case tableswitch dd lo hi offs =>
    change fx_tb pc dd lo hi offs.toList lc stk mem = some zz at h
    unfold fx_tb at h
    split at h
    · next x r =>
      obtain ⟨hc, rfl⟩ := fx_if_inv h
      rw [Bool.and_eq_true, decide_eq_true_eq, decide_eq_true_eq] at hc
      obtain ⟨hlen2, g1⟩ := hc
      have fin := kk H locs ls hO hP hD hS hl
      dsimp only [fx_to] at fin
      show rk_KW p l e R s m args below meth c Q pc ls (.int x :: r.map (fx_v ps)) H locs 0 0
      rcases tk_tp_ok dd x.toInt offs.toList lo with ⟨h1, h2⟩ | ⟨i, h1, h2⟩
      · rw [h2] at fin g1
        exact lv_tableOut (tgt := ((pc : Int) + dd).toNat) hx hb hdg (by omega) (by omega) fin
      · have hi2 : i < offs.toList.length := (List.getElem?_eq_some_iff.mp h2).1
        refine lv_tableIn (off := Op.lookupswitch.offset (tk_tp lo offs.toList) dd x.toInt) (tgt := ((pc : Int) + Op.lookupswitch.offset (tk_tp lo offs.toList) dd x.toInt).toNat) hx hb hdg (by omega) (by omega) ?_ (by omega) fin
        rw [show (x.toInt - lo).toNat = i from by omega]
        rw [Array.getElem?_toList] at h2
        exact h2
    · exact fx_nos h
  case lookupswitch dd sps =>
    change fx_lk pc dd sps.toList lc stk mem = some zz at h
    unfold fx_lk at h
    split at h
    · next x r =>
      obtain ⟨hc, rfl⟩ := fx_if_inv h
      rw [Bool.and_eq_true, decide_eq_true_eq] at hc
      obtain ⟨hsrt, g1⟩ := hc
      have fin := kk H locs ls hO hP hD hS hl
      dsimp only [fx_to] at fin
      show rk_KW p l e R s m args below meth c Q pc ls (.int x :: r.map (fx_v ps)) H locs 0 0
      refine lv_lookup (tgt := ((pc : Int) + Op.lookupswitch.offset sps.toList dd x.toInt).toNat) hx hb hdg ?_ rfl (by omega) fin
      exact hsrt
    · exact fx_nos h
  case invokestatic idx =>
    simp [rk_len] at hlen; subst hlen
    change (match rk_lk M.2.2.1 idx with
      | some q => fx_st q.1 q.2.1 (pc + 3)
      | none => fx_none) lc stk mem = some zz at h
    cases hlk1 : rk_lk M.2.2.1 idx with
    | none => rw [hlk1] at h; exact fx_nos h
    | some q =>
      rw [hlk1] at h
      obtain ⟨kd, f, k⟩ := q
      have hr := hlk _ (rk_lk_mem hlk1)
      have hsum : ∀ r : List Value, Nat.ble (fx_sum r) 8 = true → ((r.map (fx_v ps)).map fun v => v.category).sum ≤ 8 := fun r hr9 => by
        have := Nat.le_of_ble_eq_true hr9
        rw [List.map_map]
        have e9 : ((fun v : Value => v.category) ∘ fx_v ps) = (fun v : Value => v.category) := funext (fun v => fx_v_cat ps v)
        rw [e9]
        exact this
      change fx_st kd f (pc + 3) lc stk mem = some zz at h
      unfold fx_st at h
      cases e14 : Nat.beq kd 14 with
      | true =>
        rw [e14] at h
        obtain rfl := Nat.eq_of_beq_eq_true e14
        change fx_mx _ (pc + 3) lc stk mem = some zz at h
        unfold fx_mx at h
        split at h
        · next y x r =>
          obtain ⟨hc, rfl⟩ := fx_if_inv h
          obtain ⟨w1, w2, w3, w4⟩ := hr
          have hs8 := hsum r hc
          exact va_mmax hx hb (by rw [hml]; exact hl.1.symm) hown (hts _ w1) (hts _ w2) (hts _ w3) (hts _ w4) hfr (by omega) (Nat.zero_le _) (Nat.zero_le _) hdg (kk H locs ls hO hP hD hS hl)
        · exact fx_nos h
      | false =>
        rw [e14] at h
        dsimp only [cond] at h
        cases e15 : Nat.beq kd 15 with
        | true =>
          rw [e15] at h
          obtain rfl := Nat.eq_of_beq_eq_true e15
          change fx_mx _ (pc + 3) lc stk mem = some zz at h
          unfold fx_mx at h
          split at h
          · next y x r =>
            obtain ⟨hc, rfl⟩ := fx_if_inv h
            obtain ⟨w1, w2, w3, w4⟩ := hr
            have hs8 := hsum r hc
            exact va_mmin hx hb (by rw [hml]; exact hl.1.symm) hown (hts _ w1) (hts _ w2) (hts _ w3) (hts _ w4) hfr (by omega) (Nat.zero_le _) (Nat.zero_le _) hdg (kk H locs ls hO hP hD hS hl)
          · exact fx_nos h
        | false =>
          rw [e15] at h
          dsimp only [cond] at h
          cases e17 : Nat.beq kd 17 with
          | true =>
            rw [e17] at h
            obtain rfl := Nat.eq_of_beq_eq_true e17
            change fx_ab (pc + 3) lc stk mem = some zz at h
            unfold fx_ab at h
            split at h
            · next x r =>
              obtain ⟨hc, rfl⟩ := fx_if_inv h
              obtain ⟨w1, w2, w3, w4⟩ := hr
              have hs8 := hsum r hc
              exact va_mabs hx hb (by rw [hml]; exact hl.1.symm) hown (hts _ w1) (hts _ w2) (hts _ w3) (hts _ w4) hfr (by omega) (Nat.zero_le _) (Nat.zero_le _) hdg (kk H locs ls hO hP hD hS hl)
            · exact fx_nos h
          | false => rw [e17] at h; exact fx_nos h
  case bipush v9 =>
    change fx_pl M.2.1 pc (.bipush v9) lc stk mem = some zz at h
    unfold fx_pl at h
    split at h
    · next z9 hz9 =>
      obtain rfl := Option.some.inj h
      exact fx_pure_ok ps hx hb hdg hlen hz9 hl (fun ls' hl' => kk H locs ls' hO hP hD hS hl')
    · exact fx_nos h
  case iconst v9 =>
    change fx_pl M.2.1 pc (.iconst v9) lc stk mem = some zz at h
    unfold fx_pl at h
    split at h
    · next z9 hz9 =>
      obtain rfl := Option.some.inj h
      exact fx_pure_ok ps hx hb hdg hlen hz9 hl (fun ls' hl' => kk H locs ls' hO hP hD hS hl')
    · exact fx_nos h
  case lconst v9 =>
    change fx_pl M.2.1 pc (.lconst v9) lc stk mem = some zz at h
    unfold fx_pl at h
    split at h
    · next z9 hz9 =>
      obtain rfl := Option.some.inj h
      exact fx_pure_ok ps hx hb hdg hlen hz9 hl (fun ls' hl' => kk H locs ls' hO hP hD hS hl')
    · exact fx_nos h
  case sipush v9 =>
    change fx_pl M.2.1 pc (.sipush v9) lc stk mem = some zz at h
    unfold fx_pl at h
    split at h
    · next z9 hz9 =>
      obtain rfl := Option.some.inj h
      exact fx_pure_ok ps hx hb hdg hlen hz9 hl (fun ls' hl' => kk H locs ls' hO hP hD hS hl')
    · exact fx_nos h
  all_goals
    (first
      | exact fx_nos (show (none : fx_R4) = some zz from h)
      | (change fx_pl M.2.1 pc _ lc stk mem = some zz at h
         unfold fx_pl at h
         split at h
         · next z9 hz9 =>
           obtain rfl := Option.some.inj h
           exact fx_pure_ok ps hx hb hdg hlen hz9 hl (fun ls' hl' => kk H locs ls' hO hP hD hS hl')
         · exact fx_nos h))
end HXM

/-- loads of references, lengths, copies of rows -/
def hx_ro (ty : FieldType) : Bool := match ty with
  | .object _ => true
  | .array _ => true
  | _ => false
def hx_aa (pc : Nat) (lc : fx_L) (stk : List Value) (mem : fx_M) : fx_R4 := match stk with
  | .int i :: .ref j :: r => (match mem[j]? with
    | some (.inr (ty, n, .inr (.inr (.inr (.inr f))))) => cond (fx_in i n && hx_ro ty) (some (pc, lc, va_rf (f i.toNatClampNeg) :: r, mem)) none
    | _ => none)
  | _ => none
def hx_al (pc : Nat) (lc : fx_L) (stk : List Value) (mem : fx_M) : fx_R4 := match stk with
  | .ref j :: r => (match mem[j]? with
    | some (.inr (_, z)) => some (pc, lc, .int (Int32.ofNat z.1) :: r, mem)
    | _ => none)
  | _ => none
def hx_cc (n dp sp : Int32) (n0 n1 : Nat) : Bool := (decide (0 ≤ n.toInt) && (decide (0 ≤ dp.toInt) && decide (0 ≤ sp.toInt))) && (decide (sp.toInt + n.toInt ≤ (n0 : Int)) && decide (dp.toInt + n.toInt ≤ (n1 : Int)))
def hx_cp (pc : Nat) (lc : fx_L) (stk : List Value) (mem : fx_M) : fx_R4 := match stk with
  | .int n :: .int dp :: .ref j1 :: .int sp :: .ref j0 :: r => (match mem[j0]?, mem[j1]? with
    | some (.inr (.int, n0, .inl f)), some (.inr (.int, n1, .inl g)) => cond (Nat.ble (fx_sum r) 8 && hx_cc n dp sp n0 n1) (some (pc, lc, r, mem.set j1 (.inr (.int, n1, .inl (va_cpy f g sp.toNatClampNeg dp.toNatClampNeg n.toNatClampNeg))))) none
    | some (.inr (.long, n0, .inr (.inl f))), some (.inr (.long, n1, .inr (.inl g))) => cond (Nat.ble (fx_sum r) 8 && hx_cc n dp sp n0 n1) (some (pc, lc, r, mem.set j1 (.inr (.long, n1, .inr (.inl (va_cpy f g sp.toNatClampNeg dp.toNatClampNeg n.toNatClampNeg)))))) none
    | _, _ => none)
  | _ => none
theorem hx_cc_ok {n dp sp : Int32} {n0 n1 : Nat} (h : hx_cc n dp sp n0 n1 = true) : ¬ sp < 0 ∧ ¬ dp < 0 ∧ ¬ n < 0 ∧ sp.toNatClampNeg + n.toNatClampNeg ≤ n0 ∧ dp.toNatClampNeg + n.toNatClampNeg ≤ n1 := by
  unfold hx_cc at h
  rw [Bool.and_eq_true, Bool.and_eq_true, Bool.and_eq_true, Bool.and_eq_true, decide_eq_true_eq, decide_eq_true_eq, decide_eq_true_eq, decide_eq_true_eq, decide_eq_true_eq] at h
  obtain ⟨⟨h1, h2, h3⟩, h4, h5⟩ := h
  have z0 : (0 : Int32).toInt = 0 := rfl
  have e1 : sp.toNatClampNeg = sp.toInt.toNat := rfl
  have e2 : dp.toNatClampNeg = dp.toInt.toNat := rfl
  have e3 : n.toNatClampNeg = n.toInt.toNat := rfl
  refine ⟨fun q => ?_, fun q => ?_, fun q => ?_, by omega, by omega⟩
  all_goals
    have q2 := Int32.lt_iff_toInt_lt.mp q
    omega
theorem hx_rf (ps : fx_P) (o : Option Nat) : va_rf (o.map (fx_ad ps)) = fx_v ps (va_rf o) := by cases o <;> rfl
end MH17_6
section MH17_7
/-! ===== hx: calls, runs, and what they say of the machine ===== -/
def hx_cv (mci : List Nat) (call : fx_Ca) (pc f n : Nat) (lc : fx_L) (stk : List Value) (mem : fx_M) : fx_R4 := match fx_pops n [] stk with
  | some (as, .ref j :: r) => (match mem[j]? with
    | some (.inl o) => cond (Nat.ble (fx_sum r) 8 && decide (mci[f]? = some o.1)) (fx_aft pc lc r (call f (.ref j :: as) mem)) none
    | _ => none)
  | _ => none
def hx_step (call : fx_Ca) (fty : rk_F) (mci : List Nat) (M : rk_M2) (pc : Nat) (ins : Instr) (lc : fx_L) (stk : List Value) (mem : fx_M) : fx_R4 := match ins with
  | .invokevirtual idx => (match rk_lk M.2.2.1 idx with
    | some q => cond (Nat.beq q.1 5 || Nat.beq q.1 6) (hx_cv mci call (pc + 3) q.2.1 q.2.2 lc stk mem) none
    | none => none)
  | .invokestatic idx => (match rk_lk M.2.2.1 idx with
    | some q => cond (Nat.beq q.1 7 || Nat.beq q.1 8) (fx_cs call (pc + 3) q.2.1 q.2.2 lc stk mem) (cond (Nat.beq q.1 12) (hx_cp (pc + 3) lc stk mem) (fx_mem fty M pc (.invokestatic idx) lc stk mem))
    | none => none)
  | .aaload => hx_aa (pc + 1) lc stk mem
  | .arraylength => hx_al (pc + 1) lc stk mem
  | ins => fx_mem fty M pc ins lc stk mem
def hx_run (call : fx_Ca) (fty : rk_F) (mci : List Nat) (M : rk_M2) : Nat → Nat → fx_L → List Value → fx_M → Option (Option Value × fx_M)
  | 0, _, _, _, _ => none
  | n + 1, pc, lc, stk, mem => match tk_at M.1 pc with
    | none => none
    | some q => cond (rk_len q.2.1 q.2.2) (match fx_end M.2.2.2.2.1 q.2.1 stk with
      | some (some v) => some (v, mem)
      | some none => none
      | none => (match hx_step call fty mci M pc q.2.1 lc stk mem with
        | some z => hx_run call fty mci M n z.1 z.2.1 z.2.2.1 z.2.2.2
        | none => none)) none
def hx_call (fty : rk_F) (mci : List Nat) (P : List rk_M2) (N : Nat) : Nat → fx_Ca
  | 0 => fun _ _ _ => none
  | d + 1 => fun f as mem => match P[f]? with
    | none => none
    | some M => cond (Nat.ble M.2.1 21 && Nat.ble (fx_sum as) M.2.1) (hx_run (hx_call fty mci P N d) fty mci M N 0 (lv_args 0 as) [] mem) none
section HFXR
variable {l : Launch} {D : va_G} {xt : tk_XT}
def hx_Pre (D : va_G) (xt : tk_XT) (ps : fx_P) (mem : fx_M) (sz : Nat) (as : List Value) : Array Value → State → Prop := fun v U => v = (as.map (fx_v ps)).toArray ∧ U.heap.size = sz ∧ va_P D gk_cl (fx_w ps mem) U.heap ∧ va_K D gk_cl [] U ∧ va_D (fun _ => True) (fx_w ps mem) ∧ hx_ok U ps mem ∧ (∀ w ∈ gk_xw, va_Nw w U) ∧ xt (va_A (fx_w ps mem) sz) U U.heap
def hx_Post (D : va_G) (ps : fx_P) (mem : fx_M) (r : Option Value) (Ad : Nat → Prop) : Array Value → State → Outcome → State → Prop := fun _ st oc t => (oc = .returned (r.map (fx_v ps)) ∧ hx_ok t ps mem ∧ va_P D gk_cl (fx_w ps mem) t.heap ∧ va_D Ad (fx_w ps mem)) ∧ va_F Ad st t
theorem hx_ok_moved {u U : State} (hvm : u.vm.Alike U.vm) {ps : fx_P} {mem : fx_M} (h : hx_ok u ps mem) : hx_ok U ps mem := ⟨h.1, fun j q ty z h1 h2 => by
  obtain ⟨g1, g2⟩ := h.2 j q ty z h1 h2
  exact ⟨arrOfT_moved hvm g1, g2.moved hvm⟩⟩
theorem hx_blind {xt : tk_XT} {D : va_G} (hxt : tk_xtok xt) {ps : fx_P} {mem : fx_M} {sz : Nat} {as : List Value} (hxo : rk_xok gk_xw) : FrameBlind (hx_Pre D xt ps mem sz as) := by
  intro a U g mk q
  obtain ⟨h1, h2, h3, h4, h5, h6, h7, h8⟩ := q
  exact ⟨h1, h2, h3, va_K.moved (u := U) (U := U.calling g mk a) (Vm.Alike.refl U.vm) h4, h5, hx_ok_moved (u := U) (U := U.calling g mk a) (Vm.Alike.refl U.vm) h6, rk_xw_same hxo (s := U) (U := U.calling g mk a) rfl h7, hxt.1 _ U (U.calling g mk a) _ rfl h8⟩
def hx_SC (l : Launch) (D : va_G) (xt : tk_XT) (d : Nat) (call : fx_Ca) : Prop := ∀ (f : Nat) (as : List Value) (mem mem' : fx_M) (r : Option Value), call f as mem = some (r, mem') → ∀ q : rk_N, gk_MN[f]? = some q → ∃ M, gk_P[f]? = some M ∧ M.2.1 ≤ 21 ∧ ∀ (ps : fx_P) (sz : Nat), Met l q.2.1 (Jvm.Cond.code q.2.1 q.2.2 M.2.1 M.2.2.2.2.1 :: gk_tbl) { frames := d + 4, cells := 0, slots := 0, locals := 40 * (d + 4) } (hx_Pre D xt ps mem sz as) (hx_Post D ps mem' r (va_A (fx_w ps mem) sz)) 0 0 (va_A (fx_w ps mem) sz)
end HFXR
section HFXB
variable {p : Program} {l : Launch} {e : Env} {R : Room} {s : State} {m : MethodId} {args : Array Value} {below : List Frame} {meth : Method} {c : Code} {Q : State → Prop} {cc : ByteArray} {D : va_G} {Ad : Nat → Prop} {xt : tk_XT} {own : String}
theorem hx_back {ps : fx_P} {mem mem' : fx_M} {r : Option Value} {H : Heap} {locs : List Loc} {ls : Array Slot} {st0 rest : List Value} {pc : Nat} {as : Array Value} (hA : ∀ q, s.heap.size ≤ q → Ad q) (hD : va_D Ad (fx_w ps mem)) (hS : va_S Ad s.heap H locs)
    (hr : va_Run p l e R s m args below meth c H locs 0 0 0 0 (F0 m pc ls st0) rest (hx_Post D ps mem' r (va_A (fx_w ps mem) H.size) as) (va_A (fx_w ps mem) H.size))
    (kk : ∀ (H' : Heap) (locs' : List Loc), hx_ok s ps mem' → va_P D gk_cl (fx_w ps mem') H' → va_D Ad (fx_w ps mem') → va_S Ad s.heap H' locs' → rk_KW p l e R s m args below meth c Q (pc + 3) ls ((r.map (fx_v ps)).toList ++ rest) H' locs' 0 0) : rk_KW p l e R s m args below meth c Q pc ls st0 H locs 0 0 := by
  have hsub : ∀ q, va_A (fx_w ps mem) H.size q → Ad q := by
    rintro q (⟨k, e1, hk⟩ | hq)
    · exact hD.2 k _ hk
    · exact hA q (Nat.le_trans hS.1 hq)
  intro T hT X
  obtain ⟨v, st₀, t, T', L, h0, X', hLf, e1, e2, ⟨⟨b1, b2, b3, b4⟩, hF⟩, go⟩ := hr T hT X
  have hal : t.vm.Alike s.vm := by rw [← e2]; exact X'.warmed.alike.symm
  have hS1 : va_S Ad s.heap t.heap (locs ++ L) := by
    refine ⟨Nat.le_trans hS.1 (by rw [← h0]; exact hF.1), fun q hq hn => ?_, fun z hz => ?_⟩
    · rw [hF.2 q (by rw [h0]; exact Nat.lt_of_lt_of_le hq hS.1) (fun z => hn (hsub q z)), h0]
      exact hS.2.1 q hq hn
    · rcases List.mem_append.mp hz with z1 | z1
      · exact hS.2.2 z z1
      · exact hsub _ (hLf z z1)
  have hv : v = r.map (fx_v ps) := Outcome.returned.inj b1
  subst hv
  obtain ⟨t2, c1, c2⟩ := kk t.heap (locs ++ L) (hx_ok_moved hal b2) b3 (b4.weaken (fun _ _ _ z => hsub _ z)) hS1 T' e1 X'
  exact ⟨t2, go t2 c1, c2⟩
theorem hx_pre (hxt : tk_xtok xt) {ps : fx_P} {mem : fx_M} {H : Heap} {locs : List Loc} {as : List Value} (hXt : xt Ad s s.heap) (hA : ∀ q, s.heap.size ≤ q → Ad q) (hS : va_S Ad s.heap H locs) (hxo : rk_xok gk_xw) (hxw : ∀ w ∈ gk_xw, va_Nw w s) (hK : va_K D gk_cl [] s) (hO : hx_ok s ps mem) (hP : va_P D gk_cl (fx_w ps mem) H) (hD : va_D Ad (fx_w ps mem)) (U : State) (hU : U.heap = H) (hW : s.WarmedH U.vm) : hx_Pre D xt ps mem H.size as (as.map (fx_v ps)).toArray U :=
  ⟨rfl, by rw [hU], by rw [hU]; exact hP, va_K.moved hW.alike hK, hD.weaken (fun _ _ _ _ => trivial), hx_ok_moved hW.alike hO, rk_xw_warm hxo hW hxw, by
    rw [hU]
    refine hxt.2.1 _ _ _ _ hW (hxt.2.2 _ _ _ _ _ hXt (fun a ha hn => hS.2.1 a ha hn) ?_)
    rintro q (⟨k, e1, hk⟩ | hq)
    · exact hD.2 k _ hk
    · exact hA q (Nat.le_trans hS.1 hq)⟩
set_option maxHeartbeats 8000000 in
theorem hx_step_ok (hxt : tk_xtok xt) {M : rk_M2} (hkk : ∀ r ∈ M.2.2.1, rk_kok gk_tbl own r) {ps : fx_P} (hXt : xt Ad s s.heap) (hok : rk_ok gk_tbl gk_xw gk_cl gk_fty gk_cln gk_MN gk_mci gk_P) (hx : p.tables.exec = Jvm.exec) (hb : c.code = cc) (hml : c.maxLocals = M.2.1) (hF : rk_Fr s m args meth D gk_cl Ad gk_tbl gk_xw gk_fty gk_cln own M.2.2.1 M.2.2.2.1) (hck : ∀ r ∈ M.2.2.1, rk_cok gk_tbl gk_xw gk_MN gk_P own r) {d : Nat} {call : fx_Ca} (hcall : hx_SC l D xt d call) (hfr : d + 5 ≤ R.frames) (hlo : 40 * (d + 5) ≤ R.locals) {pc : Nat} {ins : Instr} {len : Nat} (hdg : decode cc pc = .ok (ins, len)) (hlen : rk_len ins len = true) {lc : fx_L} {stk : List Value} {mem : fx_M} {zz : Nat × fx_L × List Value × fx_M} (h : hx_step call gk_fty gk_mci M pc ins lc stk mem = some zz) (hO : hx_ok s ps mem) {H : Heap} {locs : List Loc} {ls : Array Slot} (hP : va_P D gk_cl (fx_w ps mem) H) (hD : va_D Ad (fx_w ps mem)) (hS : va_S Ad s.heap H locs) (hl : lv_has ls M.2.1 (fx_lm ps lc)) (kk : ∀ (H' : Heap) (locs' : List Loc) (ls' : Array Slot), hx_ok s ps zz.2.2.2 → va_P D gk_cl (fx_w ps zz.2.2.2) H' → va_D Ad (fx_w ps zz.2.2.2) → va_S Ad s.heap H' locs' → lv_has ls' M.2.1 (fx_lm ps zz.2.1) → rk_KW p l e R s m args below meth c Q zz.1 ls' (zz.2.2.1.map (fx_v ps)) H' locs' 0 0) : rk_KW p l e R s m args below meth c Q pc ls (stk.map (fx_v ps)) H locs 0 0 := by
  have hbase : fx_mem gk_fty M pc ins lc stk mem = some zz → rk_KW p l e R s m args below meth c Q pc ls (stk.map (fx_v ps)) H locs 0 0 := fun h2 => hx_mem_ok hx hb hml hF (by omega) (by omega) hdg hlen h2 hO hP hD hS hl kk
  obtain ⟨hgw, hxo, -, -, hlenM, hmok, hmci⟩ := hok
  have hF0 := hF
  obtain ⟨hts, hxw, hown, hK, hA, hcl, hlk, hini, hac, hcs⟩ := hF0
  have hfix : CallFix p m c cc M.2.1 s args gk_tbl own := ⟨hx, hb, hml, hown, hts⟩
  cases ins
  case invokevirtual idx =>
    simp [rk_len] at hlen; subst hlen
    change (match rk_lk M.2.2.1 idx with
      | some q => cond (Nat.beq q.1 5 || Nat.beq q.1 6) (hx_cv gk_mci call (pc + 3) q.2.1 q.2.2 lc stk mem) none
      | none => none) = some zz at h
    split at h
    · next q9 hlk1 =>
      obtain ⟨kd, f, n⟩ := q9
      cases hkd : (Nat.beq kd 5 || Nat.beq kd 6) with
      | false => rw [hkd] at h; exact fx_nos h
      | true =>
        rw [hkd] at h
        change hx_cv gk_mci call (pc + 3) f n lc stk mem = some zz at h
        have hkd2 : kd = 5 ∨ kd = 6 := by
          rw [Bool.or_eq_true] at hkd
          exact hkd.imp Nat.eq_of_beq_eq_true Nat.eq_of_beq_eq_true
        unfold hx_cv at h
        split at h
        · next as j r hpop =>
          split at h
          · next o hj =>
            cases hcn : (Nat.ble (fx_sum r) 8 && decide (gk_mci[f]? = some o.1)) with
            | false => rw [hcn] at h; exact fx_nos h
            | true =>
              rw [hcn] at h
              change fx_aft (pc + 3) lc r (call f (.ref j :: as) mem) = some zz at h
              rw [Bool.and_eq_true] at hcn
              have hsum := Nat.le_of_ble_eq_true hcn.1
              have hci := of_decide_eq_true hcn.2
              unfold fx_aft at h
              split at h
              · next x hcl1 =>
                obtain ⟨r9, mem9⟩ := x
                obtain rfl := Option.some.inj h
                obtain ⟨v2, rfl, rfl, hn⟩ := fx_pops_ok n hpop
                rw [List.append_nil] at hcl1
                obtain ⟨q, h1, h2, h3⟩ := hx_w_get hO hj
                obtain ⟨ci, vs⟩ := o
                have hw : (fx_w ps mem)[j]? = some (fx_ad ps j, .inr (ci, vs.map (fx_v ps))) := by rw [h2]; exact h3
                have hck1 := hck _ (rk_lk_mem hlk1)
                rw [← fx_sum_lm ps] at hsum
                have hstk : ((v2.reverse ++ .ref j :: r).map (fx_v ps)) = (v2.map (fx_v ps)).reverse ++ (.ref (fx_ad ps j) :: r.map (fx_v ps)) := by
                  rw [List.map_append, List.map_reverse]
                  rfl
                rw [hstk]
                have kk2 : ∀ (H' : Heap) (locs' : List Loc), hx_ok s ps mem9 → va_P D gk_cl (fx_w ps mem9) H' → va_D Ad (fx_w ps mem9) → va_S Ad s.heap H' locs' → rk_KW p l e R s m args below meth c Q (pc + 3) ls ((r9.map (fx_v ps)).toList ++ r.map (fx_v ps)) H' locs' 0 0 := fun H' locs' g1 g2 g3 g4 => by
                  have := kk H' locs' ls g1 g2 g3 g4 hl
                  cases r9 with
                  | none => exact this
                  | some v9 => exact this
                rcases hkd2 with rfl | rfl
                · obtain ⟨q, hq, w1, w2, w3, w4⟩ := hck1
                  obtain ⟨M', hM, hM21, hmet⟩ := hcall f _ _ _ _ hcl1 q hq
                  obtain ⟨m1, m2, m3, m4, m5, -⟩ := hmok f q M' hq hM
                  obtain ⟨kq, hkq, -⟩ := hP j _ hw
                  have hkn := hmci f ci q kq hci hq hkq
                  have hrecv := va_recv hK hP hkq hw
                  rw [hkn] at hrecv
                  refine hx_back (as := ((Value.ref j :: v2).map (fx_v ps)).toArray) hA hD hS ?_ kk2
                  exact va_runV (C := q.1) (As := v2.map (fx_v ps)) hfix (hmet ps H.size) ⟨callB_of n hts (rk_good hgw m4) rfl rfl rfl (hts _ m5) (hts _ w1) ⟨m3.1, m3.2, w4⟩ ⟨hfr, by show 8 + (M'.2.1 + 11) + 40 * (d + 4) ≤ R.locals; omega⟩, hts _ w2, hts _ w3⟩ ⟨hx_blind hxt hxo, hrecv, fun U hU hW => hx_pre hxt hXt hA hS hxo hxw hK hO hP hD U hU hW⟩ rfl (by rw [List.length_map]; exact hn) hl.1 rfl (lv_room hsum) hdg ⟨Nat.zero_le _, Nat.zero_le _⟩
                · obtain ⟨q, host, hq, w1, w2, w3, w4⟩ := hck1
                  obtain ⟨M', hM, hM21, hmet⟩ := hcall f _ _ _ _ hcl1 q hq
                  obtain ⟨m1, m2, m3, m4, m5, -⟩ := hmok f q M' hq hM
                  obtain ⟨kq, hkq, -⟩ := hP j _ hw
                  have hkn := hmci f ci q kq hci hq hkq
                  have hrecv := va_recv hK hP hkq hw
                  rw [hkn] at hrecv
                  refine hx_back (as := ((Value.ref j :: v2).map (fx_v ps)).toArray) hA hD hS ?_ kk2
                  exact va_runVN (C := q.1) (As := v2.map (fx_v ps)) hfix (hmet ps H.size) ⟨va_cnB n hts (rk_good hgw m4) rfl rfl rfl (hxw _ w1) (hts _ m5) ⟨m3.1, m3.2, w4⟩ ⟨hfr, by show 8 + (M'.2.1 + 11) + 40 * (d + 4) ≤ R.locals; omega⟩, hts _ w2, hts _ w3⟩ ⟨hx_blind hxt hxo, hrecv, fun U hU hW => hx_pre hxt hXt hA hS hxo hxw hK hO hP hD U hU hW⟩ rfl (by rw [List.length_map]; exact hn) hl.1 rfl (lv_room hsum) hdg ⟨Nat.zero_le _, Nat.zero_le _⟩
              · exact fx_nos h
          · exact fx_nos h
        · exact fx_nos h
    · exact fx_nos h
  case invokestatic idx =>
    change (match rk_lk M.2.2.1 idx with
      | some q => cond (Nat.beq q.1 7 || Nat.beq q.1 8) (fx_cs call (pc + 3) q.2.1 q.2.2 lc stk mem) (cond (Nat.beq q.1 12) (hx_cp (pc + 3) lc stk mem) (fx_mem gk_fty M pc (.invokestatic idx) lc stk mem))
      | none => none) = some zz at h
    split at h
    · next q9 hlk1 =>
      obtain ⟨kd, f, n⟩ := q9
      cases hkd : (Nat.beq kd 7 || Nat.beq kd 8) with
      | false =>
        rw [hkd] at h
        cases h12 : Nat.beq kd 12 with
        | false =>
          dsimp only [cond] at h
          rw [h12] at h
          exact hbase h
        | true =>
          dsimp only [cond] at h
          rw [h12] at h
          change hx_cp (pc + 3) lc stk mem = some zz at h
          simp [rk_len] at hlen; subst hlen
          obtain rfl := Nat.eq_of_beq_eq_true h12
          obtain ⟨w1, w2, w3, w4⟩ := hkk _ (rk_lk_mem hlk1) rfl
          have hnf : nativeFrameWords "java/lang/System" "arraycopy" 5 ≤ 20 := by decide +kernel
          unfold hx_cp at h
          split at h
          · next n9 dp j1 sp j0 r =>
            split at h
            · next n0 f9 n1 g9 hj0 hj1 =>
              obtain ⟨hc, rfl⟩ := fx_if_inv h
              rw [Bool.and_eq_true] at hc
              have hsum := Nat.le_of_ble_eq_true hc.1
              rw [← fx_sum_lm ps] at hsum
              obtain ⟨c1, c2, c3, c4, c5⟩ := hx_cc_ok hc.2
              obtain ⟨q0, a1, a2, a3, a4⟩ := hx_arr hF hO hj0
              obtain ⟨q1, b1, b2, b3, b4⟩ := hx_arr hF hO hj1
              have eset : fx_w ps (mem.set j1 (.inr (.int, n1, .inl (va_cpy f9 g9 sp.toNatClampNeg dp.toNatClampNeg n9.toNatClampNeg)))) = (fx_w ps mem).set j1 (q1.1, .inl (q1.2, n1, .inl (va_cpy f9 g9 sp.toNatClampNeg dp.toNatClampNeg n9.toNatClampNeg))) := fx_w_set ps mem j1 _ q1 b1
              show rk_KW p l e R s m args below meth c Q pc ls (.int n9 :: .int dp :: .ref (fx_ad ps j1) :: .int sp :: .ref (fx_ad ps j0) :: r.map (fx_v ps)) H locs 0 0
              rw [a2, b2]
              refine va_copyi (ty := .int) hx hb (by rw [hml]; exact hl.1.symm) hown (hts _ w1) (hts _ w2) (hts _ w3) (hts _ w4) (a4.app b4) hP hD hS j0 j1 0 1 a3 b3 rfl rfl rfl c1 c2 c3 c4 c5 (fun _ _ => rfl) (by omega) (by omega) hdg (fun H1 locs1 hP1 hD1 hS1 => ?_)
              exact kk H1 locs1 ls (hx_ok_arr hO hj1) (by rw [eset]; exact hP1) (by rw [eset]; exact hD1) hS1 hl
            · next n0 f9 n1 g9 hj0 hj1 =>
              obtain ⟨hc, rfl⟩ := fx_if_inv h
              rw [Bool.and_eq_true] at hc
              have hsum := Nat.le_of_ble_eq_true hc.1
              rw [← fx_sum_lm ps] at hsum
              obtain ⟨c1, c2, c3, c4, c5⟩ := hx_cc_ok hc.2
              obtain ⟨q0, a1, a2, a3, a4⟩ := hx_arr hF hO hj0
              obtain ⟨q1, b1, b2, b3, b4⟩ := hx_arr hF hO hj1
              have eset : fx_w ps (mem.set j1 (.inr (.long, n1, .inr (.inl (va_cpy f9 g9 sp.toNatClampNeg dp.toNatClampNeg n9.toNatClampNeg))))) = (fx_w ps mem).set j1 (q1.1, .inl (q1.2, n1, .inr (.inl (va_cpy f9 g9 sp.toNatClampNeg dp.toNatClampNeg n9.toNatClampNeg)))) := fx_w_set ps mem j1 _ q1 b1
              show rk_KW p l e R s m args below meth c Q pc ls (.int n9 :: .int dp :: .ref (fx_ad ps j1) :: .int sp :: .ref (fx_ad ps j0) :: r.map (fx_v ps)) H locs 0 0
              rw [a2, b2]
              refine va_copyl (ty := .long) hx hb (by rw [hml]; exact hl.1.symm) hown (hts _ w1) (hts _ w2) (hts _ w3) (hts _ w4) (a4.app b4) hP hD hS j0 j1 0 1 a3 b3 rfl rfl rfl c1 c2 c3 c4 c5 (fun _ _ => rfl) (by omega) (by omega) hdg (fun H1 locs1 hP1 hD1 hS1 => ?_)
              exact kk H1 locs1 ls (hx_ok_arr hO hj1) (by rw [eset]; exact hP1) (by rw [eset]; exact hD1) hS1 hl
            · exact fx_nos h
          · exact fx_nos h
      | true =>
        simp [rk_len] at hlen; subst hlen
        rw [hkd] at h
        change fx_cs call (pc + 3) f n lc stk mem = some zz at h
        have hkd2 : kd = 7 ∨ kd = 8 := by
          rw [Bool.or_eq_true] at hkd
          exact hkd.imp Nat.eq_of_beq_eq_true Nat.eq_of_beq_eq_true
        unfold fx_cs at h
        split at h
        · next as r hpop =>
          cases hcn : Nat.ble (fx_sum r) 8 with
          | false => rw [hcn] at h; exact fx_nos h
          | true =>
            rw [hcn] at h
            change fx_aft (pc + 3) lc r (call f as mem) = some zz at h
            have hsum := Nat.le_of_ble_eq_true hcn
            unfold fx_aft at h
            split at h
            · next x hcl1 =>
              obtain ⟨r9, mem9⟩ := x
              obtain rfl := Option.some.inj h
              obtain ⟨v2, rfl, rfl, hn⟩ := fx_pops_ok n hpop
              rw [List.append_nil] at hcl1
              have hck1 := hck _ (rk_lk_mem hlk1)
              rw [← fx_sum_lm ps] at hsum
              have hstk : ((v2.reverse ++ r).map (fx_v ps)) = (v2.map (fx_v ps)).reverse ++ r.map (fx_v ps) := by
                rw [List.map_append, List.map_reverse]
              rw [hstk]
              have kk2 : ∀ (H' : Heap) (locs' : List Loc), hx_ok s ps mem9 → va_P D gk_cl (fx_w ps mem9) H' → va_D Ad (fx_w ps mem9) → va_S Ad s.heap H' locs' → rk_KW p l e R s m args below meth c Q (pc + 3) ls ((r9.map (fx_v ps)).toList ++ r.map (fx_v ps)) H' locs' 0 0 := fun H' locs' g1 g2 g3 g4 => by
                have := kk H' locs' ls g1 g2 g3 g4 hl
                cases r9 with
                | none => exact this
                | some v9 => exact this
              rcases hkd2 with rfl | rfl
              · obtain ⟨q, hq, w1, w2, w4⟩ := hck1
                obtain ⟨M', hM, hM21, hmet⟩ := hcall f _ _ _ _ hcl1 q hq
                obtain ⟨m1, m2, m3, m4, m5, -⟩ := hmok f q M' hq hM
                refine hx_back (as := (v2.map (fx_v ps)).toArray) hA hD hS ?_ kk2
                exact va_runS (As := v2.map (fx_v ps)) hfix (hmet ps H.size) ⟨callB_of n hts (rk_good hgw m4) rfl rfl rfl (hts _ m5) (hts _ w1) ⟨m3.1, m3.2, w4⟩ ⟨hfr, by show 8 + (M'.2.1 + 11) + 40 * (d + 4) ≤ R.locals; omega⟩, hts _ w2⟩ ⟨hx_blind hxt hxo, fun U hU hW => hx_pre hxt hXt hA hS hxo hxw hK hO hP hD U hU hW⟩ rfl (by rw [List.length_map]; exact hn) hl.1 rfl (lv_room hsum) hdg ⟨Nat.zero_le _, Nat.zero_le _⟩
              · obtain ⟨q, host, hq, w1, w2, w4⟩ := hck1
                obtain ⟨M', hM, hM21, hmet⟩ := hcall f _ _ _ _ hcl1 q hq
                obtain ⟨m1, m2, m3, m4, m5, -⟩ := hmok f q M' hq hM
                refine hx_back (as := (v2.map (fx_v ps)).toArray) hA hD hS ?_ kk2
                exact va_runSN (As := v2.map (fx_v ps)) hfix (hmet ps H.size) ⟨va_cnB n hts (rk_good hgw m4) rfl rfl rfl (hxw _ w1) (hts _ m5) ⟨m3.1, m3.2, w4⟩ ⟨hfr, by show 8 + (M'.2.1 + 11) + 40 * (d + 4) ≤ R.locals; omega⟩, hts _ w2, trivial⟩ ⟨hx_blind hxt hxo, fun U hU hW => hx_pre hxt hXt hA hS hxo hxw hK hO hP hD U hU hW⟩ rfl (by rw [List.length_map]; exact hn) hl.1 rfl (lv_room hsum) hdg ⟨Nat.zero_le _, Nat.zero_le _⟩
            · exact fx_nos h
        · exact fx_nos h
    · exact fx_nos h
  case aaload =>
    simp [rk_len] at hlen; subst hlen
    change hx_aa (pc + 1) lc stk mem = some zz at h
    unfold hx_aa at h
    split at h
    · next i j r =>
      split at h
      · next ty n f hj =>
        obtain ⟨hc, rfl⟩ := fx_if_inv h
        rw [Bool.and_eq_true] at hc
        obtain ⟨q, h1, h2, h3, h4⟩ := hx_arr hF hO hj
        show rk_KW p l e R s m args below meth c Q pc ls (.int i :: .ref (fx_ad ps j) :: r.map (fx_v ps)) H locs 0 0
        rw [h2]
        have fin := kk H locs ls hO hP hD hS hl
        have fin : rk_KW p l e R s m args below meth c Q (pc + 1) ls (va_rf ((f i.toNatClampNeg).map (fx_ad ps)) :: r.map (fx_v ps)) H locs 0 0 := by rw [hx_rf]; exact fin
        cases ty
        case object C => exact va_aldq hx hb h4 hP j 0 h3 rfl (fx_in_ok hc.1) hdg fin
        case array t => exact va_alda hx hb h4 hP j 0 h3 rfl (fx_in_ok hc.1) hdg fin
        all_goals cases hc.2
      · exact fx_nos h
    · exact fx_nos h
  case arraylength =>
    simp [rk_len] at hlen; subst hlen
    change hx_al (pc + 1) lc stk mem = some zz at h
    unfold hx_al at h
    split at h
    · next j r =>
      split at h
      · next ty z hj =>
        obtain rfl := Option.some.inj h
        obtain ⟨q, h1, h2, h3, h4⟩ := hx_arr hF hO hj
        show rk_KW p l e R s m args below meth c Q pc ls (.ref (fx_ad ps j) :: r.map (fx_v ps)) H locs 0 0
        rw [h2]
        exact va_alen hx hb h4 hP j 0 h3 rfl (v := Int32.ofNat z.1) (by
          show Int32.ofNat (fx_z ps z).1 = _
          unfold fx_z
          split <;> rfl) hdg (kk H locs ls hO hP hD hS hl)
      · exact fx_nos h
    · exact fx_nos h
  all_goals exact hbase h
/-- a run that ends: so does the machine -/
theorem hx_run_ok (hxt : tk_xtok xt) {M : rk_M2} (hkk : ∀ r ∈ M.2.2.1, rk_kok gk_tbl own r) {ps : fx_P} (hXt : xt Ad s s.heap) (hok : rk_ok gk_tbl gk_xw gk_cl gk_fty gk_cln gk_MN gk_mci gk_P) (hx : p.tables.exec = Jvm.exec) (hb : c.code = cc) (hlocks : meth.locks = false) (hr : meth.sig.returnType = M.2.2.2.2.1) (hml : c.maxLocals = M.2.1) (hins : ∀ r ∈ M.1, decode cc r.1 = .ok r.2) (hF : rk_Fr s m args meth D gk_cl Ad gk_tbl gk_xw gk_fty gk_cln own M.2.2.1 M.2.2.2.1) (hck : ∀ r ∈ M.2.2.1, rk_cok gk_tbl gk_xw gk_MN gk_P own r) {d : Nat} {call : fx_Ca} (hcall : hx_SC l D xt d call) (hfr : d + 5 ≤ R.frames) (hlo : 40 * (d + 5) ≤ R.locals) {rr : Option Value} {memE : fx_M} : ∀ (n pc : Nat) (lc : fx_L) (stk : List Value) (mem : fx_M), hx_run call gk_fty gk_mci M n pc lc stk mem = some (rr, memE) → hx_ok s ps mem → ∀ (H : Heap) (locs : List Loc) (ls : Array Slot), va_P D gk_cl (fx_w ps mem) H → va_D Ad (fx_w ps mem) → va_S Ad s.heap H locs → lv_has ls M.2.1 (fx_lm ps lc) → rk_KW p l e R s m args below meth c (MQ below (hx_Post D ps memE rr Ad) args s R.cells R.slots Ad) pc ls (stk.map (fx_v ps)) H locs 0 0 := by
  intro n
  induction n with
  | zero => intro pc lc stk mem h; exact fx_nos h
  | succ n ih =>
    intro pc lc stk mem h hO H locs ls hP hD hS hl
    unfold hx_run at h
    split at h
    · exact fx_nos h
    · next q hat =>
      obtain ⟨hmem, hpc⟩ := tk_at_ok hat
      obtain ⟨pc9, ins, len⟩ := q
      dsimp only at hpc
      subst hpc
      cases hlen : rk_len ins len with
      | false => dsimp only at h; rw [hlen] at h; exact fx_nos h
      | true =>
        dsimp only at h
        rw [hlen] at h
        dsimp only [cond] at h
        have hdg : decode cc pc9 = .ok (ins, len) := hins (pc9, ins, len) hmem
        have hpost : ∀ (v : Option Value), v = rr → mem = memE → ∀ t : State, t.heap = H → s.WarmedH t.vm → hx_Post D ps memE rr Ad args s (.returned (v.map (fx_v ps))) t := fun v e1 e2 t ht hW => by
          subst e1 e2
          exact ⟨⟨rfl, hx_ok_moved hW.alike hO, by rw [ht]; exact hP, hD⟩, hS.F ht⟩
        split at h
        · next v hend =>
          cases h
          refine W.widen (k := R.cells) (n := R.slots) (Nat.zero_le _) (Nat.zero_le _) ?_
          unfold fx_end at hend
          split at hend
          · split at hend
            · next h1 h2 =>
              cases hend
              simp [rk_len] at hlen; subst hlen
              exact W.vret hx hb (by rw [hr]; exact h2) (hpost none rfl rfl) hS.2.2 hdg
            · cases hend
          · split at hend
            · next x ty h2 =>
              cases hvt : fx_vt ty (.int x) with
              | false => rw [hvt] at hend; cases hend
              | true =>
                rw [hvt] at hend
                cases hend
                simp [rk_len] at hlen; subst hlen
                obtain ⟨-, hnr, hfi⟩ := fx_vt_ok (ps := ps) hvt
                have hrt : meth.sig.returnType = some ty := by rw [hr]; exact h2
                cases ty
                case int => exact W.iret hx hb hrt (hpost (some (.int x)) rfl rfl) hS.2.2 hdg
                case boolean => exact W.zret (ty := .boolean) hx hb hrt hnr (hpost (some (.int x)) rfl rfl) hS.2.2 hdg
                all_goals cases hvt
            · cases hend
          · split at hend
            · next x h2 =>
              cases hend
              simp [rk_len] at hlen; subst hlen
              exact W.lret hx hb (by rw [hr]; exact h2) (hpost (some (.long x)) rfl rfl) hS.2.2 hdg
            · cases hend
          · cases hend
        · exact fx_nos h
        · split at h
          · next z hz =>
            exact hx_step_ok hxt hkk hXt hok hx hb hml hF hck hcall hfr hlo hdg hlen hz hO hP hD hS hl (fun H' locs' ls' g1 g2 g3 g4 g5 => ih _ _ _ _ h g1 H' locs' ls' g2 g3 g4 g5)
          · exact fx_nos h
end HFXB
section HFXC
variable {l : Launch} {D : va_G} {xt : tk_XT}
set_option maxHeartbeats 4000000 in
theorem hx_call_ok (hxt : tk_xtok xt) (hok : rk_ok gk_tbl gk_xw gk_cl gk_fty gk_cln gk_MN gk_mci gk_P) (N : Nat) : ∀ d : Nat, hx_SC l D xt d (hx_call gk_fty gk_mci gk_P N d) := by
  intro d
  induction d with
  | zero => intro f as mem mem' r h; exact fx_nos h
  | succ d ih =>
    intro f as mem mem' r h q hq
    unfold hx_call at h
    split at h
    · exact fx_nos h
    · next M hM =>
      cases hc : (Nat.ble M.2.1 21 && Nat.ble (fx_sum as) M.2.1) with
      | false => rw [hc] at h; exact fx_nos h
      | true =>
        rw [hc] at h
        dsimp only [cond] at h
        rw [Bool.and_eq_true] at hc
        have hc1 := Nat.le_of_ble_eq_true hc.1
        have hc2 := Nat.le_of_ble_eq_true hc.2
        refine ⟨M, hM, hc1, fun ps sz => ?_⟩
        obtain ⟨hgw, hxo, hcl, hac, hlenM, hmok, hmci⟩ := id hok
        obtain ⟨m1, m2, m3, m4, m5, m6, m7, m8, m9⟩ := hmok f q M hq hM
        refine Met.ofW (cc := q.2.2) (maxL := M.2.1) (ret := M.2.2.2.2.1) m1 rfl ?_
        intro p e s m args below meth c s₁ B hml hv
        obtain ⟨rfl, hsz, hP, hK, hD0, hO, hxw, hXt⟩ := hv
        have hts0 := atoms_spec (ws := Jvm.Cond.code q.2.1 q.2.2 M.2.1 M.2.2.2.2.1 :: gk_tbl) B.pre
        have hts : ∀ w ∈ gk_tbl, w.before (as.map (fx_v ps)).toArray s = true := fun w hw => hts0 w (List.mem_cons_of_mem _ hw)
        have hown : s.vm.findClass q.1 = some m.cls := by rw [← m2]; exact findClass_of_methodNamed B.named
        have hnm : meth.name = q.2.1.name := (name_of_methodNamed B.named B.method).1
        subst hsz
        have hF : rk_Fr s m (as.map (fx_v ps)).toArray meth D gk_cl (va_A (fx_w ps mem) s.heap.size) gk_tbl gk_xw gk_fty gk_cln q.1 M.2.2.1 M.2.2.2.1 := ⟨hts, hxw, hown, hK, fun z hz => Or.inr hz, hcl, fun r hr => (m7 r hr).1, fun hz => by rw [hnm]; exact m8 hz, hac, m9⟩
        have key := hx_run_ok hxt (fun r hr => (m7 r hr).2.2) hXt (l := l) (p := p) (e := e) (R := (headSpec (Jvm.Cond.code q.2.1 q.2.2 M.2.1 M.2.2.2.2.1 :: gk_tbl) { frames := d + 1 + 4, cells := 0, slots := 0, locals := 40 * (d + 1 + 4) }).room) (below := below) (ps := ps) (rr := r) (memE := mem') hok B.exec B.bytes B.notSynchronized B.returns hml m6 hF (fun r hr => (m7 r hr).2.1) ih (Nat.le_refl _) (Nat.le_refl _) N 0 (lv_args 0 as) [] mem h hO
        have hlen : (lg_sl (as.map (fx_v ps))).length ≤ M.2.1 := by
          rw [rk_lgsl, fx_sum_lm]
          exact hc2
        have hl := lv_entry (as.map (fx_v ps)) (n := M.2.1) hlen
        rw [lg_entry_eq]
        exact key s.heap [] _ hP hD0.self va_S.rf (by rw [fx_args_lm]; exact hl)
end HFXC
end MH17_7
section MH17_8
/-! ===== hx: single steps of a run, where something must be shown ===== -/
section HXS
variable {call : fx_Ca} {fty : rk_F} {mci : List Nat} {M : rk_M2}
theorem hx_one {n pc : Nat} {ins : Instr} {len : Nat} {lc : fx_L} {stk : List Value} {mem : fx_M} {z : Nat × fx_L × List Value × fx_M} (hat : tk_at M.1 pc = some (pc, ins, len)) (hl : rk_len ins len = true) (he : fx_end M.2.2.2.2.1 ins stk = none) (hs : hx_step call fty mci M pc ins lc stk mem = some z) : hx_run call fty mci M (n + 1) pc lc stk mem = hx_run call fty mci M n z.1 z.2.1 z.2.2.1 z.2.2.2 := by
  conv => lhs; unfold hx_run
  rw [hat]
  dsimp only
  rw [hl, he, hs]
  rfl
theorem hx_ldI {n pc : Nat} {i : Int32} {j len : Nat} {f : Nat → Int32} {lc : fx_L} {r : List Value} {mem : fx_M} (hat : tk_at M.1 pc = some (pc, .iaload, 1)) (hj : mem[j]? = some (.inr (.int, len, .inl f))) (hin : fx_in i len = true) : hx_run call fty mci M (n + 1) pc lc (.int i :: .ref j :: r) mem = hx_run call fty mci M n (pc + 1) lc (.int (f i.toNatClampNeg) :: r) mem :=
  hx_one (z := (pc + 1, lc, .int (f i.toNatClampNeg) :: r, mem)) hat rfl rfl (by
    show fx_ia (pc + 1) lc (.int i :: .ref j :: r) mem = _
    unfold fx_ia
    dsimp only
    rw [hj]
    dsimp only
    rw [hin]
    rfl)
theorem hx_ldB {n pc : Nat} {i : Int32} {j len : Nat} {f : Nat → Int32} {lc : fx_L} {r : List Value} {mem : fx_M} (hat : tk_at M.1 pc = some (pc, .baload, 1)) (hj : mem[j]? = some (.inr (.byte, len, .inl f))) (hin : fx_in i len = true) : hx_run call fty mci M (n + 1) pc lc (.int i :: .ref j :: r) mem = hx_run call fty mci M n (pc + 1) lc (.int (f i.toNatClampNeg) :: r) mem :=
  hx_one (z := (pc + 1, lc, .int (f i.toNatClampNeg) :: r, mem)) hat rfl rfl (by
    show fx_ba (pc + 1) lc (.int i :: .ref j :: r) mem = _
    unfold fx_ba
    dsimp only
    rw [hj]
    dsimp only
    rw [hin]
    rfl)
theorem hx_ldL {n pc : Nat} {i : Int32} {j len : Nat} {f : Nat → Int64} {lc : fx_L} {r : List Value} {mem : fx_M} (hat : tk_at M.1 pc = some (pc, .laload, 1)) (hj : mem[j]? = some (.inr (.long, len, .inr (.inl f)))) (hin : fx_in i len = true) : hx_run call fty mci M (n + 1) pc lc (.int i :: .ref j :: r) mem = hx_run call fty mci M n (pc + 1) lc (.long (f i.toNatClampNeg) :: r) mem :=
  hx_one (z := (pc + 1, lc, .long (f i.toNatClampNeg) :: r, mem)) hat rfl rfl (by
    show fx_la (pc + 1) lc (.int i :: .ref j :: r) mem = _
    unfold fx_la
    dsimp only
    rw [hj]
    dsimp only
    rw [hin]
    rfl)
theorem hx_stI {n pc : Nat} {i v : Int32} {j len : Nat} {f : Nat → Int32} {lc : fx_L} {r : List Value} {mem mem' : fx_M} (hat : tk_at M.1 pc = some (pc, .iastore, 1)) (hj : mem[j]? = some (.inr (.int, len, .inl f))) (hin : fx_in i len = true) (hm : mem.set j (.inr (.int, len, .inl (upd f i.toNatClampNeg v))) = mem') : hx_run call fty mci M (n + 1) pc lc (.int v :: .int i :: .ref j :: r) mem = hx_run call fty mci M n (pc + 1) lc r mem' :=
  hx_one (z := (pc + 1, lc, r, mem')) hat rfl rfl (by
    show fx_is (pc + 1) lc (.int v :: .int i :: .ref j :: r) mem = _
    unfold fx_is
    dsimp only
    rw [hj]
    dsimp only
    rw [hin, hm]
    rfl)
theorem hx_stB {n pc : Nat} {i v : Int32} {j len : Nat} {f : Nat → Int32} {lc : fx_L} {r : List Value} {mem mem' : fx_M} (hat : tk_at M.1 pc = some (pc, .bastore, 1)) (hj : mem[j]? = some (.inr (.byte, len, .inl f))) (hin : fx_in i len = true) (hm : mem.set j (.inr (.byte, len, .inl (upd f i.toNatClampNeg v.toInt8.toInt32))) = mem') : hx_run call fty mci M (n + 1) pc lc (.int v :: .int i :: .ref j :: r) mem = hx_run call fty mci M n (pc + 1) lc r mem' :=
  hx_one (z := (pc + 1, lc, r, mem')) hat rfl rfl (by
    show fx_bs (pc + 1) lc (.int v :: .int i :: .ref j :: r) mem = _
    unfold fx_bs
    dsimp only
    rw [hj]
    dsimp only
    rw [hin, hm]
    rfl)
theorem hx_stL {n pc : Nat} {i : Int32} {v : Int64} {j len : Nat} {f : Nat → Int64} {lc : fx_L} {r : List Value} {mem mem' : fx_M} (hat : tk_at M.1 pc = some (pc, .lastore, 1)) (hj : mem[j]? = some (.inr (.long, len, .inr (.inl f)))) (hin : fx_in i len = true) (hm : mem.set j (.inr (.long, len, .inr (.inl (vp_updL f i.toNatClampNeg v)))) = mem') : hx_run call fty mci M (n + 1) pc lc (.long v :: .int i :: .ref j :: r) mem = hx_run call fty mci M n (pc + 1) lc r mem' :=
  hx_one (z := (pc + 1, lc, r, mem')) hat rfl rfl (by
    show fx_ls (pc + 1) lc (.long v :: .int i :: .ref j :: r) mem = _
    unfold fx_ls
    dsimp only
    rw [hj]
    dsimp only
    rw [hin, hm]
    rfl)
theorem hx_ivV {n pc idx kd f k j : Nat} {o : Nat × List Value} {lc : fx_L} {stk as r : List Value} {v : Option Value} {mem mem' : fx_M} (hat : tk_at M.1 pc = some (pc, .invokevirtual idx, 3)) (hlk : rk_lk M.2.2.1 idx = some (kd, f, k)) (hkd : (Nat.beq kd 5 || Nat.beq kd 6) = true) (hpop : fx_pops k [] stk = some (as, .ref j :: r)) (hj : mem[j]? = some (.inl o)) (hsum : (Nat.ble (fx_sum r) 8 && decide (mci[f]? = some o.1)) = true) (hc : call f (.ref j :: as) mem = some (v, mem')) : hx_run call fty mci M (n + 1) pc lc stk mem = hx_run call fty mci M n (pc + 3) lc (v.toList ++ r) mem' :=
  hx_one (z := (pc + 3, lc, v.toList ++ r, mem')) hat rfl rfl (by
    show (match rk_lk M.2.2.1 idx with
      | some q => cond (Nat.beq q.1 5 || Nat.beq q.1 6) (hx_cv mci call (pc + 3) q.2.1 q.2.2 lc stk mem) none
      | none => none) = _
    rw [hlk]
    dsimp only
    rw [hkd]
    show hx_cv mci call (pc + 3) f k lc stk mem = _
    unfold hx_cv
    rw [hpop]
    dsimp only
    rw [hj]
    dsimp only
    rw [hsum, hc]
    rfl)
theorem hx_ivS {n pc idx kd f k : Nat} {lc : fx_L} {stk as r : List Value} {v : Option Value} {mem mem' : fx_M} (hat : tk_at M.1 pc = some (pc, .invokestatic idx, 3)) (hlk : rk_lk M.2.2.1 idx = some (kd, f, k)) (hkd : (Nat.beq kd 7 || Nat.beq kd 8) = true) (hpop : fx_pops k [] stk = some (as, r)) (hsum : Nat.ble (fx_sum r) 8 = true) (hc : call f as mem = some (v, mem')) : hx_run call fty mci M (n + 1) pc lc stk mem = hx_run call fty mci M n (pc + 3) lc (v.toList ++ r) mem' :=
  hx_one (z := (pc + 3, lc, v.toList ++ r, mem')) hat rfl rfl (by
    show (match rk_lk M.2.2.1 idx with
      | some q => cond (Nat.beq q.1 7 || Nat.beq q.1 8) (fx_cs call (pc + 3) q.2.1 q.2.2 lc stk mem) (cond (Nat.beq q.1 12) (hx_cp (pc + 3) lc stk mem) (fx_mem fty M pc (.invokestatic idx) lc stk mem))
      | none => none) = _
    rw [hlk]
    dsimp only
    rw [hkd]
    show fx_cs call (pc + 3) f k lc stk mem = _
    unfold fx_cs
    rw [hpop]
    dsimp only
    rw [hsum, hc]
    rfl)
theorem hx_ldA {n pc : Nat} {i : Int32} {j len : Nat} {ty : FieldType} {f : Nat → Option Nat} {lc : fx_L} {r : List Value} {mem : fx_M} (hat : tk_at M.1 pc = some (pc, .aaload, 1)) (hj : mem[j]? = some (.inr (ty, len, .inr (.inr (.inr (.inr f)))))) (hin : fx_in i len = true) (hro : hx_ro ty = true) : hx_run call fty mci M (n + 1) pc lc (.int i :: .ref j :: r) mem = hx_run call fty mci M n (pc + 1) lc (va_rf (f i.toNatClampNeg) :: r) mem :=
  hx_one (z := (pc + 1, lc, va_rf (f i.toNatClampNeg) :: r, mem)) hat rfl rfl (by
    show hx_aa (pc + 1) lc (.int i :: .ref j :: r) mem = _
    unfold hx_aa
    dsimp only
    rw [hj]
    dsimp only
    rw [hin, hro]
    rfl)
theorem hx_cpL {n pc idx a b : Nat} {x dp sp : Int32} {j0 j1 n0 n1 : Nat} {f g : Nat → Int64} {lc : fx_L} {r : List Value} {mem mem' : fx_M} (hat : tk_at M.1 pc = some (pc, .invokestatic idx, 3)) (hlk : rk_lk M.2.2.1 idx = some (12, a, b)) (h0 : mem[j0]? = some (.inr (.long, n0, .inr (.inl f)))) (h1 : mem[j1]? = some (.inr (.long, n1, .inr (.inl g)))) (hsum : Nat.ble (fx_sum r) 8 = true) (hc : hx_cc x dp sp n0 n1 = true) (hm : mem.set j1 (.inr (.long, n1, .inr (.inl (va_cpy f g sp.toNatClampNeg dp.toNatClampNeg x.toNatClampNeg)))) = mem') : hx_run call fty mci M (n + 1) pc lc (.int x :: .int dp :: .ref j1 :: .int sp :: .ref j0 :: r) mem = hx_run call fty mci M n (pc + 3) lc r mem' :=
  hx_one (z := (pc + 3, lc, r, mem')) hat rfl rfl (by
    show (match rk_lk M.2.2.1 idx with
      | some q => cond (Nat.beq q.1 7 || Nat.beq q.1 8) (fx_cs call (pc + 3) q.2.1 q.2.2 lc _ mem) (cond (Nat.beq q.1 12) (hx_cp (pc + 3) lc _ mem) (fx_mem fty M pc (.invokestatic idx) lc _ mem))
      | none => none) = _
    rw [hlk]
    dsimp only
    rw [show (Nat.beq 12 7 || Nat.beq 12 8) = false from rfl, show Nat.beq 12 12 = true from rfl]
    show hx_cp (pc + 3) lc (.int x :: .int dp :: .ref j1 :: .int sp :: .ref j0 :: r) mem = _
    unfold hx_cp
    dsimp only
    rw [h0, h1]
    dsimp only
    rw [hsum, hc, hm]
    rfl)
theorem hx_cpI {n pc idx a b : Nat} {x dp sp : Int32} {j0 j1 n0 n1 : Nat} {f g : Nat → Int32} {lc : fx_L} {r : List Value} {mem mem' : fx_M} (hat : tk_at M.1 pc = some (pc, .invokestatic idx, 3)) (hlk : rk_lk M.2.2.1 idx = some (12, a, b)) (h0 : mem[j0]? = some (.inr (.int, n0, .inl f))) (h1 : mem[j1]? = some (.inr (.int, n1, .inl g))) (hsum : Nat.ble (fx_sum r) 8 = true) (hc : hx_cc x dp sp n0 n1 = true) (hm : mem.set j1 (.inr (.int, n1, .inl (va_cpy f g sp.toNatClampNeg dp.toNatClampNeg x.toNatClampNeg))) = mem') : hx_run call fty mci M (n + 1) pc lc (.int x :: .int dp :: .ref j1 :: .int sp :: .ref j0 :: r) mem = hx_run call fty mci M n (pc + 3) lc r mem' :=
  hx_one (z := (pc + 3, lc, r, mem')) hat rfl rfl (by
    show (match rk_lk M.2.2.1 idx with
      | some q => cond (Nat.beq q.1 7 || Nat.beq q.1 8) (fx_cs call (pc + 3) q.2.1 q.2.2 lc _ mem) (cond (Nat.beq q.1 12) (hx_cp (pc + 3) lc _ mem) (fx_mem fty M pc (.invokestatic idx) lc _ mem))
      | none => none) = _
    rw [hlk]
    dsimp only
    rw [show (Nat.beq 12 7 || Nat.beq 12 8) = false from rfl, show Nat.beq 12 12 = true from rfl]
    show hx_cp (pc + 3) lc (.int x :: .int dp :: .ref j1 :: .int sp :: .ref j0 :: r) mem = _
    unfold hx_cp
    dsimp only
    rw [h0, h1]
    dsimp only
    rw [hsum, hc, hm]
    rfl)
end HXS
end MH17_8
section MH17_9
/-! ===== hx: fewer locals ===== -/
section HXW
variable {l l' : fx_L} {stk : List Value} {mem : fx_M}
theorem hx_p_aa (pc : Nat) : ∀ k z, hx_aa pc k stk mem = some z → z.2.1 = k ∧ ∀ k', hx_aa pc k' stk mem = some (z.1, k', z.2.2.1, z.2.2.2) := by
  intro k z h
  unfold hx_aa at h ⊢
  split at h
  · split at h
    · obtain ⟨hc, rfl⟩ := fx_if_inv h
      exact ⟨rfl, fun k' => by dsimp only; rw [hc]; rfl⟩
    · exact fx_nos h
  · exact fx_nos h
theorem hx_p_al (pc : Nat) : ∀ k z, hx_al pc k stk mem = some z → z.2.1 = k ∧ ∀ k', hx_al pc k' stk mem = some (z.1, k', z.2.2.1, z.2.2.2) := by
  intro k z h
  unfold hx_al at h ⊢
  split at h
  · split at h
    · cases h
      exact ⟨rfl, fun k' => rfl⟩
    · exact fx_nos h
  · exact fx_nos h
theorem hx_p_cp (pc : Nat) : ∀ k z, hx_cp pc k stk mem = some z → z.2.1 = k ∧ ∀ k', hx_cp pc k' stk mem = some (z.1, k', z.2.2.1, z.2.2.2) := by
  intro k z h
  unfold hx_cp at h ⊢
  split at h
  · split at h
    · obtain ⟨hc, rfl⟩ := fx_if_inv h
      exact ⟨rfl, fun k' => by dsimp only; rw [hc]; rfl⟩
    · obtain ⟨hc, rfl⟩ := fx_if_inv h
      exact ⟨rfl, fun k' => by dsimp only; rw [hc]; rfl⟩
    · exact fx_nos h
  · exact fx_nos h
theorem hx_w_step (h : fx_le l l') (call : fx_Ca) (fty : rk_F) (mci : List Nat) (M : rk_M2) (pc : Nat) (ins : Instr) : fx_sw4 (hx_step call fty mci M pc ins l stk mem) (hx_step call fty mci M pc ins l' stk mem) := by
  have hm := fx_w_mem (stk := stk) (mem := mem) h fty M pc ins
  cases ins
  case invokevirtual idx =>
    show fx_sw4 (match rk_lk M.2.2.1 idx with
      | some q => cond (Nat.beq q.1 5 || Nat.beq q.1 6) (hx_cv mci call (pc + 3) q.2.1 q.2.2 l stk mem) none
      | none => none) (match rk_lk M.2.2.1 idx with
      | some q => cond (Nat.beq q.1 5 || Nat.beq q.1 6) (hx_cv mci call (pc + 3) q.2.1 q.2.2 l' stk mem) none
      | none => none)
    cases rk_lk M.2.2.1 idx with
    | none => exact fun _ hz => nomatch hz
    | some q =>
      dsimp only
      cases (Nat.beq q.1 5 || Nat.beq q.1 6) with
      | false => exact fun _ hz => nomatch hz
      | true =>
        show fx_sw4 (hx_cv mci call (pc + 3) q.2.1 q.2.2 l stk mem) (hx_cv mci call (pc + 3) q.2.1 q.2.2 l' stk mem)
        unfold hx_cv
        split
        · next as j r hp =>
          split
          · next o hj =>
            cases (Nat.ble (fx_sum r) 8 && decide (mci[q.2.1]? = some o.1)) with
            | false => exact fun _ hz => nomatch hz
            | true => exact fx_w_aft h _ _ _
          · exact fun _ hz => nomatch hz
        · exact fun _ hz => nomatch hz
  case invokestatic idx =>
    show fx_sw4 (match rk_lk M.2.2.1 idx with
      | some q => cond (Nat.beq q.1 7 || Nat.beq q.1 8) (fx_cs call (pc + 3) q.2.1 q.2.2 l stk mem) (cond (Nat.beq q.1 12) (hx_cp (pc + 3) l stk mem) (fx_mem fty M pc (.invokestatic idx) l stk mem))
      | none => none) (match rk_lk M.2.2.1 idx with
      | some q => cond (Nat.beq q.1 7 || Nat.beq q.1 8) (fx_cs call (pc + 3) q.2.1 q.2.2 l' stk mem) (cond (Nat.beq q.1 12) (hx_cp (pc + 3) l' stk mem) (fx_mem fty M pc (.invokestatic idx) l' stk mem))
      | none => none)
    cases rk_lk M.2.2.1 idx with
    | none => exact fun _ hz => nomatch hz
    | some q =>
      dsimp only
      cases (Nat.beq q.1 7 || Nat.beq q.1 8) with
      | false =>
        dsimp only [cond]
        cases Nat.beq q.1 12 with
        | false => exact fx_w_mem h fty M pc (.invokestatic idx)
        | true => exact fx_w_of (f := hx_cp (pc + 3)) h (hx_p_cp _)
      | true =>
        show fx_sw4 (fx_cs call (pc + 3) q.2.1 q.2.2 l stk mem) (fx_cs call (pc + 3) q.2.1 q.2.2 l' stk mem)
        unfold fx_cs
        split
        · next as r hp =>
          cases Nat.ble (fx_sum r) 8 with
          | false => exact fun _ hz => nomatch hz
          | true => exact fx_w_aft h _ _ _
        · exact fun _ hz => nomatch hz
  case aaload => exact fx_w_of (f := hx_aa (pc + 1)) h (hx_p_aa _)
  case arraylength => exact fx_w_of (f := hx_al (pc + 1)) h (hx_p_al _)
  all_goals exact hm
end HXW
theorem hx_w_run (call : fx_Ca) (fty : rk_F) (mci : List Nat) (M : rk_M2) : ∀ (n pc : Nat) (l l' : fx_L) (stk : List Value) (mem : fx_M) (R : Option Value × fx_M), fx_le l l' → hx_run call fty mci M n pc l stk mem = some R → hx_run call fty mci M n pc l' stk mem = some R := by
  intro n
  induction n with
  | zero => intro pc l l' stk mem R _ h; exact fx_nos h
  | succ n ih =>
    intro pc l l' stk mem R hle h
    unfold hx_run at h ⊢
    split at h
    · exact fx_nos h
    · next q hat =>
      cases hlen : rk_len q.2.1 q.2.2 with
      | false => rw [hlen] at h; exact fx_nos h
      | true =>
        rw [hlen] at h
        dsimp only [cond] at h ⊢
        split at h
        · exact h
        · exact fx_nos h
        · split at h
          · next z hz =>
            obtain ⟨k', e1, e2⟩ := hx_w_step hle call fty mci M pc q.2.1 z hz
            rw [e1]
            exact ih _ _ _ _ _ _ e2 h
          · exact fx_nos h
end MH17_9
