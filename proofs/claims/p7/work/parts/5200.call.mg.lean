section MH56_0
/-! ===== the law: two typed worlds; a call of the one leaves the other ===== -/
def lw_T (TY : tk_TT) (X : va_W → Prop) (ads tw : List Nat) (s : State) (D : va_G) (Ad : Nat → Prop) (H : Heap) (ws : va_W) : Prop := ws.map Prod.fst = ads ∧ rk_A2 (fun t (q : Nat × va_E) => tk_cl TY lc_ro ads tw s t q.2) tw ws ∧ va_P D gk_cl ws H ∧ va_D Ad ws ∧ X ws
/-- arguments by their kinds -/
def lq_as : Nat → List Nat → List tk_V
  | _, [] => []
  | j, k :: r => (k, j + 1, 1, 0) :: lq_as (j + 1) r
def lq_av (p : Nat × tk_I) (v : Value) : Prop := (p.1 = 0 ∧ ∃ x : Int32, v = .int x ∧ p.2.1 ≤ x.toInt ∧ x.toInt ≤ p.2.2) ∨ (p.1 = 1 ∧ ∃ x : Int64, v = .long x ∧ p.2.1 ≤ x.toInt ∧ x.toInt ≤ p.2.2)
theorem lq_num {pre vals : List Int} {x : Int} {k : Nat} : tk_num (pre ++ x :: vals) (k, pre.length + 1, 1, 0) = some x := by
  unfold tk_num
  dsimp only
  rw [List.getElem?_append_right (Nat.le_refl _), Nat.sub_self]
  show some (((1 : Nat) : Int) * x + 0) = _
  congr 1
  omega
theorem lq_as_ok {rads : List Nat} : ∀ (L : List (Nat × tk_I)) (av : List Value) (pre : List Int), rk_A2 lq_av L av → ∃ vals : List Int, tk_E (L.map Prod.snd) vals ∧ rk_A2 (tk_g (pre ++ vals) rads) (lq_as pre.length (L.map Prod.fst)) av := by
  intro L
  induction L with
  | nil =>
    intro av pre h
    rw [h.nil]
    exact ⟨[], trivial, trivial⟩
  | cons p L ih =>
    intro av pre h
    obtain ⟨v, k, rfl, g1, g2⟩ := h.cons
    rcases g1 with ⟨e, x, rfl, b1, b2⟩ | ⟨e, x, rfl, b1, b2⟩
    · obtain ⟨vals, h1, h2⟩ := ih k (pre ++ [x.toInt]) g2
      rw [List.append_assoc, List.length_append] at h2
      refine ⟨x.toInt :: vals, ⟨⟨b1, b2⟩, h1⟩, ⟨?_, h2⟩⟩
      show tk_g (pre ++ x.toInt :: vals) rads (p.1, pre.length + 1, 1, 0) (.int x)
      rw [e]
      exact ⟨x, rfl, lq_num⟩
    · obtain ⟨vals, h1, h2⟩ := ih k (pre ++ [x.toInt]) g2
      rw [List.append_assoc, List.length_append] at h2
      refine ⟨x.toInt :: vals, ⟨⟨b1, b2⟩, h1⟩, ⟨?_, h2⟩⟩
      show tk_g (pre ++ x.toInt :: vals) rads (p.1, pre.length + 1, 1, 0) (.long x)
      rw [e]
      exact ⟨x, rfl, lq_num⟩
section LWC
variable {p : Program} {l : Launch} {e : Env} {R : Room} {s : State} {m : MethodId} {args : Array Value} {below : List Frame} {meth : Method} {c : Code} {Q : State → Prop} {cc : ByteArray} {D : va_G} {Ad : Nat → Prop} {xt : tk_XT} {lk : List (Nat × Nat × Nat × Nat)} {cs : List (Nat × Value)} {own : String} {nL : Nat}
set_option maxHeartbeats 4000000 in
theorem lw_call {TY1 TY2 : tk_TT} {X1 X2 : va_W → Prop} {ads1 tw1 ads2 tw2 : List Nat} (hxt : tk_xtok xt) (hXt : xt Ad s s.heap) (hx : p.tables.exec = Jvm.exec) (hb : c.code = cc) (hml : c.maxLocals = nL) (hF : rk_Fr s m args meth D gk_cl Ad gk_tbl gk_xw gk_fty gk_cln own lk cs) (hck : ∀ r ∈ lk, rk_cok gk_tbl gk_xw gk_MN gk_P own r)
    (hdis : ∀ x ∈ ads2, ¬ x ∈ ads1) {d f : Nat} {kinds : List Nat} {envs : List tk_I} {ys : List tk_X} {mods : List (Nat × Nat)} (hK : tk_KS l D gk_cl gk_tbl gk_xw xt gk_MN gk_P TY1 lc_ro X1 ads1 tw1 d (f, (2, 0, 0, 0) :: lq_as 0 kinds, (envs, []), [0], [], ys, mods)) (hfr : d + 1 ≤ R.frames) (hlo : 40 * (d + 1) ≤ R.locals) {o1 : Nat × List tk_F} (hT0 : TY1.1[0]? = some (.inl o1)) (hmc : gk_mci[f]? = some o1.1) {ax : Nat} (hax : tk_ty ads1 tw1 0 ax)
    {pc idx n : Nat} (hlk : rk_lk lk idx = some (5, f, n)) (hn : kinds.length = n) (hke : kinds.length = envs.length) {av rest : List Value} (hav : rk_A2 lq_av (kinds.zip envs) av) (hsum : (rest.map fun v => v.category).sum ≤ 8)
    (hdg : decode cc pc = .ok (.invokevirtual idx, 3)) {H : Heap} {locs : List Loc} {ls : Array Slot} {nc ns : Nat} (hnc : nc ≤ R.cells) (hns : ns ≤ R.slots) {lc : List (Nat × Value)} (hl : lv_has ls nL lc) {ws1 ws2 : va_W} (h1 : lw_T TY1 X1 ads1 tw1 s D Ad H ws1) (h2 : lw_T TY2 X2 ads2 tw2 s D Ad H ws2) (hS : va_S Ad s.heap H locs)
    (kk : ∀ y ∈ ys, ∀ (vals' : List Int) (rads' : List Nat) (ws1' : va_W) (H' : Heap) (locs' : List Loc) (v : Option Value), tk_H y.2.1 vals' → lw_T TY1 X1 ads1 tw1 s D Ad H' ws1' → lw_T TY2 X2 ads2 tw2 s D Ad H' ws2 → va_S Ad s.heap H' locs' → tk_un TY1 mods tw1 ws1 ws1' → tk_ret y.1 vals' rads' (.returned v) → W p l e R s m args below meth c H' locs' nc ns Q (F0 m (pc + 3) ls (v.toList ++ rest))) : W p l e R s m args below meth c H locs nc ns Q (F0 m pc ls (av.reverse ++ .ref ax :: rest)) := by
  obtain ⟨hgw, hxo, -, -, hlenM, hmok, hmci⟩ := gk_rok
  obtain ⟨hts, hxw, hown, hK0, hA, hcl, hlkk, hini, hac, hcs⟩ := hF
  have hfix : CallFix p m c cc nL s args gk_tbl own := ⟨hx, hb, hml, hown, hts⟩
  obtain ⟨a1, a2, a3, a4, a5⟩ := id h1
  obtain ⟨b1, b2, b3, b4, b5⟩ := id h2
  obtain ⟨vals, hE, hG⟩ := lq_as_ok (rads := [ax]) (kinds.zip envs) av [] hav
  rw [List.map_snd_zip (by omega)] at hE
  rw [List.map_fst_zip (by omega)] at hG
  have hlen : av.length = n := by
    have := hav.len
    rw [List.length_zip] at this
    omega
  obtain ⟨j, e1, hw, hj, hc1⟩ := tk_cell a1 a2 hax
  unfold tk_cl at hc1
  rw [hT0] at hc1
  obtain ⟨vs, rfl, hvl, hvs⟩ := hc1
  have hck1 := hck _ (rk_lk_mem hlk)
  obtain ⟨q, hq, w1, w2, w3, w4⟩ := hck1
  obtain ⟨M, hM, hM21, hmet⟩ := hK q hq
  obtain ⟨m1, m2, m3, m4, m5, -⟩ := hmok f q M hq hM
  obtain ⟨kq, hkq, -⟩ := a3 j _ hw
  have hkn := hmci f o1.1 q kq hmc hq hkq
  have hrecv := va_recv hK0 a3 hkq hw
  rw [hkn] at hrecv
  have hs : tk_hs TY1 lc_ro X1 ads1 tw1 s D gk_cl Ad vals [ax] H locs [0] [] ws1 := ⟨⟨hax, trivial⟩, a1, a2, a3, a4, hS, fun q hq => absurd hq List.not_mem_nil⟩
  have hH : tk_H (envs, []) vals := ⟨hE, fun q hq => absurd hq List.not_mem_nil⟩
  have hr : va_Run p l e R s m args below meth c H locs nc ns 0 0 (F0 m pc ls (av.reverse ++ .ref ax :: rest)) rest (tk_Post D gk_cl TY1 lc_ro X1 ads1 tw1 (ys, mods) vals [ax] ws1 (va_A ws1 H.size) (Value.ref ax :: av).toArray) (va_A ws1 H.size) :=
    va_runV (C := q.1) hfix (hmet vals [ax] ws1 (.ref ax :: av) H.size hH ⟨hax, trivial⟩ ⟨⟨ax, rfl, rfl⟩, hG⟩ a1 (fun q hq => absurd hq List.not_mem_nil) (tk_ob_of a1 a2)) ⟨callB_of n hts (rk_good hgw m4) rfl rfl rfl (hts _ m5) (hts _ w1) ⟨m3.1, m3.2, w4⟩ ⟨hfr, by show 8 + (M.2.1 + 11) + 40 * d ≤ R.locals; omega⟩, hts _ w2, hts _ w3⟩ ⟨tk_blind hxo hxt, hrecv, fun U hU hW => tk_pre hxo hxw hxt hXt hA hK0 hs a5 U hU hW⟩ rfl hlen hl.1 rfl (lv_room hsum) hdg ⟨hnc, hns⟩
  have hsub : ∀ q, va_A ws1 H.size q → Ad q := by
    rintro q (⟨k, e1, hk⟩ | hq)
    · exact a4.2 k _ hk
    · exact hA q (Nat.le_trans hS.1 hq)
  intro T hT X
  obtain ⟨v, st₀, t, T', L, h0, X', hLf, e1', e2, ⟨⟨y, hym, vals', rads', ws1', c1, c2, c3, c4, c5, c6, c7, c8, c9, c10, c11⟩, hFr⟩, go⟩ := hr T hT X
  have hal : t.vm.Alike s.vm := by rw [← e2]; exact X'.warmed.alike.symm
  have hS1 : va_S Ad s.heap t.heap (locs ++ L) := by
    refine ⟨Nat.le_trans hS.1 (by rw [← h0]; exact hFr.1), fun q hq hn => ?_, fun z hz => ?_⟩
    · rw [hFr.2 q (by rw [h0]; exact Nat.lt_of_lt_of_le hq hS.1) (fun z => hn (hsub q z)), h0]
      exact hS.2.1 q hq hn
    · rcases List.mem_append.mp hz with z1 | z1
      · exact hS.2.2 z z1
      · exact hsub _ (hLf z z1)
  have hT1 : lw_T TY1 X1 ads1 tw1 s D Ad t.heap ws1' := ⟨c5, c6.mono (fun _ _ h => tk_cl_moved hal h), c7, c8.weaken (fun _ _ _ z => hsub _ z), c10.2⟩
  have hT2 : lw_T TY2 X2 ads2 tw2 s D Ad t.heap ws2 := ⟨b1, b2, fun i q hq => (b3 i q hq).kept (by
    rw [← h0]
    refine hFr.2 q.1 (by rw [h0]; exact (b3 i q hq).lt) ?_
    rintro (⟨k, e9, hk⟩ | hge)
    · exact hdis q.1 (by rw [← b1]; exact List.mem_map.mpr ⟨q, List.mem_of_getElem? hq, rfl⟩) (by rw [← a1]; exact List.mem_map.mpr ⟨_, List.mem_of_getElem? hk, rfl⟩)
    · have := (b3 i q hq).lt
      omega), b4, b5⟩
  obtain ⟨t2, d1, d2⟩ := kk y hym vals' rads' ws1' t.heap (locs ++ L) v c3 hT1 hT2 hS1 c10.1 c11 T' e1' X'
  exact ⟨t2, go t2 d1, d2⟩
end LWC
end MH56_0
section MH56_1
/-! ===== the law: a small run of its calls, the stack by kinds ===== -/
/-- (0, k): the script's int i + k; (1, n): n; (2, _): the script; (3, _): the object; (4, _): the model's; (5, k): the place i + k; (6, _): an int; (7, _): a long -/
abbrev lq_V : Type := Nat × Nat
def lq_g (b ax am i : Nat) (xs : Nat → Int32) (a : lq_V) (v : Value) : Prop := match a.1 with
  | 0 => v = .int (xs (i + a.2))
  | 1 => v = .int (nI a.2)
  | 2 => v = .ref b
  | 3 => v = .ref ax
  | 4 => v = .ref am
  | 5 => v = .int (nI (i + a.2))
  | 6 => ∃ x : Int32, v = .int x
  | 7 => ∃ x : Int64, v = .long x
  | _ => False
def lq_int (a : lq_V) : Bool := Nat.beq a.1 0 || (Nat.beq a.1 1 || (Nat.beq a.1 5 || Nat.beq a.1 6))
def lq_cat (a : lq_V) : Nat := cond (Nat.beq a.1 7) 2 1
/-- a row: the link's number, whose it is, the method, its arguments' kinds and bounds, what it returns -/
abbrev lq_R : Type := Nat × Nat × Nat × List Nat × List tk_I × lq_V
def lq_fit (B : Nat → tk_I) (a : lq_V) (k : Nat) (I : tk_I) : Bool := match a.1 with
  | 0 => Nat.beq k 0 && (decide (I.1 ≤ (B a.2).1) && decide ((B a.2).2 ≤ I.2))
  | 1 => Nat.beq k 0 && (decide (I.1 ≤ (a.2 : Int)) && (decide ((a.2 : Int) ≤ I.2) && decide (a.2 < 2147483648)))
  | 6 => Nat.beq k 0 && (decide (I.1 ≤ -2147483648) && decide (2147483647 ≤ I.2))
  | 7 => Nat.beq k 1 && (decide (I.1 ≤ -9223372036854775808) && decide (9223372036854775807 ≤ I.2))
  | _ => false
def lq_fits (B : Nat → tk_I) : List lq_V → List Nat → List tk_I → Bool
  | [], [], [] => true
  | a :: r, k :: ks, I :: Is => lq_fit B a k I && lq_fits B r ks Is
  | _, _, _ => false
def lq_pop : Nat → List lq_V → List lq_V → Option (List lq_V × List lq_V)
  | 0, acc, sk => some (acc, sk)
  | n + 1, acc, a :: sk => lq_pop n (a :: acc) sk
  | _ + 1, _, [] => none
def lq_sum : List lq_V → Nat
  | [] => 0
  | a :: r => lq_cat a + lq_sum r
def lq_ry (ret : lq_V) (y : tk_X) : Bool := match y.1 with
  | some a => (Nat.beq ret.1 6 && Nat.beq a.1 0) || ((Nat.beq ret.1 7 && Nat.beq a.1 1) || (Nat.beq ret.1 1 && (decide (a = (0, 0, 0, (ret.2 : Int))) && decide (ret.2 < 2147483648))))
  | none => false
def lq_call (B : Nat → tk_I) (T : List lq_R) (idx : Nat) (st : List lq_V) : Option (lq_R × List lq_V) := match T.find? (fun r => Nat.beq r.1 idx), rk_lk gk_lk12 idx with
  | some r, some (kd, f, n) => (match lq_pop n [] st with
    | some (as, a :: rest) => if (kd = 5 ∧ f = r.2.2.1 ∧ n = r.2.2.2.1.length ∧ gk_mci[f]? = some (cond (Nat.beq r.2.1 3) 11 12)) ∧ (a.1 = r.2.1 ∧ (r.2.1 = 3 ∨ r.2.1 = 4)) ∧ lq_fits B as r.2.2.2.1 r.2.2.2.2.1 = true ∧ lq_sum rest ≤ 8 then some (r, rest) else none
    | _ => none)
  | _, _ => none
def lq_step (B : Nat → tk_I) (T : List lq_R) (pc : Nat) (ins : Instr) (st : List lq_V) : Option (List (Nat × List lq_V)) := match ins with
  | .aload_n k => if (k : Nat) = 0 then some [(pc + 1, (2, 0) :: st)] else if (k : Nat) = 1 then some [(pc + 1, (3, 0) :: st)] else if (k : Nat) = 2 then some [(pc + 1, (4, 0) :: st)] else none
  | .iload_n k => if (k : Nat) = 3 then some [(pc + 1, (5, 0) :: st)] else none
  | .iconst n => if 0 ≤ n ∧ n ≤ 5 then some [(pc + 1, (1, n.toNat) :: st)] else none
  | .bipush _ => some [(pc + 2, (6, 0) :: st)]
  | .iadd => match st with
    | (1, k) :: (5, j) :: r => if k ≤ 5 ∧ j ≤ 5 then some [(pc + 1, (5, j + k) :: r)] else none
    | _ => none
  | .iaload => match st with
    | (5, k) :: (2, _) :: r => if k < 6 then some [(pc + 1, (0, k) :: r)] else none
    | _ => none
  | .i2l => match st with
    | a :: r => if lq_int a = true then some [(pc + 1, (7, 0) :: r)] else none
    | _ => none
  | .lshl => match st with
    | a :: (7, _) :: r => if lq_int a = true then some [(pc + 1, (7, 0) :: r)] else none
    | _ => none
  | .land => match st with
    | (7, _) :: (7, _) :: r => some [(pc + 1, (7, 0) :: r)]
    | _ => none
  | .lor => match st with
    | (7, _) :: (7, _) :: r => some [(pc + 1, (7, 0) :: r)]
    | _ => none
  | .ldc2_w idx => match rk_cst gk_lcs idx with
    | some (.long _) => some [(pc + 3, (7, 0) :: st)]
    | _ => none
  | .pop => match st with
    | a :: r => if lq_int a = true then some [(pc + 1, r)] else none
    | _ => none
  | .pop2 => match st with
    | (7, _) :: r => some [(pc + 1, r)]
    | _ => none
  | .goto off => if 0 ≤ (pc : Int) + off then some [(((pc : Int) + off).toNat, st)] else none
  | .ifCond .eq off => match st with
    | a :: r => if lq_int a = true ∧ 0 ≤ (pc : Int) + off then some [(((pc : Int) + off).toNat, r), (pc + 3, r)] else none
    | _ => none
  | .if_icmp .eq off => match st with
    | (1, k) :: (1, j) :: r => if k = j ∧ 0 ≤ (pc : Int) + off then some [(((pc : Int) + off).toNat, r)] else none
    | _ => none
  | .invokevirtual idx => match lq_call B T idx st with
    | some (r, rest) => some [(pc + 3, r.2.2.2.2.2 :: rest)]
    | none => none
  | _ => none
def lq_at : List (Nat × Instr × Nat) → Nat → Option (Instr × Nat)
  | [], _ => none
  | q :: r, pc => cond (Nat.beq q.1 pc) (some q.2) (lq_at r pc)
theorem lq_at_ok {pc : Nat} {q : Instr × Nat} : ∀ {l : List (Nat × Instr × Nat)}, lq_at l pc = some q → (pc, q) ∈ l := by
  intro l
  induction l with
  | nil => intro h; cases h
  | cons r l ih =>
    intro h
    unfold lq_at at h
    cases hb : Nat.beq r.1 pc with
    | true =>
      rw [hb] at h
      have h : some r.2 = some q := h
      cases h
      rw [← Nat.eq_of_beq_eq_true hb]
      exact List.mem_cons_self
    | false =>
      rw [hb] at h
      exact List.mem_cons_of_mem _ (ih h)
def lq_run (B : Nat → tk_I) (T : List lq_R) (li : List (Nat × Instr × Nat)) (stop : Nat) : Nat → Nat → List lq_V → Bool
  | 0, _, _ => false
  | n + 1, pc, st => cond (Nat.beq pc stop) st.isEmpty (match lq_at li pc with
    | some (ins, len) => rk_len ins len && (match lq_step B T pc ins st with
      | some l => l.all (fun q => lq_run B T li stop n q.1 q.2)
      | none => false)
    | none => false)
theorem lq_pop_ok {α : Type} {R : lq_V → α → Prop} : ∀ (n : Nat) {acc sk as r : List lq_V} {va stk : List α}, lq_pop n acc sk = some (as, r) → rk_A2 R acc va → rk_A2 R sk stk → ∃ (v2 r2 : List α), rk_A2 R as (v2 ++ va) ∧ rk_A2 R r r2 ∧ stk = v2.reverse ++ r2 ∧ v2.length = n := by
  intro n
  induction n with
  | zero => intro acc sk as r va stk h ha hs; cases h; exact ⟨[], stk, by simpa using ha, hs, by simp, rfl⟩
  | succ n ih =>
    intro acc sk as r va stk h ha hs
    cases sk with
    | nil => cases h
    | cons a sk =>
      obtain ⟨v, k, rfl, hg, hs⟩ := hs.cons
      obtain ⟨v2, r2, h1, h2, rfl, h4⟩ := ih (show lq_pop n (a :: acc) sk = some (as, r) from h) (show rk_A2 R (a :: acc) (v :: va) from ⟨hg, ha⟩) hs
      exact ⟨v2 ++ [v], r2, by simpa using h1, h2, by simp, by simp [h4]⟩
section LQG
variable {b ax am i : Nat} {xs : Nat → Int32}
theorem lq_int_ok {a : lq_V} {v : Value} (h : lq_int a = true) (hg : lq_g b ax am i xs a v) : ∃ x : Int32, v = .int x := by
  unfold lq_int at h
  rw [Bool.or_eq_true, Bool.or_eq_true, Bool.or_eq_true] at h
  unfold lq_g at hg
  rcases h with h | h | h | h
  all_goals
    rw [Nat.eq_of_beq_eq_true h] at hg
    first
      | exact ⟨_, hg⟩
      | exact hg
theorem lq_cat_ok {a : lq_V} {v : Value} (hg : lq_g b ax am i xs a v) : v.category = lq_cat a := by
  unfold lq_g at hg
  unfold lq_cat
  split at hg
  all_goals
    rename_i h
    first
      | exact hg.elim
      | (rw [h]; subst hg; rfl)
      | (rw [h]; obtain ⟨x, rfl⟩ := hg; rfl)
theorem lq_sum_ok : ∀ {r : List lq_V} {stk : List Value}, rk_A2 (lq_g b ax am i xs) r stk → (stk.map fun v => v.category).sum = lq_sum r := by
  intro r
  induction r with
  | nil => intro stk h; rw [h.nil]; rfl
  | cons a r ih =>
    intro stk h
    obtain ⟨v, k, rfl, hg, hs⟩ := h.cons
    simp [lq_sum, lq_cat_ok hg, ih hs]
theorem lq_fit_ok {B : Nat → tk_I} (hB : ∀ k, (B k).1 ≤ (xs (i + k)).toInt ∧ (xs (i + k)).toInt ≤ (B k).2) {a : lq_V} {v : Value} {k : Nat} {I : tk_I} (hg : lq_g b ax am i xs a v) (h : lq_fit B a k I = true) : lq_av (k, I) v := by
  unfold lq_fit at h
  unfold lq_g at hg
  split at h
  · next e =>
    rw [e] at hg
    rw [Bool.and_eq_true, Bool.and_eq_true, decide_eq_true_eq, decide_eq_true_eq] at h
    have hg : v = .int (xs (i + a.2)) := hg
    have := hB a.2
    exact Or.inl ⟨Nat.eq_of_beq_eq_true h.1, _, hg, Int.le_trans h.2.1 this.1, Int.le_trans this.2 h.2.2⟩
  · next e =>
    rw [e] at hg
    rw [Bool.and_eq_true, Bool.and_eq_true, Bool.and_eq_true, decide_eq_true_eq, decide_eq_true_eq, decide_eq_true_eq] at h
    have hg : v = .int (nI a.2) := hg
    exact Or.inl ⟨Nat.eq_of_beq_eq_true h.1, _, hg, by rw [nI_i32 h.2.2.2]; exact h.2.1, by rw [nI_i32 h.2.2.2]; exact h.2.2.1⟩
  · next e =>
    rw [e] at hg
    rw [Bool.and_eq_true, Bool.and_eq_true, decide_eq_true_eq, decide_eq_true_eq] at h
    obtain ⟨x, hx⟩ : ∃ x : Int32, v = .int x := hg
    have := fm_i32 x
    exact Or.inl ⟨Nat.eq_of_beq_eq_true h.1, x, hx, by have := h.2.1; show I.1 ≤ x.toInt; omega, by have := h.2.2; show x.toInt ≤ I.2; omega⟩
  · next e =>
    rw [e] at hg
    rw [Bool.and_eq_true, Bool.and_eq_true, decide_eq_true_eq, decide_eq_true_eq] at h
    obtain ⟨x, hx⟩ : ∃ x : Int64, v = .long x := hg
    have h1 := Int64.le_toInt x
    have h2 := Int64.toInt_lt x
    exact Or.inr ⟨Nat.eq_of_beq_eq_true h.1, x, hx, by have := h.2.1; show I.1 ≤ x.toInt; omega, by have := h.2.2; show x.toInt ≤ I.2; omega⟩
  · cases h
theorem lq_fits_ok {B : Nat → tk_I} (hB : ∀ k, (B k).1 ≤ (xs (i + k)).toInt ∧ (xs (i + k)).toInt ≤ (B k).2) : ∀ {as : List lq_V} {ks : List Nat} {Is : List tk_I} {av : List Value}, rk_A2 (lq_g b ax am i xs) as av → lq_fits B as ks Is = true → rk_A2 lq_av (ks.zip Is) av ∧ ks.length = Is.length := by
  intro as
  induction as with
  | nil =>
    intro ks Is av hg h
    rw [hg.nil]
    cases ks with
    | nil => cases Is with
      | nil => exact ⟨trivial, rfl⟩
      | cons _ _ => cases h
    | cons _ _ => cases Is <;> cases h
  | cons a as ih =>
    intro ks Is av hg h
    obtain ⟨v, k, rfl, g1, g2⟩ := hg.cons
    cases ks with
    | nil => cases Is <;> cases h
    | cons k0 ks => cases Is with
      | nil => cases h
      | cons I Is =>
        have h := Bool.and_eq_true_iff.mp (show (lq_fit B a k0 I && lq_fits B as ks Is) = true from h)
        obtain ⟨q1, q2⟩ := ih g2 h.2
        exact ⟨⟨lq_fit_ok hB g1 h.1, q1⟩, by rw [List.length_cons, List.length_cons, q2]⟩
theorem lq_ry_ok {ret : lq_V} {y : tk_X} {vals : List Int} {rads : List Nat} {v : Option Value} (h : lq_ry ret y = true) (hr : tk_ret y.1 vals rads (.returned v)) : ∃ u, v = some u ∧ lq_g b ax am i xs ret u := by
  unfold lq_ry at h
  split at h
  · next a ha =>
    rw [ha] at hr
    obtain ⟨u, hg, eu⟩ := hr
    have ev : v = some u := Outcome.returned.inj eu
    refine ⟨u, ev, ?_⟩
    rw [Bool.or_eq_true, Bool.or_eq_true, Bool.and_eq_true, Bool.and_eq_true, Bool.and_eq_true, Bool.and_eq_true, decide_eq_true_eq, decide_eq_true_eq] at h
    unfold lq_g
    rcases h with ⟨h1, h2⟩ | ⟨h1, h2⟩ | ⟨h1, h2, h3⟩
    · rw [Nat.eq_of_beq_eq_true h1]
      obtain ⟨x, rfl, -⟩ := tk_g0 hg (Nat.eq_of_beq_eq_true h2)
      exact ⟨x, rfl⟩
    · rw [Nat.eq_of_beq_eq_true h1]
      obtain ⟨x, rfl, -⟩ := tk_g1 hg (Nat.eq_of_beq_eq_true h2)
      exact ⟨x, rfl⟩
    · rw [Nat.eq_of_beq_eq_true h1]
      subst h2
      obtain ⟨x, rfl, hx⟩ := tk_g0 hg rfl
      have hx : some (ret.2 : Int) = some x.toInt := hx
      have e : x.toInt = (nI ret.2).toInt := by rw [nI_i32 h3]; exact (Option.some.inj hx).symm
      show Value.int x = .int (nI ret.2)
      rw [Int32.toInt_inj.mp e]
  · cases h
end LQG
end MH56_1
section MH56_2
/-! ===== the law: the small run is sound ===== -/
section LQS
variable {p : Program} {l : Launch} {e : Env} {R : Room} {s : State} {m : MethodId} {args : Array Value} {below : List Frame} {meth : Method} {c : Code} {Q : State → Prop} {D : va_G} {Ad : Nat → Prop} {xt : tk_XT} {b ax am i L nc ns : Nat} {xs : Nat → Int32} {adC adM : List Nat}
def gn_TY : tk_TT := tk_TF gm_TY gn_FX (fun _ _ _ _ _ => false)
theorem gn_fmTy : fm_Ty gn_TY := ⟨rfl, rfl, rfl⟩
/-- both worlds stand -/
def lw_J (s : State) (D : va_G) (Ad : Nat → Prop) (adC adM : List Nat) (H : Heap) (locs : List Loc) : Prop := (∃ ws, lw_T gc_TY (gc_X lw_twC) adC lw_twC s D Ad H ws) ∧ (∃ ws, lw_T gn_TY (gn_X lw_twM) adM lw_twM s D Ad H ws) ∧ va_S Ad s.heap H locs
def lw_lc (b ax am i : Nat) : List (Nat × Value) := [(3, .int (nI i)), (2, .ref am), (1, .ref ax), (0, .ref b)]
def lq_St (K : rk_K) (s : State) (D : va_G) (Ad : Nat → Prop) (adC adM : List Nat) (b ax am i : Nat) (xs : Nat → Int32) (nc ns pc : Nat) (st : List lq_V) : Prop := ∀ (H : Heap) (locs : List Loc) (ls : Array Slot) (stk : List Value), lw_J s D Ad adC adM H locs → lv_has ls 4 (lw_lc b ax am i) → rk_A2 (lq_g b ax am i xs) st stk → K pc ls stk H locs nc ns
/-- the contract that a row names -/
def lq_con (l : Launch) (D : va_G) (xt : tk_XT) (adC adM : List Nat) (r : lq_R) : Prop := (r.2.1 = 3 → ∃ (ys : List tk_X) (mods : List (Nat × Nat)), tk_KS l D gk_cl gk_tbl gk_xw xt gk_MN gk_P gc_TY lc_ro (gc_X lw_twC) adC lw_twC 20 (r.2.2.1, (2, 0, 0, 0) :: lq_as 0 r.2.2.2.1, (r.2.2.2.2.1, []), [0], [], ys, mods) ∧ ys.all (lq_ry r.2.2.2.2.2) = true) ∧ (r.2.1 = 4 → ∃ (ys : List tk_X) (mods : List (Nat × Nat)), tk_KS l D gk_cl gk_tbl gk_xw xt gk_MN gk_P gn_TY lc_ro (gn_X lw_twM) adM lw_twM 20 (r.2.2.1, (2, 0, 0, 0) :: lq_as 0 r.2.2.2.1, (r.2.2.2.2.1, []), [0], [], ys, mods) ∧ ys.all (lq_ry r.2.2.2.2.2) = true)
set_option maxHeartbeats 8000000 in
theorem lq_step_ok (hxt : tk_xtok xt) (hXt : xt Ad s s.heap) (hx : p.tables.exec = Jvm.exec) (hb : c.code = code) (hml : c.maxLocals = 4) (hF : rk_Fr s m args meth D gk_cl Ad gk_tbl gk_xw gk_fty gk_cln "GooseIceLaw" gk_lk12 gk_lcs) (hfr : 21 ≤ R.frames) (hlo : 840 ≤ R.locals) (hX : va_X b L xs s s.heap) (hbl : b < s.heap.size) (hbA : ¬ Ad b) (hL : L < 2147483648) (hi : i + 6 ≤ L) (hdis : ∀ x ∈ adM, ¬ x ∈ adC) (haC : tk_ty adC lw_twC 0 ax) (haM : tk_ty adM lw_twM 0 am) (hnc : nc ≤ R.cells) (hns : ns ≤ R.slots)
    {B : Nat → tk_I} (hB : ∀ k, (B k).1 ≤ (xs (i + k)).toInt ∧ (xs (i + k)).toInt ≤ (B k).2) {T : List lq_R} (hT : ∀ r ∈ T, lq_con l D xt adC adM r) {pc : Nat} {ins : Instr} {len : Nat} {st : List lq_V} {res : List (Nat × List lq_V)} (hdg : decode code pc = .ok (ins, len)) (hlen : rk_len ins len = true) (h : lq_step B T pc ins st = some res) (kk : ∀ q ∈ res, lq_St (rk_KW p l e R s m args below meth c Q) s D Ad adC adM b ax am i xs nc ns q.1 q.2) : lq_St (rk_KW p l e R s m args below meth c Q) s D Ad adC adM b ax am i xs nc ns pc st := by
  intro H locs ls stk hJ hl hS
  have hS0 : va_S Ad s.heap H locs := hJ.2.2
  cases ins
  case aload_n k =>
    simp [rk_len] at hlen; subst hlen
    simp only [lq_step] at h
    split at h
    · next e => cases h; exact lv_aload_n hx hb hdg e (lv_at hl 3 rfl) (kk _ (List.mem_singleton.mpr rfl) H locs ls _ hJ hl ⟨rfl, hS⟩)
    · split at h
      · next e => cases h; exact lv_aload_n hx hb hdg e (lv_at hl 2 rfl) (kk _ (List.mem_singleton.mpr rfl) H locs ls _ hJ hl ⟨rfl, hS⟩)
      · split at h
        · next e => cases h; exact lv_aload_n hx hb hdg e (lv_at hl 1 rfl) (kk _ (List.mem_singleton.mpr rfl) H locs ls _ hJ hl ⟨rfl, hS⟩)
        · cases h
  case iload_n k =>
    simp [rk_len] at hlen; subst hlen
    simp only [lq_step] at h
    split at h
    · next e => cases h; exact lv_iload_n hx hb hdg e (lv_at hl 0 rfl) (kk _ (List.mem_singleton.mpr rfl) H locs ls _ hJ hl ⟨rfl, hS⟩)
    · cases h
  case iconst n =>
    simp [rk_len] at hlen; subst hlen
    simp only [lq_step] at h
    split at h
    · next e =>
      cases h
      have hv : Int32.ofInt n = nI n.toNat := by
        rcases (by omega : n = 0 ∨ n = 1 ∨ n = 2 ∨ n = 3 ∨ n = 4 ∨ n = 5) with rfl | rfl | rfl | rfl | rfl | rfl <;> rfl
      exact lv_iconst hx hb hdg hv (kk _ (List.mem_singleton.mpr rfl) H locs ls _ hJ hl ⟨rfl, hS⟩)
    · cases h
  case bipush n =>
    simp [rk_len] at hlen; subst hlen
    simp only [lq_step] at h
    cases h
    exact lv_bipush hx hb hdg rfl (kk _ (List.mem_singleton.mpr rfl) H locs ls _ hJ hl ⟨⟨_, rfl⟩, hS⟩)
  case iadd =>
    simp [rk_len] at hlen; subst hlen
    simp only [lq_step] at h
    split at h
    · next k j r =>
      split at h
      · next e =>
        cases h
        obtain ⟨v1, k1, rfl, g1, hS1⟩ := hS.cons
        obtain ⟨v2, k2, rfl, g2, hS2⟩ := hS1.cons
        have g1 : v1 = .int (nI k) := g1
        have g2 : v2 = .int (nI (i + j)) := g2
        subst g1 g2
        refine lv_iadd hx hb hdg (kk _ (List.mem_singleton.mpr rfl) H locs ls _ hJ hl ⟨?_, hS2⟩)
        show Value.int (nI (i + j) + nI k) = .int (nI (i + (j + k)))
        rw [nI_add, Nat.add_assoc]
      · cases h
    · cases h
  case iaload =>
    simp [rk_len] at hlen; subst hlen
    simp only [lq_step] at h
    split at h
    · next k j r =>
      split at h
      · next e =>
        cases h
        obtain ⟨v1, k1, rfl, g1, hS1⟩ := hS.cons
        obtain ⟨v2, k2, rfl, g2, hS2⟩ := hS1.cons
        have g1 : v1 = .int (nI (i + k)) := g1
        have g2 : v2 = .ref b := g2
        subst g1 g2
        have hin : vp_in (nI (i + k)) L := vp_in_iff.mpr (by rw [nI_i32 (by omega)]; omega)
        refine va_sld hx hb hX hbl hbA hS0 hin hdg (kk _ (List.mem_singleton.mpr rfl) H locs ls _ hJ hl ⟨?_, hS2⟩)
        show Value.int (xs (nI (i + k)).toNatClampNeg) = .int (xs (i + k))
        rw [show (nI (i + k)).toNatClampNeg = i + k from nI_clamp (by omega)]
      · cases h
    · cases h
  case i2l =>
    simp [rk_len] at hlen; subst hlen
    simp only [lq_step] at h
    split at h
    · next a r =>
      split at h
      · next e =>
        cases h
        obtain ⟨v1, k1, rfl, g1, hS1⟩ := hS.cons
        obtain ⟨x, rfl⟩ := lq_int_ok e g1
        exact lv_i2l hx hb hdg rfl (kk _ (List.mem_singleton.mpr rfl) H locs ls _ hJ hl ⟨⟨_, rfl⟩, hS1⟩)
      · cases h
    · cases h
  case lshl =>
    simp [rk_len] at hlen; subst hlen
    simp only [lq_step] at h
    split at h
    · next a j r =>
      split at h
      · next e =>
        cases h
        obtain ⟨v1, k1, rfl, g1, hS1⟩ := hS.cons
        obtain ⟨v2, k2, rfl, ⟨y, rfl⟩, hS2⟩ := hS1.cons
        obtain ⟨x, rfl⟩ := lq_int_ok e g1
        exact lv_lshl hx hb hdg rfl (kk _ (List.mem_singleton.mpr rfl) H locs ls _ hJ hl ⟨⟨_, rfl⟩, hS2⟩)
      · cases h
    · cases h
  case land =>
    simp [rk_len] at hlen; subst hlen
    simp only [lq_step] at h
    split at h
    · cases h
      obtain ⟨v1, k1, rfl, ⟨x, rfl⟩, hS1⟩ := hS.cons
      obtain ⟨v2, k2, rfl, ⟨y, rfl⟩, hS2⟩ := hS1.cons
      exact lv_land hx hb hdg (kk _ (List.mem_singleton.mpr rfl) H locs ls _ hJ hl ⟨⟨_, rfl⟩, hS2⟩)
    · cases h
  case lor =>
    simp [rk_len] at hlen; subst hlen
    simp only [lq_step] at h
    split at h
    · cases h
      obtain ⟨v1, k1, rfl, ⟨x, rfl⟩, hS1⟩ := hS.cons
      obtain ⟨v2, k2, rfl, ⟨y, rfl⟩, hS2⟩ := hS1.cons
      exact lv_lor hx hb hdg (kk _ (List.mem_singleton.mpr rfl) H locs ls _ hJ hl ⟨⟨_, rfl⟩, hS2⟩)
    · cases h
  case ldc2_w idx =>
    simp [rk_len] at hlen; subst hlen
    simp only [lq_step] at h
    split at h
    · next x hc1 =>
      cases h
      obtain ⟨hts, hxw, hown, hK, hA, hcl, hlk, hini, hac, hcs⟩ := hF
      exact lv_ldc2 hx hb hown (hts _ ((hcs _ (rk_cst_mem hc1)).2 x rfl)) hdg (kk _ (List.mem_singleton.mpr rfl) H locs ls _ hJ hl ⟨⟨_, rfl⟩, hS⟩)
    · cases h
  case pop =>
    simp [rk_len] at hlen; subst hlen
    simp only [lq_step] at h
    split at h
    · next a r =>
      split at h
      · next e =>
        cases h
        obtain ⟨v1, k1, rfl, g1, hS1⟩ := hS.cons
        obtain ⟨x, rfl⟩ := lq_int_ok e g1
        exact lv_pop hx hb hdg rfl (kk _ (List.mem_singleton.mpr rfl) H locs ls _ hJ hl hS1)
      · cases h
    · cases h
  case pop2 =>
    simp [rk_len] at hlen; subst hlen
    simp only [lq_step] at h
    split at h
    · cases h
      obtain ⟨v1, k1, rfl, ⟨x, rfl⟩, hS1⟩ := hS.cons
      exact lv_pop2_2 hx hb hdg rfl (kk _ (List.mem_singleton.mpr rfl) H locs ls _ hJ hl hS1)
    · cases h
  case goto off =>
    simp [rk_len] at hlen; subst hlen
    simp only [lq_step] at h
    split at h
    · next e =>
      cases h
      exact lv_goto (tgt := ((pc : Int) + off).toNat) hx hb hdg (by omega) (kk _ (List.mem_singleton.mpr rfl) H locs ls _ hJ hl hS)
    · cases h
  case ifCond cnd off =>
    simp [rk_len] at hlen; subst hlen
    cases cnd
    case eq =>
      simp only [lq_step] at h
      split at h
      · next a r =>
        split at h
        · next e =>
          cases h
          obtain ⟨v1, k1, rfl, g1, hS1⟩ := hS.cons
          obtain ⟨x, rfl⟩ := lq_int_ok e.1 g1
          exact lv_if_eq (tgt := ((pc : Int) + off).toNat) hx hb hdg (by omega) (fun _ => kk _ List.mem_cons_self H locs ls _ hJ hl hS1) (fun _ => kk _ (List.mem_cons_of_mem _ List.mem_cons_self) H locs ls _ hJ hl hS1)
        · cases h
      · cases h
    all_goals (simp [lq_step] at h)
  case if_icmp cnd off =>
    simp [rk_len] at hlen; subst hlen
    cases cnd
    case eq =>
      simp only [lq_step] at h
      split at h
      · next k j r =>
        split at h
        · next e =>
          cases h
          obtain ⟨v1, k1, rfl, g1, hS1⟩ := hS.cons
          obtain ⟨v2, k2, rfl, g2, hS2⟩ := hS1.cons
          have g1 : v1 = .int (nI k) := g1
          have g2 : v2 = .int (nI j) := g2
          obtain ⟨rfl, e2⟩ := e
          subst g1 g2
          exact lv_icmp_eq (tgt := ((pc : Int) + off).toNat) hx hb hdg (by omega) (fun _ => kk _ (List.mem_singleton.mpr rfl) H locs ls _ hJ hl hS2) (fun q => absurd rfl q)
        · cases h
      · cases h
    all_goals (simp [lq_step] at h)
  case invokevirtual idx =>
    simp [rk_len] at hlen; subst hlen
    simp only [lq_step] at h
    split at h
    · next r rest hcl =>
      cases h
      unfold lq_call at hcl
      split at hcl
      · next r' kd f n hfd hlk =>
        split at hcl
        · next as a rest' hpop =>
          split at hcl
          · next hc =>
            cases hcl
            obtain ⟨⟨rfl, rfl, rfl, hmc⟩, ⟨ha1, hside⟩, hfit, hsum⟩ := hc
            obtain ⟨v2, r2, ha, hr, rfl, hn⟩ := lq_pop_ok r.2.2.2.1.length hpop (show rk_A2 (lq_g b ax am i xs) [] [] from trivial) hS
            rw [List.append_nil] at ha
            obtain ⟨vr, stk', rfl, hgr, hS1⟩ := hr.cons
            obtain ⟨hav, hke⟩ := lq_fits_ok hB ha hfit
            have hcon := hT _ (List.mem_of_find?_eq_some hfd)
            have hsum' : (stk'.map fun v => v.category).sum ≤ 8 := by rw [lq_sum_ok hS1]; exact hsum
            obtain ⟨⟨wsC, hC⟩, ⟨wsM, hM⟩, -⟩ := id hJ
            rcases hside with h3 | h4
            · obtain ⟨ys, mods, hK, hys⟩ := hcon.1 h3
              have hvr : vr = .ref ax := by
                unfold lq_g at hgr
                rw [ha1, h3] at hgr
                exact hgr
              subst hvr
              rw [h3] at hmc
              refine lw_call (lc := lw_lc b ax am i) hxt hXt hx hb hml hF (fun r hr => (gk_lkok12 r hr).2.1) hdis hK hfr (by omega) (o1 := (11, _)) rfl hmc haC hlk rfl hke hav hsum' hdg hnc hns hl hC hM hS0 (fun y hy vals' rads' ws1' H' locs' v hH' h1' h2' hS' hun' hret => ?_)
              obtain ⟨u, rfl, hu⟩ := lq_ry_ok (b := b) (ax := ax) (am := am) (i := i) (xs := xs) (List.all_eq_true.mp hys y hy) hret
              exact kk _ (List.mem_singleton.mpr rfl) H' locs' ls _ ⟨⟨_, h1'⟩, ⟨_, h2'⟩, hS'⟩ hl ⟨hu, hS1⟩
            · obtain ⟨ys, mods, hK, hys⟩ := hcon.2 h4
              have hvr : vr = .ref am := by
                unfold lq_g at hgr
                rw [ha1, h4] at hgr
                exact hgr
              subst hvr
              rw [h4] at hmc
              refine lw_call (lc := lw_lc b ax am i) hxt hXt hx hb hml hF (fun r hr => (gk_lkok12 r hr).2.1) (fun x h1 h2 => hdis x h2 h1) hK hfr (by omega) (o1 := (12, _)) rfl hmc haM hlk rfl hke hav hsum' hdg hnc hns hl hM hC hS0 (fun y hy vals' rads' ws1' H' locs' v hH' h1' h2' hS' hun' hret => ?_)
              obtain ⟨u, rfl, hu⟩ := lq_ry_ok (b := b) (ax := ax) (am := am) (i := i) (xs := xs) (List.all_eq_true.mp hys y hy) hret
              exact kk _ (List.mem_singleton.mpr rfl) H' locs' ls _ ⟨⟨_, h2'⟩, ⟨_, h1'⟩, hS'⟩ hl ⟨hu, hS1⟩
          · cases hcl
        · cases hcl
      · cases hcl
    · cases h
  all_goals (simp [lq_step] at h)
theorem lq_run_ok (hxt : tk_xtok xt) (hXt : xt Ad s s.heap) (hx : p.tables.exec = Jvm.exec) (hb : c.code = code) (hml : c.maxLocals = 4) (hF : rk_Fr s m args meth D gk_cl Ad gk_tbl gk_xw gk_fty gk_cln "GooseIceLaw" gk_lk12 gk_lcs) (hfr : 21 ≤ R.frames) (hlo : 840 ≤ R.locals) (hX : va_X b L xs s s.heap) (hbl : b < s.heap.size) (hbA : ¬ Ad b) (hL : L < 2147483648) (hi : i + 6 ≤ L) (hdis : ∀ x ∈ adM, ¬ x ∈ adC) (haC : tk_ty adC lw_twC 0 ax) (haM : tk_ty adM lw_twM 0 am) (hnc : nc ≤ R.cells) (hns : ns ≤ R.slots)
    {B : Nat → tk_I} (hB : ∀ k, (B k).1 ≤ (xs (i + k)).toInt ∧ (xs (i + k)).toInt ≤ (B k).2) {T : List lq_R} (hT : ∀ r ∈ T, lq_con l D xt adC adM r) {li : List (Nat × Instr × Nat)} (hli : ∀ r ∈ li, decode code r.1 = .ok r.2) {stop : Nat} (hstop : lq_St (rk_KW p l e R s m args below meth c Q) s D Ad adC adM b ax am i xs nc ns stop []) : ∀ (n pc : Nat) (st : List lq_V), lq_run B T li stop n pc st = true → lq_St (rk_KW p l e R s m args below meth c Q) s D Ad adC adM b ax am i xs nc ns pc st := by
  intro n
  induction n with
  | zero => intro pc st h; cases h
  | succ n ih =>
    intro pc st h
    unfold lq_run at h
    cases hb1 : Nat.beq pc stop with
    | true =>
      rw [hb1] at h
      have h : st.isEmpty = true := h
      rw [Nat.eq_of_beq_eq_true hb1, List.isEmpty_iff.mp h]
      exact hstop
    | false =>
      rw [hb1] at h
      dsimp only [cond] at h
      split at h
      · next ins len hat =>
        rw [Bool.and_eq_true] at h
        obtain ⟨h1, h2⟩ := h
        split at h2
        · next res hres =>
          have hdg : decode code pc = .ok (ins, len) := hli (pc, ins, len) (lq_at_ok hat)
          refine lq_step_ok (pc := pc) (ins := ins) (len := len) (st := st) (res := res) hxt hXt hx hb hml hF hfr hlo hX hbl hbA hL hi hdis haC haM hnc hns hB hT hdg h1 hres (fun q hq => ?_)
          exact ih q.1 q.2 (List.all_eq_true.mp h2 q hq)
        · cases h2
      · cases h
end LQS
end MH56_2
section MH56_3
/-! ===== the law: what a call gives, told by a relation of the worlds before and behind it ===== -/
def lw_Post (D : va_G) (TY : tk_TT) (X : va_W → Prop) (ads tw : List Nat) (Q : va_W → Value → Prop) (Ad : Nat → Prop) : Array Value → State → Outcome → State → Prop := fun _ st oc t =>
  (∃ (ws' : va_W) (v : Value), ws'.map Prod.fst = ads ∧ rk_A2 (fun b (q : Nat × va_E) => tk_cl TY lc_ro ads tw t b q.2) tw ws' ∧ va_P D gk_cl ws' t.heap ∧ va_D Ad ws' ∧ X ws' ∧ Q ws' v ∧ oc = .returned (some v)) ∧ va_F Ad st t
def lw_sem (l : Launch) (D : va_G) (xt : tk_XT) (TY : tk_TT) (X : va_W → Prop) (ads tw : List Nat) (d f : Nat) (kinds : List Nat) (envs : List tk_I) (Q : List Value → va_W → va_W → Value → Prop) : Prop :=
  ∀ q : rk_N, gk_MN[f]? = some q → ∃ M, gk_P[f]? = some M ∧ M.2.1 ≤ 21 ∧ ∀ (ax : Nat) (ws : va_W) (av : List Value) (sz : Nat), tk_ty ads tw 0 ax → rk_A2 lq_av (kinds.zip envs) av → ws.map Prod.fst = ads → tk_ob TY lc_ro ads tw ws →
    Met l q.2.1 (Jvm.Cond.code q.2.1 q.2.2 M.2.1 M.2.2.2.2.1 :: gk_tbl) { frames := d, cells := 0, slots := 0, locals := 40 * d } (tk_Pre D gk_cl gk_xw xt TY lc_ro X ads tw ws sz (.ref ax :: av)) (lw_Post D TY X ads tw (Q av ws) (va_A ws sz)) 0 0 (va_A ws sz)
/-- what stands at a place of a world -/
def lw_at (ws : va_W) (z : Nat × Nat) : Option Value := match ws[z.1]? with
  | some q => tk_pos q.2 z.2
  | none => none
/-- an int, a long -/
def lr_ty (k : Nat) (v : Value) : Prop := match k with
  | 0 => ∃ x : Int32, v = .int x
  | 1 => ∃ x : Int64, v = .long x
  | _ => False
theorem gk_row {f : Nat} {q : rk_N} (hqn : gk_MN[f]? = some q) : ∃ M, gk_P[f]? = some M ∧ M.2.1 ≤ 21 := by
  have hlen : gk_MN.length = gk_P.length := gk_rok.2.2.2.2.1
  have hlt : f < gk_P.length := by rw [← hlen]; exact (List.getElem?_eq_some_iff.mp hqn).1
  refine ⟨gk_P[f], List.getElem?_eq_getElem hlt, ?_⟩
  have hall : gk_P.all (fun M => Nat.ble M.2.1 21) = true := by decide +kernel
  exact Nat.le_of_ble_eq_true (List.all_eq_true.mp hall _ (List.getElem_mem hlt))
section LSM
variable {l : Launch} {D : va_G} {xt : tk_XT} {TY : tk_TT} {X : va_W → Prop} {ads tw : List Nat} {d f : Nat} {kinds : List Nat} {envs : List tk_I} {Q : List Value → va_W → va_W → Value → Prop}
theorem lw_sem_imp {Q' : List Value → va_W → va_W → Value → Prop} (h : lw_sem l D xt TY X ads tw d f kinds envs Q) (hQ : ∀ av ws ws' v, rk_A2 lq_av (kinds.zip envs) av → Q av ws ws' v → Q' av ws ws' v) : lw_sem l D xt TY X ads tw d f kinds envs Q' := by
  intro q hq
  obtain ⟨M, h1, h2, h3⟩ := h q hq
  refine ⟨M, h1, h2, fun ax ws av sz a1 a2 a3 a4 => rk_Met_imp (h3 ax ws av sz a1 a2 a3 a4) (fun _ _ z => z) ?_ (fun _ z => z)⟩
  rintro a st oc t - - ⟨⟨ws', v, b1, b2, b3, b4, b5, b6, b7⟩, hF⟩
  exact ⟨⟨ws', v, b1, b2, b3, b4, b5, hQ _ _ _ _ a2 b6, b7⟩, hF⟩
theorem lw_sem_up {d' : Nat} (hd : d ≤ d') (h : lw_sem l D xt TY X ads tw d f kinds envs Q) : lw_sem l D xt TY X ads tw d' f kinds envs Q := by
  intro q hq
  obtain ⟨M, hM, hM21, hmet⟩ := h q hq
  refine ⟨M, hM, hM21, fun ax ws av sz a1 a2 a3 a4 => ?_⟩
  have := hmet ax ws av sz a1 a2 a3 a4
  unfold Met at this ⊢
  exact MetFree.respec this (fun _ _ z => z) hd (by show 40 * d ≤ 40 * d'; omega) (Nat.le_refl _) (Nat.le_refl _)
/-- out of contracts by tk: which one, the world says -/
theorem lw_sem_K (h : ∀ (U : State) (ax : Nat) (ws : va_W) (av : List Value), tk_ty ads tw 0 ax → rk_A2 lq_av (kinds.zip envs) av → ws.map Prod.fst = ads → rk_A2 (fun b (q : Nat × va_E) => tk_cl TY lc_ro ads tw U b q.2) tw ws → va_D (fun _ => True) ws → X ws → ∃ (as : List tk_V) (w : tk_W) (rf rads : List Nat) (fa : tk_FA) (ys : List tk_X) (mods : List (Nat × Nat)) (vals : List Int), tk_KS l D gk_cl gk_tbl gk_xw xt gk_MN gk_P TY lc_ro X ads tw d (f, (2, 0, 0, 0) :: as, w, 0 :: rf, fa, ys, mods) ∧ tk_H w vals ∧ rk_A2 (fun t y => tk_ty ads tw t y) rf rads ∧ rk_A2 (tk_g vals (ax :: rads)) as av ∧ (∀ z ∈ fa, tk_fk vals (ax :: rads) ws z) ∧ ∀ y ∈ ys, ∀ (t : State) (vals' : List Int) (rads' : List Nat) (ws' : va_W) (oc : Outcome), (∃ k, vals' = vals ++ k) → (∃ k, rads' = (ax :: rads) ++ k) → tk_H y.2.1 vals' → (∀ q ∈ y.2.2.2, tk_fk vals' rads' ws' q) → ws'.map Prod.fst = ads → rk_A2 (fun b (q : Nat × va_E) => tk_cl TY lc_ro ads tw t b q.2) tw ws' → tk_un TY mods tw ws ws' → tk_ret y.1 vals' rads' oc → ∃ v, oc = .returned (some v) ∧ Q av ws ws' v) : lw_sem l D xt TY X ads tw d f kinds envs Q := by
  intro q hq
  obtain ⟨M, hM, hM21⟩ := gk_row hq
  refine ⟨M, hM, hM21, fun ax ws av sz a1 a2 a3 a4 => rk_Met_case (fun aU U hP => ?_)⟩
  obtain ⟨p1, p2, p3, p4, p5, p6, p7, p8, p10⟩ := id hP
  obtain ⟨as, w, rf, rads, fa, ys, mods, vals, hK, hH, hR, hG, hfa, hQ⟩ := h U ax ws av a1 a2 a3 p6 p5 p10
  obtain ⟨M2, hM2, -, hmet⟩ := hK q hq
  obtain rfl : M = M2 := Option.some.inj (hM.symm.trans hM2)
  refine ⟨_, _, hmet vals (ax :: rads) ws (.ref ax :: av) sz hH ⟨a1, hR⟩ ⟨⟨ax, rfl, rfl⟩, hG⟩ a3 hfa a4, hP, ?_⟩
  rintro oc t - ⟨⟨y, hy, vals', rads', ws', c1, c2, c3, c4, c5, c6, c7, c8, c9, c10, c11⟩, hF⟩
  obtain ⟨v, e, hq2⟩ := hQ y hy t vals' rads' ws' oc c1 c2 c3 c9 c5 c6 c10.1 c11
  exact ⟨⟨ws', v, c5, c6, c7, c8, c10.2, hq2, e⟩, hF⟩
/-- where a contract writes none of the places looked at -/
def lr_un (tw : List Nat) (TY : tk_TT) (mods : List (Nat × Nat)) (W : List (Nat × Nat)) : Bool := W.all (fun z => match tw[z.1]? with
  | some t => !(tk_in mods t (tk_rg TY t z.2))
  | none => false)
def lw_unQ (cat : Nat) (W : List (Nat × Nat)) : List Value → va_W → va_W → Value → Prop := fun _ ws ws' v => lr_ty cat v ∧ ∀ z ∈ W, lw_at ws' z = lw_at ws z
theorem lw_un_at {mods W : List (Nat × Nat)} {ws ws' : va_W} (hl : ws.length = tw.length) (hu : lr_un tw TY mods W = true) (h : tk_un TY mods tw ws ws') : ∀ z ∈ W, lw_at ws' z = lw_at ws z := by
  intro z hz
  have h1 := List.all_eq_true.mp hu z hz
  cases ht : tw[z.1]? with
  | none => rw [ht] at h1; cases h1
  | some t =>
    rw [ht] at h1
    have hlt : z.1 < ws.length := by rw [hl]; exact (List.getElem?_eq_some_iff.mp ht).1
    have hw : ws[z.1]? = some (ws[z.1].1, ws[z.1].2) := List.getElem?_eq_getElem hlt
    obtain ⟨e', g1, g2, -⟩ := h z.1 _ _ hw
    have h1 : (!(tk_in mods t (tk_rg TY t z.2))) = true := h1
    unfold lw_at
    rw [g1, hw]
    exact g2 z.2 t ht (fun hm => by rw [tk_in_ok.mpr hm] at h1; cases h1)
def lr_ry (cat : Nat) (y : tk_X) : Bool := match y.1 with
  | some a => Nat.beq a.1 cat && Nat.ble cat 1
  | none => false
theorem lr_ry_ok {cat : Nat} {y : tk_X} {vals : List Int} {rads : List Nat} {oc : Outcome} (h : lr_ry cat y = true) (hr : tk_ret y.1 vals rads oc) : ∃ v, oc = .returned (some v) ∧ lr_ty cat v ∧ ∃ a, y.1 = some a ∧ tk_g vals rads a v := by
  unfold lr_ry at h
  split at h
  · next a ha =>
    rw [ha] at hr
    obtain ⟨u, hg, eu⟩ := hr
    rw [Bool.and_eq_true] at h
    have h1 := Nat.eq_of_beq_eq_true h.1
    have h2 := Nat.le_of_ble_eq_true h.2
    refine ⟨u, eu, ?_, a, ha, hg⟩
    rcases (by omega : cat = 0 ∨ cat = 1) with rfl | rfl
    · obtain ⟨x, rfl, -⟩ := tk_g0 hg h1
      exact ⟨x, rfl⟩
    · obtain ⟨x, rfl, -⟩ := tk_g1 hg h1
      exact ⟨x, rfl⟩
  · cases h
theorem lw_len {ws : va_W} (h4 : ws.map Prod.fst = ads) (hl : ads.length = tw.length) : ws.length = tw.length := by rw [← hl, ← h4, List.length_map]
theorem lw_sem_un {cat : Nat} {W mods : List (Nat × Nat)} {ys : List tk_X} (hl : ads.length = tw.length) (hke : kinds.length = envs.length) (hK : tk_KS l D gk_cl gk_tbl gk_xw xt gk_MN gk_P TY lc_ro X ads tw d (f, (2, 0, 0, 0) :: lq_as 0 kinds, (envs, []), [0], [], ys, mods)) (hys : ys.all (lr_ry cat) = true) (hW : lr_un tw TY mods W = true) : lw_sem l D xt TY X ads tw d f kinds envs (lw_unQ cat W) := by
  refine lw_sem_K (fun U ax ws av a1 a2 a3 a4 a5 a6 => ?_)
  obtain ⟨vals, hE, hG⟩ := lq_as_ok (rads := [ax]) (kinds.zip envs) av [] a2
  rw [List.map_snd_zip (by omega)] at hE
  rw [List.map_fst_zip (by omega)] at hG
  refine ⟨_, (envs, []), [], [], [], ys, mods, vals, hK, ⟨hE, fun q hq => absurd hq List.not_mem_nil⟩, trivial, hG, fun z hz => absurd hz List.not_mem_nil, fun y hy t vals' rads' ws' oc k1 k2 k3 k4 k5 k6 k7 k8 => ?_⟩
  obtain ⟨v, e, h1, -⟩ := lr_ry_ok (List.all_eq_true.mp hys y hy) k8
  exact ⟨v, e, h1, lw_un_at (lw_len a3 hl) hW k7⟩
/-- a fact about a place of the world, from what stands there -/
theorem lw_fk {vals : List Int} {rads : List Nat} {ws : va_W} {r j i : Nat} {y : Nat} {e : va_E} {a : tk_V} {v : Value} (hr : rads[r]? = some y) (hw : ws[j]? = some (y, e)) (hv : lw_at ws (j, i) = some v) (hg : tk_g vals rads a v) : tk_fk vals rads ws (r, (0, 0, 0, (i : Int)), a) := by
  unfold lw_at at hv
  dsimp only at hv
  rw [hw] at hv
  exact ⟨y, j, i, e, v, hr, rfl, hw, hv, hg⟩
/-- and back -/
theorem lw_fk_at {vals : List Int} {rads : List Nat} {ws ws' : va_W} (hD : va_D (fun _ => True) ws) (hm : ws'.map Prod.fst = ws.map Prod.fst) {r j i : Nat} {y : Nat} {e : va_E} {a : tk_V} (hr : rads[r]? = some y) (hw : ws[j]? = some (y, e)) (h : tk_fk vals rads ws' (r, (0, 0, 0, (i : Int)), a)) : ∃ v, lw_at ws' (j, i) = some v ∧ tk_g vals rads a v := by
  obtain ⟨y2, j2, i2, e2, v, h1, h2, h3, h4, h5⟩ := h
  have h1 : rads[r]? = some y2 := h1
  rw [hr] at h1
  cases h1
  have h2 : some (i : Int) = some (i2 : Int) := h2
  have hi : i = i2 := Int.ofNat.inj (Option.some.inj h2)
  subst hi
  have h6 : (ws'.map Prod.fst)[j2]? = some y := by rw [List.getElem?_map, h3]; rfl
  rw [hm, List.getElem?_map] at h6
  obtain ⟨q, hq, e6⟩ := Option.map_eq_some_iff.mp h6
  have ej := hD.1 j2 j q _ hq hw e6
  subst ej
  refine ⟨v, ?_, h5⟩
  unfold lw_at
  dsimp only
  rw [h3]
  exact h4
theorem lw_rads {rads rads' : List Nat} {r y : Nat} (h : ∃ k, rads' = rads ++ k) (hr : rads[r]? = some y) : rads'[r]? = some y := by
  obtain ⟨k, rfl⟩ := h
  rw [List.getElem?_append_left (List.getElem?_eq_some_iff.mp hr).1]
  exact hr
theorem lw_vals {vals vals' : List Int} {r : Nat} {x : Int} (h : ∃ k, vals' = vals ++ k) (hr : vals[r]? = some x) : vals'[r]? = some x := by
  obtain ⟨k, rfl⟩ := h
  rw [List.getElem?_append_left (List.getElem?_eq_some_iff.mp hr).1]
  exact hr
end LSM
section LWC2
variable {p : Program} {l : Launch} {e : Env} {R : Room} {s : State} {m : MethodId} {args : Array Value} {below : List Frame} {meth : Method} {c : Code} {Q : State → Prop} {cc : ByteArray} {D : va_G} {Ad : Nat → Prop} {xt : tk_XT} {lk : List (Nat × Nat × Nat × Nat)} {cs : List (Nat × Value)} {own : String} {nL : Nat}
set_option maxHeartbeats 4000000 in
theorem lw_call2 {TY1 TY2 : tk_TT} {X1 X2 : va_W → Prop} {ads1 tw1 ads2 tw2 : List Nat} (hxt : tk_xtok xt) (hXt : xt Ad s s.heap) (hx : p.tables.exec = Jvm.exec) (hb : c.code = cc) (hml : c.maxLocals = nL) (hF : rk_Fr s m args meth D gk_cl Ad gk_tbl gk_xw gk_fty gk_cln own lk cs) (hck : ∀ r ∈ lk, rk_cok gk_tbl gk_xw gk_MN gk_P own r)
    (hdis : ∀ x ∈ ads2, ¬ x ∈ ads1) {d f : Nat} {kinds : List Nat} {envs : List tk_I} {QQ : List Value → va_W → va_W → Value → Prop} (hK : lw_sem l D xt TY1 X1 ads1 tw1 d f kinds envs QQ) (hfr : d + 1 ≤ R.frames) (hlo : 40 * (d + 1) ≤ R.locals) {o1 : Nat × List tk_F} (hT0 : TY1.1[0]? = some (.inl o1)) (hmc : gk_mci[f]? = some o1.1) {ax : Nat} (hax : tk_ty ads1 tw1 0 ax)
    {pc idx n : Nat} (hlk : rk_lk lk idx = some (5, f, n)) (hn : kinds.length = n) (hke : kinds.length = envs.length) {av rest : List Value} (hav : rk_A2 lq_av (kinds.zip envs) av) (hsum : (rest.map fun v => v.category).sum ≤ 8)
    (hdg : decode cc pc = .ok (.invokevirtual idx, 3)) {H : Heap} {locs : List Loc} {ls : Array Slot} {nc ns : Nat} (hnc : nc ≤ R.cells) (hns : ns ≤ R.slots) {lc : List (Nat × Value)} (hl : lv_has ls nL lc) {ws1 ws2 : va_W} (h1 : lw_T TY1 X1 ads1 tw1 s D Ad H ws1) (h2 : lw_T TY2 X2 ads2 tw2 s D Ad H ws2) (hS : va_S Ad s.heap H locs)
    (kk : ∀ (ws1' : va_W) (H' : Heap) (locs' : List Loc) (v : Value), QQ av ws1 ws1' v → lw_T TY1 X1 ads1 tw1 s D Ad H' ws1' → lw_T TY2 X2 ads2 tw2 s D Ad H' ws2 → va_S Ad s.heap H' locs' → W p l e R s m args below meth c H' locs' nc ns Q (F0 m (pc + 3) ls (v :: rest))) : W p l e R s m args below meth c H locs nc ns Q (F0 m pc ls (av.reverse ++ .ref ax :: rest)) := by
  obtain ⟨hgw, hxo, -, -, hlenM, hmok, hmci⟩ := gk_rok
  obtain ⟨hts, hxw, hown, hK0, hA, hcl, hlkk, hini, hac, hcs⟩ := hF
  have hfix : CallFix p m c cc nL s args gk_tbl own := ⟨hx, hb, hml, hown, hts⟩
  obtain ⟨a1, a2, a3, a4, a5⟩ := id h1
  obtain ⟨b1, b2, b3, b4, b5⟩ := id h2
  have hlen : av.length = n := by
    have := hav.len
    rw [List.length_zip] at this
    omega
  obtain ⟨j, e1, hw, hj, hc1⟩ := tk_cell a1 a2 hax
  unfold tk_cl at hc1
  rw [hT0] at hc1
  obtain ⟨vs, rfl, hvl, hvs⟩ := hc1
  have hck1 := hck _ (rk_lk_mem hlk)
  obtain ⟨q, hq, w1, w2, w3, w4⟩ := hck1
  obtain ⟨M, hM, hM21, hmet⟩ := hK q hq
  obtain ⟨m1, m2, m3, m4, m5, -⟩ := hmok f q M hq hM
  obtain ⟨kq, hkq, -⟩ := a3 j _ hw
  have hkn := hmci f o1.1 q kq hmc hq hkq
  have hrecv := va_recv hK0 a3 hkq hw
  rw [hkn] at hrecv
  have hs : tk_hs TY1 lc_ro X1 ads1 tw1 s D gk_cl Ad [] [ax] H locs [0] [] ws1 := ⟨⟨hax, trivial⟩, a1, a2, a3, a4, hS, fun q hq => absurd hq List.not_mem_nil⟩
  have hr : va_Run p l e R s m args below meth c H locs nc ns 0 0 (F0 m pc ls (av.reverse ++ .ref ax :: rest)) rest (lw_Post D TY1 X1 ads1 tw1 (QQ av ws1) (va_A ws1 H.size) (Value.ref ax :: av).toArray) (va_A ws1 H.size) :=
    va_runV (C := q.1) hfix (hmet ax ws1 av H.size hax hav a1 (tk_ob_of a1 a2)) ⟨callB_of n hts (rk_good hgw m4) rfl rfl rfl (hts _ m5) (hts _ w1) ⟨m3.1, m3.2, w4⟩ ⟨hfr, by show 8 + (M.2.1 + 11) + 40 * d ≤ R.locals; omega⟩, hts _ w2, hts _ w3⟩ ⟨tk_blind hxo hxt, hrecv, fun U hU hW => tk_pre hxo hxw hxt hXt hA hK0 hs a5 U hU hW⟩ rfl hlen hl.1 rfl (lv_room hsum) hdg ⟨hnc, hns⟩
  have hsub : ∀ q, va_A ws1 H.size q → Ad q := by
    rintro q (⟨k, e1, hk⟩ | hq)
    · exact a4.2 k _ hk
    · exact hA q (Nat.le_trans hS.1 hq)
  intro T hT X
  obtain ⟨v, st₀, t, T', L, h0, X', hLf, e1', e2, ⟨⟨ws1', v1, c5, c6, c7, c8, c9, c10, c11⟩, hFr⟩, go⟩ := hr T hT X
  have ev : v = some v1 := Outcome.returned.inj c11
  subst ev
  have hal : t.vm.Alike s.vm := by rw [← e2]; exact X'.warmed.alike.symm
  have hS1 : va_S Ad s.heap t.heap (locs ++ L) := by
    refine ⟨Nat.le_trans hS.1 (by rw [← h0]; exact hFr.1), fun q hq hn => ?_, fun z hz => ?_⟩
    · rw [hFr.2 q (by rw [h0]; exact Nat.lt_of_lt_of_le hq hS.1) (fun z => hn (hsub q z)), h0]
      exact hS.2.1 q hq hn
    · rcases List.mem_append.mp hz with z1 | z1
      · exact hS.2.2 z z1
      · exact hsub _ (hLf z z1)
  have hT1 : lw_T TY1 X1 ads1 tw1 s D Ad t.heap ws1' := ⟨c5, c6.mono (fun _ _ h => tk_cl_moved hal h), c7, c8.weaken (fun _ _ _ z => hsub _ z), c9⟩
  have hT2 : lw_T TY2 X2 ads2 tw2 s D Ad t.heap ws2 := ⟨b1, b2, fun i q hq => (b3 i q hq).kept (by
    rw [← h0]
    refine hFr.2 q.1 (by rw [h0]; exact (b3 i q hq).lt) ?_
    rintro (⟨k, e9, hk⟩ | hge)
    · exact hdis q.1 (by rw [← b1]; exact List.mem_map.mpr ⟨q, List.mem_of_getElem? hq, rfl⟩) (by rw [← a1]; exact List.mem_map.mpr ⟨_, List.mem_of_getElem? hk, rfl⟩)
    · have := (b3 i q hq).lt
      omega), b4, b5⟩
  obtain ⟨t2, d1, d2⟩ := kk ws1' t.heap (locs ++ L) v1 c10 hT1 hT2 hS1 T' e1' X'
  exact ⟨t2, go t2 d1, d2⟩
end LWC2
theorem gm_fmTy : fm_Ty gm_TY := ⟨rfl, rfl, rfl⟩
end MH56_3
section MH56_4
/-! ===== the model's calls by fx: what they give, exactly ===== -/
theorem fx_v_id {ps : fx_P} {v : Value} (h : fx_kd v ≤ 1) : fx_v ps v = v := by
  cases v with
  | ref j => exact absurd (show (2 : Nat) ≤ 1 from h) (by decide)
  | _ => rfl
section FMS
variable {l : Launch} {D : va_G} {xt : tk_XT} {TY : tk_TT} {X : va_W → Prop} {ads tw : List Nat}
set_option maxHeartbeats 8000000 in
theorem fm_sem0 (hst : ∀ (Ad : Nat → Prop) (U : State) (H : Heap), xt Ad U H → ∃ pl v tx, sk_X pl v Ad U H ∧ vk_R "GooseIceModel" 189 tx pl U) (hT : fm_Ty TY) {k f : Nat} {kinds : List Nat} {envs : List tk_I} {mods : List (Nat × Nat)} {Q : List Value → va_W → va_W → Value → Prop}
    (hex : ∀ (U : State) (rest : List Value) (ws : va_W) (h0 : Nat) (ps : fx_P) (σ : List Nat) (g : Nat → Int32) (tp bt : Int64) (a : Nat → Nat → Int32) (b : Nat → Nat → Int64), rk_A2 lq_av (kinds.zip envs) rest → rk_A2 (fun t (q : Nat × va_E) => tk_cl TY lc_ro ads tw U t q.2) tw ws → ws.map Prod.fst = ads → va_D (fun _ => True) ws → fm_at U tw ws h0 ps σ (fm g tp bt a b) → X ws →
      ∃ (v : Value) (mem' : fx_M), fx_kd v ≤ 1 ∧ fr_T k f (.ref 0 :: rest) (fm g tp bt a b) (some v) mem' ∧ (∀ (t : Nat) (e e' : fx_E), (fm g tp bt a b)[t]? = some e → mem'[t]? = some e' → fm_chg2 TY lc_ro ads tw mods ps t e e') ∧ X (fx_put ws σ (fx_w ps mem')) ∧ Q rest ws (fx_put ws σ (fx_w ps mem')) v) : lw_sem l D xt TY X ads tw (k + 4) f kinds envs Q := by
  intro qn hqn
  -- the method's own table row
  obtain ⟨M, hM, hM21⟩ : ∃ M, gk_P[f]? = some M ∧ M.2.1 ≤ 21 := by
    have hlen : gk_MN.length = gk_P.length := gk_rok.2.2.2.2.1
    have hlt : f < gk_P.length := by rw [← hlen]; exact (List.getElem?_eq_some_iff.mp hqn).1
    refine ⟨gk_P[f], List.getElem?_eq_getElem hlt, ?_⟩
    have hall : gk_P.all (fun M => Nat.ble M.2.1 21) = true := by decide +kernel
    exact Nat.le_of_ble_eq_true (List.all_eq_true.mp hall _ (List.getElem_mem hlt))
  refine ⟨M, hM, hM21, fun h0 ws rest sz hty hA2' h4 hob => rk_Met_case (fun aU U hP => ?_)⟩
  obtain ⟨p1, p2, p3, p4, p5, p6, p7, p8, p10⟩ := hP
  obtain ⟨pl, v9, tx9, hsX, hsR⟩ := hst _ _ _ p8
  obtain ⟨g, tp, bt, a, b, ps, σ, hat, hz⟩ := fm_in pl hT h4 p6 hty
  obtain ⟨v, mem', hvv, hfr, hchg, hX2, hQ⟩ := hex U rest ws h0 ps σ g tp bt a b hA2' p6 h4 p5 hat p10
  obtain ⟨M2, hM2, -, hmet⟩ := fr_Met (l := l) (D := D) hfr qn hqn
  obtain rfl : M = M2 := Option.some.inj (hM.symm.trans hM2)
  obtain ⟨a1, a2, ⟨c0, a3⟩, a4, a5⟩ := id hat
  have hsub : ∀ (j : Nat) (q : Nat × va_E), (fx_w ps (fm g tp bt a b))[j]? = some q → ∃ i : Nat, ws[i]? = some q := by
    intro j q hj
    have hl : j < (fx_w ps (fm g tp bt a b)).length := (List.getElem?_eq_some_iff.mp hj).1
    have hl2 : j < ps.length := by
      unfold fx_w at hl
      rw [List.length_zipWith] at hl
      omega
    have hl3 : j < 22 := by
      unfold fx_w at hl
      rw [List.length_zipWith, show (fm g tp bt a b).length = 22 from rfl] at hl
      omega
    have hs : σ[j]? = some σ[j] := List.getElem?_eq_getElem (by omega)
    obtain ⟨b1, q1, e1, b2, b3, b4⟩ := a5 j _ hs
    refine ⟨σ[j], ?_⟩
    rw [b4, ← hj]
    unfold fx_w
    rw [List.getElem?_zipWith, b2, b3]
  have hPf : va_P D gk_cl (fx_w ps (fm g tp bt a b)) U.heap := fun j q hj => by
    obtain ⟨i, hi⟩ := hsub j q hj
    exact p3 i q hi
  have hidx : ∀ (j : Nat) (q : Nat × va_E), (fx_w ps (fm g tp bt a b))[j]? = some q → ∃ i : Nat, σ[j]? = some i ∧ ws[i]? = some q := by
    intro j q hj
    have hl : j < (fx_w ps (fm g tp bt a b)).length := (List.getElem?_eq_some_iff.mp hj).1
    have hl2 : j < ps.length := by
      unfold fx_w at hl
      rw [List.length_zipWith] at hl
      omega
    have hl3 : j < 22 := by
      unfold fx_w at hl
      rw [List.length_zipWith, show (fm g tp bt a b).length = 22 from rfl] at hl
      omega
    have hs : σ[j]? = some σ[j] := List.getElem?_eq_getElem (by omega)
    obtain ⟨b1, q1, e1, b2, b3, b4⟩ := a5 j _ hs
    refine ⟨σ[j], hs, ?_⟩
    rw [b4, ← hj]
    unfold fx_w
    rw [List.getElem?_zipWith, b2, b3]
  have hDf : va_D (fun _ => True) (fx_w ps (fm g tp bt a b)) := ⟨fun i j q1 q2 hi hj e => by
    obtain ⟨i', g1, g2⟩ := hidx i q1 hi
    obtain ⟨j', g3, g4⟩ := hidx j q2 hj
    have := p5.1 i' j' q1 q2 g2 g4 e
    subst this
    exact fm_at_inj hat i j i' g1 g3, fun _ _ _ => trivial⟩
  have hfree : ∀ q, va_A (fx_w ps (fm g tp bt a b)) sz q → va_A ws sz q := by
    rintro q (⟨k1, e1, hk1⟩ | hq)
    · obtain ⟨i, hi⟩ := hsub k1 _ hk1
      exact Or.inl ⟨i, e1, hi⟩
    · exact Or.inr hq
  have hrest : rest.map (fx_v ps) = rest := by
    apply List.ext_getElem?
    intro i
    rw [List.getElem?_map]
    cases hi : rest[i]? with
    | none => rfl
    | some v =>
      obtain ⟨av0, hav, hg⟩ := hA2'.getR hi
      rcases hg with ⟨-, x, rfl, -⟩ | ⟨-, x, rfl, -⟩
      · rfl
      · rfl
  have hargs : (Value.ref 0 :: rest).map (fx_v ps) = .ref h0 :: rest := by
    show fx_v ps (.ref 0) :: rest.map (fx_v ps) = _
    rw [hrest]
    show Value.ref (fx_ad ps 0) :: rest = _
    unfold fx_ad
    rw [a3]
  refine ⟨fx_Pre D ps (fm g tp bt a b) sz (.ref 0 :: rest), fx_Post D ps mem' (some v) (va_A (fx_w ps (fm g tp bt a b)) sz), rk_Met_imp (hmet ps sz) (fun _ _ z => z) (fun _ _ _ _ _ _ z => z) hfree, ⟨by rw [hargs]; exact p1, p2, hPf, p4, hDf, a4, p7, ⟨v9, tx9, by rw [a1]; show sk_X (fx_ad ps 22) _ _ _ _; rw [hz]; exact hsX.narrow hfree, by rw [a1]; show vk_R _ _ _ (fx_ad ps 22) _; rw [hz]; exact hsR⟩⟩, ?_⟩
  rintro oc t hW ⟨⟨e1, hOt, hPt, hDt⟩, hF⟩
  obtain ⟨hput1, hput2⟩ := fm_put hat hOt
  have hmap : (fx_put ws σ (fx_w ps mem')).map Prod.fst = ads := by
    rw [← h4]
    apply List.ext_getElem?
    intro i
    rw [List.getElem?_map, List.getElem?_map]
    rcases fm_in_or (σ := σ) i with ⟨tt, ht⟩ | hno
    · obtain ⟨-, q, e, e', g1, g2, g3, g4, g5⟩ := hput2 tt i ht
      rw [g4, g5]
      rfl
    · rw [hput1 i hno]
  have hlenw : (fx_put ws σ (fx_w ps mem')).length = tw.length := by rw [fx_put_len]; exact p6.len.symm
  have hcl' : ∀ (i tt : Nat) (q : Nat × va_E), tw[i]? = some tt → (fx_put ws σ (fx_w ps mem'))[i]? = some q → tk_cl TY lc_ro ads tw t tt q.2 := by
    intro i tt q htw hq
    rcases fm_in_or (σ := σ) i with ⟨t2, ht⟩ | hno
    · obtain ⟨k1, q1, e, e', g1, g2, g3, g4, g5⟩ := hput2 t2 i ht
      rw [htw] at k1
      obtain rfl : tt = t2 := Option.some.inj k1
      rw [g5] at hq
      cases hq
      obtain ⟨qq, hqq, hc0⟩ := p6.get htw
      rw [g4] at hqq
      cases hqq
      rcases hchg tt e e' g2 g3 with rfl | ⟨kd, n, f1, f2, fl, hkd, rfl, rfl, k3, k4, -⟩ | ⟨n, f1, f2, fl, rfl, rfl, k3, k4, -⟩ | ⟨ci, vs, vs', fs, rfl, rfl, k3, k4, k5, k6, -⟩
      · exact tk_cl_moved hW.alike hc0
      · obtain ⟨m1, m2⟩ := hOt.2 tt q1 _ _ g1 g3
        show tk_cl TY lc_ro ads tw t tt (.inl (q1.2, n, .inl f2))
        unfold tk_cl
        rw [k3]
        rcases hkd with rfl | rfl
        · exact ⟨q1.2, m1, m2, f2, rfl, k4⟩
        · exact ⟨q1.2, m1, m2, f2, rfl, k4⟩
      · obtain ⟨m1, m2⟩ := hOt.2 tt q1 _ _ g1 g3
        show tk_cl TY lc_ro ads tw t tt (.inl (q1.2, n, .inr (.inl f2)))
        unfold tk_cl
        rw [k3]
        exact ⟨q1.2, m1, m2, f2, rfl, k4⟩
      · unfold tk_cl at hc0
        rw [k3] at hc0
        obtain ⟨vz, hvz, hvzl, hvzf⟩ := hc0
        cases hvz
        show tk_cl TY lc_ro ads tw t tt (.inr (ci, vs'.map (fx_v ps)))
        unfold tk_cl
        rw [k3]
        refine ⟨_, rfl, by rw [List.length_map]; exact k4, fun i2 f2 v2 hf2 hv2 => ?_⟩
        rw [List.getElem?_map] at hv2
        obtain ⟨v3, hv3, rfl⟩ := Option.map_eq_some_iff.mp hv2
        by_cases h2 : f2.1 = 2
        · have := k6 i2 f2 hf2 h2
          rw [hv3] at this
          exact hvzf i2 f2 _ hf2 (by rw [List.getElem?_map, ← this]; rfl)
        · exact k5 i2 f2 v3 hf2 hv3 h2
    · rw [hput1 i hno] at hq
      obtain ⟨qq, hqq, hc0⟩ := p6.get htw
      rw [hq] at hqq
      cases hqq
      exact tk_cl_moved hW.alike hc0
  have hnin : ∀ (i : Nat) (q : Nat × va_E), (∀ t2 : Nat, ¬ σ[t2]? = some i) → ws[i]? = some q → ¬ va_A (fx_w ps (fm g tp bt a b)) sz q.1 := by
    rintro i q hno hq (⟨k1, ee, hk1⟩ | hge)
    · obtain ⟨i', g1, g2⟩ := hidx k1 _ hk1
      have := p5.1 i i' q _ hq g2 rfl
      subst this
      exact hno k1 g1
    · have := (p3 i q hq).lt
      rw [p2] at this
      omega
  have hPw : va_P D gk_cl (fx_put ws σ (fx_w ps mem')) t.heap := by
    intro i q hq
    rcases fm_in_or (σ := σ) i with ⟨t2, ht⟩ | hno
    · obtain ⟨k1, q1, e, e', g1, g2, g3, g4, g5⟩ := hput2 t2 i ht
      rw [g5] at hq
      cases hq
      refine hPt t2 _ ?_
      unfold fx_w
      rw [List.getElem?_zipWith, g1, g3]
    · rw [hput1 i hno] at hq
      exact (p3 i q hq).kept (hF.2 q.1 (p3 i q hq).lt (hnin i q hno hq))
  have hget : ∀ (i : Nat) (q : Nat × va_E), (fx_put ws σ (fx_w ps mem'))[i]? = some q → ∃ e9, ws[i]? = some (q.1, e9) := by
    intro i q hq
    rcases fm_in_or (σ := σ) i with ⟨t2, ht⟩ | hno
    · obtain ⟨k1, q1, e, e', g1, g2, g3, g4, g5⟩ := hput2 t2 i ht
      rw [g5] at hq
      cases hq
      exact ⟨_, g4⟩
    · rw [hput1 i hno] at hq
      exact ⟨q.2, hq⟩
  have hDw : va_D (va_A ws sz) (fx_put ws σ (fx_w ps mem')) := ⟨fun i j q1 q2 hi hj e => by
    obtain ⟨e9, g1⟩ := hget i q1 hi
    obtain ⟨e8, g2⟩ := hget j q2 hj
    exact p5.1 i j _ _ g1 g2 e, fun i q hi => by
    obtain ⟨e9, g1⟩ := hget i q hi
    exact Or.inl ⟨i, e9, g1⟩⟩
  refine ⟨⟨fx_put ws σ (fx_w ps mem'), v, hmap, rk_A2_of (by rw [hlenw]) (fun i tt q h1 h2 => hcl' i tt q h1 h2), hPw, hDw, hX2, hQ, ?_⟩, hF.1, fun q h9' hn9 => hF.2 q h9' (fun z => hn9 (hfree q z))⟩
  rw [e1]
  show Outcome.returned (some (fx_v ps v)) = .returned (some v)
  rw [fx_v_id hvv]

end FMS
/-- what stands in the model's world -/
def fw_is (ws : va_W) (g : Nat → Int32) (tp bt : Int64) (a : Nat → Nat → Int32) (b : Nat → Nat → Int64) : Prop := (∀ (k : Nat) (v : Value), (fm_o g tp bt)[k]? = some v → fx_kd v ≤ 1 → lw_at ws (0, k) = some v) ∧ (∀ (t n : Nat) (ty : FieldType) (f : Nat → Int32) (i : Nat), (fm g tp bt a b)[t]? = some (.inr (ty, n, .inl f)) → i < n → lw_at ws (t, i) = some (.int (f i))) ∧ ∀ (t n : Nat) (ty : FieldType) (f : Nat → Int64) (i : Nat), (fm g tp bt a b)[t]? = some (.inr (ty, n, .inr (.inl f))) → i < n → lw_at ws (t, i) = some (.long (f i))
section FMIS
variable {g g' g2 : Nat → Int32} {tp bt tp' bt' tp2 bt2 : Int64} {a a' a2 : Nat → Nat → Int32} {b b' b2 : Nat → Nat → Int64}
theorem fw_of {w : va_W} {ps : fx_P} (h : ∀ (t : Nat) (e : fx_E), (fm g tp bt a b)[t]? = some e → ∃ q : Nat × ClassId, w[t]? = some (q.1, fx_c ps q.2 e)) : fw_is w g tp bt a b := by
  refine ⟨fun k v hk hd => ?_, fun t n ty f i ht hi => ?_, fun t n ty f i ht hi => ?_⟩
  · obtain ⟨q, hq⟩ := h 0 _ rfl
    unfold lw_at
    dsimp only
    rw [hq]
    show ((fm_o g tp bt).map (fx_v ps))[k]? = some v
    rw [List.getElem?_map, hk]
    show some (fx_v ps v) = some v
    rw [fx_v_id hd]
  · obtain ⟨q, hq⟩ := h t _ ht
    unfold lw_at
    dsimp only
    rw [hq]
    show (if i < n then some (Value.int (f i)) else none) = _
    rw [if_pos hi]
  · obtain ⟨q, hq⟩ := h t _ ht
    unfold lw_at
    dsimp only
    rw [hq]
    show (if i < n then some (Value.long (f i)) else none) = _
    rw [if_pos hi]
theorem lw_twM_at {t j : Nat} (h : lw_twM[j]? = some t) : j = t := by
  unfold lw_twM at h
  obtain ⟨h1, h2⟩ := List.getElem?_eq_some_iff.mp h
  rw [List.getElem_range] at h2
  exact h2
theorem fm_len22 : (fm g tp bt a b).length = 22 := rfl
theorem fw_is_at {U : State} {ws : va_W} {h0 : Nat} {ps : fx_P} {σ : List Nat} (hat : fm_at U lw_twM ws h0 ps σ (fm g tp bt a b)) : fw_is ws g tp bt a b := by
  refine fw_of (ps := ps) (fun t e he => ?_)
  have ht : t < 22 := by rw [← fm_len22 (g := g) (tp := tp) (bt := bt) (a := a) (b := b)]; exact (List.getElem?_eq_some_iff.mp he).1
  have hl1 : t < σ.length := by have := hat.2.1; omega
  have hs : σ[t]? = some (σ[t]'hl1) := List.getElem?_eq_getElem hl1
  obtain ⟨h1, q, e0, g1, g2, g3⟩ := hat.2.2.2.2 t _ hs
  rw [he] at g2
  cases g2
  rw [lw_twM_at h1] at g3
  exact ⟨q, g3⟩
theorem fw_is_put {U : State} {ws : va_W} {h0 : Nat} {ps : fx_P} {σ : List Nat} (hat : fm_at U lw_twM ws h0 ps σ (fm g tp bt a b)) : fw_is (fx_put ws σ (fx_w ps (fm g' tp' bt' a' b'))) g' tp' bt' a' b' := by
  refine fw_of (ps := ps) (fun t e he => ?_)
  have ht : t < 22 := by rw [← fm_len22 (g := g') (tp := tp') (bt := bt') (a := a') (b := b')]; exact (List.getElem?_eq_some_iff.mp he).1
  have hl1 : t < σ.length := by have := hat.2.1; omega
  have hs : σ[t]? = some (σ[t]'hl1) := List.getElem?_eq_getElem hl1
  obtain ⟨h1, q, e0, g1, g2, g3⟩ := hat.2.2.2.2 t _ hs
  have hs2 : σ[t]? = some t := hs.trans (congrArg some (lw_twM_at h1))
  rw [lw_twM_at h1] at g3
  refine ⟨q, fx_put_in ws (List.getElem?_eq_some_iff.mp g3).1 σ _ t (fm_at_inj hat) hs2 ?_⟩
  unfold fx_w
  rw [List.getElem?_zipWith, g1, he]
theorem fm_o_inj (k : Nat) (h : fm g tp bt a b = fm g2 tp2 bt2 a2 b2) : (fm_o g tp bt)[k]? = (fm_o g2 tp2 bt2)[k]? := by
  have h1 : fm_o g tp bt = fm_o g2 tp2 bt2 := congrArg (fun m : fx_M => match m with
    | .inl o :: _ => o.2
    | _ => []) h
  rw [h1]
/-- a public call of the model -/
theorem fm_sem {l : Launch} {D : va_G} {xt : tk_XT} {TY : tk_TT} {ads : List Nat} (hst : ∀ (Ad : Nat → Prop) (U : State) (H : Heap), xt Ad U H → ∃ pl v tx, sk_X pl v Ad U H ∧ vk_R "GooseIceModel" 189 tx pl U) (hT : fm_Ty TY) {k f n : Nat} {mods : List (Nat × Nat)} (hM : fm_ms mods) {Q : List Int32 → (Nat → Int32) → Int64 → Int64 → (Nat → Nat → Int32) → (Nat → Nat → Int64) → (Nat → Int32) → Int64 → Int64 → (Nat → Nat → Int32) → (Nat → Nat → Int64) → Int32 → Prop}
    (hfr : ∀ (g : Nat → Int32) (tp bt : Int64) (a : Nat → Nat → Int32) (b : Nat → Nat → Int64) (xs : List Int32), xs.length = n → fm_I g a → ∃ (v : Int32) (g' : Nat → Int32) (tp' bt' : Int64) (a' : Nat → Nat → Int32) (b' : Nat → Nat → Int64), fr_T k f (.ref 0 :: xs.map Value.int) (fm g tp bt a b) (some (.int v)) (fm g' tp' bt' a' b') ∧ fm_I g' a' ∧ fm_ffr mods g a b g' a' b' ∧ Q xs g tp bt a b g' tp' bt' a' b' v) : lw_sem l D xt TY (gn_X lw_twM) ads lw_twM (k + 4) f (List.replicate n 0) (List.replicate n gn_i) (fun av ws ws' v => ∃ (xs : List Int32) (g : Nat → Int32) (tp bt : Int64) (a : Nat → Nat → Int32) (b : Nat → Nat → Int64) (g' : Nat → Int32) (tp' bt' : Int64) (a' : Nat → Nat → Int32) (b' : Nat → Nat → Int64) (x : Int32), av = xs.map Value.int ∧ v = .int x ∧ fw_is ws g tp bt a b ∧ fw_is ws' g' tp' bt' a' b' ∧ fm_I g a ∧ fm_I g' a' ∧ Q xs g tp bt a b g' tp' bt' a' b' x) := by
  refine fm_sem0 (mods := mods) hst hT (fun U rest ws h0 ps σ g tp bt a b hrest hty hfst hD hat hX => ?_)
  obtain ⟨xs, hxl, rfl⟩ : ∃ xs : List Int32, xs.length = n ∧ rest = xs.map Value.int := by
    have : ∀ (n : Nat) (rest : List Value), rk_A2 lq_av ((List.replicate n 0).zip (List.replicate n gn_i)) rest → ∃ xs : List Int32, xs.length = n ∧ rest = xs.map Value.int := by
      intro n
      induction n with
      | zero => intro rest h; rw [h.nil]; exact ⟨[], rfl, rfl⟩
      | succ n ih =>
        intro rest h
        obtain ⟨v, r, rfl, h1, h2⟩ := rk_A2.cons (show rk_A2 lq_av ((0, gn_i) :: (List.replicate n 0).zip (List.replicate n gn_i)) rest from h)
        obtain ⟨xs, e1, rfl⟩ := ih r h2
        rcases h1 with ⟨-, x, rfl, -⟩ | ⟨h1, -⟩
        · exact ⟨x :: xs, by rw [List.length_cons, e1], rfl⟩
        · cases h1
    exact this n rest hrest
  have hI := fm_I_of hT hty hat hX
  obtain ⟨v, g', tp', bt', a', b', h1, h2, h3, h4⟩ := hfr g tp bt a b xs hxl hI
  exact ⟨.int v, _, Nat.zero_le 1, h1, fm_chgA hT h2 hM h3, fm_X2 hat hX h2.2.1.2.1 (fm_B_60 h2.2.1.1), xs, g, tp, bt, a, b, g', tp', bt', a', b', v, rfl, rfl, fw_is_at hat, fw_is_put hat, hI, h2, h4⟩
end FMIS
/-- a field of an object -/
theorem lw_fld {TY : tk_TT} {ads tw : List Nat} {U : State} {ws : va_W} {t y i j0 : Nat} {lo hi : Int} {o : Nat × List tk_F} (h4 : ws.map Prod.fst = ads) (h5 : rk_A2 (fun b (q : Nat × va_E) => tk_cl TY lc_ro ads tw U b q.2) tw ws) (hty : tk_ty ads tw t y) (ho : TY.1[t]? = some (.inl o)) (hf : o.2[i]? = some (0, lo, hi)) (hj : ∀ j, tw[j]? = some t → j = j0) : ∃ (e : va_E) (x : Int32), ws[j0]? = some (y, e) ∧ lw_at ws (j0, i) = some (.int x) ∧ lo ≤ x.toInt ∧ x.toInt ≤ hi := by
  obtain ⟨j, e, hw, ht, hc⟩ := tk_cell h4 h5 hty
  have := hj j ht
  subst this
  unfold tk_cl at hc
  rw [ho] at hc
  obtain ⟨vs, rfl, hvl, hvs⟩ := hc
  have hlt : i < vs.length := by rw [hvl]; exact (List.getElem?_eq_some_iff.mp hf).1
  obtain ⟨x, hx, h1, h2⟩ : ∃ x : Int32, vs[i] = .int x ∧ lo ≤ x.toInt ∧ x.toInt ≤ hi := hvs i _ _ hf (List.getElem?_eq_getElem hlt)
  refine ⟨_, x, hw, ?_, h1, h2⟩
  unfold lw_at
  dsimp only
  rw [hw]
  show vs[i]? = _
  rw [List.getElem?_eq_getElem hlt, hx]
theorem lw_twC0 : ∀ j, lw_twC[j]? = some 0 → j = 0 := by
  intro j h
  have hb : j < 270 := lw_ltC h
  have : ∀ j, j < 270 → lw_twC[j]? = some 0 → j = 0 := by decide +kernel
  exact this j hb h
theorem tk_g_int {vals : List Int} {rads : List Nat} {c : Int} {v : Value} (h : tk_g vals rads (0, 0, 0, c) v) : ∃ x : Int32, v = .int x ∧ x.toInt = c := by
  obtain ⟨x, rfl, hx⟩ := tk_g0 h rfl
  exact ⟨x, rfl, (Option.some.inj (show some c = some x.toInt from hx)).symm⟩
theorem tk_g_nI {vals : List Int} {rads : List Nat} {k : Nat} {v : Value} (hk : k < 2147483648) (h : tk_g vals rads (0, 0, 0, (k : Int)) v) : v = .int (nI k) := by
  obtain ⟨x, rfl, hx⟩ := tk_g_int h
  have e : x.toInt = (nI k).toInt := by rw [nI_i32 hk]; exact hx
  rw [Int32.toInt_inj.mp e]
theorem tk_g_of {vals : List Int} {rads : List Nat} {k : Nat} (hk : k < 2147483648) : tk_g vals rads (0, 0, 0, (k : Int)) (.int (nI k)) := ⟨nI k, rfl, by show some (k : Int) = _; rw [nI_i32 hk]⟩
end MH56_4
