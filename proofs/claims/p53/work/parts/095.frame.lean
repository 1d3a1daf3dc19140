/-! ===== rk: a call that sees a part of the world alone ===== -/
theorem rk_Met_imp {l : Launch} {y : MethodName} {ws : List Jvm.Cond} {rm : Room} {Pc Pc' : Array Value → State → Prop} {Qc Qc' : Array Value → State → Outcome → State → Prop} {mc ms : Nat} {free free' : Addr → Prop} (h : Met l y ws rm Pc Qc mc ms free) (h1 : ∀ a U, Pc' a U → Pc a U) (h2 : ∀ a st o t, Pc' a st → st.WarmedH t.vm → Qc a st o t → Qc' a st o t) (h3 : ∀ q, free q → free' q) : Met l y ws rm Pc' Qc' mc ms free' := by
  unfold Met at h ⊢
  refine MetFree.mono h h1 (fun _ _ _ _ _ z => z) (fun a st o t hP hQ => ?_)
  obtain ⟨hQ1, L, hL, hLf⟩ := hQ
  exact ⟨h2 a st o t hP hL.2.1 hQ1, L, hL, fun q hq => h3 _ (hLf q hq)⟩
theorem rk_look_map (g : rk_V → rk_V) (d : rk_V) (j : Nat) : ∀ ov : List (Nat × rk_V), rk_look (g d) (ov.map (fun z => (z.1, g z.2))) j = g (rk_look d ov j)
  | [] => rfl
  | q :: r => by
    show (if q.1 = j then g q.2 else rk_look (g d) (r.map (fun z => (z.1, g z.2))) j) = g (if q.1 = j then q.2 else rk_look d r j)
    by_cases e : q.1 = j
    · rw [if_pos e, if_pos e]
    · rw [if_neg e, if_neg e]
      exact rk_look_map g d j r
theorem rk_look_all {P : rk_V → Bool} {d : rk_V} (hd : P d = true) (j : Nat) : ∀ {ov : List (Nat × rk_V)}, ov.all (fun z => P z.2) = true → P (rk_look d ov j) = true
  | [], _ => hd
  | q :: r, h => by
    simp only [List.all_cons, Bool.and_eq_true] at h
    show P (if q.1 = j then q.2 else rk_look d r j) = true
    by_cases e : q.1 = j
    · rw [if_pos e]; exact h.1
    · rw [if_neg e]; exact rk_look_all hd j h.2
theorem rk_A2.mapL {α β : Type} {R R' : α → β → Prop} {g : α → α} {P : α → Bool} (H : ∀ a b, P a = true → R a b → R' (g a) b) : ∀ {l : List α} {l' : List β}, l.all P = true → rk_A2 R l l' → rk_A2 R' (l.map g) l' := by
  intro l
  induction l with
  | nil => intro l' _ h; rw [h.nil]; trivial
  | cons a l ih =>
    intro l' hp h
    obtain ⟨b, k, rfl, h1, h2⟩ := h.cons
    simp only [List.all_cons, Bool.and_eq_true] at hp
    exact ⟨H a b hp.1 h1, ih hp.2 h2⟩
theorem rk_A2.imp {α β : Type} {R R' : α → β → Prop} {P : α → Bool} (H : ∀ a b, P a = true → R a b → R' a b) : ∀ {l : List α} {l' : List β}, l.all P = true → rk_A2 R l l' → rk_A2 R' l l' := by
  intro l
  induction l with
  | nil => intro l' _ h; rw [h.nil]; trivial
  | cons a l ih =>
    intro l' hp h
    obtain ⟨b, k, rfl, h1, h2⟩ := h.cons
    simp only [List.all_cons, Bool.and_eq_true] at hp
    exact ⟨H a b hp.1 h1, ih hp.2 h2⟩
theorem rk_A2.drop {α β : Type} {R : α → β → Prop} : ∀ (n : Nat) {l : List α} {l' : List β}, rk_A2 R l l' → rk_A2 R (l.drop n) (l'.drop n)
  | 0, _, _, h => h
  | n + 1, [], _, h => by rw [h.nil]; trivial
  | n + 1, a :: l, _, h => by
    obtain ⟨b, k, rfl, h1, h2⟩ := h.cons
    exact rk_A2.drop n h2
theorem rk_A2.take {α β : Type} {R : α → β → Prop} : ∀ (n : Nat) {l : List α} {l' : List β}, rk_A2 R l l' → rk_A2 R (l.take n) (l'.take n)
  | 0, _, _, h => by simp [rk_A2]
  | n + 1, [], _, h => by rw [h.nil]; trivial
  | n + 1, a :: l, _, h => by
    obtain ⟨b, k, rfl, h1, h2⟩ := h.cons
    exact ⟨h1, rk_A2.take n h2⟩
theorem rk_c.map {U : State} {vals : List Value} {ads ads' : List Nat} {g : rk_V → rk_V} {P : rk_V → Bool} (H : ∀ a v, P a = true → rk_g vals ads a v → rk_g vals ads' (g a) v) {c : rk_H} {e : va_E} (hp : rk_alc P c = true) (h : rk_c U vals ads c e) : rk_c U vals ads' (rk_mpc g c) e := by
  rcases c with o | ⟨ty, n, d, ov⟩
  · obtain ⟨vs, e1, h1⟩ := h
    exact ⟨vs, e1, rk_A2.mapL H hp h1⟩
  · obtain ⟨cA, h1, h2, h3⟩ := h
    simp only [rk_alc, Bool.and_eq_true] at hp
    have key : ∀ j v, rk_g vals ads (rk_look d ov j) v → rk_g vals ads' (rk_look (g d) (ov.map (fun z => (z.1, g z.2))) j) v := fun j v hv => by
      rw [rk_look_map]
      exact H _ _ (rk_look_all hp.1 j hp.2) hv
    refine ⟨cA, h1, h2, ?_⟩
    cases ty <;> first
      | exact False.elim h3
      | (obtain ⟨f, e1, h4⟩ := h3; exact ⟨f, e1, fun j => key j _ (h4 j)⟩)
theorem rk_c.same {U : State} {vals : List Value} {ads ads' : List Nat} {P : rk_V → Bool} (H : ∀ a v, P a = true → rk_g vals ads a v → rk_g vals ads' a v) {c : rk_H} {e : va_E} (hp : rk_alc P c = true) (h : rk_c U vals ads c e) : rk_c U vals ads' c e := by
  rcases c with o | ⟨ty, n, d, ov⟩
  · obtain ⟨vs, e1, h1⟩ := h
    exact ⟨vs, e1, rk_A2.imp H hp h1⟩
  · obtain ⟨cA, h1, h2, h3⟩ := h
    simp only [rk_alc, Bool.and_eq_true] at hp
    refine ⟨cA, h1, h2, ?_⟩
    cases ty <;> first
      | exact False.elim h3
      | (obtain ⟨f, e1, h4⟩ := h3; exact ⟨f, e1, fun j => H _ _ (rk_look_all hp.1 j hp.2) (h4 j)⟩)
theorem rk_alc_tt (c : rk_H) : rk_alc (fun _ => true) c = true := by
  rcases c with c | c
  · exact List.all_eq_true.mpr (fun _ _ => rfl)
  · exact Bool.and_eq_true_iff.mpr ⟨rfl, List.all_eq_true.mpr (fun _ _ => rfl)⟩
theorem rk_g_up {vals : List Value} {adsA adsB : List Nat} {n : Nat} (hn : adsA.length = n) (a : rk_V) (v : Value) (_ : (fun _ : rk_V => true) a = true) (h : rk_g vals adsB a v) : rk_g vals (adsA ++ adsB) (rk_up n a) v := by
  rcases a with w | j | k | k
  · exact h
  · obtain ⟨x, hx, rfl⟩ := h
    exact ⟨x, by rw [List.getElem?_append_right (by omega), show j + n - adsA.length = j by omega]; exact hx, rfl⟩
  · exact h
  · exact h
theorem rk_g_dn {vals : List Value} {ads : List Nat} {n : Nat} (a : rk_V) (v : Value) (hg : rk_ge n a = true) (h : rk_g vals ads a v) : rk_g vals (ads.drop n) (rk_dn n a) v := by
  rcases a with w | j | k | k
  · exact h
  · obtain ⟨x, hx, rfl⟩ := h
    have hj : n ≤ j := of_decide_eq_true hg
    exact ⟨x, by rw [List.getElem?_drop, show n + (j - n) = j by omega]; exact hx, rfl⟩
  · exact h
  · exact h
theorem rk_g_tk {vals : List Value} {ads : List Nat} {n : Nat} (a : rk_V) (v : Value) (hg : rk_lt n a = true) (h : rk_g vals ads a v) : rk_g vals (ads.take n) a v := by
  rcases a with w | j | k | k
  · exact h
  · obtain ⟨x, hx, rfl⟩ := h
    have hj : j < n := of_decide_eq_true hg
    exact ⟨x, by rw [List.getElem?_take_of_lt hj]; exact hx, rfl⟩
  · exact h
  · exact h
theorem rk_nro_g {vals : List Value} {ads ads' : List Nat} {r : Option rk_V} {oc : Outcome} (hn : rk_nro r = true) (h : rk_ret r vals ads oc) : rk_ret r vals ads' oc := by
  rcases r with _ | a
  · exact h
  · obtain ⟨v, hg, e⟩ := h
    refine ⟨v, ?_, e⟩
    rcases a with w | j | k | k
    · exact hg
    · cases hn
    · exact hg
    · exact hg
section RKFR
variable {l : Launch} {D : va_G} {cl : List vw_C} {xt : rk_XT} {tbl xw : List Jvm.Cond} {MN : List rk_N} {P : List rk_M2}
theorem rk_P_drop {ws : va_W} {H : Heap} (n : Nat) (h : va_P D cl ws H) : va_P D cl (ws.drop n) H := fun k q hk => h (n + k) q (by rw [List.getElem?_drop] at hk; exact hk)
theorem rk_P_take {ws : va_W} {H : Heap} (n : Nat) (h : va_P D cl ws H) : va_P D cl (ws.take n) H := fun k q hk => h k q (by
  have hk1 : k < n := by
    have := (List.getElem?_eq_some_iff.mp hk).1
    rw [List.length_take] at this
    omega
  rw [List.getElem?_take_of_lt hk1] at hk
  exact hk)
theorem rk_D_drop {A : Nat → Prop} {ws : va_W} (n : Nat) (h : va_D A ws) : va_D A (ws.drop n) := ⟨fun i j p q hi hj e => by
    rw [List.getElem?_drop] at hi hj
    have := h.1 (n + i) (n + j) p q hi hj e
    omega, fun k q hk => h.2 (n + k) q (by rw [List.getElem?_drop] at hk; exact hk)⟩
theorem rk_tk {α : Type} {n k : Nat} {ws : List α} {q : α} (hk : (ws.take n)[k]? = some q) : k < n ∧ ws[k]? = some q := by
  have hk1 : k < n := by
    have := (List.getElem?_eq_some_iff.mp hk).1
    rw [List.length_take] at this
    omega
  rw [List.getElem?_take_of_lt hk1] at hk
  exact ⟨hk1, hk⟩
theorem rk_D_take {A : Nat → Prop} {ws : va_W} (n : Nat) (h : va_D A ws) : va_D A (ws.take n) := ⟨fun i j p q hi hj e => h.1 i j p q (rk_tk hi).2 (rk_tk hj).2 e, fun k q hk => h.2 k q (rk_tk hk).2⟩
set_option maxHeartbeats 4000000 in
theorem rk_suf_ok {call : Nat → List rk_V → List rk_T → List rk_H → Option rk_O} {d n : Nat} (hxt : rk_xtok xt) (hcall : rk_SC l D cl tbl xw xt MN P d call) : rk_SC l D cl tbl xw xt MN P d (rk_suf call n) := by
  intro f as env hp o h q hq
  unfold rk_suf at h
  split at h
  · next hc =>
    obtain ⟨hn, hc1, hc2⟩ := hc
    split at h
    · next o1 ho1 =>
      split at h
      · next hno =>
        cases h
        obtain ⟨M, hM, hM21, hmet⟩ := hcall f _ env _ o1 ho1 q hq
        refine ⟨M, hM, hM21, fun vals ws av sz hE hA2 => ?_⟩
        have hfree : ∀ q, va_A (ws.drop n) sz q → va_A ws sz q := by
          rintro q (⟨k, e1, hk⟩ | hq)
          · exact Or.inl ⟨n + k, e1, by rw [List.getElem?_drop] at hk; exact hk⟩
          · exact Or.inr hq
        refine rk_Met_imp (hmet vals (ws.drop n) av sz hE ?_) ?_ ?_ hfree
        · rw [List.map_drop]
          exact rk_A2.mapL (fun a v hP hg => rk_g_dn a v hP hg) hc1 hA2
        · rintro a U ⟨h1, h2, h3, h4, h5, h6, h7, h8⟩
          refine ⟨h1, h2, rk_P_drop n h3, h4, rk_D_drop n h5, ?_, h7, hxt.2.2.2 vals (va_A ws sz) (va_A (ws.drop n) sz) U U.heap U.heap h8 (fun _ _ _ => rfl) hfree⟩
          rw [List.map_drop]
          exact rk_A2.mapL (R := fun (c : rk_H) (q : Nat × va_E) => rk_c U vals (ws.map Prod.fst) c q.2) (R' := fun (c : rk_H) (q : Nat × va_E) => rk_c U vals ((ws.map Prod.fst).drop n) c q.2) (P := rk_alc (rk_ge n)) (fun c q hP hg => rk_c.map (fun a v => rk_g_dn a v) hP hg) hc2 (h6.drop n)
        · rintro a st oc t ⟨p1, p2, p3, p4, p5, p6, p7, p8⟩ hW ⟨⟨x, hx, vals', ws', ⟨kv, hv'⟩, ⟨k, hk⟩, hE', hC', hP', hD', hret⟩, hF⟩
          have hwl : n ≤ ws.length := by rw [← p6.len]; exact hn
          have hTl : (ws.take n).length = n := by rw [List.length_take]; omega
          have hads : (ws.take n ++ ws').map Prod.fst = ws.map Prod.fst ++ k := by rw [List.map_append, hk, ← List.append_assoc, ← List.map_append, List.take_append_drop]
          have hsz : ∀ (k9 : Nat) (z : Nat × va_E), ws[k9]? = some z → z.1 < sz := fun k9 z hz => by rw [← p2]; exact (p3 k9 z hz).lt
          have hout : ∀ (k9 : Nat) (z : Nat × va_E), (ws.take n)[k9]? = some z → ¬ va_A (ws.drop n) sz z.1 := by
            rintro k9 z hz (⟨k8, e8, hk8⟩ | hq8)
            · obtain ⟨a1, a2⟩ := rk_tk hz
              rw [List.getElem?_drop] at hk8
              have := p5.1 k9 (n + k8) z (z.1, e8) a2 hk8 rfl
              omega
            · have := hsz k9 z (rk_tk hz).2
              omega
          refine ⟨⟨_, List.mem_map.mpr ⟨x, hx, rfl⟩, vals', ws.take n ++ ws', ⟨kv, hv'⟩, ⟨k, hads⟩, hE', ?_, ?_, ?_, ?_⟩, hF.1, fun q9 h9 hn9 => hF.2 q9 h9 (fun z => hn9 (hfree q9 z))⟩
          · dsimp only
            rw [hads]
            refine rk_A2.app ?_ ((p6.take n).mono (fun c z hz => (hz.moved hW.alike).grow ⟨kv, hv'⟩ ⟨k, rfl⟩))
            rw [← hads, List.map_append]
            exact rk_A2.mapL (R := fun (c : rk_H) (q : Nat × va_E) => rk_c t vals' (ws'.map Prod.fst) c q.2) (R' := fun (c : rk_H) (q : Nat × va_E) => rk_c t vals' ((ws.take n).map Prod.fst ++ ws'.map Prod.fst) c q.2) (P := fun _ => true) (fun c z _ hz => rk_c.map (P := fun _ => true) (fun a v => rk_g_up (n := n) (by rw [List.length_map]; exact hTl) a v) (rk_alc_tt c) hz) (List.all_eq_true.mpr (fun _ _ => rfl)) hC'
          · exact ((rk_P_take n p3).kept (fun k9 z hz => hF.2 z.1 ((p3 k9 z (rk_tk hz).2).lt) (hout k9 z hz))).app hP'
          · refine va_D.app ((rk_D_take n p5).weaken (fun k9 z hz _ => Or.inl ⟨k9, z.2, (rk_tk hz).2⟩)) (hD'.weaken (fun _ _ _ z => hfree _ z)) (fun i j a1 a2 hi hj e9 => ?_)
            exact hout i a1 hi (e9 ▸ hD'.2 j a2 hj)
          · exact rk_nro_g (List.all_eq_true.mp hno x hx) hret
      · cases h
    · cases h
  · cases h
set_option maxHeartbeats 4000000 in
theorem rk_pfx_ok {call : Nat → List rk_V → List rk_T → List rk_H → Option rk_O} {d n : Nat} (hxt : rk_xtok xt) (hcall : rk_SC l D cl tbl xw xt MN P d call) : rk_SC l D cl tbl xw xt MN P d (rk_pfx call n) := by
  intro f as env hp o h q hq
  unfold rk_pfx at h
  split at h
  · next hc =>
    obtain ⟨hn, hc1, hc2⟩ := hc
    split at h
    · next o1 ho1 =>
      split at h
      · next hno =>
        cases h
        obtain ⟨M, hM, hM21, hmet⟩ := hcall f _ env _ o1 ho1 q hq
        refine ⟨M, hM, hM21, fun vals ws av sz hE hA2 => ?_⟩
        have hfree : ∀ q, va_A (ws.take n) sz q → va_A ws sz q := by
          rintro q (⟨k, e1, hk⟩ | hq)
          · exact Or.inl ⟨k, e1, (rk_tk hk).2⟩
          · exact Or.inr hq
        refine rk_Met_imp (hmet vals (ws.take n) av sz hE ?_) ?_ ?_ hfree
        · rw [List.map_take]
          exact rk_A2.imp (fun a v hP hg => rk_g_tk a v hP hg) hc1 hA2
        · rintro a U ⟨h1, h2, h3, h4, h5, h6, h7, h8⟩
          refine ⟨h1, h2, rk_P_take n h3, h4, rk_D_take n h5, ?_, h7, hxt.2.2.2 vals (va_A ws sz) (va_A (ws.take n) sz) U U.heap U.heap h8 (fun _ _ _ => rfl) hfree⟩
          rw [List.map_take]
          exact rk_A2.imp (R := fun (c : rk_H) (q : Nat × va_E) => rk_c U vals (ws.map Prod.fst) c q.2) (R' := fun (c : rk_H) (q : Nat × va_E) => rk_c U vals ((ws.map Prod.fst).take n) c q.2) (P := rk_alc (rk_lt n)) (fun c q hP hg => rk_c.same (fun a v => rk_g_tk a v) hP hg) hc2 (h6.take n)
        · rintro a st oc t ⟨p1, p2, p3, p4, p5, p6, p7, p8⟩ hW ⟨⟨x, hx, vals', ws', ⟨kv, hv'⟩, ⟨k, hk⟩, hE', hC', hP', hD', hret⟩, hF⟩
          have hwl : n ≤ ws.length := by rw [← p6.len]; exact hn
          have hTl : (ws.take n).length = n := by rw [List.length_take]; omega
          have hxl : x.2.2.1.length = n := of_decide_eq_true (List.all_eq_true.mp hno x hx)
          have hk0 : k = [] := by
            have h1 : ws'.length = n := by rw [← hC'.len]; exact hxl
            have h2 : (ws'.map Prod.fst).length = ((ws.take n).map Prod.fst ++ k).length := by rw [hk]
            rw [List.length_append, List.length_map, List.length_map, hTl, h1] at h2
            exact List.length_eq_zero_iff.mp (by omega)
          rw [hk0, List.append_nil] at hk
          have hads : (ws' ++ ws.drop n).map Prod.fst = ws.map Prod.fst := by rw [List.map_append, hk, ← List.map_append, List.take_append_drop]
          have hsz : ∀ (k9 : Nat) (z : Nat × va_E), ws[k9]? = some z → z.1 < sz := fun k9 z hz => by rw [← p2]; exact (p3 k9 z hz).lt
          have hout : ∀ (k9 : Nat) (z : Nat × va_E), (ws.drop n)[k9]? = some z → ¬ va_A (ws.take n) sz z.1 := by
            rintro k9 z hz (⟨k8, e8, hk8⟩ | hq8)
            · obtain ⟨a1, a2⟩ := rk_tk hk8
              rw [List.getElem?_drop] at hz
              have := p5.1 (n + k9) k8 z (z.1, e8) hz a2 rfl
              omega
            · rw [List.getElem?_drop] at hz
              have := hsz _ z hz
              omega
          refine ⟨⟨_, List.mem_map.mpr ⟨x, hx, rfl⟩, vals', ws' ++ ws.drop n, ⟨kv, hv'⟩, ⟨[], by rw [hads, List.append_nil]⟩, hE', ?_, ?_, ?_, ?_⟩, hF.1, fun q9 h9 hn9 => hF.2 q9 h9 (fun z => hn9 (hfree q9 z))⟩
          · dsimp only
            rw [hads]
            refine rk_A2.app ((p6.drop n).mono (fun c z hz => (hz.moved hW.alike).grow ⟨kv, hv'⟩ ⟨[], by simp⟩)) ?_
            exact hC'.mono (fun c z hz => hz.grow ⟨[], by simp⟩ ⟨(ws.drop n).map Prod.fst, by rw [hk, ← List.map_append, List.take_append_drop]⟩)
          · exact hP'.app ((rk_P_drop n p3).kept (fun k9 z hz => hF.2 z.1 ((rk_P_drop n p3 k9 z hz).lt) (hout k9 z hz)))
          · refine va_D.app (hD'.weaken (fun _ _ _ z => hfree _ z)) ((rk_D_drop n p5).weaken (fun k9 z hz _ => Or.inl ⟨n + k9, z.2, by rw [List.getElem?_drop] at hz; exact hz⟩)) (fun i j a1 a2 hi hj e9 => ?_)
            exact hout j a2 hj (e9 ▸ hD'.2 i a1 hi)
          · cases hr : x.1 with
            | none => rw [hr] at hret; exact hret
            | some r1 =>
              rw [hr] at hret
              obtain ⟨v, hg, e⟩ := hret
              exact ⟨v, hg.grow ⟨[], by simp⟩ ⟨(ws.drop n).map Prod.fst, by rw [List.map_append]⟩, e⟩
      · cases h
    · cases h
  · cases h
/-- a call on the newest cell alone sees that cell alone -/
theorem rk_wrap_ok {call : Nat → List rk_V → List rk_T → List rk_H → Option rk_O} {d : Nat} (hxt : rk_xtok xt) (hcall : rk_SC l D cl tbl xw xt MN P d call) : rk_SC l D cl tbl xw xt MN P d (rk_wrap call) := by
  intro f as env hp o h q hq
  unfold rk_wrap at h
  split at h
  · split at h
    · split at h
      · next o1 ho1 =>
        cases h
        exact rk_suf_ok hxt hcall f _ env hp o ho1 q hq
      · exact hcall f _ env hp o h q hq
    · exact hcall f _ env hp o h q hq
  · exact hcall f _ env hp o h q hq
end RKFR
