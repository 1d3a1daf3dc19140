/-! ===== the class keeps and restores lakes ===== -/
/-- a copy, by offset -/
theorem cd_cpo {g g' a a' : Nat → Nat → Int32} {b b' : Nat → Nat → Int64} {A : sp_A} {o o' : Nat} (h : cd_L o A g a b) (h8 : g' o' 8 = g o 8) (h9 : g' o' 9 = g o 9) (h7 : g' (o' + 11) 7 = g (o + 11) 7) (n1 : ∀ i, i < 10 → b' (o' + 1) i = b (o + 1) i) (n2 : ∀ i, i < 8 → b' (o' + 12) i = b (o + 12) i) (w1 : ∀ i, i < 10 → a' (o' + 2) i = a (o + 2) i) (w2 : ∀ i, i < 10 → a' (o' + 3) i = a (o + 3) i) (w3 : ∀ i, i < 8 → a' (o' + 13) i = a (o + 13) i) : cd_L o' A g' a' b' := by
  obtain ⟨⟨k1, k2, k3, k4, k5, k6⟩, k7, k8, k9, k10⟩ := h
  have l1 : (A.1.1.map Prod.fst).length = A.1.1.length := List.length_map _
  have l2 : (A.1.2.map Prod.fst).length = A.1.2.length := List.length_map _
  refine ⟨⟨h8.trans k1, k2, h7.trans k3, k4, ⟨fun i L hi => (n1 i ?_).trans (k5.1 i L hi), k5.2⟩, ⟨fun i L hi => (n2 i ?_).trans (k6.1 i L hi), k6.2⟩⟩, fun c hc => by rw [h9]; exact k7 c hc, fun i hi => (w1 i hi).trans (k8 i hi), fun i hi => (w2 i hi).trans (k9 i hi), fun i L w hi => ?_⟩
  · have := (List.getElem?_eq_some_iff.mp hi).1; omega
  · have := (List.getElem?_eq_some_iff.mp hi).1; omega
  · have h1 := (List.getElem?_eq_some_iff.mp hi).1
    exact ⟨(w3 i (by omega)).trans (k10 i L w hi).1, (k10 i L w hi).2⟩
/-- the lake at D is what the one at S was: its numbers and names -/
def cpo (D S : Nat) (g a : Nat → Nat → Int32) (b : Nat → Nat → Int64) (g' a' : Nat → Nat → Int32) (b' : Nat → Nat → Int64) : Prop := g' D 8 = g S 8 ∧ g' D 9 = g S 9 ∧ g' (D + 11) 7 = g (S + 11) 7 ∧ (∀ i, i < 10 → b' (D + 1) i = b (S + 1) i) ∧ (∀ i, i < 8 → b' (D + 12) i = b (S + 12) i) ∧ (∀ i, i < 10 → a' (D + 2) i = a (S + 2) i) ∧ (∀ i, i < 10 → a' (D + 3) i = a (S + 3) i) ∧ ∀ i, i < 8 → a' (D + 13) i = a (S + 13) i
theorem cpo_L {D S : Nat} {g a g' a' : Nat → Nat → Int32} {b b' : Nat → Nat → Int64} {A : sp_A} (h : cpo D S g a b g' a' b') (hA : cd_L S A g a b) : cd_L D A g' a' b' := cd_cpo hA h.1 h.2.1 h.2.2.1 h.2.2.2.1 h.2.2.2.2.1 h.2.2.2.2.2.1 h.2.2.2.2.2.2.1 h.2.2.2.2.2.2.2
/-- and after what leaves those as they are -/
theorem cpo_k {D S : Nat} {g a g' a' g2 a2 : Nat → Nat → Int32} {b b' b2 : Nat → Nat → Int64} (h : cpo D S g a b g' a' b') (hk : ∀ j, j = D ∨ j = D + 1 ∨ j = D + 2 ∨ j = D + 3 ∨ j = D + 11 ∨ j = D + 12 ∨ j = D + 13 → g2 j = g' j ∧ a2 j = a' j ∧ b2 j = b' j) : cpo D S g a b g2 a2 b2 := by
  obtain ⟨h1, h2, h3, h4, h5, h6, h7, h8⟩ := h
  exact ⟨(congrFun (hk D (Or.inl rfl)).1 8).trans h1, (congrFun (hk D (Or.inl rfl)).1 9).trans h2, (congrFun (hk (D + 11) (by omega)).1 7).trans h3, fun i hi => (congrFun (hk (D + 1) (by omega)).2.2 i).trans (h4 i hi), fun i hi => (congrFun (hk (D + 12) (by omega)).2.2 i).trans (h5 i hi), fun i hi => (congrFun (hk (D + 2) (by omega)).2.1 i).trans (h6 i hi), fun i hi => (congrFun (hk (D + 3) (by omega)).2.1 i).trans (h7 i hi), fun i hi => (congrFun (hk (D + 13) (by omega)).2.1 i).trans (h8 i hi)⟩
section CPX
variable {g : Nat → Nat → Int32} {l : Nat → Nat → Int64} {a : Nat → Nat → Int32} {b : Nat → Nat → Int64} {R : (Nat → fx_E) × fx_M}
set_option maxRecDepth 8000 in
theorem cxs_16 {f : Nat → Int64} : (cx g l a b R).set 16 (.inr (.long, 10, .inr (.inl f))) = cx g l a (fm_uf b 16 f) R := rfl
set_option maxRecDepth 8000 in
theorem cxs_17 {f : Nat → Int32} : (cx g l a b R).set 17 (.inr (.int, 10, .inl f)) = cx g l (fm_ur a 17 f) b R := rfl
set_option maxRecDepth 8000 in
theorem cxs_18 {f : Nat → Int32} : (cx g l a b R).set 18 (.inr (.int, 10, .inl f)) = cx g l (fm_ur a 18 f) b R := rfl
set_option maxRecDepth 8000 in
theorem cxs_19 {f : Nat → Int32} : (cx g l a b R).set 19 (.inr (.int, 10, .inl f)) = cx g l (fm_ur a 19 f) b R := rfl
set_option maxRecDepth 8000 in
theorem cxs_22 {f : Nat → Int32} : (cx g l a b R).set 22 (.inr (.int, 10, .inl f)) = cx g l (fm_ur a 22 f) b R := rfl
set_option maxRecDepth 8000 in
theorem cxs_23 {f : Nat → Int32} : (cx g l a b R).set 23 (.inr (.int, 10, .inl f)) = cx g l (fm_ur a 23 f) b R := rfl
set_option maxRecDepth 8000 in
theorem cxs_24 {f : Nat → Int32} : (cx g l a b R).set 24 (.inr (.int, 10, .inl f)) = cx g l (fm_ur a 24 f) b R := rfl
set_option maxRecDepth 8000 in
theorem cxs_25 {f : Nat → Int32} : (cx g l a b R).set 25 (.inr (.int, 200, .inl f)) = cx g l (fm_ur a 25 f) b R := rfl
set_option maxRecDepth 8000 in
theorem cxs_27 {f : Nat → Int64} : (cx g l a b R).set 27 (.inr (.long, 8, .inr (.inl f))) = cx g l a (fm_uf b 27 f) R := rfl
set_option maxRecDepth 8000 in
theorem cxs_28 {f : Nat → Int32} : (cx g l a b R).set 28 (.inr (.int, 8, .inl f)) = cx g l (fm_ur a 28 f) b R := rfl
set_option maxRecDepth 8000 in
theorem cxs_29 {f : Nat → Int32} : (cx g l a b R).set 29 (.inr (.int, 8, .inl f)) = cx g l (fm_ur a 29 f) b R := rfl
set_option maxRecDepth 8000 in
theorem cxs_30 {f : Nat → Int32} : (cx g l a b R).set 30 (.inr (.int, 8, .inl f)) = cx g l (fm_ur a 30 f) b R := rfl
set_option maxRecDepth 8000 in
theorem cxs_31 {f : Nat → Int32} : (cx g l a b R).set 31 (.inr (.int, 8, .inl f)) = cx g l (fm_ur a 31 f) b R := rfl
set_option maxRecDepth 8000 in
theorem cxs_32 {f : Nat → Int32} : (cx g l a b R).set 32 (.inr (.int, 8, .inl f)) = cx g l (fm_ur a 32 f) b R := rfl
set_option maxRecDepth 8000 in
theorem cxs_33 {f : Nat → Int32} : (cx g l a b R).set 33 (.inr (.int, 160, .inl f)) = cx g l (fm_ur a 33 f) b R := rfl
set_option maxRecDepth 8000 in
theorem cxs_35 {f : Nat → Int32} : (cx g l a b R).set 35 (.inr (.int, 30, .inl f)) = cx g l (fm_ur a 35 f) b R := rfl
set_option maxRecDepth 8000 in
theorem cxs_36 {f : Nat → Int32} : (cx g l a b R).set 36 (.inr (.int, 30, .inl f)) = cx g l (fm_ur a 36 f) b R := rfl
set_option maxRecDepth 8000 in
theorem cxs_37 {f : Nat → Int32} : (cx g l a b R).set 37 (.inr (.int, 30, .inl f)) = cx g l (fm_ur a 37 f) b R := rfl
set_option maxRecDepth 8000 in
theorem cxs_38 {f : Nat → Int32} : (cx g l a b R).set 38 (.inr (.int, 30, .inl f)) = cx g l (fm_ur a 38 f) b R := rfl
set_option maxRecDepth 8000 in
theorem cxs_39 {f : Nat → Int32} : (cx g l a b R).set 39 (.inr (.int, 30, .inl f)) = cx g l (fm_ur a 39 f) b R := rfl
set_option maxRecDepth 8000 in
theorem cxs_40 {f : Nat → Int32} : (cx g l a b R).set 40 (.inr (.int, 30, .inl f)) = cx g l (fm_ur a 40 f) b R := rfl
set_option maxRecDepth 8000 in
theorem cxs_193 {f : Nat → Int64} : (cx g l a b R).set 193 (.inr (.long, 10, .inr (.inl f))) = cx g l a (fm_uf b 193 f) R := rfl
set_option maxRecDepth 8000 in
theorem cxs_194 {f : Nat → Int32} : (cx g l a b R).set 194 (.inr (.int, 10, .inl f)) = cx g l (fm_ur a 194 f) b R := rfl
set_option maxRecDepth 8000 in
theorem cxs_195 {f : Nat → Int32} : (cx g l a b R).set 195 (.inr (.int, 10, .inl f)) = cx g l (fm_ur a 195 f) b R := rfl
set_option maxRecDepth 8000 in
theorem cxs_196 {f : Nat → Int32} : (cx g l a b R).set 196 (.inr (.int, 10, .inl f)) = cx g l (fm_ur a 196 f) b R := rfl
set_option maxRecDepth 8000 in
theorem cxs_199 {f : Nat → Int32} : (cx g l a b R).set 199 (.inr (.int, 10, .inl f)) = cx g l (fm_ur a 199 f) b R := rfl
set_option maxRecDepth 8000 in
theorem cxs_200 {f : Nat → Int32} : (cx g l a b R).set 200 (.inr (.int, 10, .inl f)) = cx g l (fm_ur a 200 f) b R := rfl
set_option maxRecDepth 8000 in
theorem cxs_201 {f : Nat → Int32} : (cx g l a b R).set 201 (.inr (.int, 10, .inl f)) = cx g l (fm_ur a 201 f) b R := rfl
set_option maxRecDepth 8000 in
theorem cxs_202 {f : Nat → Int32} : (cx g l a b R).set 202 (.inr (.int, 200, .inl f)) = cx g l (fm_ur a 202 f) b R := rfl
set_option maxRecDepth 8000 in
theorem cxs_204 {f : Nat → Int64} : (cx g l a b R).set 204 (.inr (.long, 8, .inr (.inl f))) = cx g l a (fm_uf b 204 f) R := rfl
set_option maxRecDepth 8000 in
theorem cxs_205 {f : Nat → Int32} : (cx g l a b R).set 205 (.inr (.int, 8, .inl f)) = cx g l (fm_ur a 205 f) b R := rfl
set_option maxRecDepth 8000 in
theorem cxs_206 {f : Nat → Int32} : (cx g l a b R).set 206 (.inr (.int, 8, .inl f)) = cx g l (fm_ur a 206 f) b R := rfl
set_option maxRecDepth 8000 in
theorem cxs_207 {f : Nat → Int32} : (cx g l a b R).set 207 (.inr (.int, 8, .inl f)) = cx g l (fm_ur a 207 f) b R := rfl
set_option maxRecDepth 8000 in
theorem cxs_208 {f : Nat → Int32} : (cx g l a b R).set 208 (.inr (.int, 8, .inl f)) = cx g l (fm_ur a 208 f) b R := rfl
set_option maxRecDepth 8000 in
theorem cxs_209 {f : Nat → Int32} : (cx g l a b R).set 209 (.inr (.int, 8, .inl f)) = cx g l (fm_ur a 209 f) b R := rfl
set_option maxRecDepth 8000 in
theorem cxs_210 {f : Nat → Int32} : (cx g l a b R).set 210 (.inr (.int, 160, .inl f)) = cx g l (fm_ur a 210 f) b R := rfl
set_option maxRecDepth 8000 in
theorem cxs_212 {f : Nat → Int32} : (cx g l a b R).set 212 (.inr (.int, 30, .inl f)) = cx g l (fm_ur a 212 f) b R := rfl
set_option maxRecDepth 8000 in
theorem cxs_213 {f : Nat → Int32} : (cx g l a b R).set 213 (.inr (.int, 30, .inl f)) = cx g l (fm_ur a 213 f) b R := rfl
set_option maxRecDepth 8000 in
theorem cxs_214 {f : Nat → Int32} : (cx g l a b R).set 214 (.inr (.int, 30, .inl f)) = cx g l (fm_ur a 214 f) b R := rfl
set_option maxRecDepth 8000 in
theorem cxs_215 {f : Nat → Int32} : (cx g l a b R).set 215 (.inr (.int, 30, .inl f)) = cx g l (fm_ur a 215 f) b R := rfl
set_option maxRecDepth 8000 in
theorem cxs_216 {f : Nat → Int32} : (cx g l a b R).set 216 (.inr (.int, 30, .inl f)) = cx g l (fm_ur a 216 f) b R := rfl
set_option maxRecDepth 8000 in
theorem cxs_217 {f : Nat → Int32} : (cx g l a b R).set 217 (.inr (.int, 30, .inl f)) = cx g l (fm_ur a 217 f) b R := rfl
set_option maxRecDepth 8000 in
theorem cxs_219 {f : Nat → Int64} : (cx g l a b R).set 219 (.inr (.long, 10, .inr (.inl f))) = cx g l a (fm_uf b 219 f) R := rfl
set_option maxRecDepth 8000 in
theorem cxs_220 {f : Nat → Int32} : (cx g l a b R).set 220 (.inr (.int, 10, .inl f)) = cx g l (fm_ur a 220 f) b R := rfl
set_option maxRecDepth 8000 in
theorem cxs_221 {f : Nat → Int32} : (cx g l a b R).set 221 (.inr (.int, 10, .inl f)) = cx g l (fm_ur a 221 f) b R := rfl
set_option maxRecDepth 8000 in
theorem cxs_222 {f : Nat → Int32} : (cx g l a b R).set 222 (.inr (.int, 10, .inl f)) = cx g l (fm_ur a 222 f) b R := rfl
set_option maxRecDepth 8000 in
theorem cxs_225 {f : Nat → Int32} : (cx g l a b R).set 225 (.inr (.int, 10, .inl f)) = cx g l (fm_ur a 225 f) b R := rfl
set_option maxRecDepth 8000 in
theorem cxs_226 {f : Nat → Int32} : (cx g l a b R).set 226 (.inr (.int, 10, .inl f)) = cx g l (fm_ur a 226 f) b R := rfl
set_option maxRecDepth 8000 in
theorem cxs_227 {f : Nat → Int32} : (cx g l a b R).set 227 (.inr (.int, 10, .inl f)) = cx g l (fm_ur a 227 f) b R := rfl
set_option maxRecDepth 8000 in
theorem cxs_228 {f : Nat → Int32} : (cx g l a b R).set 228 (.inr (.int, 200, .inl f)) = cx g l (fm_ur a 228 f) b R := rfl
set_option maxRecDepth 8000 in
theorem cxs_230 {f : Nat → Int64} : (cx g l a b R).set 230 (.inr (.long, 8, .inr (.inl f))) = cx g l a (fm_uf b 230 f) R := rfl
set_option maxRecDepth 8000 in
theorem cxs_231 {f : Nat → Int32} : (cx g l a b R).set 231 (.inr (.int, 8, .inl f)) = cx g l (fm_ur a 231 f) b R := rfl
set_option maxRecDepth 8000 in
theorem cxs_232 {f : Nat → Int32} : (cx g l a b R).set 232 (.inr (.int, 8, .inl f)) = cx g l (fm_ur a 232 f) b R := rfl
set_option maxRecDepth 8000 in
theorem cxs_233 {f : Nat → Int32} : (cx g l a b R).set 233 (.inr (.int, 8, .inl f)) = cx g l (fm_ur a 233 f) b R := rfl
set_option maxRecDepth 8000 in
theorem cxs_234 {f : Nat → Int32} : (cx g l a b R).set 234 (.inr (.int, 8, .inl f)) = cx g l (fm_ur a 234 f) b R := rfl
set_option maxRecDepth 8000 in
theorem cxs_235 {f : Nat → Int32} : (cx g l a b R).set 235 (.inr (.int, 8, .inl f)) = cx g l (fm_ur a 235 f) b R := rfl
set_option maxRecDepth 8000 in
theorem cxs_236 {f : Nat → Int32} : (cx g l a b R).set 236 (.inr (.int, 160, .inl f)) = cx g l (fm_ur a 236 f) b R := rfl
set_option maxRecDepth 8000 in
theorem cxs_238 {f : Nat → Int32} : (cx g l a b R).set 238 (.inr (.int, 30, .inl f)) = cx g l (fm_ur a 238 f) b R := rfl
set_option maxRecDepth 8000 in
theorem cxs_239 {f : Nat → Int32} : (cx g l a b R).set 239 (.inr (.int, 30, .inl f)) = cx g l (fm_ur a 239 f) b R := rfl
set_option maxRecDepth 8000 in
theorem cxs_240 {f : Nat → Int32} : (cx g l a b R).set 240 (.inr (.int, 30, .inl f)) = cx g l (fm_ur a 240 f) b R := rfl
set_option maxRecDepth 8000 in
theorem cxs_241 {f : Nat → Int32} : (cx g l a b R).set 241 (.inr (.int, 30, .inl f)) = cx g l (fm_ur a 241 f) b R := rfl
set_option maxRecDepth 8000 in
theorem cxs_242 {f : Nat → Int32} : (cx g l a b R).set 242 (.inr (.int, 30, .inl f)) = cx g l (fm_ur a 242 f) b R := rfl
set_option maxRecDepth 8000 in
theorem cxs_243 {f : Nat → Int32} : (cx g l a b R).set 243 (.inr (.int, 30, .inl f)) = cx g l (fm_ur a 243 f) b R := rfl
set_option maxRecDepth 8000 in
theorem cxs_245 {f : Nat → Int64} : (cx g l a b R).set 245 (.inr (.long, 10, .inr (.inl f))) = cx g l a (fm_uf b 245 f) R := rfl
set_option maxRecDepth 8000 in
theorem cxs_246 {f : Nat → Int32} : (cx g l a b R).set 246 (.inr (.int, 10, .inl f)) = cx g l (fm_ur a 246 f) b R := rfl
set_option maxRecDepth 8000 in
theorem cxs_247 {f : Nat → Int32} : (cx g l a b R).set 247 (.inr (.int, 10, .inl f)) = cx g l (fm_ur a 247 f) b R := rfl
set_option maxRecDepth 8000 in
theorem cxs_248 {f : Nat → Int32} : (cx g l a b R).set 248 (.inr (.int, 10, .inl f)) = cx g l (fm_ur a 248 f) b R := rfl
set_option maxRecDepth 8000 in
theorem cxs_251 {f : Nat → Int32} : (cx g l a b R).set 251 (.inr (.int, 10, .inl f)) = cx g l (fm_ur a 251 f) b R := rfl
set_option maxRecDepth 8000 in
theorem cxs_252 {f : Nat → Int32} : (cx g l a b R).set 252 (.inr (.int, 10, .inl f)) = cx g l (fm_ur a 252 f) b R := rfl
set_option maxRecDepth 8000 in
theorem cxs_253 {f : Nat → Int32} : (cx g l a b R).set 253 (.inr (.int, 10, .inl f)) = cx g l (fm_ur a 253 f) b R := rfl
set_option maxRecDepth 8000 in
theorem cxs_254 {f : Nat → Int32} : (cx g l a b R).set 254 (.inr (.int, 200, .inl f)) = cx g l (fm_ur a 254 f) b R := rfl
set_option maxRecDepth 8000 in
theorem cxs_256 {f : Nat → Int64} : (cx g l a b R).set 256 (.inr (.long, 8, .inr (.inl f))) = cx g l a (fm_uf b 256 f) R := rfl
set_option maxRecDepth 8000 in
theorem cxs_257 {f : Nat → Int32} : (cx g l a b R).set 257 (.inr (.int, 8, .inl f)) = cx g l (fm_ur a 257 f) b R := rfl
set_option maxRecDepth 8000 in
theorem cxs_258 {f : Nat → Int32} : (cx g l a b R).set 258 (.inr (.int, 8, .inl f)) = cx g l (fm_ur a 258 f) b R := rfl
set_option maxRecDepth 8000 in
theorem cxs_259 {f : Nat → Int32} : (cx g l a b R).set 259 (.inr (.int, 8, .inl f)) = cx g l (fm_ur a 259 f) b R := rfl
set_option maxRecDepth 8000 in
theorem cxs_260 {f : Nat → Int32} : (cx g l a b R).set 260 (.inr (.int, 8, .inl f)) = cx g l (fm_ur a 260 f) b R := rfl
set_option maxRecDepth 8000 in
theorem cxs_261 {f : Nat → Int32} : (cx g l a b R).set 261 (.inr (.int, 8, .inl f)) = cx g l (fm_ur a 261 f) b R := rfl
set_option maxRecDepth 8000 in
theorem cxs_262 {f : Nat → Int32} : (cx g l a b R).set 262 (.inr (.int, 160, .inl f)) = cx g l (fm_ur a 262 f) b R := rfl
set_option maxRecDepth 8000 in
theorem cxs_264 {f : Nat → Int32} : (cx g l a b R).set 264 (.inr (.int, 30, .inl f)) = cx g l (fm_ur a 264 f) b R := rfl
set_option maxRecDepth 8000 in
theorem cxs_265 {f : Nat → Int32} : (cx g l a b R).set 265 (.inr (.int, 30, .inl f)) = cx g l (fm_ur a 265 f) b R := rfl
set_option maxRecDepth 8000 in
theorem cxs_266 {f : Nat → Int32} : (cx g l a b R).set 266 (.inr (.int, 30, .inl f)) = cx g l (fm_ur a 266 f) b R := rfl
set_option maxRecDepth 8000 in
theorem cxs_267 {f : Nat → Int32} : (cx g l a b R).set 267 (.inr (.int, 30, .inl f)) = cx g l (fm_ur a 267 f) b R := rfl
set_option maxRecDepth 8000 in
theorem cxs_268 {f : Nat → Int32} : (cx g l a b R).set 268 (.inr (.int, 30, .inl f)) = cx g l (fm_ur a 268 f) b R := rfl
set_option maxRecDepth 8000 in
theorem cxs_269 {f : Nat → Int32} : (cx g l a b R).set 269 (.inr (.int, 30, .inl f)) = cx g l (fm_ur a 269 f) b R := rfl
set_option maxRecDepth 8000 in
theorem hx_ice192_15 : ∃ (g' a' : Nat → Nat → Int32) (b' : Nat → Nat → Int64), hr_T 1 25 [.ref 198, .ref 21] (cx g l a b R) none (cx g' l a' b' R) ∧ ∀ j, ¬ (198 ≤ j ∧ j ≤ 202) → g' j = g j ∧ a' j = a j ∧ b' j = b j := by
  suffices h : ∃ (v : Option Value) (mem' : fx_M), (fun R1 => ∃ (g' a' : Nat → Nat → Int32) (b' : Nat → Nat → Int64), (∀ j, ¬ (198 ≤ j ∧ j ≤ 202) → g' j = g j ∧ a' j = a j ∧ b' j = b j) ∧ R1 = (none, cx g' l a' b' R)) (v, mem') ∧ hr_T 1 25 [.ref 198, .ref 21] (cx g l a b R) v mem' by
    obtain ⟨v, mem', ⟨g', a', b', h1, hR1⟩, h2⟩ := h
    cases hR1
    exact ⟨g', a', b', h2, h1⟩
  refine he_meth (f := 25) (as := [.ref 198, .ref 21]) (F := fun R1 => ∃ (g' a' : Nat → Nat → Int32) (b' : Nat → Nat → Int64), (∀ j, ¬ (198 ≤ j ∧ j ≤ 202) → g' j = g j ∧ a' j = a j ∧ b' j = b j) ∧ R1 = (none, cx g' l a' b' R)) (M := gk_m25) (by rfl) (by rfl) ?_
  refine he_s 7 (pc' := 12) (lc' := [(0, .ref 198), (1, .ref 21)]) (stk' := [.int 10, .int 0, .ref 199, .int 0, .ref 22]) (mem' := cx g l a b R) (by intro _ _ _; eq_refl) ?_
  refine he_cpI (mem' := cx g l (fm_ur a 199 (va_cpy (a 22) (a 199) 0 0 10)) b R) (by rfl) (by rfl) (by rfl) (by rfl) (by rfl) (by decide) cxs_199 ?_
  refine he_s 7 (pc' := 27) (lc' := [(0, .ref 198), (1, .ref 21)]) (stk' := [.int 10, .int 0, .ref 200, .int 0, .ref 23]) (mem' := cx g l (fm_ur a 199 (va_cpy (a 22) (a 199) 0 0 10)) b R) (by intro _ _ _; eq_refl) ?_
  refine he_cpI (mem' := cx g l (fm_ur (fm_ur a 199 (va_cpy (a 22) (a 199) 0 0 10)) 200 (va_cpy (a 23) (a 200) 0 0 10)) b R) (by rfl) (by rfl) (by rfl) (by rfl) (by rfl) (by decide) cxs_200 ?_
  refine he_s 7 (pc' := 42) (lc' := [(0, .ref 198), (1, .ref 21)]) (stk' := [.int 10, .int 0, .ref 201, .int 0, .ref 24]) (mem' := cx g l (fm_ur (fm_ur a 199 (va_cpy (a 22) (a 199) 0 0 10)) 200 (va_cpy (a 23) (a 200) 0 0 10)) b R) (by intro _ _ _; eq_refl) ?_
  refine he_cpI (mem' := cx g l (fm_ur (fm_ur (fm_ur a 199 (va_cpy (a 22) (a 199) 0 0 10)) 200 (va_cpy (a 23) (a 200) 0 0 10)) 201 (va_cpy (a 24) (a 201) 0 0 10)) b R) (by rfl) (by rfl) (by rfl) (by rfl) (by rfl) (by decide) cxs_201 ?_
  refine he_s 7 (pc' := 58) (lc' := [(0, .ref 198), (1, .ref 21)]) (stk' := [.int 200, .int 0, .ref 202, .int 0, .ref 25]) (mem' := cx g l (fm_ur (fm_ur (fm_ur a 199 (va_cpy (a 22) (a 199) 0 0 10)) 200 (va_cpy (a 23) (a 200) 0 0 10)) 201 (va_cpy (a 24) (a 201) 0 0 10)) b R) (by intro _ _ _; eq_refl) ?_
  refine he_cpI (mem' := cx g l (fm_ur (fm_ur (fm_ur (fm_ur a 199 (va_cpy (a 22) (a 199) 0 0 10)) 200 (va_cpy (a 23) (a 200) 0 0 10)) 201 (va_cpy (a 24) (a 201) 0 0 10)) 202 (va_cpy (a 25) (a 202) 0 0 200)) b R) (by rfl) (by rfl) (by rfl) (by rfl) (by rfl) (by decide) cxs_202 ?_
  refine he_s 8 (pc' := 77) (lc' := [(0, .ref 198), (1, .ref 21)]) (stk' := []) (mem' := cx (fm_u (fm_u g 198 4 (g 21 4)) 198 5 (g 21 5)) l (fm_ur (fm_ur (fm_ur (fm_ur a 199 (va_cpy (a 22) (a 199) 0 0 10)) 200 (va_cpy (a 23) (a 200) 0 0 10)) 201 (va_cpy (a 24) (a 201) 0 0 10)) 202 (va_cpy (a 25) (a 202) 0 0 200)) b R) (by intro _ _ _; eq_refl) ?_
  exact he_ret ⟨_, _, _, fun j hj => ⟨(by first | rfl | (repeat (first | rw [fm_un (by omega)] | rw [fm_ur_n (by omega)] | rw [fm_uf_n (by omega)]))), (by first | rfl | (repeat (first | rw [fm_un (by omega)] | rw [fm_ur_n (by omega)] | rw [fm_uf_n (by omega)]))), (by first | rfl | (repeat (first | rw [fm_un (by omega)] | rw [fm_ur_n (by omega)] | rw [fm_uf_n (by omega)])))⟩, rfl⟩ (by rfl) (by rfl) (by rfl)
set_option maxRecDepth 8000 in
theorem hx_crew192_15 : ∃ (g' a' : Nat → Nat → Int32) (b' : Nat → Nat → Int64), hr_T 1 2 [.ref 203, .ref 26] (cx g l a b R) none (cx g' l a' b' R) ∧ g' 203 7 = g 26 7 ∧ (∀ i, i < 8 → b' 204 i = b 27 i) ∧ (∀ i, i < 8 → a' 205 i = a 28 i) ∧ ∀ j, ¬ (203 ≤ j ∧ j ≤ 210) → g' j = g j ∧ a' j = a j ∧ b' j = b j := by
  suffices h : ∃ (v : Option Value) (mem' : fx_M), (fun R1 => ∃ (g' a' : Nat → Nat → Int32) (b' : Nat → Nat → Int64), (g' 203 7 = g 26 7 ∧ (∀ i, i < 8 → b' 204 i = b 27 i) ∧ (∀ i, i < 8 → a' 205 i = a 28 i) ∧ ∀ j, ¬ (203 ≤ j ∧ j ≤ 210) → g' j = g j ∧ a' j = a j ∧ b' j = b j) ∧ R1 = (none, cx g' l a' b' R)) (v, mem') ∧ hr_T 1 2 [.ref 203, .ref 26] (cx g l a b R) v mem' by
    obtain ⟨v, mem', ⟨g', a', b', h1, hR1⟩, h2⟩ := h
    cases hR1
    exact ⟨g', a', b', h2, h1⟩
  refine he_meth (f := 2) (as := [.ref 203, .ref 26]) (F := fun R1 => ∃ (g' a' : Nat → Nat → Int32) (b' : Nat → Nat → Int64), (g' 203 7 = g 26 7 ∧ (∀ i, i < 8 → b' 204 i = b 27 i) ∧ (∀ i, i < 8 → a' 205 i = a 28 i) ∧ ∀ j, ¬ (203 ≤ j ∧ j ≤ 210) → g' j = g j ∧ a' j = a j ∧ b' j = b j) ∧ R1 = (none, cx g' l a' b' R)) (M := gk_m2) (by rfl) (by rfl) ?_
  refine he_s 7 (pc' := 12) (lc' := [(0, .ref 203), (1, .ref 26)]) (stk' := [.int 8, .int 0, .ref 204, .int 0, .ref 27]) (mem' := cx g l a b R) (by intro _ _ _; eq_refl) ?_
  refine he_cpL (mem' := cx g l a (fm_uf b 204 (va_cpy (b 27) (b 204) 0 0 8)) R) (by rfl) (by rfl) (by rfl) (by rfl) (by rfl) (by decide) cxs_204 ?_
  refine he_s 7 (pc' := 27) (lc' := [(0, .ref 203), (1, .ref 26)]) (stk' := [.int 8, .int 0, .ref 205, .int 0, .ref 28]) (mem' := cx g l a (fm_uf b 204 (va_cpy (b 27) (b 204) 0 0 8)) R) (by intro _ _ _; eq_refl) ?_
  refine he_cpI (mem' := cx g l (fm_ur a 205 (va_cpy (a 28) (a 205) 0 0 8)) (fm_uf b 204 (va_cpy (b 27) (b 204) 0 0 8)) R) (by rfl) (by rfl) (by rfl) (by rfl) (by rfl) (by decide) cxs_205 ?_
  refine he_s 7 (pc' := 42) (lc' := [(0, .ref 203), (1, .ref 26)]) (stk' := [.int 8, .int 0, .ref 206, .int 0, .ref 29]) (mem' := cx g l (fm_ur a 205 (va_cpy (a 28) (a 205) 0 0 8)) (fm_uf b 204 (va_cpy (b 27) (b 204) 0 0 8)) R) (by intro _ _ _; eq_refl) ?_
  refine he_cpI (mem' := cx g l (fm_ur (fm_ur a 205 (va_cpy (a 28) (a 205) 0 0 8)) 206 (va_cpy (a 29) (a 206) 0 0 8)) (fm_uf b 204 (va_cpy (b 27) (b 204) 0 0 8)) R) (by rfl) (by rfl) (by rfl) (by rfl) (by rfl) (by decide) cxs_206 ?_
  refine he_s 7 (pc' := 57) (lc' := [(0, .ref 203), (1, .ref 26)]) (stk' := [.int 8, .int 0, .ref 207, .int 0, .ref 30]) (mem' := cx g l (fm_ur (fm_ur a 205 (va_cpy (a 28) (a 205) 0 0 8)) 206 (va_cpy (a 29) (a 206) 0 0 8)) (fm_uf b 204 (va_cpy (b 27) (b 204) 0 0 8)) R) (by intro _ _ _; eq_refl) ?_
  refine he_cpI (mem' := cx g l (fm_ur (fm_ur (fm_ur a 205 (va_cpy (a 28) (a 205) 0 0 8)) 206 (va_cpy (a 29) (a 206) 0 0 8)) 207 (va_cpy (a 30) (a 207) 0 0 8)) (fm_uf b 204 (va_cpy (b 27) (b 204) 0 0 8)) R) (by rfl) (by rfl) (by rfl) (by rfl) (by rfl) (by decide) cxs_207 ?_
  refine he_s 7 (pc' := 72) (lc' := [(0, .ref 203), (1, .ref 26)]) (stk' := [.int 8, .int 0, .ref 208, .int 0, .ref 31]) (mem' := cx g l (fm_ur (fm_ur (fm_ur a 205 (va_cpy (a 28) (a 205) 0 0 8)) 206 (va_cpy (a 29) (a 206) 0 0 8)) 207 (va_cpy (a 30) (a 207) 0 0 8)) (fm_uf b 204 (va_cpy (b 27) (b 204) 0 0 8)) R) (by intro _ _ _; eq_refl) ?_
  refine he_cpI (mem' := cx g l (fm_ur (fm_ur (fm_ur (fm_ur a 205 (va_cpy (a 28) (a 205) 0 0 8)) 206 (va_cpy (a 29) (a 206) 0 0 8)) 207 (va_cpy (a 30) (a 207) 0 0 8)) 208 (va_cpy (a 31) (a 208) 0 0 8)) (fm_uf b 204 (va_cpy (b 27) (b 204) 0 0 8)) R) (by rfl) (by rfl) (by rfl) (by rfl) (by rfl) (by decide) cxs_208 ?_
  refine he_s 7 (pc' := 87) (lc' := [(0, .ref 203), (1, .ref 26)]) (stk' := [.int 8, .int 0, .ref 209, .int 0, .ref 32]) (mem' := cx g l (fm_ur (fm_ur (fm_ur (fm_ur a 205 (va_cpy (a 28) (a 205) 0 0 8)) 206 (va_cpy (a 29) (a 206) 0 0 8)) 207 (va_cpy (a 30) (a 207) 0 0 8)) 208 (va_cpy (a 31) (a 208) 0 0 8)) (fm_uf b 204 (va_cpy (b 27) (b 204) 0 0 8)) R) (by intro _ _ _; eq_refl) ?_
  refine he_cpI (mem' := cx g l (fm_ur (fm_ur (fm_ur (fm_ur (fm_ur a 205 (va_cpy (a 28) (a 205) 0 0 8)) 206 (va_cpy (a 29) (a 206) 0 0 8)) 207 (va_cpy (a 30) (a 207) 0 0 8)) 208 (va_cpy (a 31) (a 208) 0 0 8)) 209 (va_cpy (a 32) (a 209) 0 0 8)) (fm_uf b 204 (va_cpy (b 27) (b 204) 0 0 8)) R) (by rfl) (by rfl) (by rfl) (by rfl) (by rfl) (by decide) cxs_209 ?_
  refine he_s 7 (pc' := 103) (lc' := [(0, .ref 203), (1, .ref 26)]) (stk' := [.int 160, .int 0, .ref 210, .int 0, .ref 33]) (mem' := cx g l (fm_ur (fm_ur (fm_ur (fm_ur (fm_ur a 205 (va_cpy (a 28) (a 205) 0 0 8)) 206 (va_cpy (a 29) (a 206) 0 0 8)) 207 (va_cpy (a 30) (a 207) 0 0 8)) 208 (va_cpy (a 31) (a 208) 0 0 8)) 209 (va_cpy (a 32) (a 209) 0 0 8)) (fm_uf b 204 (va_cpy (b 27) (b 204) 0 0 8)) R) (by intro _ _ _; eq_refl) ?_
  refine he_cpI (mem' := cx g l (fm_ur (fm_ur (fm_ur (fm_ur (fm_ur (fm_ur a 205 (va_cpy (a 28) (a 205) 0 0 8)) 206 (va_cpy (a 29) (a 206) 0 0 8)) 207 (va_cpy (a 30) (a 207) 0 0 8)) 208 (va_cpy (a 31) (a 208) 0 0 8)) 209 (va_cpy (a 32) (a 209) 0 0 8)) 210 (va_cpy (a 33) (a 210) 0 0 160)) (fm_uf b 204 (va_cpy (b 27) (b 204) 0 0 8)) R) (by rfl) (by rfl) (by rfl) (by rfl) (by rfl) (by decide) cxs_210 ?_
  refine he_s 12 (pc' := 130) (lc' := [(0, .ref 203), (1, .ref 26)]) (stk' := []) (mem' := cx (fm_u (fm_u (fm_u g 203 7 (g 26 7)) 203 8 (g 26 8)) 203 9 (g 26 9)) l (fm_ur (fm_ur (fm_ur (fm_ur (fm_ur (fm_ur a 205 (va_cpy (a 28) (a 205) 0 0 8)) 206 (va_cpy (a 29) (a 206) 0 0 8)) 207 (va_cpy (a 30) (a 207) 0 0 8)) 208 (va_cpy (a 31) (a 208) 0 0 8)) 209 (va_cpy (a 32) (a 209) 0 0 8)) 210 (va_cpy (a 33) (a 210) 0 0 160)) (fm_uf b 204 (va_cpy (b 27) (b 204) 0 0 8)) R) (by intro _ _ _; eq_refl) ?_
  exact he_ret ⟨_, _, _, ⟨rfl, fun i hi => (show va_cpy (b 27) (b 204) 0 0 8 i = b 27 i from va_cpy0 hi), fun i hi => (show va_cpy (a 28) (a 205) 0 0 8 i = a 28 i from va_cpy0 hi), fun j hj => ⟨(by first | rfl | (repeat (first | rw [fm_un (by omega)] | rw [fm_ur_n (by omega)] | rw [fm_uf_n (by omega)]))), (by first | rfl | (repeat (first | rw [fm_un (by omega)] | rw [fm_ur_n (by omega)] | rw [fm_uf_n (by omega)]))), (by first | rfl | (repeat (first | rw [fm_un (by omega)] | rw [fm_ur_n (by omega)] | rw [fm_uf_n (by omega)])))⟩⟩, rfl⟩ (by rfl) (by rfl) (by rfl)
set_option maxRecDepth 8000 in
theorem hx_tal192_15 (hz : g 34 7 = 0 ∨ g 34 7 = 1) : ∃ (g' a' : Nat → Nat → Int32) (b' : Nat → Nat → Int64), hr_T 1 117 [.ref 211, .ref 34] (cx g l a b R) none (cx g' l a' b' R) ∧ g' 211 7 = g 34 7 ∧ ∀ j, ¬ (211 ≤ j ∧ j ≤ 217) → g' j = g j ∧ a' j = a j ∧ b' j = b j := by
  suffices h : ∃ (v : Option Value) (mem' : fx_M), (fun R1 => ∃ (g' a' : Nat → Nat → Int32) (b' : Nat → Nat → Int64), (g' 211 7 = g 34 7 ∧ ∀ j, ¬ (211 ≤ j ∧ j ≤ 217) → g' j = g j ∧ a' j = a j ∧ b' j = b j) ∧ R1 = (none, cx g' l a' b' R)) (v, mem') ∧ hr_T 1 117 [.ref 211, .ref 34] (cx g l a b R) v mem' by
    obtain ⟨v, mem', ⟨g', a', b', h1, hR1⟩, h2⟩ := h
    cases hR1
    exact ⟨g', a', b', h2, h1⟩
  refine he_meth (f := 117) (as := [.ref 211, .ref 34]) (F := fun R1 => ∃ (g' a' : Nat → Nat → Int32) (b' : Nat → Nat → Int64), (g' 211 7 = g 34 7 ∧ ∀ j, ¬ (211 ≤ j ∧ j ≤ 217) → g' j = g j ∧ a' j = a j ∧ b' j = b j) ∧ R1 = (none, cx g' l a' b' R)) (M := gk_m117) (by rfl) (by rfl) ?_
  refine he_s 7 (pc' := 12) (lc' := [(0, .ref 211), (1, .ref 34)]) (stk' := [.int 30, .int 0, .ref 212, .int 0, .ref 35]) (mem' := cx g l a b R) (by intro _ _ _; eq_refl) ?_
  refine he_cpI (mem' := cx g l (fm_ur a 212 (va_cpy (a 35) (a 212) 0 0 30)) b R) (by rfl) (by rfl) (by rfl) (by rfl) (by rfl) (by decide) cxs_212 ?_
  refine he_s 7 (pc' := 27) (lc' := [(0, .ref 211), (1, .ref 34)]) (stk' := [.int 30, .int 0, .ref 213, .int 0, .ref 36]) (mem' := cx g l (fm_ur a 212 (va_cpy (a 35) (a 212) 0 0 30)) b R) (by intro _ _ _; eq_refl) ?_
  refine he_cpI (mem' := cx g l (fm_ur (fm_ur a 212 (va_cpy (a 35) (a 212) 0 0 30)) 213 (va_cpy (a 36) (a 213) 0 0 30)) b R) (by rfl) (by rfl) (by rfl) (by rfl) (by rfl) (by decide) cxs_213 ?_
  refine he_s 7 (pc' := 42) (lc' := [(0, .ref 211), (1, .ref 34)]) (stk' := [.int 30, .int 0, .ref 214, .int 0, .ref 37]) (mem' := cx g l (fm_ur (fm_ur a 212 (va_cpy (a 35) (a 212) 0 0 30)) 213 (va_cpy (a 36) (a 213) 0 0 30)) b R) (by intro _ _ _; eq_refl) ?_
  refine he_cpI (mem' := cx g l (fm_ur (fm_ur (fm_ur a 212 (va_cpy (a 35) (a 212) 0 0 30)) 213 (va_cpy (a 36) (a 213) 0 0 30)) 214 (va_cpy (a 37) (a 214) 0 0 30)) b R) (by rfl) (by rfl) (by rfl) (by rfl) (by rfl) (by decide) cxs_214 ?_
  refine he_s 7 (pc' := 57) (lc' := [(0, .ref 211), (1, .ref 34)]) (stk' := [.int 30, .int 0, .ref 215, .int 0, .ref 38]) (mem' := cx g l (fm_ur (fm_ur (fm_ur a 212 (va_cpy (a 35) (a 212) 0 0 30)) 213 (va_cpy (a 36) (a 213) 0 0 30)) 214 (va_cpy (a 37) (a 214) 0 0 30)) b R) (by intro _ _ _; eq_refl) ?_
  refine he_cpI (mem' := cx g l (fm_ur (fm_ur (fm_ur (fm_ur a 212 (va_cpy (a 35) (a 212) 0 0 30)) 213 (va_cpy (a 36) (a 213) 0 0 30)) 214 (va_cpy (a 37) (a 214) 0 0 30)) 215 (va_cpy (a 38) (a 215) 0 0 30)) b R) (by rfl) (by rfl) (by rfl) (by rfl) (by rfl) (by decide) cxs_215 ?_
  refine he_s 7 (pc' := 72) (lc' := [(0, .ref 211), (1, .ref 34)]) (stk' := [.int 30, .int 0, .ref 216, .int 0, .ref 39]) (mem' := cx g l (fm_ur (fm_ur (fm_ur (fm_ur a 212 (va_cpy (a 35) (a 212) 0 0 30)) 213 (va_cpy (a 36) (a 213) 0 0 30)) 214 (va_cpy (a 37) (a 214) 0 0 30)) 215 (va_cpy (a 38) (a 215) 0 0 30)) b R) (by intro _ _ _; eq_refl) ?_
  refine he_cpI (mem' := cx g l (fm_ur (fm_ur (fm_ur (fm_ur (fm_ur a 212 (va_cpy (a 35) (a 212) 0 0 30)) 213 (va_cpy (a 36) (a 213) 0 0 30)) 214 (va_cpy (a 37) (a 214) 0 0 30)) 215 (va_cpy (a 38) (a 215) 0 0 30)) 216 (va_cpy (a 39) (a 216) 0 0 30)) b R) (by rfl) (by rfl) (by rfl) (by rfl) (by rfl) (by decide) cxs_216 ?_
  refine he_s 7 (pc' := 87) (lc' := [(0, .ref 211), (1, .ref 34)]) (stk' := [.int 30, .int 0, .ref 217, .int 0, .ref 40]) (mem' := cx g l (fm_ur (fm_ur (fm_ur (fm_ur (fm_ur a 212 (va_cpy (a 35) (a 212) 0 0 30)) 213 (va_cpy (a 36) (a 213) 0 0 30)) 214 (va_cpy (a 37) (a 214) 0 0 30)) 215 (va_cpy (a 38) (a 215) 0 0 30)) 216 (va_cpy (a 39) (a 216) 0 0 30)) b R) (by intro _ _ _; eq_refl) ?_
  refine he_cpI (mem' := cx g l (fm_ur (fm_ur (fm_ur (fm_ur (fm_ur (fm_ur a 212 (va_cpy (a 35) (a 212) 0 0 30)) 213 (va_cpy (a 36) (a 213) 0 0 30)) 214 (va_cpy (a 37) (a 214) 0 0 30)) 215 (va_cpy (a 38) (a 215) 0 0 30)) 216 (va_cpy (a 39) (a 216) 0 0 30)) 217 (va_cpy (a 40) (a 217) 0 0 30)) b R) (by rfl) (by rfl) (by rfl) (by rfl) (by rfl) (by decide) cxs_217 ?_
  refine he_s 7 (pc' := 103) (lc' := [(0, .ref 211), (1, .ref 34)]) (stk' := [.int (g 34 7), .ref 211]) (mem' := cx (fm_u g 211 6 (g 34 6)) l (fm_ur (fm_ur (fm_ur (fm_ur (fm_ur (fm_ur a 212 (va_cpy (a 35) (a 212) 0 0 30)) 213 (va_cpy (a 36) (a 213) 0 0 30)) 214 (va_cpy (a 37) (a 214) 0 0 30)) 215 (va_cpy (a 38) (a 215) 0 0 30)) 216 (va_cpy (a 39) (a 216) 0 0 30)) 217 (va_cpy (a 40) (a 217) 0 0 30)) b R) (by intro _ _ _; eq_refl) ?_
  rcases hz with ez | ez
  · rw [ez]
    refine he_s 1 (pc' := 106) (lc' := [(0, .ref 211), (1, .ref 34)]) (stk' := []) (mem' := cx (fm_u (fm_u g 211 6 (g 34 6)) 211 7 0) l (fm_ur (fm_ur (fm_ur (fm_ur (fm_ur (fm_ur a 212 (va_cpy (a 35) (a 212) 0 0 30)) 213 (va_cpy (a 36) (a 213) 0 0 30)) 214 (va_cpy (a 37) (a 214) 0 0 30)) 215 (va_cpy (a 38) (a 215) 0 0 30)) 216 (va_cpy (a 39) (a 216) 0 0 30)) 217 (va_cpy (a 40) (a 217) 0 0 30)) b R) (by intro _ _ _; eq_refl) ?_
    exact he_ret ⟨_, _, _, ⟨(by first | exact fm_ue | exact fm_ue.trans ez.symm), fun j hj => ⟨(by first | rfl | (repeat (first | rw [fm_un (by omega)] | rw [fm_ur_n (by omega)] | rw [fm_uf_n (by omega)]))), (by first | rfl | (repeat (first | rw [fm_un (by omega)] | rw [fm_ur_n (by omega)] | rw [fm_uf_n (by omega)]))), (by first | rfl | (repeat (first | rw [fm_un (by omega)] | rw [fm_ur_n (by omega)] | rw [fm_uf_n (by omega)])))⟩⟩, rfl⟩ (by rfl) (by rfl) (by rfl)
  · rw [ez]
    refine he_s 1 (pc' := 106) (lc' := [(0, .ref 211), (1, .ref 34)]) (stk' := []) (mem' := cx (fm_u (fm_u g 211 6 (g 34 6)) 211 7 1) l (fm_ur (fm_ur (fm_ur (fm_ur (fm_ur (fm_ur a 212 (va_cpy (a 35) (a 212) 0 0 30)) 213 (va_cpy (a 36) (a 213) 0 0 30)) 214 (va_cpy (a 37) (a 214) 0 0 30)) 215 (va_cpy (a 38) (a 215) 0 0 30)) 216 (va_cpy (a 39) (a 216) 0 0 30)) 217 (va_cpy (a 40) (a 217) 0 0 30)) b R) (by intro _ _ _; eq_refl) ?_
    exact he_ret ⟨_, _, _, ⟨(by first | exact fm_ue | exact fm_ue.trans ez.symm), fun j hj => ⟨(by first | rfl | (repeat (first | rw [fm_un (by omega)] | rw [fm_ur_n (by omega)] | rw [fm_uf_n (by omega)]))), (by first | rfl | (repeat (first | rw [fm_un (by omega)] | rw [fm_ur_n (by omega)] | rw [fm_uf_n (by omega)]))), (by first | rfl | (repeat (first | rw [fm_un (by omega)] | rw [fm_ur_n (by omega)] | rw [fm_uf_n (by omega)])))⟩⟩, rfl⟩ (by rfl) (by rfl) (by rfl)
set_option maxRecDepth 8000 in
theorem hx_lake192_15 : ∃ (g' a' : Nat → Nat → Int32) (b' : Nat → Nat → Int64), hr_T 2 31 [.ref 192, .ref 15] (cx g l a b R) none (cx g' l a' b' R) ∧ cpo 192 15 g a b g' a' b' ∧ ∀ j, ¬ (192 ≤ j ∧ j ≤ 210) → g' j = g j ∧ a' j = a j ∧ b' j = b j := by
  suffices h : ∃ (v : Option Value) (mem' : fx_M), (fun R1 => ∃ (g' a' : Nat → Nat → Int32) (b' : Nat → Nat → Int64), (cpo 192 15 g a b g' a' b' ∧ ∀ j, ¬ (192 ≤ j ∧ j ≤ 210) → g' j = g j ∧ a' j = a j ∧ b' j = b j) ∧ R1 = (none, cx g' l a' b' R)) (v, mem') ∧ hr_T 2 31 [.ref 192, .ref 15] (cx g l a b R) v mem' by
    obtain ⟨v, mem', ⟨g', a', b', h1, hR1⟩, h2⟩ := h
    cases hR1
    exact ⟨g', a', b', h2, h1⟩
  refine he_meth (f := 31) (as := [.ref 192, .ref 15]) (F := fun R1 => ∃ (g' a' : Nat → Nat → Int32) (b' : Nat → Nat → Int64), (cpo 192 15 g a b g' a' b' ∧ ∀ j, ¬ (192 ≤ j ∧ j ≤ 210) → g' j = g j ∧ a' j = a j ∧ b' j = b j) ∧ R1 = (none, cx g' l a' b' R)) (M := gk_m31) (by rfl) (by rfl) ?_
  refine he_s 7 (pc' := 12) (lc' := [(0, .ref 192), (1, .ref 15)]) (stk' := [.int 10, .int 0, .ref 193, .int 0, .ref 16]) (mem' := cx g l a b R) (by intro _ _ _; eq_refl) ?_
  refine he_cpL (mem' := cx g l a (fm_uf b 193 (va_cpy (b 16) (b 193) 0 0 10)) R) (by rfl) (by rfl) (by rfl) (by rfl) (by rfl) (by decide) cxs_193 ?_
  refine he_s 7 (pc' := 27) (lc' := [(0, .ref 192), (1, .ref 15)]) (stk' := [.int 10, .int 0, .ref 194, .int 0, .ref 17]) (mem' := cx g l a (fm_uf b 193 (va_cpy (b 16) (b 193) 0 0 10)) R) (by intro _ _ _; eq_refl) ?_
  refine he_cpI (mem' := cx g l (fm_ur a 194 (va_cpy (a 17) (a 194) 0 0 10)) (fm_uf b 193 (va_cpy (b 16) (b 193) 0 0 10)) R) (by rfl) (by rfl) (by rfl) (by rfl) (by rfl) (by decide) cxs_194 ?_
  refine he_s 7 (pc' := 42) (lc' := [(0, .ref 192), (1, .ref 15)]) (stk' := [.int 10, .int 0, .ref 195, .int 0, .ref 18]) (mem' := cx g l (fm_ur a 194 (va_cpy (a 17) (a 194) 0 0 10)) (fm_uf b 193 (va_cpy (b 16) (b 193) 0 0 10)) R) (by intro _ _ _; eq_refl) ?_
  refine he_cpI (mem' := cx g l (fm_ur (fm_ur a 194 (va_cpy (a 17) (a 194) 0 0 10)) 195 (va_cpy (a 18) (a 195) 0 0 10)) (fm_uf b 193 (va_cpy (b 16) (b 193) 0 0 10)) R) (by rfl) (by rfl) (by rfl) (by rfl) (by rfl) (by decide) cxs_195 ?_
  refine he_s 7 (pc' := 57) (lc' := [(0, .ref 192), (1, .ref 15)]) (stk' := [.int 10, .int 0, .ref 196, .int 0, .ref 19]) (mem' := cx g l (fm_ur (fm_ur a 194 (va_cpy (a 17) (a 194) 0 0 10)) 195 (va_cpy (a 18) (a 195) 0 0 10)) (fm_uf b 193 (va_cpy (b 16) (b 193) 0 0 10)) R) (by intro _ _ _; eq_refl) ?_
  refine he_cpI (mem' := cx g l (fm_ur (fm_ur (fm_ur a 194 (va_cpy (a 17) (a 194) 0 0 10)) 195 (va_cpy (a 18) (a 195) 0 0 10)) 196 (va_cpy (a 19) (a 196) 0 0 10)) (fm_uf b 193 (va_cpy (b 16) (b 193) 0 0 10)) R) (by rfl) (by rfl) (by rfl) (by rfl) (by rfl) (by decide) cxs_196 ?_
  refine he_s 4 (pc' := 68) (lc' := [(0, .ref 192), (1, .ref 15)]) (stk' := [.ref 21, .ref 198]) (mem' := cx g l (fm_ur (fm_ur (fm_ur a 194 (va_cpy (a 17) (a 194) 0 0 10)) 195 (va_cpy (a 18) (a 195) 0 0 10)) 196 (va_cpy (a 19) (a 196) 0 0 10)) (fm_uf b 193 (va_cpy (b 16) (b 193) 0 0 10)) R) (by intro _ _ _; eq_refl) ?_
  obtain ⟨gc1, ac1, bc1, hrc1, hxc1⟩ := hx_ice192_15 (g := g) (l := l) (a := (fm_ur (fm_ur (fm_ur a 194 (va_cpy (a 17) (a 194) 0 0 10)) 195 (va_cpy (a 18) (a 195) 0 0 10)) 196 (va_cpy (a 19) (a 196) 0 0 10))) (b := (fm_uf b 193 (va_cpy (b 16) (b 193) 0 0 10))) (R := R)
  refine he_ivV hrc1 (by omega) (by rfl) (by rfl) (by rfl) (by rfl) (by rfl) (by rfl) ?_
  refine he_s 4 (pc' := 79) (lc' := [(0, .ref 192), (1, .ref 15)]) (stk' := [.ref 26, .ref 203]) (mem' := cx gc1 l ac1 bc1 R) (by intro _ _ _; eq_refl) ?_
  obtain ⟨gc2, ac2, bc2, hrc2, hxc2⟩ := hx_crew192_15 (g := gc1) (l := l) (a := ac1) (b := bc1) (R := R)
  refine he_ivV hrc2 (by omega) (by rfl) (by rfl) (by rfl) (by rfl) (by rfl) (by rfl) ?_
  refine he_s 24 (pc' := 130) (lc' := [(0, .ref 192), (1, .ref 15)]) (stk' := []) (mem' := cx (fm_u (fm_u (fm_u (fm_u (fm_u (fm_u gc2 192 8 (gc2 15 8)) 192 9 (gc2 15 9)) 192 10 (gc2 15 10)) 192 11 (gc2 15 11)) 192 12 (gc2 15 12)) 192 13 (gc2 15 13)) l ac2 bc2 R) (by intro _ _ _; eq_refl) ?_
  have e27 : ∀ j, ¬ (198 ≤ j ∧ j ≤ 202) → ¬ (203 ≤ j ∧ j ≤ 210) → gc2 j = g j := fun j p1 p2 => (hxc2.2.2.2 j p2).1.trans (hxc1 j p1).1
  have a27 : ∀ j, ¬ (203 ≤ j ∧ j ≤ 210) → ¬ (198 ≤ j ∧ j ≤ 202) → ac2 j = _ := fun j p1 p2 => (hxc2.2.2.2 j p1).2.1.trans (hxc1 j p2).2.1
  have b27 : ∀ j, ¬ (203 ≤ j ∧ j ≤ 210) → ¬ (198 ≤ j ∧ j ≤ 202) → bc2 j = _ := fun j p1 p2 => (hxc2.2.2.2 j p1).2.2.trans (hxc1 j p2).2.2
  refine he_ret ⟨_, _, _, ⟨⟨?_, ?_, ?_, fun i hi => ?_, fun i hi => ?_, fun i hi => ?_, fun i hi => ?_, fun i hi => ?_⟩, fun j hj => ⟨?_, ?_, ?_⟩⟩, rfl⟩ (by rfl) (by rfl) (by rfl)
  · exact congrFun (e27 15 (by decide) (by decide)) 8
  · exact congrFun (e27 15 (by decide) (by decide)) 9
  · exact hxc2.1.trans (congrFun (hxc1 26 (by decide)).1 7)
  · exact (congrFun (b27 193 (by decide) (by decide)) i).trans (va_cpy0 hi)
  · exact (hxc2.2.1 i hi).trans (congrFun (hxc1 27 (by decide)).2.2 i)
  · exact (congrFun (a27 194 (by decide) (by decide)) i).trans (va_cpy0 hi)
  · exact (congrFun (a27 195 (by decide) (by decide)) i).trans (va_cpy0 hi)
  · exact (hxc2.2.2.1 i hi).trans (congrFun (hxc1 28 (by decide)).2.1 i)
  · repeat rw [fm_un (by omega)]
    exact e27 j (by omega) (by omega)
  · rw [a27 j (by omega) (by omega)]; repeat rw [fm_ur_n (by omega)]
  · rw [b27 j (by omega) (by omega)]; repeat rw [fm_uf_n (by omega)]
set_option maxRecDepth 8000 in
theorem hx_ice15_192 : ∃ (g' a' : Nat → Nat → Int32) (b' : Nat → Nat → Int64), hr_T 1 25 [.ref 21, .ref 198] (cx g l a b R) none (cx g' l a' b' R) ∧ ∀ j, ¬ (21 ≤ j ∧ j ≤ 25) → g' j = g j ∧ a' j = a j ∧ b' j = b j := by
  suffices h : ∃ (v : Option Value) (mem' : fx_M), (fun R1 => ∃ (g' a' : Nat → Nat → Int32) (b' : Nat → Nat → Int64), (∀ j, ¬ (21 ≤ j ∧ j ≤ 25) → g' j = g j ∧ a' j = a j ∧ b' j = b j) ∧ R1 = (none, cx g' l a' b' R)) (v, mem') ∧ hr_T 1 25 [.ref 21, .ref 198] (cx g l a b R) v mem' by
    obtain ⟨v, mem', ⟨g', a', b', h1, hR1⟩, h2⟩ := h
    cases hR1
    exact ⟨g', a', b', h2, h1⟩
  refine he_meth (f := 25) (as := [.ref 21, .ref 198]) (F := fun R1 => ∃ (g' a' : Nat → Nat → Int32) (b' : Nat → Nat → Int64), (∀ j, ¬ (21 ≤ j ∧ j ≤ 25) → g' j = g j ∧ a' j = a j ∧ b' j = b j) ∧ R1 = (none, cx g' l a' b' R)) (M := gk_m25) (by rfl) (by rfl) ?_
  refine he_s 7 (pc' := 12) (lc' := [(0, .ref 21), (1, .ref 198)]) (stk' := [.int 10, .int 0, .ref 22, .int 0, .ref 199]) (mem' := cx g l a b R) (by intro _ _ _; eq_refl) ?_
  refine he_cpI (mem' := cx g l (fm_ur a 22 (va_cpy (a 199) (a 22) 0 0 10)) b R) (by rfl) (by rfl) (by rfl) (by rfl) (by rfl) (by decide) cxs_22 ?_
  refine he_s 7 (pc' := 27) (lc' := [(0, .ref 21), (1, .ref 198)]) (stk' := [.int 10, .int 0, .ref 23, .int 0, .ref 200]) (mem' := cx g l (fm_ur a 22 (va_cpy (a 199) (a 22) 0 0 10)) b R) (by intro _ _ _; eq_refl) ?_
  refine he_cpI (mem' := cx g l (fm_ur (fm_ur a 22 (va_cpy (a 199) (a 22) 0 0 10)) 23 (va_cpy (a 200) (a 23) 0 0 10)) b R) (by rfl) (by rfl) (by rfl) (by rfl) (by rfl) (by decide) cxs_23 ?_
  refine he_s 7 (pc' := 42) (lc' := [(0, .ref 21), (1, .ref 198)]) (stk' := [.int 10, .int 0, .ref 24, .int 0, .ref 201]) (mem' := cx g l (fm_ur (fm_ur a 22 (va_cpy (a 199) (a 22) 0 0 10)) 23 (va_cpy (a 200) (a 23) 0 0 10)) b R) (by intro _ _ _; eq_refl) ?_
  refine he_cpI (mem' := cx g l (fm_ur (fm_ur (fm_ur a 22 (va_cpy (a 199) (a 22) 0 0 10)) 23 (va_cpy (a 200) (a 23) 0 0 10)) 24 (va_cpy (a 201) (a 24) 0 0 10)) b R) (by rfl) (by rfl) (by rfl) (by rfl) (by rfl) (by decide) cxs_24 ?_
  refine he_s 7 (pc' := 58) (lc' := [(0, .ref 21), (1, .ref 198)]) (stk' := [.int 200, .int 0, .ref 25, .int 0, .ref 202]) (mem' := cx g l (fm_ur (fm_ur (fm_ur a 22 (va_cpy (a 199) (a 22) 0 0 10)) 23 (va_cpy (a 200) (a 23) 0 0 10)) 24 (va_cpy (a 201) (a 24) 0 0 10)) b R) (by intro _ _ _; eq_refl) ?_
  refine he_cpI (mem' := cx g l (fm_ur (fm_ur (fm_ur (fm_ur a 22 (va_cpy (a 199) (a 22) 0 0 10)) 23 (va_cpy (a 200) (a 23) 0 0 10)) 24 (va_cpy (a 201) (a 24) 0 0 10)) 25 (va_cpy (a 202) (a 25) 0 0 200)) b R) (by rfl) (by rfl) (by rfl) (by rfl) (by rfl) (by decide) cxs_25 ?_
  refine he_s 8 (pc' := 77) (lc' := [(0, .ref 21), (1, .ref 198)]) (stk' := []) (mem' := cx (fm_u (fm_u g 21 4 (g 198 4)) 21 5 (g 198 5)) l (fm_ur (fm_ur (fm_ur (fm_ur a 22 (va_cpy (a 199) (a 22) 0 0 10)) 23 (va_cpy (a 200) (a 23) 0 0 10)) 24 (va_cpy (a 201) (a 24) 0 0 10)) 25 (va_cpy (a 202) (a 25) 0 0 200)) b R) (by intro _ _ _; eq_refl) ?_
  exact he_ret ⟨_, _, _, fun j hj => ⟨(by first | rfl | (repeat (first | rw [fm_un (by omega)] | rw [fm_ur_n (by omega)] | rw [fm_uf_n (by omega)]))), (by first | rfl | (repeat (first | rw [fm_un (by omega)] | rw [fm_ur_n (by omega)] | rw [fm_uf_n (by omega)]))), (by first | rfl | (repeat (first | rw [fm_un (by omega)] | rw [fm_ur_n (by omega)] | rw [fm_uf_n (by omega)])))⟩, rfl⟩ (by rfl) (by rfl) (by rfl)
set_option maxRecDepth 8000 in
theorem hx_crew15_192 : ∃ (g' a' : Nat → Nat → Int32) (b' : Nat → Nat → Int64), hr_T 1 2 [.ref 26, .ref 203] (cx g l a b R) none (cx g' l a' b' R) ∧ g' 26 7 = g 203 7 ∧ (∀ i, i < 8 → b' 27 i = b 204 i) ∧ (∀ i, i < 8 → a' 28 i = a 205 i) ∧ ∀ j, ¬ (26 ≤ j ∧ j ≤ 33) → g' j = g j ∧ a' j = a j ∧ b' j = b j := by
  suffices h : ∃ (v : Option Value) (mem' : fx_M), (fun R1 => ∃ (g' a' : Nat → Nat → Int32) (b' : Nat → Nat → Int64), (g' 26 7 = g 203 7 ∧ (∀ i, i < 8 → b' 27 i = b 204 i) ∧ (∀ i, i < 8 → a' 28 i = a 205 i) ∧ ∀ j, ¬ (26 ≤ j ∧ j ≤ 33) → g' j = g j ∧ a' j = a j ∧ b' j = b j) ∧ R1 = (none, cx g' l a' b' R)) (v, mem') ∧ hr_T 1 2 [.ref 26, .ref 203] (cx g l a b R) v mem' by
    obtain ⟨v, mem', ⟨g', a', b', h1, hR1⟩, h2⟩ := h
    cases hR1
    exact ⟨g', a', b', h2, h1⟩
  refine he_meth (f := 2) (as := [.ref 26, .ref 203]) (F := fun R1 => ∃ (g' a' : Nat → Nat → Int32) (b' : Nat → Nat → Int64), (g' 26 7 = g 203 7 ∧ (∀ i, i < 8 → b' 27 i = b 204 i) ∧ (∀ i, i < 8 → a' 28 i = a 205 i) ∧ ∀ j, ¬ (26 ≤ j ∧ j ≤ 33) → g' j = g j ∧ a' j = a j ∧ b' j = b j) ∧ R1 = (none, cx g' l a' b' R)) (M := gk_m2) (by rfl) (by rfl) ?_
  refine he_s 7 (pc' := 12) (lc' := [(0, .ref 26), (1, .ref 203)]) (stk' := [.int 8, .int 0, .ref 27, .int 0, .ref 204]) (mem' := cx g l a b R) (by intro _ _ _; eq_refl) ?_
  refine he_cpL (mem' := cx g l a (fm_uf b 27 (va_cpy (b 204) (b 27) 0 0 8)) R) (by rfl) (by rfl) (by rfl) (by rfl) (by rfl) (by decide) cxs_27 ?_
  refine he_s 7 (pc' := 27) (lc' := [(0, .ref 26), (1, .ref 203)]) (stk' := [.int 8, .int 0, .ref 28, .int 0, .ref 205]) (mem' := cx g l a (fm_uf b 27 (va_cpy (b 204) (b 27) 0 0 8)) R) (by intro _ _ _; eq_refl) ?_
  refine he_cpI (mem' := cx g l (fm_ur a 28 (va_cpy (a 205) (a 28) 0 0 8)) (fm_uf b 27 (va_cpy (b 204) (b 27) 0 0 8)) R) (by rfl) (by rfl) (by rfl) (by rfl) (by rfl) (by decide) cxs_28 ?_
  refine he_s 7 (pc' := 42) (lc' := [(0, .ref 26), (1, .ref 203)]) (stk' := [.int 8, .int 0, .ref 29, .int 0, .ref 206]) (mem' := cx g l (fm_ur a 28 (va_cpy (a 205) (a 28) 0 0 8)) (fm_uf b 27 (va_cpy (b 204) (b 27) 0 0 8)) R) (by intro _ _ _; eq_refl) ?_
  refine he_cpI (mem' := cx g l (fm_ur (fm_ur a 28 (va_cpy (a 205) (a 28) 0 0 8)) 29 (va_cpy (a 206) (a 29) 0 0 8)) (fm_uf b 27 (va_cpy (b 204) (b 27) 0 0 8)) R) (by rfl) (by rfl) (by rfl) (by rfl) (by rfl) (by decide) cxs_29 ?_
  refine he_s 7 (pc' := 57) (lc' := [(0, .ref 26), (1, .ref 203)]) (stk' := [.int 8, .int 0, .ref 30, .int 0, .ref 207]) (mem' := cx g l (fm_ur (fm_ur a 28 (va_cpy (a 205) (a 28) 0 0 8)) 29 (va_cpy (a 206) (a 29) 0 0 8)) (fm_uf b 27 (va_cpy (b 204) (b 27) 0 0 8)) R) (by intro _ _ _; eq_refl) ?_
  refine he_cpI (mem' := cx g l (fm_ur (fm_ur (fm_ur a 28 (va_cpy (a 205) (a 28) 0 0 8)) 29 (va_cpy (a 206) (a 29) 0 0 8)) 30 (va_cpy (a 207) (a 30) 0 0 8)) (fm_uf b 27 (va_cpy (b 204) (b 27) 0 0 8)) R) (by rfl) (by rfl) (by rfl) (by rfl) (by rfl) (by decide) cxs_30 ?_
  refine he_s 7 (pc' := 72) (lc' := [(0, .ref 26), (1, .ref 203)]) (stk' := [.int 8, .int 0, .ref 31, .int 0, .ref 208]) (mem' := cx g l (fm_ur (fm_ur (fm_ur a 28 (va_cpy (a 205) (a 28) 0 0 8)) 29 (va_cpy (a 206) (a 29) 0 0 8)) 30 (va_cpy (a 207) (a 30) 0 0 8)) (fm_uf b 27 (va_cpy (b 204) (b 27) 0 0 8)) R) (by intro _ _ _; eq_refl) ?_
  refine he_cpI (mem' := cx g l (fm_ur (fm_ur (fm_ur (fm_ur a 28 (va_cpy (a 205) (a 28) 0 0 8)) 29 (va_cpy (a 206) (a 29) 0 0 8)) 30 (va_cpy (a 207) (a 30) 0 0 8)) 31 (va_cpy (a 208) (a 31) 0 0 8)) (fm_uf b 27 (va_cpy (b 204) (b 27) 0 0 8)) R) (by rfl) (by rfl) (by rfl) (by rfl) (by rfl) (by decide) cxs_31 ?_
  refine he_s 7 (pc' := 87) (lc' := [(0, .ref 26), (1, .ref 203)]) (stk' := [.int 8, .int 0, .ref 32, .int 0, .ref 209]) (mem' := cx g l (fm_ur (fm_ur (fm_ur (fm_ur a 28 (va_cpy (a 205) (a 28) 0 0 8)) 29 (va_cpy (a 206) (a 29) 0 0 8)) 30 (va_cpy (a 207) (a 30) 0 0 8)) 31 (va_cpy (a 208) (a 31) 0 0 8)) (fm_uf b 27 (va_cpy (b 204) (b 27) 0 0 8)) R) (by intro _ _ _; eq_refl) ?_
  refine he_cpI (mem' := cx g l (fm_ur (fm_ur (fm_ur (fm_ur (fm_ur a 28 (va_cpy (a 205) (a 28) 0 0 8)) 29 (va_cpy (a 206) (a 29) 0 0 8)) 30 (va_cpy (a 207) (a 30) 0 0 8)) 31 (va_cpy (a 208) (a 31) 0 0 8)) 32 (va_cpy (a 209) (a 32) 0 0 8)) (fm_uf b 27 (va_cpy (b 204) (b 27) 0 0 8)) R) (by rfl) (by rfl) (by rfl) (by rfl) (by rfl) (by decide) cxs_32 ?_
  refine he_s 7 (pc' := 103) (lc' := [(0, .ref 26), (1, .ref 203)]) (stk' := [.int 160, .int 0, .ref 33, .int 0, .ref 210]) (mem' := cx g l (fm_ur (fm_ur (fm_ur (fm_ur (fm_ur a 28 (va_cpy (a 205) (a 28) 0 0 8)) 29 (va_cpy (a 206) (a 29) 0 0 8)) 30 (va_cpy (a 207) (a 30) 0 0 8)) 31 (va_cpy (a 208) (a 31) 0 0 8)) 32 (va_cpy (a 209) (a 32) 0 0 8)) (fm_uf b 27 (va_cpy (b 204) (b 27) 0 0 8)) R) (by intro _ _ _; eq_refl) ?_
  refine he_cpI (mem' := cx g l (fm_ur (fm_ur (fm_ur (fm_ur (fm_ur (fm_ur a 28 (va_cpy (a 205) (a 28) 0 0 8)) 29 (va_cpy (a 206) (a 29) 0 0 8)) 30 (va_cpy (a 207) (a 30) 0 0 8)) 31 (va_cpy (a 208) (a 31) 0 0 8)) 32 (va_cpy (a 209) (a 32) 0 0 8)) 33 (va_cpy (a 210) (a 33) 0 0 160)) (fm_uf b 27 (va_cpy (b 204) (b 27) 0 0 8)) R) (by rfl) (by rfl) (by rfl) (by rfl) (by rfl) (by decide) cxs_33 ?_
  refine he_s 12 (pc' := 130) (lc' := [(0, .ref 26), (1, .ref 203)]) (stk' := []) (mem' := cx (fm_u (fm_u (fm_u g 26 7 (g 203 7)) 26 8 (g 203 8)) 26 9 (g 203 9)) l (fm_ur (fm_ur (fm_ur (fm_ur (fm_ur (fm_ur a 28 (va_cpy (a 205) (a 28) 0 0 8)) 29 (va_cpy (a 206) (a 29) 0 0 8)) 30 (va_cpy (a 207) (a 30) 0 0 8)) 31 (va_cpy (a 208) (a 31) 0 0 8)) 32 (va_cpy (a 209) (a 32) 0 0 8)) 33 (va_cpy (a 210) (a 33) 0 0 160)) (fm_uf b 27 (va_cpy (b 204) (b 27) 0 0 8)) R) (by intro _ _ _; eq_refl) ?_
  exact he_ret ⟨_, _, _, ⟨rfl, fun i hi => (show va_cpy (b 204) (b 27) 0 0 8 i = b 204 i from va_cpy0 hi), fun i hi => (show va_cpy (a 205) (a 28) 0 0 8 i = a 205 i from va_cpy0 hi), fun j hj => ⟨(by first | rfl | (repeat (first | rw [fm_un (by omega)] | rw [fm_ur_n (by omega)] | rw [fm_uf_n (by omega)]))), (by first | rfl | (repeat (first | rw [fm_un (by omega)] | rw [fm_ur_n (by omega)] | rw [fm_uf_n (by omega)]))), (by first | rfl | (repeat (first | rw [fm_un (by omega)] | rw [fm_ur_n (by omega)] | rw [fm_uf_n (by omega)])))⟩⟩, rfl⟩ (by rfl) (by rfl) (by rfl)
set_option maxRecDepth 8000 in
theorem hx_tal15_192 (hz : g 211 7 = 0 ∨ g 211 7 = 1) : ∃ (g' a' : Nat → Nat → Int32) (b' : Nat → Nat → Int64), hr_T 1 117 [.ref 34, .ref 211] (cx g l a b R) none (cx g' l a' b' R) ∧ g' 34 7 = g 211 7 ∧ ∀ j, ¬ (34 ≤ j ∧ j ≤ 40) → g' j = g j ∧ a' j = a j ∧ b' j = b j := by
  suffices h : ∃ (v : Option Value) (mem' : fx_M), (fun R1 => ∃ (g' a' : Nat → Nat → Int32) (b' : Nat → Nat → Int64), (g' 34 7 = g 211 7 ∧ ∀ j, ¬ (34 ≤ j ∧ j ≤ 40) → g' j = g j ∧ a' j = a j ∧ b' j = b j) ∧ R1 = (none, cx g' l a' b' R)) (v, mem') ∧ hr_T 1 117 [.ref 34, .ref 211] (cx g l a b R) v mem' by
    obtain ⟨v, mem', ⟨g', a', b', h1, hR1⟩, h2⟩ := h
    cases hR1
    exact ⟨g', a', b', h2, h1⟩
  refine he_meth (f := 117) (as := [.ref 34, .ref 211]) (F := fun R1 => ∃ (g' a' : Nat → Nat → Int32) (b' : Nat → Nat → Int64), (g' 34 7 = g 211 7 ∧ ∀ j, ¬ (34 ≤ j ∧ j ≤ 40) → g' j = g j ∧ a' j = a j ∧ b' j = b j) ∧ R1 = (none, cx g' l a' b' R)) (M := gk_m117) (by rfl) (by rfl) ?_
  refine he_s 7 (pc' := 12) (lc' := [(0, .ref 34), (1, .ref 211)]) (stk' := [.int 30, .int 0, .ref 35, .int 0, .ref 212]) (mem' := cx g l a b R) (by intro _ _ _; eq_refl) ?_
  refine he_cpI (mem' := cx g l (fm_ur a 35 (va_cpy (a 212) (a 35) 0 0 30)) b R) (by rfl) (by rfl) (by rfl) (by rfl) (by rfl) (by decide) cxs_35 ?_
  refine he_s 7 (pc' := 27) (lc' := [(0, .ref 34), (1, .ref 211)]) (stk' := [.int 30, .int 0, .ref 36, .int 0, .ref 213]) (mem' := cx g l (fm_ur a 35 (va_cpy (a 212) (a 35) 0 0 30)) b R) (by intro _ _ _; eq_refl) ?_
  refine he_cpI (mem' := cx g l (fm_ur (fm_ur a 35 (va_cpy (a 212) (a 35) 0 0 30)) 36 (va_cpy (a 213) (a 36) 0 0 30)) b R) (by rfl) (by rfl) (by rfl) (by rfl) (by rfl) (by decide) cxs_36 ?_
  refine he_s 7 (pc' := 42) (lc' := [(0, .ref 34), (1, .ref 211)]) (stk' := [.int 30, .int 0, .ref 37, .int 0, .ref 214]) (mem' := cx g l (fm_ur (fm_ur a 35 (va_cpy (a 212) (a 35) 0 0 30)) 36 (va_cpy (a 213) (a 36) 0 0 30)) b R) (by intro _ _ _; eq_refl) ?_
  refine he_cpI (mem' := cx g l (fm_ur (fm_ur (fm_ur a 35 (va_cpy (a 212) (a 35) 0 0 30)) 36 (va_cpy (a 213) (a 36) 0 0 30)) 37 (va_cpy (a 214) (a 37) 0 0 30)) b R) (by rfl) (by rfl) (by rfl) (by rfl) (by rfl) (by decide) cxs_37 ?_
  refine he_s 7 (pc' := 57) (lc' := [(0, .ref 34), (1, .ref 211)]) (stk' := [.int 30, .int 0, .ref 38, .int 0, .ref 215]) (mem' := cx g l (fm_ur (fm_ur (fm_ur a 35 (va_cpy (a 212) (a 35) 0 0 30)) 36 (va_cpy (a 213) (a 36) 0 0 30)) 37 (va_cpy (a 214) (a 37) 0 0 30)) b R) (by intro _ _ _; eq_refl) ?_
  refine he_cpI (mem' := cx g l (fm_ur (fm_ur (fm_ur (fm_ur a 35 (va_cpy (a 212) (a 35) 0 0 30)) 36 (va_cpy (a 213) (a 36) 0 0 30)) 37 (va_cpy (a 214) (a 37) 0 0 30)) 38 (va_cpy (a 215) (a 38) 0 0 30)) b R) (by rfl) (by rfl) (by rfl) (by rfl) (by rfl) (by decide) cxs_38 ?_
  refine he_s 7 (pc' := 72) (lc' := [(0, .ref 34), (1, .ref 211)]) (stk' := [.int 30, .int 0, .ref 39, .int 0, .ref 216]) (mem' := cx g l (fm_ur (fm_ur (fm_ur (fm_ur a 35 (va_cpy (a 212) (a 35) 0 0 30)) 36 (va_cpy (a 213) (a 36) 0 0 30)) 37 (va_cpy (a 214) (a 37) 0 0 30)) 38 (va_cpy (a 215) (a 38) 0 0 30)) b R) (by intro _ _ _; eq_refl) ?_
  refine he_cpI (mem' := cx g l (fm_ur (fm_ur (fm_ur (fm_ur (fm_ur a 35 (va_cpy (a 212) (a 35) 0 0 30)) 36 (va_cpy (a 213) (a 36) 0 0 30)) 37 (va_cpy (a 214) (a 37) 0 0 30)) 38 (va_cpy (a 215) (a 38) 0 0 30)) 39 (va_cpy (a 216) (a 39) 0 0 30)) b R) (by rfl) (by rfl) (by rfl) (by rfl) (by rfl) (by decide) cxs_39 ?_
  refine he_s 7 (pc' := 87) (lc' := [(0, .ref 34), (1, .ref 211)]) (stk' := [.int 30, .int 0, .ref 40, .int 0, .ref 217]) (mem' := cx g l (fm_ur (fm_ur (fm_ur (fm_ur (fm_ur a 35 (va_cpy (a 212) (a 35) 0 0 30)) 36 (va_cpy (a 213) (a 36) 0 0 30)) 37 (va_cpy (a 214) (a 37) 0 0 30)) 38 (va_cpy (a 215) (a 38) 0 0 30)) 39 (va_cpy (a 216) (a 39) 0 0 30)) b R) (by intro _ _ _; eq_refl) ?_
  refine he_cpI (mem' := cx g l (fm_ur (fm_ur (fm_ur (fm_ur (fm_ur (fm_ur a 35 (va_cpy (a 212) (a 35) 0 0 30)) 36 (va_cpy (a 213) (a 36) 0 0 30)) 37 (va_cpy (a 214) (a 37) 0 0 30)) 38 (va_cpy (a 215) (a 38) 0 0 30)) 39 (va_cpy (a 216) (a 39) 0 0 30)) 40 (va_cpy (a 217) (a 40) 0 0 30)) b R) (by rfl) (by rfl) (by rfl) (by rfl) (by rfl) (by decide) cxs_40 ?_
  refine he_s 7 (pc' := 103) (lc' := [(0, .ref 34), (1, .ref 211)]) (stk' := [.int (g 211 7), .ref 34]) (mem' := cx (fm_u g 34 6 (g 211 6)) l (fm_ur (fm_ur (fm_ur (fm_ur (fm_ur (fm_ur a 35 (va_cpy (a 212) (a 35) 0 0 30)) 36 (va_cpy (a 213) (a 36) 0 0 30)) 37 (va_cpy (a 214) (a 37) 0 0 30)) 38 (va_cpy (a 215) (a 38) 0 0 30)) 39 (va_cpy (a 216) (a 39) 0 0 30)) 40 (va_cpy (a 217) (a 40) 0 0 30)) b R) (by intro _ _ _; eq_refl) ?_
  rcases hz with ez | ez
  · rw [ez]
    refine he_s 1 (pc' := 106) (lc' := [(0, .ref 34), (1, .ref 211)]) (stk' := []) (mem' := cx (fm_u (fm_u g 34 6 (g 211 6)) 34 7 0) l (fm_ur (fm_ur (fm_ur (fm_ur (fm_ur (fm_ur a 35 (va_cpy (a 212) (a 35) 0 0 30)) 36 (va_cpy (a 213) (a 36) 0 0 30)) 37 (va_cpy (a 214) (a 37) 0 0 30)) 38 (va_cpy (a 215) (a 38) 0 0 30)) 39 (va_cpy (a 216) (a 39) 0 0 30)) 40 (va_cpy (a 217) (a 40) 0 0 30)) b R) (by intro _ _ _; eq_refl) ?_
    exact he_ret ⟨_, _, _, ⟨(by first | exact fm_ue | exact fm_ue.trans ez.symm), fun j hj => ⟨(by first | rfl | (repeat (first | rw [fm_un (by omega)] | rw [fm_ur_n (by omega)] | rw [fm_uf_n (by omega)]))), (by first | rfl | (repeat (first | rw [fm_un (by omega)] | rw [fm_ur_n (by omega)] | rw [fm_uf_n (by omega)]))), (by first | rfl | (repeat (first | rw [fm_un (by omega)] | rw [fm_ur_n (by omega)] | rw [fm_uf_n (by omega)])))⟩⟩, rfl⟩ (by rfl) (by rfl) (by rfl)
  · rw [ez]
    refine he_s 1 (pc' := 106) (lc' := [(0, .ref 34), (1, .ref 211)]) (stk' := []) (mem' := cx (fm_u (fm_u g 34 6 (g 211 6)) 34 7 1) l (fm_ur (fm_ur (fm_ur (fm_ur (fm_ur (fm_ur a 35 (va_cpy (a 212) (a 35) 0 0 30)) 36 (va_cpy (a 213) (a 36) 0 0 30)) 37 (va_cpy (a 214) (a 37) 0 0 30)) 38 (va_cpy (a 215) (a 38) 0 0 30)) 39 (va_cpy (a 216) (a 39) 0 0 30)) 40 (va_cpy (a 217) (a 40) 0 0 30)) b R) (by intro _ _ _; eq_refl) ?_
    exact he_ret ⟨_, _, _, ⟨(by first | exact fm_ue | exact fm_ue.trans ez.symm), fun j hj => ⟨(by first | rfl | (repeat (first | rw [fm_un (by omega)] | rw [fm_ur_n (by omega)] | rw [fm_uf_n (by omega)]))), (by first | rfl | (repeat (first | rw [fm_un (by omega)] | rw [fm_ur_n (by omega)] | rw [fm_uf_n (by omega)]))), (by first | rfl | (repeat (first | rw [fm_un (by omega)] | rw [fm_ur_n (by omega)] | rw [fm_uf_n (by omega)])))⟩⟩, rfl⟩ (by rfl) (by rfl) (by rfl)
set_option maxRecDepth 8000 in
theorem hx_lake15_192 : ∃ (g' a' : Nat → Nat → Int32) (b' : Nat → Nat → Int64), hr_T 2 31 [.ref 15, .ref 192] (cx g l a b R) none (cx g' l a' b' R) ∧ cpo 15 192 g a b g' a' b' ∧ ∀ j, ¬ (15 ≤ j ∧ j ≤ 33) → g' j = g j ∧ a' j = a j ∧ b' j = b j := by
  suffices h : ∃ (v : Option Value) (mem' : fx_M), (fun R1 => ∃ (g' a' : Nat → Nat → Int32) (b' : Nat → Nat → Int64), (cpo 15 192 g a b g' a' b' ∧ ∀ j, ¬ (15 ≤ j ∧ j ≤ 33) → g' j = g j ∧ a' j = a j ∧ b' j = b j) ∧ R1 = (none, cx g' l a' b' R)) (v, mem') ∧ hr_T 2 31 [.ref 15, .ref 192] (cx g l a b R) v mem' by
    obtain ⟨v, mem', ⟨g', a', b', h1, hR1⟩, h2⟩ := h
    cases hR1
    exact ⟨g', a', b', h2, h1⟩
  refine he_meth (f := 31) (as := [.ref 15, .ref 192]) (F := fun R1 => ∃ (g' a' : Nat → Nat → Int32) (b' : Nat → Nat → Int64), (cpo 15 192 g a b g' a' b' ∧ ∀ j, ¬ (15 ≤ j ∧ j ≤ 33) → g' j = g j ∧ a' j = a j ∧ b' j = b j) ∧ R1 = (none, cx g' l a' b' R)) (M := gk_m31) (by rfl) (by rfl) ?_
  refine he_s 7 (pc' := 12) (lc' := [(0, .ref 15), (1, .ref 192)]) (stk' := [.int 10, .int 0, .ref 16, .int 0, .ref 193]) (mem' := cx g l a b R) (by intro _ _ _; eq_refl) ?_
  refine he_cpL (mem' := cx g l a (fm_uf b 16 (va_cpy (b 193) (b 16) 0 0 10)) R) (by rfl) (by rfl) (by rfl) (by rfl) (by rfl) (by decide) cxs_16 ?_
  refine he_s 7 (pc' := 27) (lc' := [(0, .ref 15), (1, .ref 192)]) (stk' := [.int 10, .int 0, .ref 17, .int 0, .ref 194]) (mem' := cx g l a (fm_uf b 16 (va_cpy (b 193) (b 16) 0 0 10)) R) (by intro _ _ _; eq_refl) ?_
  refine he_cpI (mem' := cx g l (fm_ur a 17 (va_cpy (a 194) (a 17) 0 0 10)) (fm_uf b 16 (va_cpy (b 193) (b 16) 0 0 10)) R) (by rfl) (by rfl) (by rfl) (by rfl) (by rfl) (by decide) cxs_17 ?_
  refine he_s 7 (pc' := 42) (lc' := [(0, .ref 15), (1, .ref 192)]) (stk' := [.int 10, .int 0, .ref 18, .int 0, .ref 195]) (mem' := cx g l (fm_ur a 17 (va_cpy (a 194) (a 17) 0 0 10)) (fm_uf b 16 (va_cpy (b 193) (b 16) 0 0 10)) R) (by intro _ _ _; eq_refl) ?_
  refine he_cpI (mem' := cx g l (fm_ur (fm_ur a 17 (va_cpy (a 194) (a 17) 0 0 10)) 18 (va_cpy (a 195) (a 18) 0 0 10)) (fm_uf b 16 (va_cpy (b 193) (b 16) 0 0 10)) R) (by rfl) (by rfl) (by rfl) (by rfl) (by rfl) (by decide) cxs_18 ?_
  refine he_s 7 (pc' := 57) (lc' := [(0, .ref 15), (1, .ref 192)]) (stk' := [.int 10, .int 0, .ref 19, .int 0, .ref 196]) (mem' := cx g l (fm_ur (fm_ur a 17 (va_cpy (a 194) (a 17) 0 0 10)) 18 (va_cpy (a 195) (a 18) 0 0 10)) (fm_uf b 16 (va_cpy (b 193) (b 16) 0 0 10)) R) (by intro _ _ _; eq_refl) ?_
  refine he_cpI (mem' := cx g l (fm_ur (fm_ur (fm_ur a 17 (va_cpy (a 194) (a 17) 0 0 10)) 18 (va_cpy (a 195) (a 18) 0 0 10)) 19 (va_cpy (a 196) (a 19) 0 0 10)) (fm_uf b 16 (va_cpy (b 193) (b 16) 0 0 10)) R) (by rfl) (by rfl) (by rfl) (by rfl) (by rfl) (by decide) cxs_19 ?_
  refine he_s 4 (pc' := 68) (lc' := [(0, .ref 15), (1, .ref 192)]) (stk' := [.ref 198, .ref 21]) (mem' := cx g l (fm_ur (fm_ur (fm_ur a 17 (va_cpy (a 194) (a 17) 0 0 10)) 18 (va_cpy (a 195) (a 18) 0 0 10)) 19 (va_cpy (a 196) (a 19) 0 0 10)) (fm_uf b 16 (va_cpy (b 193) (b 16) 0 0 10)) R) (by intro _ _ _; eq_refl) ?_
  obtain ⟨gc1, ac1, bc1, hrc1, hxc1⟩ := hx_ice15_192 (g := g) (l := l) (a := (fm_ur (fm_ur (fm_ur a 17 (va_cpy (a 194) (a 17) 0 0 10)) 18 (va_cpy (a 195) (a 18) 0 0 10)) 19 (va_cpy (a 196) (a 19) 0 0 10))) (b := (fm_uf b 16 (va_cpy (b 193) (b 16) 0 0 10))) (R := R)
  refine he_ivV hrc1 (by omega) (by rfl) (by rfl) (by rfl) (by rfl) (by rfl) (by rfl) ?_
  refine he_s 4 (pc' := 79) (lc' := [(0, .ref 15), (1, .ref 192)]) (stk' := [.ref 203, .ref 26]) (mem' := cx gc1 l ac1 bc1 R) (by intro _ _ _; eq_refl) ?_
  obtain ⟨gc2, ac2, bc2, hrc2, hxc2⟩ := hx_crew15_192 (g := gc1) (l := l) (a := ac1) (b := bc1) (R := R)
  refine he_ivV hrc2 (by omega) (by rfl) (by rfl) (by rfl) (by rfl) (by rfl) (by rfl) ?_
  refine he_s 24 (pc' := 130) (lc' := [(0, .ref 15), (1, .ref 192)]) (stk' := []) (mem' := cx (fm_u (fm_u (fm_u (fm_u (fm_u (fm_u gc2 15 8 (gc2 192 8)) 15 9 (gc2 192 9)) 15 10 (gc2 192 10)) 15 11 (gc2 192 11)) 15 12 (gc2 192 12)) 15 13 (gc2 192 13)) l ac2 bc2 R) (by intro _ _ _; eq_refl) ?_
  have e27 : ∀ j, ¬ (21 ≤ j ∧ j ≤ 25) → ¬ (26 ≤ j ∧ j ≤ 33) → gc2 j = g j := fun j p1 p2 => (hxc2.2.2.2 j p2).1.trans (hxc1 j p1).1
  have a27 : ∀ j, ¬ (26 ≤ j ∧ j ≤ 33) → ¬ (21 ≤ j ∧ j ≤ 25) → ac2 j = _ := fun j p1 p2 => (hxc2.2.2.2 j p1).2.1.trans (hxc1 j p2).2.1
  have b27 : ∀ j, ¬ (26 ≤ j ∧ j ≤ 33) → ¬ (21 ≤ j ∧ j ≤ 25) → bc2 j = _ := fun j p1 p2 => (hxc2.2.2.2 j p1).2.2.trans (hxc1 j p2).2.2
  refine he_ret ⟨_, _, _, ⟨⟨?_, ?_, ?_, fun i hi => ?_, fun i hi => ?_, fun i hi => ?_, fun i hi => ?_, fun i hi => ?_⟩, fun j hj => ⟨?_, ?_, ?_⟩⟩, rfl⟩ (by rfl) (by rfl) (by rfl)
  · exact congrFun (e27 192 (by decide) (by decide)) 8
  · exact congrFun (e27 192 (by decide) (by decide)) 9
  · exact hxc2.1.trans (congrFun (hxc1 203 (by decide)).1 7)
  · exact (congrFun (b27 16 (by decide) (by decide)) i).trans (va_cpy0 hi)
  · exact (hxc2.2.1 i hi).trans (congrFun (hxc1 204 (by decide)).2.2 i)
  · exact (congrFun (a27 17 (by decide) (by decide)) i).trans (va_cpy0 hi)
  · exact (congrFun (a27 18 (by decide) (by decide)) i).trans (va_cpy0 hi)
  · exact (hxc2.2.2.1 i hi).trans (congrFun (hxc1 205 (by decide)).2.1 i)
  · repeat rw [fm_un (by omega)]
    exact e27 j (by omega) (by omega)
  · rw [a27 j (by omega) (by omega)]; repeat rw [fm_ur_n (by omega)]
  · rw [b27 j (by omega) (by omega)]; repeat rw [fm_uf_n (by omega)]
set_option maxRecDepth 8000 in
theorem hx_ice218_15 : ∃ (g' a' : Nat → Nat → Int32) (b' : Nat → Nat → Int64), hr_T 1 25 [.ref 224, .ref 21] (cx g l a b R) none (cx g' l a' b' R) ∧ ∀ j, ¬ (224 ≤ j ∧ j ≤ 228) → g' j = g j ∧ a' j = a j ∧ b' j = b j := by
  suffices h : ∃ (v : Option Value) (mem' : fx_M), (fun R1 => ∃ (g' a' : Nat → Nat → Int32) (b' : Nat → Nat → Int64), (∀ j, ¬ (224 ≤ j ∧ j ≤ 228) → g' j = g j ∧ a' j = a j ∧ b' j = b j) ∧ R1 = (none, cx g' l a' b' R)) (v, mem') ∧ hr_T 1 25 [.ref 224, .ref 21] (cx g l a b R) v mem' by
    obtain ⟨v, mem', ⟨g', a', b', h1, hR1⟩, h2⟩ := h
    cases hR1
    exact ⟨g', a', b', h2, h1⟩
  refine he_meth (f := 25) (as := [.ref 224, .ref 21]) (F := fun R1 => ∃ (g' a' : Nat → Nat → Int32) (b' : Nat → Nat → Int64), (∀ j, ¬ (224 ≤ j ∧ j ≤ 228) → g' j = g j ∧ a' j = a j ∧ b' j = b j) ∧ R1 = (none, cx g' l a' b' R)) (M := gk_m25) (by rfl) (by rfl) ?_
  refine he_s 7 (pc' := 12) (lc' := [(0, .ref 224), (1, .ref 21)]) (stk' := [.int 10, .int 0, .ref 225, .int 0, .ref 22]) (mem' := cx g l a b R) (by intro _ _ _; eq_refl) ?_
  refine he_cpI (mem' := cx g l (fm_ur a 225 (va_cpy (a 22) (a 225) 0 0 10)) b R) (by rfl) (by rfl) (by rfl) (by rfl) (by rfl) (by decide) cxs_225 ?_
  refine he_s 7 (pc' := 27) (lc' := [(0, .ref 224), (1, .ref 21)]) (stk' := [.int 10, .int 0, .ref 226, .int 0, .ref 23]) (mem' := cx g l (fm_ur a 225 (va_cpy (a 22) (a 225) 0 0 10)) b R) (by intro _ _ _; eq_refl) ?_
  refine he_cpI (mem' := cx g l (fm_ur (fm_ur a 225 (va_cpy (a 22) (a 225) 0 0 10)) 226 (va_cpy (a 23) (a 226) 0 0 10)) b R) (by rfl) (by rfl) (by rfl) (by rfl) (by rfl) (by decide) cxs_226 ?_
  refine he_s 7 (pc' := 42) (lc' := [(0, .ref 224), (1, .ref 21)]) (stk' := [.int 10, .int 0, .ref 227, .int 0, .ref 24]) (mem' := cx g l (fm_ur (fm_ur a 225 (va_cpy (a 22) (a 225) 0 0 10)) 226 (va_cpy (a 23) (a 226) 0 0 10)) b R) (by intro _ _ _; eq_refl) ?_
  refine he_cpI (mem' := cx g l (fm_ur (fm_ur (fm_ur a 225 (va_cpy (a 22) (a 225) 0 0 10)) 226 (va_cpy (a 23) (a 226) 0 0 10)) 227 (va_cpy (a 24) (a 227) 0 0 10)) b R) (by rfl) (by rfl) (by rfl) (by rfl) (by rfl) (by decide) cxs_227 ?_
  refine he_s 7 (pc' := 58) (lc' := [(0, .ref 224), (1, .ref 21)]) (stk' := [.int 200, .int 0, .ref 228, .int 0, .ref 25]) (mem' := cx g l (fm_ur (fm_ur (fm_ur a 225 (va_cpy (a 22) (a 225) 0 0 10)) 226 (va_cpy (a 23) (a 226) 0 0 10)) 227 (va_cpy (a 24) (a 227) 0 0 10)) b R) (by intro _ _ _; eq_refl) ?_
  refine he_cpI (mem' := cx g l (fm_ur (fm_ur (fm_ur (fm_ur a 225 (va_cpy (a 22) (a 225) 0 0 10)) 226 (va_cpy (a 23) (a 226) 0 0 10)) 227 (va_cpy (a 24) (a 227) 0 0 10)) 228 (va_cpy (a 25) (a 228) 0 0 200)) b R) (by rfl) (by rfl) (by rfl) (by rfl) (by rfl) (by decide) cxs_228 ?_
  refine he_s 8 (pc' := 77) (lc' := [(0, .ref 224), (1, .ref 21)]) (stk' := []) (mem' := cx (fm_u (fm_u g 224 4 (g 21 4)) 224 5 (g 21 5)) l (fm_ur (fm_ur (fm_ur (fm_ur a 225 (va_cpy (a 22) (a 225) 0 0 10)) 226 (va_cpy (a 23) (a 226) 0 0 10)) 227 (va_cpy (a 24) (a 227) 0 0 10)) 228 (va_cpy (a 25) (a 228) 0 0 200)) b R) (by intro _ _ _; eq_refl) ?_
  exact he_ret ⟨_, _, _, fun j hj => ⟨(by first | rfl | (repeat (first | rw [fm_un (by omega)] | rw [fm_ur_n (by omega)] | rw [fm_uf_n (by omega)]))), (by first | rfl | (repeat (first | rw [fm_un (by omega)] | rw [fm_ur_n (by omega)] | rw [fm_uf_n (by omega)]))), (by first | rfl | (repeat (first | rw [fm_un (by omega)] | rw [fm_ur_n (by omega)] | rw [fm_uf_n (by omega)])))⟩, rfl⟩ (by rfl) (by rfl) (by rfl)
set_option maxRecDepth 8000 in
theorem hx_crew218_15 : ∃ (g' a' : Nat → Nat → Int32) (b' : Nat → Nat → Int64), hr_T 1 2 [.ref 229, .ref 26] (cx g l a b R) none (cx g' l a' b' R) ∧ g' 229 7 = g 26 7 ∧ (∀ i, i < 8 → b' 230 i = b 27 i) ∧ (∀ i, i < 8 → a' 231 i = a 28 i) ∧ ∀ j, ¬ (229 ≤ j ∧ j ≤ 236) → g' j = g j ∧ a' j = a j ∧ b' j = b j := by
  suffices h : ∃ (v : Option Value) (mem' : fx_M), (fun R1 => ∃ (g' a' : Nat → Nat → Int32) (b' : Nat → Nat → Int64), (g' 229 7 = g 26 7 ∧ (∀ i, i < 8 → b' 230 i = b 27 i) ∧ (∀ i, i < 8 → a' 231 i = a 28 i) ∧ ∀ j, ¬ (229 ≤ j ∧ j ≤ 236) → g' j = g j ∧ a' j = a j ∧ b' j = b j) ∧ R1 = (none, cx g' l a' b' R)) (v, mem') ∧ hr_T 1 2 [.ref 229, .ref 26] (cx g l a b R) v mem' by
    obtain ⟨v, mem', ⟨g', a', b', h1, hR1⟩, h2⟩ := h
    cases hR1
    exact ⟨g', a', b', h2, h1⟩
  refine he_meth (f := 2) (as := [.ref 229, .ref 26]) (F := fun R1 => ∃ (g' a' : Nat → Nat → Int32) (b' : Nat → Nat → Int64), (g' 229 7 = g 26 7 ∧ (∀ i, i < 8 → b' 230 i = b 27 i) ∧ (∀ i, i < 8 → a' 231 i = a 28 i) ∧ ∀ j, ¬ (229 ≤ j ∧ j ≤ 236) → g' j = g j ∧ a' j = a j ∧ b' j = b j) ∧ R1 = (none, cx g' l a' b' R)) (M := gk_m2) (by rfl) (by rfl) ?_
  refine he_s 7 (pc' := 12) (lc' := [(0, .ref 229), (1, .ref 26)]) (stk' := [.int 8, .int 0, .ref 230, .int 0, .ref 27]) (mem' := cx g l a b R) (by intro _ _ _; eq_refl) ?_
  refine he_cpL (mem' := cx g l a (fm_uf b 230 (va_cpy (b 27) (b 230) 0 0 8)) R) (by rfl) (by rfl) (by rfl) (by rfl) (by rfl) (by decide) cxs_230 ?_
  refine he_s 7 (pc' := 27) (lc' := [(0, .ref 229), (1, .ref 26)]) (stk' := [.int 8, .int 0, .ref 231, .int 0, .ref 28]) (mem' := cx g l a (fm_uf b 230 (va_cpy (b 27) (b 230) 0 0 8)) R) (by intro _ _ _; eq_refl) ?_
  refine he_cpI (mem' := cx g l (fm_ur a 231 (va_cpy (a 28) (a 231) 0 0 8)) (fm_uf b 230 (va_cpy (b 27) (b 230) 0 0 8)) R) (by rfl) (by rfl) (by rfl) (by rfl) (by rfl) (by decide) cxs_231 ?_
  refine he_s 7 (pc' := 42) (lc' := [(0, .ref 229), (1, .ref 26)]) (stk' := [.int 8, .int 0, .ref 232, .int 0, .ref 29]) (mem' := cx g l (fm_ur a 231 (va_cpy (a 28) (a 231) 0 0 8)) (fm_uf b 230 (va_cpy (b 27) (b 230) 0 0 8)) R) (by intro _ _ _; eq_refl) ?_
  refine he_cpI (mem' := cx g l (fm_ur (fm_ur a 231 (va_cpy (a 28) (a 231) 0 0 8)) 232 (va_cpy (a 29) (a 232) 0 0 8)) (fm_uf b 230 (va_cpy (b 27) (b 230) 0 0 8)) R) (by rfl) (by rfl) (by rfl) (by rfl) (by rfl) (by decide) cxs_232 ?_
  refine he_s 7 (pc' := 57) (lc' := [(0, .ref 229), (1, .ref 26)]) (stk' := [.int 8, .int 0, .ref 233, .int 0, .ref 30]) (mem' := cx g l (fm_ur (fm_ur a 231 (va_cpy (a 28) (a 231) 0 0 8)) 232 (va_cpy (a 29) (a 232) 0 0 8)) (fm_uf b 230 (va_cpy (b 27) (b 230) 0 0 8)) R) (by intro _ _ _; eq_refl) ?_
  refine he_cpI (mem' := cx g l (fm_ur (fm_ur (fm_ur a 231 (va_cpy (a 28) (a 231) 0 0 8)) 232 (va_cpy (a 29) (a 232) 0 0 8)) 233 (va_cpy (a 30) (a 233) 0 0 8)) (fm_uf b 230 (va_cpy (b 27) (b 230) 0 0 8)) R) (by rfl) (by rfl) (by rfl) (by rfl) (by rfl) (by decide) cxs_233 ?_
  refine he_s 7 (pc' := 72) (lc' := [(0, .ref 229), (1, .ref 26)]) (stk' := [.int 8, .int 0, .ref 234, .int 0, .ref 31]) (mem' := cx g l (fm_ur (fm_ur (fm_ur a 231 (va_cpy (a 28) (a 231) 0 0 8)) 232 (va_cpy (a 29) (a 232) 0 0 8)) 233 (va_cpy (a 30) (a 233) 0 0 8)) (fm_uf b 230 (va_cpy (b 27) (b 230) 0 0 8)) R) (by intro _ _ _; eq_refl) ?_
  refine he_cpI (mem' := cx g l (fm_ur (fm_ur (fm_ur (fm_ur a 231 (va_cpy (a 28) (a 231) 0 0 8)) 232 (va_cpy (a 29) (a 232) 0 0 8)) 233 (va_cpy (a 30) (a 233) 0 0 8)) 234 (va_cpy (a 31) (a 234) 0 0 8)) (fm_uf b 230 (va_cpy (b 27) (b 230) 0 0 8)) R) (by rfl) (by rfl) (by rfl) (by rfl) (by rfl) (by decide) cxs_234 ?_
  refine he_s 7 (pc' := 87) (lc' := [(0, .ref 229), (1, .ref 26)]) (stk' := [.int 8, .int 0, .ref 235, .int 0, .ref 32]) (mem' := cx g l (fm_ur (fm_ur (fm_ur (fm_ur a 231 (va_cpy (a 28) (a 231) 0 0 8)) 232 (va_cpy (a 29) (a 232) 0 0 8)) 233 (va_cpy (a 30) (a 233) 0 0 8)) 234 (va_cpy (a 31) (a 234) 0 0 8)) (fm_uf b 230 (va_cpy (b 27) (b 230) 0 0 8)) R) (by intro _ _ _; eq_refl) ?_
  refine he_cpI (mem' := cx g l (fm_ur (fm_ur (fm_ur (fm_ur (fm_ur a 231 (va_cpy (a 28) (a 231) 0 0 8)) 232 (va_cpy (a 29) (a 232) 0 0 8)) 233 (va_cpy (a 30) (a 233) 0 0 8)) 234 (va_cpy (a 31) (a 234) 0 0 8)) 235 (va_cpy (a 32) (a 235) 0 0 8)) (fm_uf b 230 (va_cpy (b 27) (b 230) 0 0 8)) R) (by rfl) (by rfl) (by rfl) (by rfl) (by rfl) (by decide) cxs_235 ?_
  refine he_s 7 (pc' := 103) (lc' := [(0, .ref 229), (1, .ref 26)]) (stk' := [.int 160, .int 0, .ref 236, .int 0, .ref 33]) (mem' := cx g l (fm_ur (fm_ur (fm_ur (fm_ur (fm_ur a 231 (va_cpy (a 28) (a 231) 0 0 8)) 232 (va_cpy (a 29) (a 232) 0 0 8)) 233 (va_cpy (a 30) (a 233) 0 0 8)) 234 (va_cpy (a 31) (a 234) 0 0 8)) 235 (va_cpy (a 32) (a 235) 0 0 8)) (fm_uf b 230 (va_cpy (b 27) (b 230) 0 0 8)) R) (by intro _ _ _; eq_refl) ?_
  refine he_cpI (mem' := cx g l (fm_ur (fm_ur (fm_ur (fm_ur (fm_ur (fm_ur a 231 (va_cpy (a 28) (a 231) 0 0 8)) 232 (va_cpy (a 29) (a 232) 0 0 8)) 233 (va_cpy (a 30) (a 233) 0 0 8)) 234 (va_cpy (a 31) (a 234) 0 0 8)) 235 (va_cpy (a 32) (a 235) 0 0 8)) 236 (va_cpy (a 33) (a 236) 0 0 160)) (fm_uf b 230 (va_cpy (b 27) (b 230) 0 0 8)) R) (by rfl) (by rfl) (by rfl) (by rfl) (by rfl) (by decide) cxs_236 ?_
  refine he_s 12 (pc' := 130) (lc' := [(0, .ref 229), (1, .ref 26)]) (stk' := []) (mem' := cx (fm_u (fm_u (fm_u g 229 7 (g 26 7)) 229 8 (g 26 8)) 229 9 (g 26 9)) l (fm_ur (fm_ur (fm_ur (fm_ur (fm_ur (fm_ur a 231 (va_cpy (a 28) (a 231) 0 0 8)) 232 (va_cpy (a 29) (a 232) 0 0 8)) 233 (va_cpy (a 30) (a 233) 0 0 8)) 234 (va_cpy (a 31) (a 234) 0 0 8)) 235 (va_cpy (a 32) (a 235) 0 0 8)) 236 (va_cpy (a 33) (a 236) 0 0 160)) (fm_uf b 230 (va_cpy (b 27) (b 230) 0 0 8)) R) (by intro _ _ _; eq_refl) ?_
  exact he_ret ⟨_, _, _, ⟨rfl, fun i hi => (show va_cpy (b 27) (b 230) 0 0 8 i = b 27 i from va_cpy0 hi), fun i hi => (show va_cpy (a 28) (a 231) 0 0 8 i = a 28 i from va_cpy0 hi), fun j hj => ⟨(by first | rfl | (repeat (first | rw [fm_un (by omega)] | rw [fm_ur_n (by omega)] | rw [fm_uf_n (by omega)]))), (by first | rfl | (repeat (first | rw [fm_un (by omega)] | rw [fm_ur_n (by omega)] | rw [fm_uf_n (by omega)]))), (by first | rfl | (repeat (first | rw [fm_un (by omega)] | rw [fm_ur_n (by omega)] | rw [fm_uf_n (by omega)])))⟩⟩, rfl⟩ (by rfl) (by rfl) (by rfl)
set_option maxRecDepth 8000 in
theorem hx_tal218_15 (hz : g 34 7 = 0 ∨ g 34 7 = 1) : ∃ (g' a' : Nat → Nat → Int32) (b' : Nat → Nat → Int64), hr_T 1 117 [.ref 237, .ref 34] (cx g l a b R) none (cx g' l a' b' R) ∧ g' 237 7 = g 34 7 ∧ ∀ j, ¬ (237 ≤ j ∧ j ≤ 243) → g' j = g j ∧ a' j = a j ∧ b' j = b j := by
  suffices h : ∃ (v : Option Value) (mem' : fx_M), (fun R1 => ∃ (g' a' : Nat → Nat → Int32) (b' : Nat → Nat → Int64), (g' 237 7 = g 34 7 ∧ ∀ j, ¬ (237 ≤ j ∧ j ≤ 243) → g' j = g j ∧ a' j = a j ∧ b' j = b j) ∧ R1 = (none, cx g' l a' b' R)) (v, mem') ∧ hr_T 1 117 [.ref 237, .ref 34] (cx g l a b R) v mem' by
    obtain ⟨v, mem', ⟨g', a', b', h1, hR1⟩, h2⟩ := h
    cases hR1
    exact ⟨g', a', b', h2, h1⟩
  refine he_meth (f := 117) (as := [.ref 237, .ref 34]) (F := fun R1 => ∃ (g' a' : Nat → Nat → Int32) (b' : Nat → Nat → Int64), (g' 237 7 = g 34 7 ∧ ∀ j, ¬ (237 ≤ j ∧ j ≤ 243) → g' j = g j ∧ a' j = a j ∧ b' j = b j) ∧ R1 = (none, cx g' l a' b' R)) (M := gk_m117) (by rfl) (by rfl) ?_
  refine he_s 7 (pc' := 12) (lc' := [(0, .ref 237), (1, .ref 34)]) (stk' := [.int 30, .int 0, .ref 238, .int 0, .ref 35]) (mem' := cx g l a b R) (by intro _ _ _; eq_refl) ?_
  refine he_cpI (mem' := cx g l (fm_ur a 238 (va_cpy (a 35) (a 238) 0 0 30)) b R) (by rfl) (by rfl) (by rfl) (by rfl) (by rfl) (by decide) cxs_238 ?_
  refine he_s 7 (pc' := 27) (lc' := [(0, .ref 237), (1, .ref 34)]) (stk' := [.int 30, .int 0, .ref 239, .int 0, .ref 36]) (mem' := cx g l (fm_ur a 238 (va_cpy (a 35) (a 238) 0 0 30)) b R) (by intro _ _ _; eq_refl) ?_
  refine he_cpI (mem' := cx g l (fm_ur (fm_ur a 238 (va_cpy (a 35) (a 238) 0 0 30)) 239 (va_cpy (a 36) (a 239) 0 0 30)) b R) (by rfl) (by rfl) (by rfl) (by rfl) (by rfl) (by decide) cxs_239 ?_
  refine he_s 7 (pc' := 42) (lc' := [(0, .ref 237), (1, .ref 34)]) (stk' := [.int 30, .int 0, .ref 240, .int 0, .ref 37]) (mem' := cx g l (fm_ur (fm_ur a 238 (va_cpy (a 35) (a 238) 0 0 30)) 239 (va_cpy (a 36) (a 239) 0 0 30)) b R) (by intro _ _ _; eq_refl) ?_
  refine he_cpI (mem' := cx g l (fm_ur (fm_ur (fm_ur a 238 (va_cpy (a 35) (a 238) 0 0 30)) 239 (va_cpy (a 36) (a 239) 0 0 30)) 240 (va_cpy (a 37) (a 240) 0 0 30)) b R) (by rfl) (by rfl) (by rfl) (by rfl) (by rfl) (by decide) cxs_240 ?_
  refine he_s 7 (pc' := 57) (lc' := [(0, .ref 237), (1, .ref 34)]) (stk' := [.int 30, .int 0, .ref 241, .int 0, .ref 38]) (mem' := cx g l (fm_ur (fm_ur (fm_ur a 238 (va_cpy (a 35) (a 238) 0 0 30)) 239 (va_cpy (a 36) (a 239) 0 0 30)) 240 (va_cpy (a 37) (a 240) 0 0 30)) b R) (by intro _ _ _; eq_refl) ?_
  refine he_cpI (mem' := cx g l (fm_ur (fm_ur (fm_ur (fm_ur a 238 (va_cpy (a 35) (a 238) 0 0 30)) 239 (va_cpy (a 36) (a 239) 0 0 30)) 240 (va_cpy (a 37) (a 240) 0 0 30)) 241 (va_cpy (a 38) (a 241) 0 0 30)) b R) (by rfl) (by rfl) (by rfl) (by rfl) (by rfl) (by decide) cxs_241 ?_
  refine he_s 7 (pc' := 72) (lc' := [(0, .ref 237), (1, .ref 34)]) (stk' := [.int 30, .int 0, .ref 242, .int 0, .ref 39]) (mem' := cx g l (fm_ur (fm_ur (fm_ur (fm_ur a 238 (va_cpy (a 35) (a 238) 0 0 30)) 239 (va_cpy (a 36) (a 239) 0 0 30)) 240 (va_cpy (a 37) (a 240) 0 0 30)) 241 (va_cpy (a 38) (a 241) 0 0 30)) b R) (by intro _ _ _; eq_refl) ?_
  refine he_cpI (mem' := cx g l (fm_ur (fm_ur (fm_ur (fm_ur (fm_ur a 238 (va_cpy (a 35) (a 238) 0 0 30)) 239 (va_cpy (a 36) (a 239) 0 0 30)) 240 (va_cpy (a 37) (a 240) 0 0 30)) 241 (va_cpy (a 38) (a 241) 0 0 30)) 242 (va_cpy (a 39) (a 242) 0 0 30)) b R) (by rfl) (by rfl) (by rfl) (by rfl) (by rfl) (by decide) cxs_242 ?_
  refine he_s 7 (pc' := 87) (lc' := [(0, .ref 237), (1, .ref 34)]) (stk' := [.int 30, .int 0, .ref 243, .int 0, .ref 40]) (mem' := cx g l (fm_ur (fm_ur (fm_ur (fm_ur (fm_ur a 238 (va_cpy (a 35) (a 238) 0 0 30)) 239 (va_cpy (a 36) (a 239) 0 0 30)) 240 (va_cpy (a 37) (a 240) 0 0 30)) 241 (va_cpy (a 38) (a 241) 0 0 30)) 242 (va_cpy (a 39) (a 242) 0 0 30)) b R) (by intro _ _ _; eq_refl) ?_
  refine he_cpI (mem' := cx g l (fm_ur (fm_ur (fm_ur (fm_ur (fm_ur (fm_ur a 238 (va_cpy (a 35) (a 238) 0 0 30)) 239 (va_cpy (a 36) (a 239) 0 0 30)) 240 (va_cpy (a 37) (a 240) 0 0 30)) 241 (va_cpy (a 38) (a 241) 0 0 30)) 242 (va_cpy (a 39) (a 242) 0 0 30)) 243 (va_cpy (a 40) (a 243) 0 0 30)) b R) (by rfl) (by rfl) (by rfl) (by rfl) (by rfl) (by decide) cxs_243 ?_
  refine he_s 7 (pc' := 103) (lc' := [(0, .ref 237), (1, .ref 34)]) (stk' := [.int (g 34 7), .ref 237]) (mem' := cx (fm_u g 237 6 (g 34 6)) l (fm_ur (fm_ur (fm_ur (fm_ur (fm_ur (fm_ur a 238 (va_cpy (a 35) (a 238) 0 0 30)) 239 (va_cpy (a 36) (a 239) 0 0 30)) 240 (va_cpy (a 37) (a 240) 0 0 30)) 241 (va_cpy (a 38) (a 241) 0 0 30)) 242 (va_cpy (a 39) (a 242) 0 0 30)) 243 (va_cpy (a 40) (a 243) 0 0 30)) b R) (by intro _ _ _; eq_refl) ?_
  rcases hz with ez | ez
  · rw [ez]
    refine he_s 1 (pc' := 106) (lc' := [(0, .ref 237), (1, .ref 34)]) (stk' := []) (mem' := cx (fm_u (fm_u g 237 6 (g 34 6)) 237 7 0) l (fm_ur (fm_ur (fm_ur (fm_ur (fm_ur (fm_ur a 238 (va_cpy (a 35) (a 238) 0 0 30)) 239 (va_cpy (a 36) (a 239) 0 0 30)) 240 (va_cpy (a 37) (a 240) 0 0 30)) 241 (va_cpy (a 38) (a 241) 0 0 30)) 242 (va_cpy (a 39) (a 242) 0 0 30)) 243 (va_cpy (a 40) (a 243) 0 0 30)) b R) (by intro _ _ _; eq_refl) ?_
    exact he_ret ⟨_, _, _, ⟨(by first | exact fm_ue | exact fm_ue.trans ez.symm), fun j hj => ⟨(by first | rfl | (repeat (first | rw [fm_un (by omega)] | rw [fm_ur_n (by omega)] | rw [fm_uf_n (by omega)]))), (by first | rfl | (repeat (first | rw [fm_un (by omega)] | rw [fm_ur_n (by omega)] | rw [fm_uf_n (by omega)]))), (by first | rfl | (repeat (first | rw [fm_un (by omega)] | rw [fm_ur_n (by omega)] | rw [fm_uf_n (by omega)])))⟩⟩, rfl⟩ (by rfl) (by rfl) (by rfl)
  · rw [ez]
    refine he_s 1 (pc' := 106) (lc' := [(0, .ref 237), (1, .ref 34)]) (stk' := []) (mem' := cx (fm_u (fm_u g 237 6 (g 34 6)) 237 7 1) l (fm_ur (fm_ur (fm_ur (fm_ur (fm_ur (fm_ur a 238 (va_cpy (a 35) (a 238) 0 0 30)) 239 (va_cpy (a 36) (a 239) 0 0 30)) 240 (va_cpy (a 37) (a 240) 0 0 30)) 241 (va_cpy (a 38) (a 241) 0 0 30)) 242 (va_cpy (a 39) (a 242) 0 0 30)) 243 (va_cpy (a 40) (a 243) 0 0 30)) b R) (by intro _ _ _; eq_refl) ?_
    exact he_ret ⟨_, _, _, ⟨(by first | exact fm_ue | exact fm_ue.trans ez.symm), fun j hj => ⟨(by first | rfl | (repeat (first | rw [fm_un (by omega)] | rw [fm_ur_n (by omega)] | rw [fm_uf_n (by omega)]))), (by first | rfl | (repeat (first | rw [fm_un (by omega)] | rw [fm_ur_n (by omega)] | rw [fm_uf_n (by omega)]))), (by first | rfl | (repeat (first | rw [fm_un (by omega)] | rw [fm_ur_n (by omega)] | rw [fm_uf_n (by omega)])))⟩⟩, rfl⟩ (by rfl) (by rfl) (by rfl)
set_option maxRecDepth 8000 in
theorem hx_lake218_15 : ∃ (g' a' : Nat → Nat → Int32) (b' : Nat → Nat → Int64), hr_T 2 31 [.ref 218, .ref 15] (cx g l a b R) none (cx g' l a' b' R) ∧ cpo 218 15 g a b g' a' b' ∧ ∀ j, ¬ (218 ≤ j ∧ j ≤ 236) → g' j = g j ∧ a' j = a j ∧ b' j = b j := by
  suffices h : ∃ (v : Option Value) (mem' : fx_M), (fun R1 => ∃ (g' a' : Nat → Nat → Int32) (b' : Nat → Nat → Int64), (cpo 218 15 g a b g' a' b' ∧ ∀ j, ¬ (218 ≤ j ∧ j ≤ 236) → g' j = g j ∧ a' j = a j ∧ b' j = b j) ∧ R1 = (none, cx g' l a' b' R)) (v, mem') ∧ hr_T 2 31 [.ref 218, .ref 15] (cx g l a b R) v mem' by
    obtain ⟨v, mem', ⟨g', a', b', h1, hR1⟩, h2⟩ := h
    cases hR1
    exact ⟨g', a', b', h2, h1⟩
  refine he_meth (f := 31) (as := [.ref 218, .ref 15]) (F := fun R1 => ∃ (g' a' : Nat → Nat → Int32) (b' : Nat → Nat → Int64), (cpo 218 15 g a b g' a' b' ∧ ∀ j, ¬ (218 ≤ j ∧ j ≤ 236) → g' j = g j ∧ a' j = a j ∧ b' j = b j) ∧ R1 = (none, cx g' l a' b' R)) (M := gk_m31) (by rfl) (by rfl) ?_
  refine he_s 7 (pc' := 12) (lc' := [(0, .ref 218), (1, .ref 15)]) (stk' := [.int 10, .int 0, .ref 219, .int 0, .ref 16]) (mem' := cx g l a b R) (by intro _ _ _; eq_refl) ?_
  refine he_cpL (mem' := cx g l a (fm_uf b 219 (va_cpy (b 16) (b 219) 0 0 10)) R) (by rfl) (by rfl) (by rfl) (by rfl) (by rfl) (by decide) cxs_219 ?_
  refine he_s 7 (pc' := 27) (lc' := [(0, .ref 218), (1, .ref 15)]) (stk' := [.int 10, .int 0, .ref 220, .int 0, .ref 17]) (mem' := cx g l a (fm_uf b 219 (va_cpy (b 16) (b 219) 0 0 10)) R) (by intro _ _ _; eq_refl) ?_
  refine he_cpI (mem' := cx g l (fm_ur a 220 (va_cpy (a 17) (a 220) 0 0 10)) (fm_uf b 219 (va_cpy (b 16) (b 219) 0 0 10)) R) (by rfl) (by rfl) (by rfl) (by rfl) (by rfl) (by decide) cxs_220 ?_
  refine he_s 7 (pc' := 42) (lc' := [(0, .ref 218), (1, .ref 15)]) (stk' := [.int 10, .int 0, .ref 221, .int 0, .ref 18]) (mem' := cx g l (fm_ur a 220 (va_cpy (a 17) (a 220) 0 0 10)) (fm_uf b 219 (va_cpy (b 16) (b 219) 0 0 10)) R) (by intro _ _ _; eq_refl) ?_
  refine he_cpI (mem' := cx g l (fm_ur (fm_ur a 220 (va_cpy (a 17) (a 220) 0 0 10)) 221 (va_cpy (a 18) (a 221) 0 0 10)) (fm_uf b 219 (va_cpy (b 16) (b 219) 0 0 10)) R) (by rfl) (by rfl) (by rfl) (by rfl) (by rfl) (by decide) cxs_221 ?_
  refine he_s 7 (pc' := 57) (lc' := [(0, .ref 218), (1, .ref 15)]) (stk' := [.int 10, .int 0, .ref 222, .int 0, .ref 19]) (mem' := cx g l (fm_ur (fm_ur a 220 (va_cpy (a 17) (a 220) 0 0 10)) 221 (va_cpy (a 18) (a 221) 0 0 10)) (fm_uf b 219 (va_cpy (b 16) (b 219) 0 0 10)) R) (by intro _ _ _; eq_refl) ?_
  refine he_cpI (mem' := cx g l (fm_ur (fm_ur (fm_ur a 220 (va_cpy (a 17) (a 220) 0 0 10)) 221 (va_cpy (a 18) (a 221) 0 0 10)) 222 (va_cpy (a 19) (a 222) 0 0 10)) (fm_uf b 219 (va_cpy (b 16) (b 219) 0 0 10)) R) (by rfl) (by rfl) (by rfl) (by rfl) (by rfl) (by decide) cxs_222 ?_
  refine he_s 4 (pc' := 68) (lc' := [(0, .ref 218), (1, .ref 15)]) (stk' := [.ref 21, .ref 224]) (mem' := cx g l (fm_ur (fm_ur (fm_ur a 220 (va_cpy (a 17) (a 220) 0 0 10)) 221 (va_cpy (a 18) (a 221) 0 0 10)) 222 (va_cpy (a 19) (a 222) 0 0 10)) (fm_uf b 219 (va_cpy (b 16) (b 219) 0 0 10)) R) (by intro _ _ _; eq_refl) ?_
  obtain ⟨gc1, ac1, bc1, hrc1, hxc1⟩ := hx_ice218_15 (g := g) (l := l) (a := (fm_ur (fm_ur (fm_ur a 220 (va_cpy (a 17) (a 220) 0 0 10)) 221 (va_cpy (a 18) (a 221) 0 0 10)) 222 (va_cpy (a 19) (a 222) 0 0 10))) (b := (fm_uf b 219 (va_cpy (b 16) (b 219) 0 0 10))) (R := R)
  refine he_ivV hrc1 (by omega) (by rfl) (by rfl) (by rfl) (by rfl) (by rfl) (by rfl) ?_
  refine he_s 4 (pc' := 79) (lc' := [(0, .ref 218), (1, .ref 15)]) (stk' := [.ref 26, .ref 229]) (mem' := cx gc1 l ac1 bc1 R) (by intro _ _ _; eq_refl) ?_
  obtain ⟨gc2, ac2, bc2, hrc2, hxc2⟩ := hx_crew218_15 (g := gc1) (l := l) (a := ac1) (b := bc1) (R := R)
  refine he_ivV hrc2 (by omega) (by rfl) (by rfl) (by rfl) (by rfl) (by rfl) (by rfl) ?_
  refine he_s 24 (pc' := 130) (lc' := [(0, .ref 218), (1, .ref 15)]) (stk' := []) (mem' := cx (fm_u (fm_u (fm_u (fm_u (fm_u (fm_u gc2 218 8 (gc2 15 8)) 218 9 (gc2 15 9)) 218 10 (gc2 15 10)) 218 11 (gc2 15 11)) 218 12 (gc2 15 12)) 218 13 (gc2 15 13)) l ac2 bc2 R) (by intro _ _ _; eq_refl) ?_
  have e27 : ∀ j, ¬ (224 ≤ j ∧ j ≤ 228) → ¬ (229 ≤ j ∧ j ≤ 236) → gc2 j = g j := fun j p1 p2 => (hxc2.2.2.2 j p2).1.trans (hxc1 j p1).1
  have a27 : ∀ j, ¬ (229 ≤ j ∧ j ≤ 236) → ¬ (224 ≤ j ∧ j ≤ 228) → ac2 j = _ := fun j p1 p2 => (hxc2.2.2.2 j p1).2.1.trans (hxc1 j p2).2.1
  have b27 : ∀ j, ¬ (229 ≤ j ∧ j ≤ 236) → ¬ (224 ≤ j ∧ j ≤ 228) → bc2 j = _ := fun j p1 p2 => (hxc2.2.2.2 j p1).2.2.trans (hxc1 j p2).2.2
  refine he_ret ⟨_, _, _, ⟨⟨?_, ?_, ?_, fun i hi => ?_, fun i hi => ?_, fun i hi => ?_, fun i hi => ?_, fun i hi => ?_⟩, fun j hj => ⟨?_, ?_, ?_⟩⟩, rfl⟩ (by rfl) (by rfl) (by rfl)
  · exact congrFun (e27 15 (by decide) (by decide)) 8
  · exact congrFun (e27 15 (by decide) (by decide)) 9
  · exact hxc2.1.trans (congrFun (hxc1 26 (by decide)).1 7)
  · exact (congrFun (b27 219 (by decide) (by decide)) i).trans (va_cpy0 hi)
  · exact (hxc2.2.1 i hi).trans (congrFun (hxc1 27 (by decide)).2.2 i)
  · exact (congrFun (a27 220 (by decide) (by decide)) i).trans (va_cpy0 hi)
  · exact (congrFun (a27 221 (by decide) (by decide)) i).trans (va_cpy0 hi)
  · exact (hxc2.2.2.1 i hi).trans (congrFun (hxc1 28 (by decide)).2.1 i)
  · repeat rw [fm_un (by omega)]
    exact e27 j (by omega) (by omega)
  · rw [a27 j (by omega) (by omega)]; repeat rw [fm_ur_n (by omega)]
  · rw [b27 j (by omega) (by omega)]; repeat rw [fm_uf_n (by omega)]
set_option maxRecDepth 8000 in
theorem hx_ice15_218 : ∃ (g' a' : Nat → Nat → Int32) (b' : Nat → Nat → Int64), hr_T 1 25 [.ref 21, .ref 224] (cx g l a b R) none (cx g' l a' b' R) ∧ ∀ j, ¬ (21 ≤ j ∧ j ≤ 25) → g' j = g j ∧ a' j = a j ∧ b' j = b j := by
  suffices h : ∃ (v : Option Value) (mem' : fx_M), (fun R1 => ∃ (g' a' : Nat → Nat → Int32) (b' : Nat → Nat → Int64), (∀ j, ¬ (21 ≤ j ∧ j ≤ 25) → g' j = g j ∧ a' j = a j ∧ b' j = b j) ∧ R1 = (none, cx g' l a' b' R)) (v, mem') ∧ hr_T 1 25 [.ref 21, .ref 224] (cx g l a b R) v mem' by
    obtain ⟨v, mem', ⟨g', a', b', h1, hR1⟩, h2⟩ := h
    cases hR1
    exact ⟨g', a', b', h2, h1⟩
  refine he_meth (f := 25) (as := [.ref 21, .ref 224]) (F := fun R1 => ∃ (g' a' : Nat → Nat → Int32) (b' : Nat → Nat → Int64), (∀ j, ¬ (21 ≤ j ∧ j ≤ 25) → g' j = g j ∧ a' j = a j ∧ b' j = b j) ∧ R1 = (none, cx g' l a' b' R)) (M := gk_m25) (by rfl) (by rfl) ?_
  refine he_s 7 (pc' := 12) (lc' := [(0, .ref 21), (1, .ref 224)]) (stk' := [.int 10, .int 0, .ref 22, .int 0, .ref 225]) (mem' := cx g l a b R) (by intro _ _ _; eq_refl) ?_
  refine he_cpI (mem' := cx g l (fm_ur a 22 (va_cpy (a 225) (a 22) 0 0 10)) b R) (by rfl) (by rfl) (by rfl) (by rfl) (by rfl) (by decide) cxs_22 ?_
  refine he_s 7 (pc' := 27) (lc' := [(0, .ref 21), (1, .ref 224)]) (stk' := [.int 10, .int 0, .ref 23, .int 0, .ref 226]) (mem' := cx g l (fm_ur a 22 (va_cpy (a 225) (a 22) 0 0 10)) b R) (by intro _ _ _; eq_refl) ?_
  refine he_cpI (mem' := cx g l (fm_ur (fm_ur a 22 (va_cpy (a 225) (a 22) 0 0 10)) 23 (va_cpy (a 226) (a 23) 0 0 10)) b R) (by rfl) (by rfl) (by rfl) (by rfl) (by rfl) (by decide) cxs_23 ?_
  refine he_s 7 (pc' := 42) (lc' := [(0, .ref 21), (1, .ref 224)]) (stk' := [.int 10, .int 0, .ref 24, .int 0, .ref 227]) (mem' := cx g l (fm_ur (fm_ur a 22 (va_cpy (a 225) (a 22) 0 0 10)) 23 (va_cpy (a 226) (a 23) 0 0 10)) b R) (by intro _ _ _; eq_refl) ?_
  refine he_cpI (mem' := cx g l (fm_ur (fm_ur (fm_ur a 22 (va_cpy (a 225) (a 22) 0 0 10)) 23 (va_cpy (a 226) (a 23) 0 0 10)) 24 (va_cpy (a 227) (a 24) 0 0 10)) b R) (by rfl) (by rfl) (by rfl) (by rfl) (by rfl) (by decide) cxs_24 ?_
  refine he_s 7 (pc' := 58) (lc' := [(0, .ref 21), (1, .ref 224)]) (stk' := [.int 200, .int 0, .ref 25, .int 0, .ref 228]) (mem' := cx g l (fm_ur (fm_ur (fm_ur a 22 (va_cpy (a 225) (a 22) 0 0 10)) 23 (va_cpy (a 226) (a 23) 0 0 10)) 24 (va_cpy (a 227) (a 24) 0 0 10)) b R) (by intro _ _ _; eq_refl) ?_
  refine he_cpI (mem' := cx g l (fm_ur (fm_ur (fm_ur (fm_ur a 22 (va_cpy (a 225) (a 22) 0 0 10)) 23 (va_cpy (a 226) (a 23) 0 0 10)) 24 (va_cpy (a 227) (a 24) 0 0 10)) 25 (va_cpy (a 228) (a 25) 0 0 200)) b R) (by rfl) (by rfl) (by rfl) (by rfl) (by rfl) (by decide) cxs_25 ?_
  refine he_s 8 (pc' := 77) (lc' := [(0, .ref 21), (1, .ref 224)]) (stk' := []) (mem' := cx (fm_u (fm_u g 21 4 (g 224 4)) 21 5 (g 224 5)) l (fm_ur (fm_ur (fm_ur (fm_ur a 22 (va_cpy (a 225) (a 22) 0 0 10)) 23 (va_cpy (a 226) (a 23) 0 0 10)) 24 (va_cpy (a 227) (a 24) 0 0 10)) 25 (va_cpy (a 228) (a 25) 0 0 200)) b R) (by intro _ _ _; eq_refl) ?_
  exact he_ret ⟨_, _, _, fun j hj => ⟨(by first | rfl | (repeat (first | rw [fm_un (by omega)] | rw [fm_ur_n (by omega)] | rw [fm_uf_n (by omega)]))), (by first | rfl | (repeat (first | rw [fm_un (by omega)] | rw [fm_ur_n (by omega)] | rw [fm_uf_n (by omega)]))), (by first | rfl | (repeat (first | rw [fm_un (by omega)] | rw [fm_ur_n (by omega)] | rw [fm_uf_n (by omega)])))⟩, rfl⟩ (by rfl) (by rfl) (by rfl)
set_option maxRecDepth 8000 in
theorem hx_crew15_218 : ∃ (g' a' : Nat → Nat → Int32) (b' : Nat → Nat → Int64), hr_T 1 2 [.ref 26, .ref 229] (cx g l a b R) none (cx g' l a' b' R) ∧ g' 26 7 = g 229 7 ∧ (∀ i, i < 8 → b' 27 i = b 230 i) ∧ (∀ i, i < 8 → a' 28 i = a 231 i) ∧ ∀ j, ¬ (26 ≤ j ∧ j ≤ 33) → g' j = g j ∧ a' j = a j ∧ b' j = b j := by
  suffices h : ∃ (v : Option Value) (mem' : fx_M), (fun R1 => ∃ (g' a' : Nat → Nat → Int32) (b' : Nat → Nat → Int64), (g' 26 7 = g 229 7 ∧ (∀ i, i < 8 → b' 27 i = b 230 i) ∧ (∀ i, i < 8 → a' 28 i = a 231 i) ∧ ∀ j, ¬ (26 ≤ j ∧ j ≤ 33) → g' j = g j ∧ a' j = a j ∧ b' j = b j) ∧ R1 = (none, cx g' l a' b' R)) (v, mem') ∧ hr_T 1 2 [.ref 26, .ref 229] (cx g l a b R) v mem' by
    obtain ⟨v, mem', ⟨g', a', b', h1, hR1⟩, h2⟩ := h
    cases hR1
    exact ⟨g', a', b', h2, h1⟩
  refine he_meth (f := 2) (as := [.ref 26, .ref 229]) (F := fun R1 => ∃ (g' a' : Nat → Nat → Int32) (b' : Nat → Nat → Int64), (g' 26 7 = g 229 7 ∧ (∀ i, i < 8 → b' 27 i = b 230 i) ∧ (∀ i, i < 8 → a' 28 i = a 231 i) ∧ ∀ j, ¬ (26 ≤ j ∧ j ≤ 33) → g' j = g j ∧ a' j = a j ∧ b' j = b j) ∧ R1 = (none, cx g' l a' b' R)) (M := gk_m2) (by rfl) (by rfl) ?_
  refine he_s 7 (pc' := 12) (lc' := [(0, .ref 26), (1, .ref 229)]) (stk' := [.int 8, .int 0, .ref 27, .int 0, .ref 230]) (mem' := cx g l a b R) (by intro _ _ _; eq_refl) ?_
  refine he_cpL (mem' := cx g l a (fm_uf b 27 (va_cpy (b 230) (b 27) 0 0 8)) R) (by rfl) (by rfl) (by rfl) (by rfl) (by rfl) (by decide) cxs_27 ?_
  refine he_s 7 (pc' := 27) (lc' := [(0, .ref 26), (1, .ref 229)]) (stk' := [.int 8, .int 0, .ref 28, .int 0, .ref 231]) (mem' := cx g l a (fm_uf b 27 (va_cpy (b 230) (b 27) 0 0 8)) R) (by intro _ _ _; eq_refl) ?_
  refine he_cpI (mem' := cx g l (fm_ur a 28 (va_cpy (a 231) (a 28) 0 0 8)) (fm_uf b 27 (va_cpy (b 230) (b 27) 0 0 8)) R) (by rfl) (by rfl) (by rfl) (by rfl) (by rfl) (by decide) cxs_28 ?_
  refine he_s 7 (pc' := 42) (lc' := [(0, .ref 26), (1, .ref 229)]) (stk' := [.int 8, .int 0, .ref 29, .int 0, .ref 232]) (mem' := cx g l (fm_ur a 28 (va_cpy (a 231) (a 28) 0 0 8)) (fm_uf b 27 (va_cpy (b 230) (b 27) 0 0 8)) R) (by intro _ _ _; eq_refl) ?_
  refine he_cpI (mem' := cx g l (fm_ur (fm_ur a 28 (va_cpy (a 231) (a 28) 0 0 8)) 29 (va_cpy (a 232) (a 29) 0 0 8)) (fm_uf b 27 (va_cpy (b 230) (b 27) 0 0 8)) R) (by rfl) (by rfl) (by rfl) (by rfl) (by rfl) (by decide) cxs_29 ?_
  refine he_s 7 (pc' := 57) (lc' := [(0, .ref 26), (1, .ref 229)]) (stk' := [.int 8, .int 0, .ref 30, .int 0, .ref 233]) (mem' := cx g l (fm_ur (fm_ur a 28 (va_cpy (a 231) (a 28) 0 0 8)) 29 (va_cpy (a 232) (a 29) 0 0 8)) (fm_uf b 27 (va_cpy (b 230) (b 27) 0 0 8)) R) (by intro _ _ _; eq_refl) ?_
  refine he_cpI (mem' := cx g l (fm_ur (fm_ur (fm_ur a 28 (va_cpy (a 231) (a 28) 0 0 8)) 29 (va_cpy (a 232) (a 29) 0 0 8)) 30 (va_cpy (a 233) (a 30) 0 0 8)) (fm_uf b 27 (va_cpy (b 230) (b 27) 0 0 8)) R) (by rfl) (by rfl) (by rfl) (by rfl) (by rfl) (by decide) cxs_30 ?_
  refine he_s 7 (pc' := 72) (lc' := [(0, .ref 26), (1, .ref 229)]) (stk' := [.int 8, .int 0, .ref 31, .int 0, .ref 234]) (mem' := cx g l (fm_ur (fm_ur (fm_ur a 28 (va_cpy (a 231) (a 28) 0 0 8)) 29 (va_cpy (a 232) (a 29) 0 0 8)) 30 (va_cpy (a 233) (a 30) 0 0 8)) (fm_uf b 27 (va_cpy (b 230) (b 27) 0 0 8)) R) (by intro _ _ _; eq_refl) ?_
  refine he_cpI (mem' := cx g l (fm_ur (fm_ur (fm_ur (fm_ur a 28 (va_cpy (a 231) (a 28) 0 0 8)) 29 (va_cpy (a 232) (a 29) 0 0 8)) 30 (va_cpy (a 233) (a 30) 0 0 8)) 31 (va_cpy (a 234) (a 31) 0 0 8)) (fm_uf b 27 (va_cpy (b 230) (b 27) 0 0 8)) R) (by rfl) (by rfl) (by rfl) (by rfl) (by rfl) (by decide) cxs_31 ?_
  refine he_s 7 (pc' := 87) (lc' := [(0, .ref 26), (1, .ref 229)]) (stk' := [.int 8, .int 0, .ref 32, .int 0, .ref 235]) (mem' := cx g l (fm_ur (fm_ur (fm_ur (fm_ur a 28 (va_cpy (a 231) (a 28) 0 0 8)) 29 (va_cpy (a 232) (a 29) 0 0 8)) 30 (va_cpy (a 233) (a 30) 0 0 8)) 31 (va_cpy (a 234) (a 31) 0 0 8)) (fm_uf b 27 (va_cpy (b 230) (b 27) 0 0 8)) R) (by intro _ _ _; eq_refl) ?_
  refine he_cpI (mem' := cx g l (fm_ur (fm_ur (fm_ur (fm_ur (fm_ur a 28 (va_cpy (a 231) (a 28) 0 0 8)) 29 (va_cpy (a 232) (a 29) 0 0 8)) 30 (va_cpy (a 233) (a 30) 0 0 8)) 31 (va_cpy (a 234) (a 31) 0 0 8)) 32 (va_cpy (a 235) (a 32) 0 0 8)) (fm_uf b 27 (va_cpy (b 230) (b 27) 0 0 8)) R) (by rfl) (by rfl) (by rfl) (by rfl) (by rfl) (by decide) cxs_32 ?_
  refine he_s 7 (pc' := 103) (lc' := [(0, .ref 26), (1, .ref 229)]) (stk' := [.int 160, .int 0, .ref 33, .int 0, .ref 236]) (mem' := cx g l (fm_ur (fm_ur (fm_ur (fm_ur (fm_ur a 28 (va_cpy (a 231) (a 28) 0 0 8)) 29 (va_cpy (a 232) (a 29) 0 0 8)) 30 (va_cpy (a 233) (a 30) 0 0 8)) 31 (va_cpy (a 234) (a 31) 0 0 8)) 32 (va_cpy (a 235) (a 32) 0 0 8)) (fm_uf b 27 (va_cpy (b 230) (b 27) 0 0 8)) R) (by intro _ _ _; eq_refl) ?_
  refine he_cpI (mem' := cx g l (fm_ur (fm_ur (fm_ur (fm_ur (fm_ur (fm_ur a 28 (va_cpy (a 231) (a 28) 0 0 8)) 29 (va_cpy (a 232) (a 29) 0 0 8)) 30 (va_cpy (a 233) (a 30) 0 0 8)) 31 (va_cpy (a 234) (a 31) 0 0 8)) 32 (va_cpy (a 235) (a 32) 0 0 8)) 33 (va_cpy (a 236) (a 33) 0 0 160)) (fm_uf b 27 (va_cpy (b 230) (b 27) 0 0 8)) R) (by rfl) (by rfl) (by rfl) (by rfl) (by rfl) (by decide) cxs_33 ?_
  refine he_s 12 (pc' := 130) (lc' := [(0, .ref 26), (1, .ref 229)]) (stk' := []) (mem' := cx (fm_u (fm_u (fm_u g 26 7 (g 229 7)) 26 8 (g 229 8)) 26 9 (g 229 9)) l (fm_ur (fm_ur (fm_ur (fm_ur (fm_ur (fm_ur a 28 (va_cpy (a 231) (a 28) 0 0 8)) 29 (va_cpy (a 232) (a 29) 0 0 8)) 30 (va_cpy (a 233) (a 30) 0 0 8)) 31 (va_cpy (a 234) (a 31) 0 0 8)) 32 (va_cpy (a 235) (a 32) 0 0 8)) 33 (va_cpy (a 236) (a 33) 0 0 160)) (fm_uf b 27 (va_cpy (b 230) (b 27) 0 0 8)) R) (by intro _ _ _; eq_refl) ?_
  exact he_ret ⟨_, _, _, ⟨rfl, fun i hi => (show va_cpy (b 230) (b 27) 0 0 8 i = b 230 i from va_cpy0 hi), fun i hi => (show va_cpy (a 231) (a 28) 0 0 8 i = a 231 i from va_cpy0 hi), fun j hj => ⟨(by first | rfl | (repeat (first | rw [fm_un (by omega)] | rw [fm_ur_n (by omega)] | rw [fm_uf_n (by omega)]))), (by first | rfl | (repeat (first | rw [fm_un (by omega)] | rw [fm_ur_n (by omega)] | rw [fm_uf_n (by omega)]))), (by first | rfl | (repeat (first | rw [fm_un (by omega)] | rw [fm_ur_n (by omega)] | rw [fm_uf_n (by omega)])))⟩⟩, rfl⟩ (by rfl) (by rfl) (by rfl)
set_option maxRecDepth 8000 in
theorem hx_tal15_218 (hz : g 237 7 = 0 ∨ g 237 7 = 1) : ∃ (g' a' : Nat → Nat → Int32) (b' : Nat → Nat → Int64), hr_T 1 117 [.ref 34, .ref 237] (cx g l a b R) none (cx g' l a' b' R) ∧ g' 34 7 = g 237 7 ∧ ∀ j, ¬ (34 ≤ j ∧ j ≤ 40) → g' j = g j ∧ a' j = a j ∧ b' j = b j := by
  suffices h : ∃ (v : Option Value) (mem' : fx_M), (fun R1 => ∃ (g' a' : Nat → Nat → Int32) (b' : Nat → Nat → Int64), (g' 34 7 = g 237 7 ∧ ∀ j, ¬ (34 ≤ j ∧ j ≤ 40) → g' j = g j ∧ a' j = a j ∧ b' j = b j) ∧ R1 = (none, cx g' l a' b' R)) (v, mem') ∧ hr_T 1 117 [.ref 34, .ref 237] (cx g l a b R) v mem' by
    obtain ⟨v, mem', ⟨g', a', b', h1, hR1⟩, h2⟩ := h
    cases hR1
    exact ⟨g', a', b', h2, h1⟩
  refine he_meth (f := 117) (as := [.ref 34, .ref 237]) (F := fun R1 => ∃ (g' a' : Nat → Nat → Int32) (b' : Nat → Nat → Int64), (g' 34 7 = g 237 7 ∧ ∀ j, ¬ (34 ≤ j ∧ j ≤ 40) → g' j = g j ∧ a' j = a j ∧ b' j = b j) ∧ R1 = (none, cx g' l a' b' R)) (M := gk_m117) (by rfl) (by rfl) ?_
  refine he_s 7 (pc' := 12) (lc' := [(0, .ref 34), (1, .ref 237)]) (stk' := [.int 30, .int 0, .ref 35, .int 0, .ref 238]) (mem' := cx g l a b R) (by intro _ _ _; eq_refl) ?_
  refine he_cpI (mem' := cx g l (fm_ur a 35 (va_cpy (a 238) (a 35) 0 0 30)) b R) (by rfl) (by rfl) (by rfl) (by rfl) (by rfl) (by decide) cxs_35 ?_
  refine he_s 7 (pc' := 27) (lc' := [(0, .ref 34), (1, .ref 237)]) (stk' := [.int 30, .int 0, .ref 36, .int 0, .ref 239]) (mem' := cx g l (fm_ur a 35 (va_cpy (a 238) (a 35) 0 0 30)) b R) (by intro _ _ _; eq_refl) ?_
  refine he_cpI (mem' := cx g l (fm_ur (fm_ur a 35 (va_cpy (a 238) (a 35) 0 0 30)) 36 (va_cpy (a 239) (a 36) 0 0 30)) b R) (by rfl) (by rfl) (by rfl) (by rfl) (by rfl) (by decide) cxs_36 ?_
  refine he_s 7 (pc' := 42) (lc' := [(0, .ref 34), (1, .ref 237)]) (stk' := [.int 30, .int 0, .ref 37, .int 0, .ref 240]) (mem' := cx g l (fm_ur (fm_ur a 35 (va_cpy (a 238) (a 35) 0 0 30)) 36 (va_cpy (a 239) (a 36) 0 0 30)) b R) (by intro _ _ _; eq_refl) ?_
  refine he_cpI (mem' := cx g l (fm_ur (fm_ur (fm_ur a 35 (va_cpy (a 238) (a 35) 0 0 30)) 36 (va_cpy (a 239) (a 36) 0 0 30)) 37 (va_cpy (a 240) (a 37) 0 0 30)) b R) (by rfl) (by rfl) (by rfl) (by rfl) (by rfl) (by decide) cxs_37 ?_
  refine he_s 7 (pc' := 57) (lc' := [(0, .ref 34), (1, .ref 237)]) (stk' := [.int 30, .int 0, .ref 38, .int 0, .ref 241]) (mem' := cx g l (fm_ur (fm_ur (fm_ur a 35 (va_cpy (a 238) (a 35) 0 0 30)) 36 (va_cpy (a 239) (a 36) 0 0 30)) 37 (va_cpy (a 240) (a 37) 0 0 30)) b R) (by intro _ _ _; eq_refl) ?_
  refine he_cpI (mem' := cx g l (fm_ur (fm_ur (fm_ur (fm_ur a 35 (va_cpy (a 238) (a 35) 0 0 30)) 36 (va_cpy (a 239) (a 36) 0 0 30)) 37 (va_cpy (a 240) (a 37) 0 0 30)) 38 (va_cpy (a 241) (a 38) 0 0 30)) b R) (by rfl) (by rfl) (by rfl) (by rfl) (by rfl) (by decide) cxs_38 ?_
  refine he_s 7 (pc' := 72) (lc' := [(0, .ref 34), (1, .ref 237)]) (stk' := [.int 30, .int 0, .ref 39, .int 0, .ref 242]) (mem' := cx g l (fm_ur (fm_ur (fm_ur (fm_ur a 35 (va_cpy (a 238) (a 35) 0 0 30)) 36 (va_cpy (a 239) (a 36) 0 0 30)) 37 (va_cpy (a 240) (a 37) 0 0 30)) 38 (va_cpy (a 241) (a 38) 0 0 30)) b R) (by intro _ _ _; eq_refl) ?_
  refine he_cpI (mem' := cx g l (fm_ur (fm_ur (fm_ur (fm_ur (fm_ur a 35 (va_cpy (a 238) (a 35) 0 0 30)) 36 (va_cpy (a 239) (a 36) 0 0 30)) 37 (va_cpy (a 240) (a 37) 0 0 30)) 38 (va_cpy (a 241) (a 38) 0 0 30)) 39 (va_cpy (a 242) (a 39) 0 0 30)) b R) (by rfl) (by rfl) (by rfl) (by rfl) (by rfl) (by decide) cxs_39 ?_
  refine he_s 7 (pc' := 87) (lc' := [(0, .ref 34), (1, .ref 237)]) (stk' := [.int 30, .int 0, .ref 40, .int 0, .ref 243]) (mem' := cx g l (fm_ur (fm_ur (fm_ur (fm_ur (fm_ur a 35 (va_cpy (a 238) (a 35) 0 0 30)) 36 (va_cpy (a 239) (a 36) 0 0 30)) 37 (va_cpy (a 240) (a 37) 0 0 30)) 38 (va_cpy (a 241) (a 38) 0 0 30)) 39 (va_cpy (a 242) (a 39) 0 0 30)) b R) (by intro _ _ _; eq_refl) ?_
  refine he_cpI (mem' := cx g l (fm_ur (fm_ur (fm_ur (fm_ur (fm_ur (fm_ur a 35 (va_cpy (a 238) (a 35) 0 0 30)) 36 (va_cpy (a 239) (a 36) 0 0 30)) 37 (va_cpy (a 240) (a 37) 0 0 30)) 38 (va_cpy (a 241) (a 38) 0 0 30)) 39 (va_cpy (a 242) (a 39) 0 0 30)) 40 (va_cpy (a 243) (a 40) 0 0 30)) b R) (by rfl) (by rfl) (by rfl) (by rfl) (by rfl) (by decide) cxs_40 ?_
  refine he_s 7 (pc' := 103) (lc' := [(0, .ref 34), (1, .ref 237)]) (stk' := [.int (g 237 7), .ref 34]) (mem' := cx (fm_u g 34 6 (g 237 6)) l (fm_ur (fm_ur (fm_ur (fm_ur (fm_ur (fm_ur a 35 (va_cpy (a 238) (a 35) 0 0 30)) 36 (va_cpy (a 239) (a 36) 0 0 30)) 37 (va_cpy (a 240) (a 37) 0 0 30)) 38 (va_cpy (a 241) (a 38) 0 0 30)) 39 (va_cpy (a 242) (a 39) 0 0 30)) 40 (va_cpy (a 243) (a 40) 0 0 30)) b R) (by intro _ _ _; eq_refl) ?_
  rcases hz with ez | ez
  · rw [ez]
    refine he_s 1 (pc' := 106) (lc' := [(0, .ref 34), (1, .ref 237)]) (stk' := []) (mem' := cx (fm_u (fm_u g 34 6 (g 237 6)) 34 7 0) l (fm_ur (fm_ur (fm_ur (fm_ur (fm_ur (fm_ur a 35 (va_cpy (a 238) (a 35) 0 0 30)) 36 (va_cpy (a 239) (a 36) 0 0 30)) 37 (va_cpy (a 240) (a 37) 0 0 30)) 38 (va_cpy (a 241) (a 38) 0 0 30)) 39 (va_cpy (a 242) (a 39) 0 0 30)) 40 (va_cpy (a 243) (a 40) 0 0 30)) b R) (by intro _ _ _; eq_refl) ?_
    exact he_ret ⟨_, _, _, ⟨(by first | exact fm_ue | exact fm_ue.trans ez.symm), fun j hj => ⟨(by first | rfl | (repeat (first | rw [fm_un (by omega)] | rw [fm_ur_n (by omega)] | rw [fm_uf_n (by omega)]))), (by first | rfl | (repeat (first | rw [fm_un (by omega)] | rw [fm_ur_n (by omega)] | rw [fm_uf_n (by omega)]))), (by first | rfl | (repeat (first | rw [fm_un (by omega)] | rw [fm_ur_n (by omega)] | rw [fm_uf_n (by omega)])))⟩⟩, rfl⟩ (by rfl) (by rfl) (by rfl)
  · rw [ez]
    refine he_s 1 (pc' := 106) (lc' := [(0, .ref 34), (1, .ref 237)]) (stk' := []) (mem' := cx (fm_u (fm_u g 34 6 (g 237 6)) 34 7 1) l (fm_ur (fm_ur (fm_ur (fm_ur (fm_ur (fm_ur a 35 (va_cpy (a 238) (a 35) 0 0 30)) 36 (va_cpy (a 239) (a 36) 0 0 30)) 37 (va_cpy (a 240) (a 37) 0 0 30)) 38 (va_cpy (a 241) (a 38) 0 0 30)) 39 (va_cpy (a 242) (a 39) 0 0 30)) 40 (va_cpy (a 243) (a 40) 0 0 30)) b R) (by intro _ _ _; eq_refl) ?_
    exact he_ret ⟨_, _, _, ⟨(by first | exact fm_ue | exact fm_ue.trans ez.symm), fun j hj => ⟨(by first | rfl | (repeat (first | rw [fm_un (by omega)] | rw [fm_ur_n (by omega)] | rw [fm_uf_n (by omega)]))), (by first | rfl | (repeat (first | rw [fm_un (by omega)] | rw [fm_ur_n (by omega)] | rw [fm_uf_n (by omega)]))), (by first | rfl | (repeat (first | rw [fm_un (by omega)] | rw [fm_ur_n (by omega)] | rw [fm_uf_n (by omega)])))⟩⟩, rfl⟩ (by rfl) (by rfl) (by rfl)
set_option maxRecDepth 8000 in
theorem hx_lake15_218 : ∃ (g' a' : Nat → Nat → Int32) (b' : Nat → Nat → Int64), hr_T 2 31 [.ref 15, .ref 218] (cx g l a b R) none (cx g' l a' b' R) ∧ cpo 15 218 g a b g' a' b' ∧ ∀ j, ¬ (15 ≤ j ∧ j ≤ 33) → g' j = g j ∧ a' j = a j ∧ b' j = b j := by
  suffices h : ∃ (v : Option Value) (mem' : fx_M), (fun R1 => ∃ (g' a' : Nat → Nat → Int32) (b' : Nat → Nat → Int64), (cpo 15 218 g a b g' a' b' ∧ ∀ j, ¬ (15 ≤ j ∧ j ≤ 33) → g' j = g j ∧ a' j = a j ∧ b' j = b j) ∧ R1 = (none, cx g' l a' b' R)) (v, mem') ∧ hr_T 2 31 [.ref 15, .ref 218] (cx g l a b R) v mem' by
    obtain ⟨v, mem', ⟨g', a', b', h1, hR1⟩, h2⟩ := h
    cases hR1
    exact ⟨g', a', b', h2, h1⟩
  refine he_meth (f := 31) (as := [.ref 15, .ref 218]) (F := fun R1 => ∃ (g' a' : Nat → Nat → Int32) (b' : Nat → Nat → Int64), (cpo 15 218 g a b g' a' b' ∧ ∀ j, ¬ (15 ≤ j ∧ j ≤ 33) → g' j = g j ∧ a' j = a j ∧ b' j = b j) ∧ R1 = (none, cx g' l a' b' R)) (M := gk_m31) (by rfl) (by rfl) ?_
  refine he_s 7 (pc' := 12) (lc' := [(0, .ref 15), (1, .ref 218)]) (stk' := [.int 10, .int 0, .ref 16, .int 0, .ref 219]) (mem' := cx g l a b R) (by intro _ _ _; eq_refl) ?_
  refine he_cpL (mem' := cx g l a (fm_uf b 16 (va_cpy (b 219) (b 16) 0 0 10)) R) (by rfl) (by rfl) (by rfl) (by rfl) (by rfl) (by decide) cxs_16 ?_
  refine he_s 7 (pc' := 27) (lc' := [(0, .ref 15), (1, .ref 218)]) (stk' := [.int 10, .int 0, .ref 17, .int 0, .ref 220]) (mem' := cx g l a (fm_uf b 16 (va_cpy (b 219) (b 16) 0 0 10)) R) (by intro _ _ _; eq_refl) ?_
  refine he_cpI (mem' := cx g l (fm_ur a 17 (va_cpy (a 220) (a 17) 0 0 10)) (fm_uf b 16 (va_cpy (b 219) (b 16) 0 0 10)) R) (by rfl) (by rfl) (by rfl) (by rfl) (by rfl) (by decide) cxs_17 ?_
  refine he_s 7 (pc' := 42) (lc' := [(0, .ref 15), (1, .ref 218)]) (stk' := [.int 10, .int 0, .ref 18, .int 0, .ref 221]) (mem' := cx g l (fm_ur a 17 (va_cpy (a 220) (a 17) 0 0 10)) (fm_uf b 16 (va_cpy (b 219) (b 16) 0 0 10)) R) (by intro _ _ _; eq_refl) ?_
  refine he_cpI (mem' := cx g l (fm_ur (fm_ur a 17 (va_cpy (a 220) (a 17) 0 0 10)) 18 (va_cpy (a 221) (a 18) 0 0 10)) (fm_uf b 16 (va_cpy (b 219) (b 16) 0 0 10)) R) (by rfl) (by rfl) (by rfl) (by rfl) (by rfl) (by decide) cxs_18 ?_
  refine he_s 7 (pc' := 57) (lc' := [(0, .ref 15), (1, .ref 218)]) (stk' := [.int 10, .int 0, .ref 19, .int 0, .ref 222]) (mem' := cx g l (fm_ur (fm_ur a 17 (va_cpy (a 220) (a 17) 0 0 10)) 18 (va_cpy (a 221) (a 18) 0 0 10)) (fm_uf b 16 (va_cpy (b 219) (b 16) 0 0 10)) R) (by intro _ _ _; eq_refl) ?_
  refine he_cpI (mem' := cx g l (fm_ur (fm_ur (fm_ur a 17 (va_cpy (a 220) (a 17) 0 0 10)) 18 (va_cpy (a 221) (a 18) 0 0 10)) 19 (va_cpy (a 222) (a 19) 0 0 10)) (fm_uf b 16 (va_cpy (b 219) (b 16) 0 0 10)) R) (by rfl) (by rfl) (by rfl) (by rfl) (by rfl) (by decide) cxs_19 ?_
  refine he_s 4 (pc' := 68) (lc' := [(0, .ref 15), (1, .ref 218)]) (stk' := [.ref 224, .ref 21]) (mem' := cx g l (fm_ur (fm_ur (fm_ur a 17 (va_cpy (a 220) (a 17) 0 0 10)) 18 (va_cpy (a 221) (a 18) 0 0 10)) 19 (va_cpy (a 222) (a 19) 0 0 10)) (fm_uf b 16 (va_cpy (b 219) (b 16) 0 0 10)) R) (by intro _ _ _; eq_refl) ?_
  obtain ⟨gc1, ac1, bc1, hrc1, hxc1⟩ := hx_ice15_218 (g := g) (l := l) (a := (fm_ur (fm_ur (fm_ur a 17 (va_cpy (a 220) (a 17) 0 0 10)) 18 (va_cpy (a 221) (a 18) 0 0 10)) 19 (va_cpy (a 222) (a 19) 0 0 10))) (b := (fm_uf b 16 (va_cpy (b 219) (b 16) 0 0 10))) (R := R)
  refine he_ivV hrc1 (by omega) (by rfl) (by rfl) (by rfl) (by rfl) (by rfl) (by rfl) ?_
  refine he_s 4 (pc' := 79) (lc' := [(0, .ref 15), (1, .ref 218)]) (stk' := [.ref 229, .ref 26]) (mem' := cx gc1 l ac1 bc1 R) (by intro _ _ _; eq_refl) ?_
  obtain ⟨gc2, ac2, bc2, hrc2, hxc2⟩ := hx_crew15_218 (g := gc1) (l := l) (a := ac1) (b := bc1) (R := R)
  refine he_ivV hrc2 (by omega) (by rfl) (by rfl) (by rfl) (by rfl) (by rfl) (by rfl) ?_
  refine he_s 24 (pc' := 130) (lc' := [(0, .ref 15), (1, .ref 218)]) (stk' := []) (mem' := cx (fm_u (fm_u (fm_u (fm_u (fm_u (fm_u gc2 15 8 (gc2 218 8)) 15 9 (gc2 218 9)) 15 10 (gc2 218 10)) 15 11 (gc2 218 11)) 15 12 (gc2 218 12)) 15 13 (gc2 218 13)) l ac2 bc2 R) (by intro _ _ _; eq_refl) ?_
  have e27 : ∀ j, ¬ (21 ≤ j ∧ j ≤ 25) → ¬ (26 ≤ j ∧ j ≤ 33) → gc2 j = g j := fun j p1 p2 => (hxc2.2.2.2 j p2).1.trans (hxc1 j p1).1
  have a27 : ∀ j, ¬ (26 ≤ j ∧ j ≤ 33) → ¬ (21 ≤ j ∧ j ≤ 25) → ac2 j = _ := fun j p1 p2 => (hxc2.2.2.2 j p1).2.1.trans (hxc1 j p2).2.1
  have b27 : ∀ j, ¬ (26 ≤ j ∧ j ≤ 33) → ¬ (21 ≤ j ∧ j ≤ 25) → bc2 j = _ := fun j p1 p2 => (hxc2.2.2.2 j p1).2.2.trans (hxc1 j p2).2.2
  refine he_ret ⟨_, _, _, ⟨⟨?_, ?_, ?_, fun i hi => ?_, fun i hi => ?_, fun i hi => ?_, fun i hi => ?_, fun i hi => ?_⟩, fun j hj => ⟨?_, ?_, ?_⟩⟩, rfl⟩ (by rfl) (by rfl) (by rfl)
  · exact congrFun (e27 218 (by decide) (by decide)) 8
  · exact congrFun (e27 218 (by decide) (by decide)) 9
  · exact hxc2.1.trans (congrFun (hxc1 229 (by decide)).1 7)
  · exact (congrFun (b27 16 (by decide) (by decide)) i).trans (va_cpy0 hi)
  · exact (hxc2.2.1 i hi).trans (congrFun (hxc1 230 (by decide)).2.2 i)
  · exact (congrFun (a27 17 (by decide) (by decide)) i).trans (va_cpy0 hi)
  · exact (congrFun (a27 18 (by decide) (by decide)) i).trans (va_cpy0 hi)
  · exact (hxc2.2.2.1 i hi).trans (congrFun (hxc1 231 (by decide)).2.1 i)
  · repeat rw [fm_un (by omega)]
    exact e27 j (by omega) (by omega)
  · rw [a27 j (by omega) (by omega)]; repeat rw [fm_ur_n (by omega)]
  · rw [b27 j (by omega) (by omega)]; repeat rw [fm_uf_n (by omega)]
set_option maxRecDepth 8000 in
theorem hx_ice244_15 : ∃ (g' a' : Nat → Nat → Int32) (b' : Nat → Nat → Int64), hr_T 1 25 [.ref 250, .ref 21] (cx g l a b R) none (cx g' l a' b' R) ∧ ∀ j, ¬ (250 ≤ j ∧ j ≤ 254) → g' j = g j ∧ a' j = a j ∧ b' j = b j := by
  suffices h : ∃ (v : Option Value) (mem' : fx_M), (fun R1 => ∃ (g' a' : Nat → Nat → Int32) (b' : Nat → Nat → Int64), (∀ j, ¬ (250 ≤ j ∧ j ≤ 254) → g' j = g j ∧ a' j = a j ∧ b' j = b j) ∧ R1 = (none, cx g' l a' b' R)) (v, mem') ∧ hr_T 1 25 [.ref 250, .ref 21] (cx g l a b R) v mem' by
    obtain ⟨v, mem', ⟨g', a', b', h1, hR1⟩, h2⟩ := h
    cases hR1
    exact ⟨g', a', b', h2, h1⟩
  refine he_meth (f := 25) (as := [.ref 250, .ref 21]) (F := fun R1 => ∃ (g' a' : Nat → Nat → Int32) (b' : Nat → Nat → Int64), (∀ j, ¬ (250 ≤ j ∧ j ≤ 254) → g' j = g j ∧ a' j = a j ∧ b' j = b j) ∧ R1 = (none, cx g' l a' b' R)) (M := gk_m25) (by rfl) (by rfl) ?_
  refine he_s 7 (pc' := 12) (lc' := [(0, .ref 250), (1, .ref 21)]) (stk' := [.int 10, .int 0, .ref 251, .int 0, .ref 22]) (mem' := cx g l a b R) (by intro _ _ _; eq_refl) ?_
  refine he_cpI (mem' := cx g l (fm_ur a 251 (va_cpy (a 22) (a 251) 0 0 10)) b R) (by rfl) (by rfl) (by rfl) (by rfl) (by rfl) (by decide) cxs_251 ?_
  refine he_s 7 (pc' := 27) (lc' := [(0, .ref 250), (1, .ref 21)]) (stk' := [.int 10, .int 0, .ref 252, .int 0, .ref 23]) (mem' := cx g l (fm_ur a 251 (va_cpy (a 22) (a 251) 0 0 10)) b R) (by intro _ _ _; eq_refl) ?_
  refine he_cpI (mem' := cx g l (fm_ur (fm_ur a 251 (va_cpy (a 22) (a 251) 0 0 10)) 252 (va_cpy (a 23) (a 252) 0 0 10)) b R) (by rfl) (by rfl) (by rfl) (by rfl) (by rfl) (by decide) cxs_252 ?_
  refine he_s 7 (pc' := 42) (lc' := [(0, .ref 250), (1, .ref 21)]) (stk' := [.int 10, .int 0, .ref 253, .int 0, .ref 24]) (mem' := cx g l (fm_ur (fm_ur a 251 (va_cpy (a 22) (a 251) 0 0 10)) 252 (va_cpy (a 23) (a 252) 0 0 10)) b R) (by intro _ _ _; eq_refl) ?_
  refine he_cpI (mem' := cx g l (fm_ur (fm_ur (fm_ur a 251 (va_cpy (a 22) (a 251) 0 0 10)) 252 (va_cpy (a 23) (a 252) 0 0 10)) 253 (va_cpy (a 24) (a 253) 0 0 10)) b R) (by rfl) (by rfl) (by rfl) (by rfl) (by rfl) (by decide) cxs_253 ?_
  refine he_s 7 (pc' := 58) (lc' := [(0, .ref 250), (1, .ref 21)]) (stk' := [.int 200, .int 0, .ref 254, .int 0, .ref 25]) (mem' := cx g l (fm_ur (fm_ur (fm_ur a 251 (va_cpy (a 22) (a 251) 0 0 10)) 252 (va_cpy (a 23) (a 252) 0 0 10)) 253 (va_cpy (a 24) (a 253) 0 0 10)) b R) (by intro _ _ _; eq_refl) ?_
  refine he_cpI (mem' := cx g l (fm_ur (fm_ur (fm_ur (fm_ur a 251 (va_cpy (a 22) (a 251) 0 0 10)) 252 (va_cpy (a 23) (a 252) 0 0 10)) 253 (va_cpy (a 24) (a 253) 0 0 10)) 254 (va_cpy (a 25) (a 254) 0 0 200)) b R) (by rfl) (by rfl) (by rfl) (by rfl) (by rfl) (by decide) cxs_254 ?_
  refine he_s 8 (pc' := 77) (lc' := [(0, .ref 250), (1, .ref 21)]) (stk' := []) (mem' := cx (fm_u (fm_u g 250 4 (g 21 4)) 250 5 (g 21 5)) l (fm_ur (fm_ur (fm_ur (fm_ur a 251 (va_cpy (a 22) (a 251) 0 0 10)) 252 (va_cpy (a 23) (a 252) 0 0 10)) 253 (va_cpy (a 24) (a 253) 0 0 10)) 254 (va_cpy (a 25) (a 254) 0 0 200)) b R) (by intro _ _ _; eq_refl) ?_
  exact he_ret ⟨_, _, _, fun j hj => ⟨(by first | rfl | (repeat (first | rw [fm_un (by omega)] | rw [fm_ur_n (by omega)] | rw [fm_uf_n (by omega)]))), (by first | rfl | (repeat (first | rw [fm_un (by omega)] | rw [fm_ur_n (by omega)] | rw [fm_uf_n (by omega)]))), (by first | rfl | (repeat (first | rw [fm_un (by omega)] | rw [fm_ur_n (by omega)] | rw [fm_uf_n (by omega)])))⟩, rfl⟩ (by rfl) (by rfl) (by rfl)
set_option maxRecDepth 8000 in
theorem hx_crew244_15 : ∃ (g' a' : Nat → Nat → Int32) (b' : Nat → Nat → Int64), hr_T 1 2 [.ref 255, .ref 26] (cx g l a b R) none (cx g' l a' b' R) ∧ g' 255 7 = g 26 7 ∧ (∀ i, i < 8 → b' 256 i = b 27 i) ∧ (∀ i, i < 8 → a' 257 i = a 28 i) ∧ ∀ j, ¬ (255 ≤ j ∧ j ≤ 262) → g' j = g j ∧ a' j = a j ∧ b' j = b j := by
  suffices h : ∃ (v : Option Value) (mem' : fx_M), (fun R1 => ∃ (g' a' : Nat → Nat → Int32) (b' : Nat → Nat → Int64), (g' 255 7 = g 26 7 ∧ (∀ i, i < 8 → b' 256 i = b 27 i) ∧ (∀ i, i < 8 → a' 257 i = a 28 i) ∧ ∀ j, ¬ (255 ≤ j ∧ j ≤ 262) → g' j = g j ∧ a' j = a j ∧ b' j = b j) ∧ R1 = (none, cx g' l a' b' R)) (v, mem') ∧ hr_T 1 2 [.ref 255, .ref 26] (cx g l a b R) v mem' by
    obtain ⟨v, mem', ⟨g', a', b', h1, hR1⟩, h2⟩ := h
    cases hR1
    exact ⟨g', a', b', h2, h1⟩
  refine he_meth (f := 2) (as := [.ref 255, .ref 26]) (F := fun R1 => ∃ (g' a' : Nat → Nat → Int32) (b' : Nat → Nat → Int64), (g' 255 7 = g 26 7 ∧ (∀ i, i < 8 → b' 256 i = b 27 i) ∧ (∀ i, i < 8 → a' 257 i = a 28 i) ∧ ∀ j, ¬ (255 ≤ j ∧ j ≤ 262) → g' j = g j ∧ a' j = a j ∧ b' j = b j) ∧ R1 = (none, cx g' l a' b' R)) (M := gk_m2) (by rfl) (by rfl) ?_
  refine he_s 7 (pc' := 12) (lc' := [(0, .ref 255), (1, .ref 26)]) (stk' := [.int 8, .int 0, .ref 256, .int 0, .ref 27]) (mem' := cx g l a b R) (by intro _ _ _; eq_refl) ?_
  refine he_cpL (mem' := cx g l a (fm_uf b 256 (va_cpy (b 27) (b 256) 0 0 8)) R) (by rfl) (by rfl) (by rfl) (by rfl) (by rfl) (by decide) cxs_256 ?_
  refine he_s 7 (pc' := 27) (lc' := [(0, .ref 255), (1, .ref 26)]) (stk' := [.int 8, .int 0, .ref 257, .int 0, .ref 28]) (mem' := cx g l a (fm_uf b 256 (va_cpy (b 27) (b 256) 0 0 8)) R) (by intro _ _ _; eq_refl) ?_
  refine he_cpI (mem' := cx g l (fm_ur a 257 (va_cpy (a 28) (a 257) 0 0 8)) (fm_uf b 256 (va_cpy (b 27) (b 256) 0 0 8)) R) (by rfl) (by rfl) (by rfl) (by rfl) (by rfl) (by decide) cxs_257 ?_
  refine he_s 7 (pc' := 42) (lc' := [(0, .ref 255), (1, .ref 26)]) (stk' := [.int 8, .int 0, .ref 258, .int 0, .ref 29]) (mem' := cx g l (fm_ur a 257 (va_cpy (a 28) (a 257) 0 0 8)) (fm_uf b 256 (va_cpy (b 27) (b 256) 0 0 8)) R) (by intro _ _ _; eq_refl) ?_
  refine he_cpI (mem' := cx g l (fm_ur (fm_ur a 257 (va_cpy (a 28) (a 257) 0 0 8)) 258 (va_cpy (a 29) (a 258) 0 0 8)) (fm_uf b 256 (va_cpy (b 27) (b 256) 0 0 8)) R) (by rfl) (by rfl) (by rfl) (by rfl) (by rfl) (by decide) cxs_258 ?_
  refine he_s 7 (pc' := 57) (lc' := [(0, .ref 255), (1, .ref 26)]) (stk' := [.int 8, .int 0, .ref 259, .int 0, .ref 30]) (mem' := cx g l (fm_ur (fm_ur a 257 (va_cpy (a 28) (a 257) 0 0 8)) 258 (va_cpy (a 29) (a 258) 0 0 8)) (fm_uf b 256 (va_cpy (b 27) (b 256) 0 0 8)) R) (by intro _ _ _; eq_refl) ?_
  refine he_cpI (mem' := cx g l (fm_ur (fm_ur (fm_ur a 257 (va_cpy (a 28) (a 257) 0 0 8)) 258 (va_cpy (a 29) (a 258) 0 0 8)) 259 (va_cpy (a 30) (a 259) 0 0 8)) (fm_uf b 256 (va_cpy (b 27) (b 256) 0 0 8)) R) (by rfl) (by rfl) (by rfl) (by rfl) (by rfl) (by decide) cxs_259 ?_
  refine he_s 7 (pc' := 72) (lc' := [(0, .ref 255), (1, .ref 26)]) (stk' := [.int 8, .int 0, .ref 260, .int 0, .ref 31]) (mem' := cx g l (fm_ur (fm_ur (fm_ur a 257 (va_cpy (a 28) (a 257) 0 0 8)) 258 (va_cpy (a 29) (a 258) 0 0 8)) 259 (va_cpy (a 30) (a 259) 0 0 8)) (fm_uf b 256 (va_cpy (b 27) (b 256) 0 0 8)) R) (by intro _ _ _; eq_refl) ?_
  refine he_cpI (mem' := cx g l (fm_ur (fm_ur (fm_ur (fm_ur a 257 (va_cpy (a 28) (a 257) 0 0 8)) 258 (va_cpy (a 29) (a 258) 0 0 8)) 259 (va_cpy (a 30) (a 259) 0 0 8)) 260 (va_cpy (a 31) (a 260) 0 0 8)) (fm_uf b 256 (va_cpy (b 27) (b 256) 0 0 8)) R) (by rfl) (by rfl) (by rfl) (by rfl) (by rfl) (by decide) cxs_260 ?_
  refine he_s 7 (pc' := 87) (lc' := [(0, .ref 255), (1, .ref 26)]) (stk' := [.int 8, .int 0, .ref 261, .int 0, .ref 32]) (mem' := cx g l (fm_ur (fm_ur (fm_ur (fm_ur a 257 (va_cpy (a 28) (a 257) 0 0 8)) 258 (va_cpy (a 29) (a 258) 0 0 8)) 259 (va_cpy (a 30) (a 259) 0 0 8)) 260 (va_cpy (a 31) (a 260) 0 0 8)) (fm_uf b 256 (va_cpy (b 27) (b 256) 0 0 8)) R) (by intro _ _ _; eq_refl) ?_
  refine he_cpI (mem' := cx g l (fm_ur (fm_ur (fm_ur (fm_ur (fm_ur a 257 (va_cpy (a 28) (a 257) 0 0 8)) 258 (va_cpy (a 29) (a 258) 0 0 8)) 259 (va_cpy (a 30) (a 259) 0 0 8)) 260 (va_cpy (a 31) (a 260) 0 0 8)) 261 (va_cpy (a 32) (a 261) 0 0 8)) (fm_uf b 256 (va_cpy (b 27) (b 256) 0 0 8)) R) (by rfl) (by rfl) (by rfl) (by rfl) (by rfl) (by decide) cxs_261 ?_
  refine he_s 7 (pc' := 103) (lc' := [(0, .ref 255), (1, .ref 26)]) (stk' := [.int 160, .int 0, .ref 262, .int 0, .ref 33]) (mem' := cx g l (fm_ur (fm_ur (fm_ur (fm_ur (fm_ur a 257 (va_cpy (a 28) (a 257) 0 0 8)) 258 (va_cpy (a 29) (a 258) 0 0 8)) 259 (va_cpy (a 30) (a 259) 0 0 8)) 260 (va_cpy (a 31) (a 260) 0 0 8)) 261 (va_cpy (a 32) (a 261) 0 0 8)) (fm_uf b 256 (va_cpy (b 27) (b 256) 0 0 8)) R) (by intro _ _ _; eq_refl) ?_
  refine he_cpI (mem' := cx g l (fm_ur (fm_ur (fm_ur (fm_ur (fm_ur (fm_ur a 257 (va_cpy (a 28) (a 257) 0 0 8)) 258 (va_cpy (a 29) (a 258) 0 0 8)) 259 (va_cpy (a 30) (a 259) 0 0 8)) 260 (va_cpy (a 31) (a 260) 0 0 8)) 261 (va_cpy (a 32) (a 261) 0 0 8)) 262 (va_cpy (a 33) (a 262) 0 0 160)) (fm_uf b 256 (va_cpy (b 27) (b 256) 0 0 8)) R) (by rfl) (by rfl) (by rfl) (by rfl) (by rfl) (by decide) cxs_262 ?_
  refine he_s 12 (pc' := 130) (lc' := [(0, .ref 255), (1, .ref 26)]) (stk' := []) (mem' := cx (fm_u (fm_u (fm_u g 255 7 (g 26 7)) 255 8 (g 26 8)) 255 9 (g 26 9)) l (fm_ur (fm_ur (fm_ur (fm_ur (fm_ur (fm_ur a 257 (va_cpy (a 28) (a 257) 0 0 8)) 258 (va_cpy (a 29) (a 258) 0 0 8)) 259 (va_cpy (a 30) (a 259) 0 0 8)) 260 (va_cpy (a 31) (a 260) 0 0 8)) 261 (va_cpy (a 32) (a 261) 0 0 8)) 262 (va_cpy (a 33) (a 262) 0 0 160)) (fm_uf b 256 (va_cpy (b 27) (b 256) 0 0 8)) R) (by intro _ _ _; eq_refl) ?_
  exact he_ret ⟨_, _, _, ⟨rfl, fun i hi => (show va_cpy (b 27) (b 256) 0 0 8 i = b 27 i from va_cpy0 hi), fun i hi => (show va_cpy (a 28) (a 257) 0 0 8 i = a 28 i from va_cpy0 hi), fun j hj => ⟨(by first | rfl | (repeat (first | rw [fm_un (by omega)] | rw [fm_ur_n (by omega)] | rw [fm_uf_n (by omega)]))), (by first | rfl | (repeat (first | rw [fm_un (by omega)] | rw [fm_ur_n (by omega)] | rw [fm_uf_n (by omega)]))), (by first | rfl | (repeat (first | rw [fm_un (by omega)] | rw [fm_ur_n (by omega)] | rw [fm_uf_n (by omega)])))⟩⟩, rfl⟩ (by rfl) (by rfl) (by rfl)
set_option maxRecDepth 8000 in
theorem hx_tal244_15 (hz : g 34 7 = 0 ∨ g 34 7 = 1) : ∃ (g' a' : Nat → Nat → Int32) (b' : Nat → Nat → Int64), hr_T 1 117 [.ref 263, .ref 34] (cx g l a b R) none (cx g' l a' b' R) ∧ g' 263 7 = g 34 7 ∧ ∀ j, ¬ (263 ≤ j ∧ j ≤ 269) → g' j = g j ∧ a' j = a j ∧ b' j = b j := by
  suffices h : ∃ (v : Option Value) (mem' : fx_M), (fun R1 => ∃ (g' a' : Nat → Nat → Int32) (b' : Nat → Nat → Int64), (g' 263 7 = g 34 7 ∧ ∀ j, ¬ (263 ≤ j ∧ j ≤ 269) → g' j = g j ∧ a' j = a j ∧ b' j = b j) ∧ R1 = (none, cx g' l a' b' R)) (v, mem') ∧ hr_T 1 117 [.ref 263, .ref 34] (cx g l a b R) v mem' by
    obtain ⟨v, mem', ⟨g', a', b', h1, hR1⟩, h2⟩ := h
    cases hR1
    exact ⟨g', a', b', h2, h1⟩
  refine he_meth (f := 117) (as := [.ref 263, .ref 34]) (F := fun R1 => ∃ (g' a' : Nat → Nat → Int32) (b' : Nat → Nat → Int64), (g' 263 7 = g 34 7 ∧ ∀ j, ¬ (263 ≤ j ∧ j ≤ 269) → g' j = g j ∧ a' j = a j ∧ b' j = b j) ∧ R1 = (none, cx g' l a' b' R)) (M := gk_m117) (by rfl) (by rfl) ?_
  refine he_s 7 (pc' := 12) (lc' := [(0, .ref 263), (1, .ref 34)]) (stk' := [.int 30, .int 0, .ref 264, .int 0, .ref 35]) (mem' := cx g l a b R) (by intro _ _ _; eq_refl) ?_
  refine he_cpI (mem' := cx g l (fm_ur a 264 (va_cpy (a 35) (a 264) 0 0 30)) b R) (by rfl) (by rfl) (by rfl) (by rfl) (by rfl) (by decide) cxs_264 ?_
  refine he_s 7 (pc' := 27) (lc' := [(0, .ref 263), (1, .ref 34)]) (stk' := [.int 30, .int 0, .ref 265, .int 0, .ref 36]) (mem' := cx g l (fm_ur a 264 (va_cpy (a 35) (a 264) 0 0 30)) b R) (by intro _ _ _; eq_refl) ?_
  refine he_cpI (mem' := cx g l (fm_ur (fm_ur a 264 (va_cpy (a 35) (a 264) 0 0 30)) 265 (va_cpy (a 36) (a 265) 0 0 30)) b R) (by rfl) (by rfl) (by rfl) (by rfl) (by rfl) (by decide) cxs_265 ?_
  refine he_s 7 (pc' := 42) (lc' := [(0, .ref 263), (1, .ref 34)]) (stk' := [.int 30, .int 0, .ref 266, .int 0, .ref 37]) (mem' := cx g l (fm_ur (fm_ur a 264 (va_cpy (a 35) (a 264) 0 0 30)) 265 (va_cpy (a 36) (a 265) 0 0 30)) b R) (by intro _ _ _; eq_refl) ?_
  refine he_cpI (mem' := cx g l (fm_ur (fm_ur (fm_ur a 264 (va_cpy (a 35) (a 264) 0 0 30)) 265 (va_cpy (a 36) (a 265) 0 0 30)) 266 (va_cpy (a 37) (a 266) 0 0 30)) b R) (by rfl) (by rfl) (by rfl) (by rfl) (by rfl) (by decide) cxs_266 ?_
  refine he_s 7 (pc' := 57) (lc' := [(0, .ref 263), (1, .ref 34)]) (stk' := [.int 30, .int 0, .ref 267, .int 0, .ref 38]) (mem' := cx g l (fm_ur (fm_ur (fm_ur a 264 (va_cpy (a 35) (a 264) 0 0 30)) 265 (va_cpy (a 36) (a 265) 0 0 30)) 266 (va_cpy (a 37) (a 266) 0 0 30)) b R) (by intro _ _ _; eq_refl) ?_
  refine he_cpI (mem' := cx g l (fm_ur (fm_ur (fm_ur (fm_ur a 264 (va_cpy (a 35) (a 264) 0 0 30)) 265 (va_cpy (a 36) (a 265) 0 0 30)) 266 (va_cpy (a 37) (a 266) 0 0 30)) 267 (va_cpy (a 38) (a 267) 0 0 30)) b R) (by rfl) (by rfl) (by rfl) (by rfl) (by rfl) (by decide) cxs_267 ?_
  refine he_s 7 (pc' := 72) (lc' := [(0, .ref 263), (1, .ref 34)]) (stk' := [.int 30, .int 0, .ref 268, .int 0, .ref 39]) (mem' := cx g l (fm_ur (fm_ur (fm_ur (fm_ur a 264 (va_cpy (a 35) (a 264) 0 0 30)) 265 (va_cpy (a 36) (a 265) 0 0 30)) 266 (va_cpy (a 37) (a 266) 0 0 30)) 267 (va_cpy (a 38) (a 267) 0 0 30)) b R) (by intro _ _ _; eq_refl) ?_
  refine he_cpI (mem' := cx g l (fm_ur (fm_ur (fm_ur (fm_ur (fm_ur a 264 (va_cpy (a 35) (a 264) 0 0 30)) 265 (va_cpy (a 36) (a 265) 0 0 30)) 266 (va_cpy (a 37) (a 266) 0 0 30)) 267 (va_cpy (a 38) (a 267) 0 0 30)) 268 (va_cpy (a 39) (a 268) 0 0 30)) b R) (by rfl) (by rfl) (by rfl) (by rfl) (by rfl) (by decide) cxs_268 ?_
  refine he_s 7 (pc' := 87) (lc' := [(0, .ref 263), (1, .ref 34)]) (stk' := [.int 30, .int 0, .ref 269, .int 0, .ref 40]) (mem' := cx g l (fm_ur (fm_ur (fm_ur (fm_ur (fm_ur a 264 (va_cpy (a 35) (a 264) 0 0 30)) 265 (va_cpy (a 36) (a 265) 0 0 30)) 266 (va_cpy (a 37) (a 266) 0 0 30)) 267 (va_cpy (a 38) (a 267) 0 0 30)) 268 (va_cpy (a 39) (a 268) 0 0 30)) b R) (by intro _ _ _; eq_refl) ?_
  refine he_cpI (mem' := cx g l (fm_ur (fm_ur (fm_ur (fm_ur (fm_ur (fm_ur a 264 (va_cpy (a 35) (a 264) 0 0 30)) 265 (va_cpy (a 36) (a 265) 0 0 30)) 266 (va_cpy (a 37) (a 266) 0 0 30)) 267 (va_cpy (a 38) (a 267) 0 0 30)) 268 (va_cpy (a 39) (a 268) 0 0 30)) 269 (va_cpy (a 40) (a 269) 0 0 30)) b R) (by rfl) (by rfl) (by rfl) (by rfl) (by rfl) (by decide) cxs_269 ?_
  refine he_s 7 (pc' := 103) (lc' := [(0, .ref 263), (1, .ref 34)]) (stk' := [.int (g 34 7), .ref 263]) (mem' := cx (fm_u g 263 6 (g 34 6)) l (fm_ur (fm_ur (fm_ur (fm_ur (fm_ur (fm_ur a 264 (va_cpy (a 35) (a 264) 0 0 30)) 265 (va_cpy (a 36) (a 265) 0 0 30)) 266 (va_cpy (a 37) (a 266) 0 0 30)) 267 (va_cpy (a 38) (a 267) 0 0 30)) 268 (va_cpy (a 39) (a 268) 0 0 30)) 269 (va_cpy (a 40) (a 269) 0 0 30)) b R) (by intro _ _ _; eq_refl) ?_
  rcases hz with ez | ez
  · rw [ez]
    refine he_s 1 (pc' := 106) (lc' := [(0, .ref 263), (1, .ref 34)]) (stk' := []) (mem' := cx (fm_u (fm_u g 263 6 (g 34 6)) 263 7 0) l (fm_ur (fm_ur (fm_ur (fm_ur (fm_ur (fm_ur a 264 (va_cpy (a 35) (a 264) 0 0 30)) 265 (va_cpy (a 36) (a 265) 0 0 30)) 266 (va_cpy (a 37) (a 266) 0 0 30)) 267 (va_cpy (a 38) (a 267) 0 0 30)) 268 (va_cpy (a 39) (a 268) 0 0 30)) 269 (va_cpy (a 40) (a 269) 0 0 30)) b R) (by intro _ _ _; eq_refl) ?_
    exact he_ret ⟨_, _, _, ⟨(by first | exact fm_ue | exact fm_ue.trans ez.symm), fun j hj => ⟨(by first | rfl | (repeat (first | rw [fm_un (by omega)] | rw [fm_ur_n (by omega)] | rw [fm_uf_n (by omega)]))), (by first | rfl | (repeat (first | rw [fm_un (by omega)] | rw [fm_ur_n (by omega)] | rw [fm_uf_n (by omega)]))), (by first | rfl | (repeat (first | rw [fm_un (by omega)] | rw [fm_ur_n (by omega)] | rw [fm_uf_n (by omega)])))⟩⟩, rfl⟩ (by rfl) (by rfl) (by rfl)
  · rw [ez]
    refine he_s 1 (pc' := 106) (lc' := [(0, .ref 263), (1, .ref 34)]) (stk' := []) (mem' := cx (fm_u (fm_u g 263 6 (g 34 6)) 263 7 1) l (fm_ur (fm_ur (fm_ur (fm_ur (fm_ur (fm_ur a 264 (va_cpy (a 35) (a 264) 0 0 30)) 265 (va_cpy (a 36) (a 265) 0 0 30)) 266 (va_cpy (a 37) (a 266) 0 0 30)) 267 (va_cpy (a 38) (a 267) 0 0 30)) 268 (va_cpy (a 39) (a 268) 0 0 30)) 269 (va_cpy (a 40) (a 269) 0 0 30)) b R) (by intro _ _ _; eq_refl) ?_
    exact he_ret ⟨_, _, _, ⟨(by first | exact fm_ue | exact fm_ue.trans ez.symm), fun j hj => ⟨(by first | rfl | (repeat (first | rw [fm_un (by omega)] | rw [fm_ur_n (by omega)] | rw [fm_uf_n (by omega)]))), (by first | rfl | (repeat (first | rw [fm_un (by omega)] | rw [fm_ur_n (by omega)] | rw [fm_uf_n (by omega)]))), (by first | rfl | (repeat (first | rw [fm_un (by omega)] | rw [fm_ur_n (by omega)] | rw [fm_uf_n (by omega)])))⟩⟩, rfl⟩ (by rfl) (by rfl) (by rfl)
set_option maxRecDepth 8000 in
theorem hx_lake244_15 : ∃ (g' a' : Nat → Nat → Int32) (b' : Nat → Nat → Int64), hr_T 2 31 [.ref 244, .ref 15] (cx g l a b R) none (cx g' l a' b' R) ∧ cpo 244 15 g a b g' a' b' ∧ ∀ j, ¬ (244 ≤ j ∧ j ≤ 262) → g' j = g j ∧ a' j = a j ∧ b' j = b j := by
  suffices h : ∃ (v : Option Value) (mem' : fx_M), (fun R1 => ∃ (g' a' : Nat → Nat → Int32) (b' : Nat → Nat → Int64), (cpo 244 15 g a b g' a' b' ∧ ∀ j, ¬ (244 ≤ j ∧ j ≤ 262) → g' j = g j ∧ a' j = a j ∧ b' j = b j) ∧ R1 = (none, cx g' l a' b' R)) (v, mem') ∧ hr_T 2 31 [.ref 244, .ref 15] (cx g l a b R) v mem' by
    obtain ⟨v, mem', ⟨g', a', b', h1, hR1⟩, h2⟩ := h
    cases hR1
    exact ⟨g', a', b', h2, h1⟩
  refine he_meth (f := 31) (as := [.ref 244, .ref 15]) (F := fun R1 => ∃ (g' a' : Nat → Nat → Int32) (b' : Nat → Nat → Int64), (cpo 244 15 g a b g' a' b' ∧ ∀ j, ¬ (244 ≤ j ∧ j ≤ 262) → g' j = g j ∧ a' j = a j ∧ b' j = b j) ∧ R1 = (none, cx g' l a' b' R)) (M := gk_m31) (by rfl) (by rfl) ?_
  refine he_s 7 (pc' := 12) (lc' := [(0, .ref 244), (1, .ref 15)]) (stk' := [.int 10, .int 0, .ref 245, .int 0, .ref 16]) (mem' := cx g l a b R) (by intro _ _ _; eq_refl) ?_
  refine he_cpL (mem' := cx g l a (fm_uf b 245 (va_cpy (b 16) (b 245) 0 0 10)) R) (by rfl) (by rfl) (by rfl) (by rfl) (by rfl) (by decide) cxs_245 ?_
  refine he_s 7 (pc' := 27) (lc' := [(0, .ref 244), (1, .ref 15)]) (stk' := [.int 10, .int 0, .ref 246, .int 0, .ref 17]) (mem' := cx g l a (fm_uf b 245 (va_cpy (b 16) (b 245) 0 0 10)) R) (by intro _ _ _; eq_refl) ?_
  refine he_cpI (mem' := cx g l (fm_ur a 246 (va_cpy (a 17) (a 246) 0 0 10)) (fm_uf b 245 (va_cpy (b 16) (b 245) 0 0 10)) R) (by rfl) (by rfl) (by rfl) (by rfl) (by rfl) (by decide) cxs_246 ?_
  refine he_s 7 (pc' := 42) (lc' := [(0, .ref 244), (1, .ref 15)]) (stk' := [.int 10, .int 0, .ref 247, .int 0, .ref 18]) (mem' := cx g l (fm_ur a 246 (va_cpy (a 17) (a 246) 0 0 10)) (fm_uf b 245 (va_cpy (b 16) (b 245) 0 0 10)) R) (by intro _ _ _; eq_refl) ?_
  refine he_cpI (mem' := cx g l (fm_ur (fm_ur a 246 (va_cpy (a 17) (a 246) 0 0 10)) 247 (va_cpy (a 18) (a 247) 0 0 10)) (fm_uf b 245 (va_cpy (b 16) (b 245) 0 0 10)) R) (by rfl) (by rfl) (by rfl) (by rfl) (by rfl) (by decide) cxs_247 ?_
  refine he_s 7 (pc' := 57) (lc' := [(0, .ref 244), (1, .ref 15)]) (stk' := [.int 10, .int 0, .ref 248, .int 0, .ref 19]) (mem' := cx g l (fm_ur (fm_ur a 246 (va_cpy (a 17) (a 246) 0 0 10)) 247 (va_cpy (a 18) (a 247) 0 0 10)) (fm_uf b 245 (va_cpy (b 16) (b 245) 0 0 10)) R) (by intro _ _ _; eq_refl) ?_
  refine he_cpI (mem' := cx g l (fm_ur (fm_ur (fm_ur a 246 (va_cpy (a 17) (a 246) 0 0 10)) 247 (va_cpy (a 18) (a 247) 0 0 10)) 248 (va_cpy (a 19) (a 248) 0 0 10)) (fm_uf b 245 (va_cpy (b 16) (b 245) 0 0 10)) R) (by rfl) (by rfl) (by rfl) (by rfl) (by rfl) (by decide) cxs_248 ?_
  refine he_s 4 (pc' := 68) (lc' := [(0, .ref 244), (1, .ref 15)]) (stk' := [.ref 21, .ref 250]) (mem' := cx g l (fm_ur (fm_ur (fm_ur a 246 (va_cpy (a 17) (a 246) 0 0 10)) 247 (va_cpy (a 18) (a 247) 0 0 10)) 248 (va_cpy (a 19) (a 248) 0 0 10)) (fm_uf b 245 (va_cpy (b 16) (b 245) 0 0 10)) R) (by intro _ _ _; eq_refl) ?_
  obtain ⟨gc1, ac1, bc1, hrc1, hxc1⟩ := hx_ice244_15 (g := g) (l := l) (a := (fm_ur (fm_ur (fm_ur a 246 (va_cpy (a 17) (a 246) 0 0 10)) 247 (va_cpy (a 18) (a 247) 0 0 10)) 248 (va_cpy (a 19) (a 248) 0 0 10))) (b := (fm_uf b 245 (va_cpy (b 16) (b 245) 0 0 10))) (R := R)
  refine he_ivV hrc1 (by omega) (by rfl) (by rfl) (by rfl) (by rfl) (by rfl) (by rfl) ?_
  refine he_s 4 (pc' := 79) (lc' := [(0, .ref 244), (1, .ref 15)]) (stk' := [.ref 26, .ref 255]) (mem' := cx gc1 l ac1 bc1 R) (by intro _ _ _; eq_refl) ?_
  obtain ⟨gc2, ac2, bc2, hrc2, hxc2⟩ := hx_crew244_15 (g := gc1) (l := l) (a := ac1) (b := bc1) (R := R)
  refine he_ivV hrc2 (by omega) (by rfl) (by rfl) (by rfl) (by rfl) (by rfl) (by rfl) ?_
  refine he_s 24 (pc' := 130) (lc' := [(0, .ref 244), (1, .ref 15)]) (stk' := []) (mem' := cx (fm_u (fm_u (fm_u (fm_u (fm_u (fm_u gc2 244 8 (gc2 15 8)) 244 9 (gc2 15 9)) 244 10 (gc2 15 10)) 244 11 (gc2 15 11)) 244 12 (gc2 15 12)) 244 13 (gc2 15 13)) l ac2 bc2 R) (by intro _ _ _; eq_refl) ?_
  have e27 : ∀ j, ¬ (250 ≤ j ∧ j ≤ 254) → ¬ (255 ≤ j ∧ j ≤ 262) → gc2 j = g j := fun j p1 p2 => (hxc2.2.2.2 j p2).1.trans (hxc1 j p1).1
  have a27 : ∀ j, ¬ (255 ≤ j ∧ j ≤ 262) → ¬ (250 ≤ j ∧ j ≤ 254) → ac2 j = _ := fun j p1 p2 => (hxc2.2.2.2 j p1).2.1.trans (hxc1 j p2).2.1
  have b27 : ∀ j, ¬ (255 ≤ j ∧ j ≤ 262) → ¬ (250 ≤ j ∧ j ≤ 254) → bc2 j = _ := fun j p1 p2 => (hxc2.2.2.2 j p1).2.2.trans (hxc1 j p2).2.2
  refine he_ret ⟨_, _, _, ⟨⟨?_, ?_, ?_, fun i hi => ?_, fun i hi => ?_, fun i hi => ?_, fun i hi => ?_, fun i hi => ?_⟩, fun j hj => ⟨?_, ?_, ?_⟩⟩, rfl⟩ (by rfl) (by rfl) (by rfl)
  · exact congrFun (e27 15 (by decide) (by decide)) 8
  · exact congrFun (e27 15 (by decide) (by decide)) 9
  · exact hxc2.1.trans (congrFun (hxc1 26 (by decide)).1 7)
  · exact (congrFun (b27 245 (by decide) (by decide)) i).trans (va_cpy0 hi)
  · exact (hxc2.2.1 i hi).trans (congrFun (hxc1 27 (by decide)).2.2 i)
  · exact (congrFun (a27 246 (by decide) (by decide)) i).trans (va_cpy0 hi)
  · exact (congrFun (a27 247 (by decide) (by decide)) i).trans (va_cpy0 hi)
  · exact (hxc2.2.2.1 i hi).trans (congrFun (hxc1 28 (by decide)).2.1 i)
  · repeat rw [fm_un (by omega)]
    exact e27 j (by omega) (by omega)
  · rw [a27 j (by omega) (by omega)]; repeat rw [fm_ur_n (by omega)]
  · rw [b27 j (by omega) (by omega)]; repeat rw [fm_uf_n (by omega)]
set_option maxRecDepth 8000 in
theorem hx_ice15_244 : ∃ (g' a' : Nat → Nat → Int32) (b' : Nat → Nat → Int64), hr_T 1 25 [.ref 21, .ref 250] (cx g l a b R) none (cx g' l a' b' R) ∧ ∀ j, ¬ (21 ≤ j ∧ j ≤ 25) → g' j = g j ∧ a' j = a j ∧ b' j = b j := by
  suffices h : ∃ (v : Option Value) (mem' : fx_M), (fun R1 => ∃ (g' a' : Nat → Nat → Int32) (b' : Nat → Nat → Int64), (∀ j, ¬ (21 ≤ j ∧ j ≤ 25) → g' j = g j ∧ a' j = a j ∧ b' j = b j) ∧ R1 = (none, cx g' l a' b' R)) (v, mem') ∧ hr_T 1 25 [.ref 21, .ref 250] (cx g l a b R) v mem' by
    obtain ⟨v, mem', ⟨g', a', b', h1, hR1⟩, h2⟩ := h
    cases hR1
    exact ⟨g', a', b', h2, h1⟩
  refine he_meth (f := 25) (as := [.ref 21, .ref 250]) (F := fun R1 => ∃ (g' a' : Nat → Nat → Int32) (b' : Nat → Nat → Int64), (∀ j, ¬ (21 ≤ j ∧ j ≤ 25) → g' j = g j ∧ a' j = a j ∧ b' j = b j) ∧ R1 = (none, cx g' l a' b' R)) (M := gk_m25) (by rfl) (by rfl) ?_
  refine he_s 7 (pc' := 12) (lc' := [(0, .ref 21), (1, .ref 250)]) (stk' := [.int 10, .int 0, .ref 22, .int 0, .ref 251]) (mem' := cx g l a b R) (by intro _ _ _; eq_refl) ?_
  refine he_cpI (mem' := cx g l (fm_ur a 22 (va_cpy (a 251) (a 22) 0 0 10)) b R) (by rfl) (by rfl) (by rfl) (by rfl) (by rfl) (by decide) cxs_22 ?_
  refine he_s 7 (pc' := 27) (lc' := [(0, .ref 21), (1, .ref 250)]) (stk' := [.int 10, .int 0, .ref 23, .int 0, .ref 252]) (mem' := cx g l (fm_ur a 22 (va_cpy (a 251) (a 22) 0 0 10)) b R) (by intro _ _ _; eq_refl) ?_
  refine he_cpI (mem' := cx g l (fm_ur (fm_ur a 22 (va_cpy (a 251) (a 22) 0 0 10)) 23 (va_cpy (a 252) (a 23) 0 0 10)) b R) (by rfl) (by rfl) (by rfl) (by rfl) (by rfl) (by decide) cxs_23 ?_
  refine he_s 7 (pc' := 42) (lc' := [(0, .ref 21), (1, .ref 250)]) (stk' := [.int 10, .int 0, .ref 24, .int 0, .ref 253]) (mem' := cx g l (fm_ur (fm_ur a 22 (va_cpy (a 251) (a 22) 0 0 10)) 23 (va_cpy (a 252) (a 23) 0 0 10)) b R) (by intro _ _ _; eq_refl) ?_
  refine he_cpI (mem' := cx g l (fm_ur (fm_ur (fm_ur a 22 (va_cpy (a 251) (a 22) 0 0 10)) 23 (va_cpy (a 252) (a 23) 0 0 10)) 24 (va_cpy (a 253) (a 24) 0 0 10)) b R) (by rfl) (by rfl) (by rfl) (by rfl) (by rfl) (by decide) cxs_24 ?_
  refine he_s 7 (pc' := 58) (lc' := [(0, .ref 21), (1, .ref 250)]) (stk' := [.int 200, .int 0, .ref 25, .int 0, .ref 254]) (mem' := cx g l (fm_ur (fm_ur (fm_ur a 22 (va_cpy (a 251) (a 22) 0 0 10)) 23 (va_cpy (a 252) (a 23) 0 0 10)) 24 (va_cpy (a 253) (a 24) 0 0 10)) b R) (by intro _ _ _; eq_refl) ?_
  refine he_cpI (mem' := cx g l (fm_ur (fm_ur (fm_ur (fm_ur a 22 (va_cpy (a 251) (a 22) 0 0 10)) 23 (va_cpy (a 252) (a 23) 0 0 10)) 24 (va_cpy (a 253) (a 24) 0 0 10)) 25 (va_cpy (a 254) (a 25) 0 0 200)) b R) (by rfl) (by rfl) (by rfl) (by rfl) (by rfl) (by decide) cxs_25 ?_
  refine he_s 8 (pc' := 77) (lc' := [(0, .ref 21), (1, .ref 250)]) (stk' := []) (mem' := cx (fm_u (fm_u g 21 4 (g 250 4)) 21 5 (g 250 5)) l (fm_ur (fm_ur (fm_ur (fm_ur a 22 (va_cpy (a 251) (a 22) 0 0 10)) 23 (va_cpy (a 252) (a 23) 0 0 10)) 24 (va_cpy (a 253) (a 24) 0 0 10)) 25 (va_cpy (a 254) (a 25) 0 0 200)) b R) (by intro _ _ _; eq_refl) ?_
  exact he_ret ⟨_, _, _, fun j hj => ⟨(by first | rfl | (repeat (first | rw [fm_un (by omega)] | rw [fm_ur_n (by omega)] | rw [fm_uf_n (by omega)]))), (by first | rfl | (repeat (first | rw [fm_un (by omega)] | rw [fm_ur_n (by omega)] | rw [fm_uf_n (by omega)]))), (by first | rfl | (repeat (first | rw [fm_un (by omega)] | rw [fm_ur_n (by omega)] | rw [fm_uf_n (by omega)])))⟩, rfl⟩ (by rfl) (by rfl) (by rfl)
set_option maxRecDepth 8000 in
theorem hx_crew15_244 : ∃ (g' a' : Nat → Nat → Int32) (b' : Nat → Nat → Int64), hr_T 1 2 [.ref 26, .ref 255] (cx g l a b R) none (cx g' l a' b' R) ∧ g' 26 7 = g 255 7 ∧ (∀ i, i < 8 → b' 27 i = b 256 i) ∧ (∀ i, i < 8 → a' 28 i = a 257 i) ∧ ∀ j, ¬ (26 ≤ j ∧ j ≤ 33) → g' j = g j ∧ a' j = a j ∧ b' j = b j := by
  suffices h : ∃ (v : Option Value) (mem' : fx_M), (fun R1 => ∃ (g' a' : Nat → Nat → Int32) (b' : Nat → Nat → Int64), (g' 26 7 = g 255 7 ∧ (∀ i, i < 8 → b' 27 i = b 256 i) ∧ (∀ i, i < 8 → a' 28 i = a 257 i) ∧ ∀ j, ¬ (26 ≤ j ∧ j ≤ 33) → g' j = g j ∧ a' j = a j ∧ b' j = b j) ∧ R1 = (none, cx g' l a' b' R)) (v, mem') ∧ hr_T 1 2 [.ref 26, .ref 255] (cx g l a b R) v mem' by
    obtain ⟨v, mem', ⟨g', a', b', h1, hR1⟩, h2⟩ := h
    cases hR1
    exact ⟨g', a', b', h2, h1⟩
  refine he_meth (f := 2) (as := [.ref 26, .ref 255]) (F := fun R1 => ∃ (g' a' : Nat → Nat → Int32) (b' : Nat → Nat → Int64), (g' 26 7 = g 255 7 ∧ (∀ i, i < 8 → b' 27 i = b 256 i) ∧ (∀ i, i < 8 → a' 28 i = a 257 i) ∧ ∀ j, ¬ (26 ≤ j ∧ j ≤ 33) → g' j = g j ∧ a' j = a j ∧ b' j = b j) ∧ R1 = (none, cx g' l a' b' R)) (M := gk_m2) (by rfl) (by rfl) ?_
  refine he_s 7 (pc' := 12) (lc' := [(0, .ref 26), (1, .ref 255)]) (stk' := [.int 8, .int 0, .ref 27, .int 0, .ref 256]) (mem' := cx g l a b R) (by intro _ _ _; eq_refl) ?_
  refine he_cpL (mem' := cx g l a (fm_uf b 27 (va_cpy (b 256) (b 27) 0 0 8)) R) (by rfl) (by rfl) (by rfl) (by rfl) (by rfl) (by decide) cxs_27 ?_
  refine he_s 7 (pc' := 27) (lc' := [(0, .ref 26), (1, .ref 255)]) (stk' := [.int 8, .int 0, .ref 28, .int 0, .ref 257]) (mem' := cx g l a (fm_uf b 27 (va_cpy (b 256) (b 27) 0 0 8)) R) (by intro _ _ _; eq_refl) ?_
  refine he_cpI (mem' := cx g l (fm_ur a 28 (va_cpy (a 257) (a 28) 0 0 8)) (fm_uf b 27 (va_cpy (b 256) (b 27) 0 0 8)) R) (by rfl) (by rfl) (by rfl) (by rfl) (by rfl) (by decide) cxs_28 ?_
  refine he_s 7 (pc' := 42) (lc' := [(0, .ref 26), (1, .ref 255)]) (stk' := [.int 8, .int 0, .ref 29, .int 0, .ref 258]) (mem' := cx g l (fm_ur a 28 (va_cpy (a 257) (a 28) 0 0 8)) (fm_uf b 27 (va_cpy (b 256) (b 27) 0 0 8)) R) (by intro _ _ _; eq_refl) ?_
  refine he_cpI (mem' := cx g l (fm_ur (fm_ur a 28 (va_cpy (a 257) (a 28) 0 0 8)) 29 (va_cpy (a 258) (a 29) 0 0 8)) (fm_uf b 27 (va_cpy (b 256) (b 27) 0 0 8)) R) (by rfl) (by rfl) (by rfl) (by rfl) (by rfl) (by decide) cxs_29 ?_
  refine he_s 7 (pc' := 57) (lc' := [(0, .ref 26), (1, .ref 255)]) (stk' := [.int 8, .int 0, .ref 30, .int 0, .ref 259]) (mem' := cx g l (fm_ur (fm_ur a 28 (va_cpy (a 257) (a 28) 0 0 8)) 29 (va_cpy (a 258) (a 29) 0 0 8)) (fm_uf b 27 (va_cpy (b 256) (b 27) 0 0 8)) R) (by intro _ _ _; eq_refl) ?_
  refine he_cpI (mem' := cx g l (fm_ur (fm_ur (fm_ur a 28 (va_cpy (a 257) (a 28) 0 0 8)) 29 (va_cpy (a 258) (a 29) 0 0 8)) 30 (va_cpy (a 259) (a 30) 0 0 8)) (fm_uf b 27 (va_cpy (b 256) (b 27) 0 0 8)) R) (by rfl) (by rfl) (by rfl) (by rfl) (by rfl) (by decide) cxs_30 ?_
  refine he_s 7 (pc' := 72) (lc' := [(0, .ref 26), (1, .ref 255)]) (stk' := [.int 8, .int 0, .ref 31, .int 0, .ref 260]) (mem' := cx g l (fm_ur (fm_ur (fm_ur a 28 (va_cpy (a 257) (a 28) 0 0 8)) 29 (va_cpy (a 258) (a 29) 0 0 8)) 30 (va_cpy (a 259) (a 30) 0 0 8)) (fm_uf b 27 (va_cpy (b 256) (b 27) 0 0 8)) R) (by intro _ _ _; eq_refl) ?_
  refine he_cpI (mem' := cx g l (fm_ur (fm_ur (fm_ur (fm_ur a 28 (va_cpy (a 257) (a 28) 0 0 8)) 29 (va_cpy (a 258) (a 29) 0 0 8)) 30 (va_cpy (a 259) (a 30) 0 0 8)) 31 (va_cpy (a 260) (a 31) 0 0 8)) (fm_uf b 27 (va_cpy (b 256) (b 27) 0 0 8)) R) (by rfl) (by rfl) (by rfl) (by rfl) (by rfl) (by decide) cxs_31 ?_
  refine he_s 7 (pc' := 87) (lc' := [(0, .ref 26), (1, .ref 255)]) (stk' := [.int 8, .int 0, .ref 32, .int 0, .ref 261]) (mem' := cx g l (fm_ur (fm_ur (fm_ur (fm_ur a 28 (va_cpy (a 257) (a 28) 0 0 8)) 29 (va_cpy (a 258) (a 29) 0 0 8)) 30 (va_cpy (a 259) (a 30) 0 0 8)) 31 (va_cpy (a 260) (a 31) 0 0 8)) (fm_uf b 27 (va_cpy (b 256) (b 27) 0 0 8)) R) (by intro _ _ _; eq_refl) ?_
  refine he_cpI (mem' := cx g l (fm_ur (fm_ur (fm_ur (fm_ur (fm_ur a 28 (va_cpy (a 257) (a 28) 0 0 8)) 29 (va_cpy (a 258) (a 29) 0 0 8)) 30 (va_cpy (a 259) (a 30) 0 0 8)) 31 (va_cpy (a 260) (a 31) 0 0 8)) 32 (va_cpy (a 261) (a 32) 0 0 8)) (fm_uf b 27 (va_cpy (b 256) (b 27) 0 0 8)) R) (by rfl) (by rfl) (by rfl) (by rfl) (by rfl) (by decide) cxs_32 ?_
  refine he_s 7 (pc' := 103) (lc' := [(0, .ref 26), (1, .ref 255)]) (stk' := [.int 160, .int 0, .ref 33, .int 0, .ref 262]) (mem' := cx g l (fm_ur (fm_ur (fm_ur (fm_ur (fm_ur a 28 (va_cpy (a 257) (a 28) 0 0 8)) 29 (va_cpy (a 258) (a 29) 0 0 8)) 30 (va_cpy (a 259) (a 30) 0 0 8)) 31 (va_cpy (a 260) (a 31) 0 0 8)) 32 (va_cpy (a 261) (a 32) 0 0 8)) (fm_uf b 27 (va_cpy (b 256) (b 27) 0 0 8)) R) (by intro _ _ _; eq_refl) ?_
  refine he_cpI (mem' := cx g l (fm_ur (fm_ur (fm_ur (fm_ur (fm_ur (fm_ur a 28 (va_cpy (a 257) (a 28) 0 0 8)) 29 (va_cpy (a 258) (a 29) 0 0 8)) 30 (va_cpy (a 259) (a 30) 0 0 8)) 31 (va_cpy (a 260) (a 31) 0 0 8)) 32 (va_cpy (a 261) (a 32) 0 0 8)) 33 (va_cpy (a 262) (a 33) 0 0 160)) (fm_uf b 27 (va_cpy (b 256) (b 27) 0 0 8)) R) (by rfl) (by rfl) (by rfl) (by rfl) (by rfl) (by decide) cxs_33 ?_
  refine he_s 12 (pc' := 130) (lc' := [(0, .ref 26), (1, .ref 255)]) (stk' := []) (mem' := cx (fm_u (fm_u (fm_u g 26 7 (g 255 7)) 26 8 (g 255 8)) 26 9 (g 255 9)) l (fm_ur (fm_ur (fm_ur (fm_ur (fm_ur (fm_ur a 28 (va_cpy (a 257) (a 28) 0 0 8)) 29 (va_cpy (a 258) (a 29) 0 0 8)) 30 (va_cpy (a 259) (a 30) 0 0 8)) 31 (va_cpy (a 260) (a 31) 0 0 8)) 32 (va_cpy (a 261) (a 32) 0 0 8)) 33 (va_cpy (a 262) (a 33) 0 0 160)) (fm_uf b 27 (va_cpy (b 256) (b 27) 0 0 8)) R) (by intro _ _ _; eq_refl) ?_
  exact he_ret ⟨_, _, _, ⟨rfl, fun i hi => (show va_cpy (b 256) (b 27) 0 0 8 i = b 256 i from va_cpy0 hi), fun i hi => (show va_cpy (a 257) (a 28) 0 0 8 i = a 257 i from va_cpy0 hi), fun j hj => ⟨(by first | rfl | (repeat (first | rw [fm_un (by omega)] | rw [fm_ur_n (by omega)] | rw [fm_uf_n (by omega)]))), (by first | rfl | (repeat (first | rw [fm_un (by omega)] | rw [fm_ur_n (by omega)] | rw [fm_uf_n (by omega)]))), (by first | rfl | (repeat (first | rw [fm_un (by omega)] | rw [fm_ur_n (by omega)] | rw [fm_uf_n (by omega)])))⟩⟩, rfl⟩ (by rfl) (by rfl) (by rfl)
set_option maxRecDepth 8000 in
theorem hx_tal15_244 (hz : g 263 7 = 0 ∨ g 263 7 = 1) : ∃ (g' a' : Nat → Nat → Int32) (b' : Nat → Nat → Int64), hr_T 1 117 [.ref 34, .ref 263] (cx g l a b R) none (cx g' l a' b' R) ∧ g' 34 7 = g 263 7 ∧ ∀ j, ¬ (34 ≤ j ∧ j ≤ 40) → g' j = g j ∧ a' j = a j ∧ b' j = b j := by
  suffices h : ∃ (v : Option Value) (mem' : fx_M), (fun R1 => ∃ (g' a' : Nat → Nat → Int32) (b' : Nat → Nat → Int64), (g' 34 7 = g 263 7 ∧ ∀ j, ¬ (34 ≤ j ∧ j ≤ 40) → g' j = g j ∧ a' j = a j ∧ b' j = b j) ∧ R1 = (none, cx g' l a' b' R)) (v, mem') ∧ hr_T 1 117 [.ref 34, .ref 263] (cx g l a b R) v mem' by
    obtain ⟨v, mem', ⟨g', a', b', h1, hR1⟩, h2⟩ := h
    cases hR1
    exact ⟨g', a', b', h2, h1⟩
  refine he_meth (f := 117) (as := [.ref 34, .ref 263]) (F := fun R1 => ∃ (g' a' : Nat → Nat → Int32) (b' : Nat → Nat → Int64), (g' 34 7 = g 263 7 ∧ ∀ j, ¬ (34 ≤ j ∧ j ≤ 40) → g' j = g j ∧ a' j = a j ∧ b' j = b j) ∧ R1 = (none, cx g' l a' b' R)) (M := gk_m117) (by rfl) (by rfl) ?_
  refine he_s 7 (pc' := 12) (lc' := [(0, .ref 34), (1, .ref 263)]) (stk' := [.int 30, .int 0, .ref 35, .int 0, .ref 264]) (mem' := cx g l a b R) (by intro _ _ _; eq_refl) ?_
  refine he_cpI (mem' := cx g l (fm_ur a 35 (va_cpy (a 264) (a 35) 0 0 30)) b R) (by rfl) (by rfl) (by rfl) (by rfl) (by rfl) (by decide) cxs_35 ?_
  refine he_s 7 (pc' := 27) (lc' := [(0, .ref 34), (1, .ref 263)]) (stk' := [.int 30, .int 0, .ref 36, .int 0, .ref 265]) (mem' := cx g l (fm_ur a 35 (va_cpy (a 264) (a 35) 0 0 30)) b R) (by intro _ _ _; eq_refl) ?_
  refine he_cpI (mem' := cx g l (fm_ur (fm_ur a 35 (va_cpy (a 264) (a 35) 0 0 30)) 36 (va_cpy (a 265) (a 36) 0 0 30)) b R) (by rfl) (by rfl) (by rfl) (by rfl) (by rfl) (by decide) cxs_36 ?_
  refine he_s 7 (pc' := 42) (lc' := [(0, .ref 34), (1, .ref 263)]) (stk' := [.int 30, .int 0, .ref 37, .int 0, .ref 266]) (mem' := cx g l (fm_ur (fm_ur a 35 (va_cpy (a 264) (a 35) 0 0 30)) 36 (va_cpy (a 265) (a 36) 0 0 30)) b R) (by intro _ _ _; eq_refl) ?_
  refine he_cpI (mem' := cx g l (fm_ur (fm_ur (fm_ur a 35 (va_cpy (a 264) (a 35) 0 0 30)) 36 (va_cpy (a 265) (a 36) 0 0 30)) 37 (va_cpy (a 266) (a 37) 0 0 30)) b R) (by rfl) (by rfl) (by rfl) (by rfl) (by rfl) (by decide) cxs_37 ?_
  refine he_s 7 (pc' := 57) (lc' := [(0, .ref 34), (1, .ref 263)]) (stk' := [.int 30, .int 0, .ref 38, .int 0, .ref 267]) (mem' := cx g l (fm_ur (fm_ur (fm_ur a 35 (va_cpy (a 264) (a 35) 0 0 30)) 36 (va_cpy (a 265) (a 36) 0 0 30)) 37 (va_cpy (a 266) (a 37) 0 0 30)) b R) (by intro _ _ _; eq_refl) ?_
  refine he_cpI (mem' := cx g l (fm_ur (fm_ur (fm_ur (fm_ur a 35 (va_cpy (a 264) (a 35) 0 0 30)) 36 (va_cpy (a 265) (a 36) 0 0 30)) 37 (va_cpy (a 266) (a 37) 0 0 30)) 38 (va_cpy (a 267) (a 38) 0 0 30)) b R) (by rfl) (by rfl) (by rfl) (by rfl) (by rfl) (by decide) cxs_38 ?_
  refine he_s 7 (pc' := 72) (lc' := [(0, .ref 34), (1, .ref 263)]) (stk' := [.int 30, .int 0, .ref 39, .int 0, .ref 268]) (mem' := cx g l (fm_ur (fm_ur (fm_ur (fm_ur a 35 (va_cpy (a 264) (a 35) 0 0 30)) 36 (va_cpy (a 265) (a 36) 0 0 30)) 37 (va_cpy (a 266) (a 37) 0 0 30)) 38 (va_cpy (a 267) (a 38) 0 0 30)) b R) (by intro _ _ _; eq_refl) ?_
  refine he_cpI (mem' := cx g l (fm_ur (fm_ur (fm_ur (fm_ur (fm_ur a 35 (va_cpy (a 264) (a 35) 0 0 30)) 36 (va_cpy (a 265) (a 36) 0 0 30)) 37 (va_cpy (a 266) (a 37) 0 0 30)) 38 (va_cpy (a 267) (a 38) 0 0 30)) 39 (va_cpy (a 268) (a 39) 0 0 30)) b R) (by rfl) (by rfl) (by rfl) (by rfl) (by rfl) (by decide) cxs_39 ?_
  refine he_s 7 (pc' := 87) (lc' := [(0, .ref 34), (1, .ref 263)]) (stk' := [.int 30, .int 0, .ref 40, .int 0, .ref 269]) (mem' := cx g l (fm_ur (fm_ur (fm_ur (fm_ur (fm_ur a 35 (va_cpy (a 264) (a 35) 0 0 30)) 36 (va_cpy (a 265) (a 36) 0 0 30)) 37 (va_cpy (a 266) (a 37) 0 0 30)) 38 (va_cpy (a 267) (a 38) 0 0 30)) 39 (va_cpy (a 268) (a 39) 0 0 30)) b R) (by intro _ _ _; eq_refl) ?_
  refine he_cpI (mem' := cx g l (fm_ur (fm_ur (fm_ur (fm_ur (fm_ur (fm_ur a 35 (va_cpy (a 264) (a 35) 0 0 30)) 36 (va_cpy (a 265) (a 36) 0 0 30)) 37 (va_cpy (a 266) (a 37) 0 0 30)) 38 (va_cpy (a 267) (a 38) 0 0 30)) 39 (va_cpy (a 268) (a 39) 0 0 30)) 40 (va_cpy (a 269) (a 40) 0 0 30)) b R) (by rfl) (by rfl) (by rfl) (by rfl) (by rfl) (by decide) cxs_40 ?_
  refine he_s 7 (pc' := 103) (lc' := [(0, .ref 34), (1, .ref 263)]) (stk' := [.int (g 263 7), .ref 34]) (mem' := cx (fm_u g 34 6 (g 263 6)) l (fm_ur (fm_ur (fm_ur (fm_ur (fm_ur (fm_ur a 35 (va_cpy (a 264) (a 35) 0 0 30)) 36 (va_cpy (a 265) (a 36) 0 0 30)) 37 (va_cpy (a 266) (a 37) 0 0 30)) 38 (va_cpy (a 267) (a 38) 0 0 30)) 39 (va_cpy (a 268) (a 39) 0 0 30)) 40 (va_cpy (a 269) (a 40) 0 0 30)) b R) (by intro _ _ _; eq_refl) ?_
  rcases hz with ez | ez
  · rw [ez]
    refine he_s 1 (pc' := 106) (lc' := [(0, .ref 34), (1, .ref 263)]) (stk' := []) (mem' := cx (fm_u (fm_u g 34 6 (g 263 6)) 34 7 0) l (fm_ur (fm_ur (fm_ur (fm_ur (fm_ur (fm_ur a 35 (va_cpy (a 264) (a 35) 0 0 30)) 36 (va_cpy (a 265) (a 36) 0 0 30)) 37 (va_cpy (a 266) (a 37) 0 0 30)) 38 (va_cpy (a 267) (a 38) 0 0 30)) 39 (va_cpy (a 268) (a 39) 0 0 30)) 40 (va_cpy (a 269) (a 40) 0 0 30)) b R) (by intro _ _ _; eq_refl) ?_
    exact he_ret ⟨_, _, _, ⟨(by first | exact fm_ue | exact fm_ue.trans ez.symm), fun j hj => ⟨(by first | rfl | (repeat (first | rw [fm_un (by omega)] | rw [fm_ur_n (by omega)] | rw [fm_uf_n (by omega)]))), (by first | rfl | (repeat (first | rw [fm_un (by omega)] | rw [fm_ur_n (by omega)] | rw [fm_uf_n (by omega)]))), (by first | rfl | (repeat (first | rw [fm_un (by omega)] | rw [fm_ur_n (by omega)] | rw [fm_uf_n (by omega)])))⟩⟩, rfl⟩ (by rfl) (by rfl) (by rfl)
  · rw [ez]
    refine he_s 1 (pc' := 106) (lc' := [(0, .ref 34), (1, .ref 263)]) (stk' := []) (mem' := cx (fm_u (fm_u g 34 6 (g 263 6)) 34 7 1) l (fm_ur (fm_ur (fm_ur (fm_ur (fm_ur (fm_ur a 35 (va_cpy (a 264) (a 35) 0 0 30)) 36 (va_cpy (a 265) (a 36) 0 0 30)) 37 (va_cpy (a 266) (a 37) 0 0 30)) 38 (va_cpy (a 267) (a 38) 0 0 30)) 39 (va_cpy (a 268) (a 39) 0 0 30)) 40 (va_cpy (a 269) (a 40) 0 0 30)) b R) (by intro _ _ _; eq_refl) ?_
    exact he_ret ⟨_, _, _, ⟨(by first | exact fm_ue | exact fm_ue.trans ez.symm), fun j hj => ⟨(by first | rfl | (repeat (first | rw [fm_un (by omega)] | rw [fm_ur_n (by omega)] | rw [fm_uf_n (by omega)]))), (by first | rfl | (repeat (first | rw [fm_un (by omega)] | rw [fm_ur_n (by omega)] | rw [fm_uf_n (by omega)]))), (by first | rfl | (repeat (first | rw [fm_un (by omega)] | rw [fm_ur_n (by omega)] | rw [fm_uf_n (by omega)])))⟩⟩, rfl⟩ (by rfl) (by rfl) (by rfl)
set_option maxRecDepth 8000 in
theorem hx_lake15_244 : ∃ (g' a' : Nat → Nat → Int32) (b' : Nat → Nat → Int64), hr_T 2 31 [.ref 15, .ref 244] (cx g l a b R) none (cx g' l a' b' R) ∧ cpo 15 244 g a b g' a' b' ∧ ∀ j, ¬ (15 ≤ j ∧ j ≤ 33) → g' j = g j ∧ a' j = a j ∧ b' j = b j := by
  suffices h : ∃ (v : Option Value) (mem' : fx_M), (fun R1 => ∃ (g' a' : Nat → Nat → Int32) (b' : Nat → Nat → Int64), (cpo 15 244 g a b g' a' b' ∧ ∀ j, ¬ (15 ≤ j ∧ j ≤ 33) → g' j = g j ∧ a' j = a j ∧ b' j = b j) ∧ R1 = (none, cx g' l a' b' R)) (v, mem') ∧ hr_T 2 31 [.ref 15, .ref 244] (cx g l a b R) v mem' by
    obtain ⟨v, mem', ⟨g', a', b', h1, hR1⟩, h2⟩ := h
    cases hR1
    exact ⟨g', a', b', h2, h1⟩
  refine he_meth (f := 31) (as := [.ref 15, .ref 244]) (F := fun R1 => ∃ (g' a' : Nat → Nat → Int32) (b' : Nat → Nat → Int64), (cpo 15 244 g a b g' a' b' ∧ ∀ j, ¬ (15 ≤ j ∧ j ≤ 33) → g' j = g j ∧ a' j = a j ∧ b' j = b j) ∧ R1 = (none, cx g' l a' b' R)) (M := gk_m31) (by rfl) (by rfl) ?_
  refine he_s 7 (pc' := 12) (lc' := [(0, .ref 15), (1, .ref 244)]) (stk' := [.int 10, .int 0, .ref 16, .int 0, .ref 245]) (mem' := cx g l a b R) (by intro _ _ _; eq_refl) ?_
  refine he_cpL (mem' := cx g l a (fm_uf b 16 (va_cpy (b 245) (b 16) 0 0 10)) R) (by rfl) (by rfl) (by rfl) (by rfl) (by rfl) (by decide) cxs_16 ?_
  refine he_s 7 (pc' := 27) (lc' := [(0, .ref 15), (1, .ref 244)]) (stk' := [.int 10, .int 0, .ref 17, .int 0, .ref 246]) (mem' := cx g l a (fm_uf b 16 (va_cpy (b 245) (b 16) 0 0 10)) R) (by intro _ _ _; eq_refl) ?_
  refine he_cpI (mem' := cx g l (fm_ur a 17 (va_cpy (a 246) (a 17) 0 0 10)) (fm_uf b 16 (va_cpy (b 245) (b 16) 0 0 10)) R) (by rfl) (by rfl) (by rfl) (by rfl) (by rfl) (by decide) cxs_17 ?_
  refine he_s 7 (pc' := 42) (lc' := [(0, .ref 15), (1, .ref 244)]) (stk' := [.int 10, .int 0, .ref 18, .int 0, .ref 247]) (mem' := cx g l (fm_ur a 17 (va_cpy (a 246) (a 17) 0 0 10)) (fm_uf b 16 (va_cpy (b 245) (b 16) 0 0 10)) R) (by intro _ _ _; eq_refl) ?_
  refine he_cpI (mem' := cx g l (fm_ur (fm_ur a 17 (va_cpy (a 246) (a 17) 0 0 10)) 18 (va_cpy (a 247) (a 18) 0 0 10)) (fm_uf b 16 (va_cpy (b 245) (b 16) 0 0 10)) R) (by rfl) (by rfl) (by rfl) (by rfl) (by rfl) (by decide) cxs_18 ?_
  refine he_s 7 (pc' := 57) (lc' := [(0, .ref 15), (1, .ref 244)]) (stk' := [.int 10, .int 0, .ref 19, .int 0, .ref 248]) (mem' := cx g l (fm_ur (fm_ur a 17 (va_cpy (a 246) (a 17) 0 0 10)) 18 (va_cpy (a 247) (a 18) 0 0 10)) (fm_uf b 16 (va_cpy (b 245) (b 16) 0 0 10)) R) (by intro _ _ _; eq_refl) ?_
  refine he_cpI (mem' := cx g l (fm_ur (fm_ur (fm_ur a 17 (va_cpy (a 246) (a 17) 0 0 10)) 18 (va_cpy (a 247) (a 18) 0 0 10)) 19 (va_cpy (a 248) (a 19) 0 0 10)) (fm_uf b 16 (va_cpy (b 245) (b 16) 0 0 10)) R) (by rfl) (by rfl) (by rfl) (by rfl) (by rfl) (by decide) cxs_19 ?_
  refine he_s 4 (pc' := 68) (lc' := [(0, .ref 15), (1, .ref 244)]) (stk' := [.ref 250, .ref 21]) (mem' := cx g l (fm_ur (fm_ur (fm_ur a 17 (va_cpy (a 246) (a 17) 0 0 10)) 18 (va_cpy (a 247) (a 18) 0 0 10)) 19 (va_cpy (a 248) (a 19) 0 0 10)) (fm_uf b 16 (va_cpy (b 245) (b 16) 0 0 10)) R) (by intro _ _ _; eq_refl) ?_
  obtain ⟨gc1, ac1, bc1, hrc1, hxc1⟩ := hx_ice15_244 (g := g) (l := l) (a := (fm_ur (fm_ur (fm_ur a 17 (va_cpy (a 246) (a 17) 0 0 10)) 18 (va_cpy (a 247) (a 18) 0 0 10)) 19 (va_cpy (a 248) (a 19) 0 0 10))) (b := (fm_uf b 16 (va_cpy (b 245) (b 16) 0 0 10))) (R := R)
  refine he_ivV hrc1 (by omega) (by rfl) (by rfl) (by rfl) (by rfl) (by rfl) (by rfl) ?_
  refine he_s 4 (pc' := 79) (lc' := [(0, .ref 15), (1, .ref 244)]) (stk' := [.ref 255, .ref 26]) (mem' := cx gc1 l ac1 bc1 R) (by intro _ _ _; eq_refl) ?_
  obtain ⟨gc2, ac2, bc2, hrc2, hxc2⟩ := hx_crew15_244 (g := gc1) (l := l) (a := ac1) (b := bc1) (R := R)
  refine he_ivV hrc2 (by omega) (by rfl) (by rfl) (by rfl) (by rfl) (by rfl) (by rfl) ?_
  refine he_s 24 (pc' := 130) (lc' := [(0, .ref 15), (1, .ref 244)]) (stk' := []) (mem' := cx (fm_u (fm_u (fm_u (fm_u (fm_u (fm_u gc2 15 8 (gc2 244 8)) 15 9 (gc2 244 9)) 15 10 (gc2 244 10)) 15 11 (gc2 244 11)) 15 12 (gc2 244 12)) 15 13 (gc2 244 13)) l ac2 bc2 R) (by intro _ _ _; eq_refl) ?_
  have e27 : ∀ j, ¬ (21 ≤ j ∧ j ≤ 25) → ¬ (26 ≤ j ∧ j ≤ 33) → gc2 j = g j := fun j p1 p2 => (hxc2.2.2.2 j p2).1.trans (hxc1 j p1).1
  have a27 : ∀ j, ¬ (26 ≤ j ∧ j ≤ 33) → ¬ (21 ≤ j ∧ j ≤ 25) → ac2 j = _ := fun j p1 p2 => (hxc2.2.2.2 j p1).2.1.trans (hxc1 j p2).2.1
  have b27 : ∀ j, ¬ (26 ≤ j ∧ j ≤ 33) → ¬ (21 ≤ j ∧ j ≤ 25) → bc2 j = _ := fun j p1 p2 => (hxc2.2.2.2 j p1).2.2.trans (hxc1 j p2).2.2
  refine he_ret ⟨_, _, _, ⟨⟨?_, ?_, ?_, fun i hi => ?_, fun i hi => ?_, fun i hi => ?_, fun i hi => ?_, fun i hi => ?_⟩, fun j hj => ⟨?_, ?_, ?_⟩⟩, rfl⟩ (by rfl) (by rfl) (by rfl)
  · exact congrFun (e27 244 (by decide) (by decide)) 8
  · exact congrFun (e27 244 (by decide) (by decide)) 9
  · exact hxc2.1.trans (congrFun (hxc1 255 (by decide)).1 7)
  · exact (congrFun (b27 16 (by decide) (by decide)) i).trans (va_cpy0 hi)
  · exact (hxc2.2.1 i hi).trans (congrFun (hxc1 256 (by decide)).2.2 i)
  · exact (congrFun (a27 17 (by decide) (by decide)) i).trans (va_cpy0 hi)
  · exact (congrFun (a27 18 (by decide) (by decide)) i).trans (va_cpy0 hi)
  · exact (hxc2.2.2.1 i hi).trans (congrFun (hxc1 257 (by decide)).2.1 i)
  · repeat rw [fm_un (by omega)]
    exact e27 j (by omega) (by omega)
  · rw [a27 j (by omega) (by omega)]; repeat rw [fm_ur_n (by omega)]
  · rw [b27 j (by omega) (by omega)]; repeat rw [fm_uf_n (by omega)]
set_option maxRecDepth 8000 in
theorem ha_refx {x : Int32} : hr_T 1 187 [.ref 0, .int x] (cx g l a b R) (some (.int (-1))) (cx (fm_u g 0 0 x) l a b R) := ha_refuse
set_option maxRecDepth 8000 in
theorem ha_ansx {x : Int32} : hr_T 1 186 [.ref 0, .int x] (cx g l a b R) (some (.int x)) (cx (fm_u g 0 0 0) l a b R) := ha_answer
set_option maxRecDepth 8000 in
theorem ha_mark0 (h : g 0 13 = 0) (hz : g 34 7 = 0 ∨ g 34 7 = 1) : ∃ (g' a' : Nat → Nat → Int32) (b' : Nat → Nat → Int64), hr_T 3 184 [.ref 0] (cx g l a b R) (some (.int 1)) (cx g' l a' b' R) ∧ g' 0 13 = 1 ∧ g' 211 7 = g 34 7 ∧ cpo 192 15 g a b g' a' b' ∧ ∀ j, j ≠ 0 → ¬ (192 ≤ j ∧ j ≤ 217) → g' j = g j ∧ a' j = a j ∧ b' j = b j := by
  obtain ⟨g1, a1, b1, r1, p1, f1⟩ := hx_lake192_15 (g := g) (l := l) (a := a) (b := b) (R := R)
  obtain ⟨g2, a2, b2, r2, t2, f2⟩ := hx_tal192_15 (g := g1) (l := l) (a := a1) (b := b1) (R := R) (by rw [(f1 34 (by decide)).1]; exact hz)
  have e1 : g1 0 13 = 0 := (congrFun (f1 0 (by decide)).1 13).trans h
  have e2 : g2 0 13 = 0 := (congrFun (f2 0 (by decide)).1 13).trans e1
  refine ⟨fm_u (fm_u g2 0 13 1) 0 0 0, a2, b2, hr_meth (by rfl) (by rfl) ?_, rfl, t2.trans (congrFun (f1 34 (by decide)).1 7), cpo_k p1 (fun j hj => ?_), fun j hj hn => ⟨?_, ?_, ?_⟩⟩
  · refine hr_s 3 (pc' := 5) (lc' := [(0, .ref 0)]) (stk' := [.int 3, .int (g 0 13)]) (mem' := cx g l a b R) (by intro _ _ _; eq_refl) ?_
    rw [h]
    refine hr_s 1 (pc' := 14) (lc' := [(0, .ref 0)]) (stk' := []) (mem' := cx g l a b R) (by intro _ _ _; eq_refl) ?_
    refine hr_s 4 (pc' := 22) (lc' := [(0, .ref 0)]) (stk' := [.int (g 0 13), .ref 67]) (mem' := cx g l a b R) (by intro _ _ _; eq_refl) ?_
    rw [h]
    refine hr_ldA (by rfl) (by rfl) (by rfl) (by rfl) ?_
    refine hr_s 2 (pc' := 27) (lc' := [(0, .ref 0)]) (stk' := [.ref 15, .ref 192]) (mem' := cx g l a b R) (by intro _ _ _; eq_refl) ?_
    refine hr_ivV r1 (by omega) (by rfl) (by rfl) (by rfl) (by rfl) (by rfl) (by rfl) ?_
    refine hr_s 4 (pc' := 38) (lc' := [(0, .ref 0)]) (stk' := [.int (g1 0 13), .ref 67]) (mem' := cx g1 l a1 b1 R) (by intro _ _ _; eq_refl) ?_
    rw [e1]
    refine hr_ldA (by rfl) (by rfl) (by rfl) (by rfl) ?_
    refine hr_s 4 (pc' := 49) (lc' := [(0, .ref 0)]) (stk' := [.ref 34, .ref 211]) (mem' := cx g1 l a1 b1 R) (by intro _ _ _; eq_refl) ?_
    refine hr_ivV r2 (by omega) (by rfl) (by rfl) (by rfl) (by rfl) (by rfl) (by rfl) ?_
    refine hr_s 5 (pc' := 59) (lc' := [(0, .ref 0)]) (stk' := [.int (g2 0 13 + 1), .ref 0]) (mem' := cx g2 l a2 b2 R) (by intro _ _ _; eq_refl) ?_
    rw [e2]
    refine hr_s 4 (pc' := 67) (lc' := [(0, .ref 0)]) (stk' := [.int 1, .ref 0]) (mem' := cx (fm_u g2 0 13 1) l a2 b2 R) (by intro _ _ _; eq_refl) ?_
    refine hr_ivV ha_ansx (by omega) (by rfl) (by rfl) (by rfl) (by rfl) (by rfl) (by rfl) ?_
    exact hr_ret (by rfl) (by rfl) (by rfl)
  · have q := f2 j (by omega)
    exact ⟨(fm_un (by omega)).trans ((fm_un (by omega)).trans q.1), q.2.1, q.2.2⟩
  · rw [fm_un hj, fm_un hj, (f2 j (by omega)).1, (f1 j (by omega)).1]
  · rw [(f2 j (by omega)).2.1, (f1 j (by omega)).2.1]
  · rw [(f2 j (by omega)).2.2, (f1 j (by omega)).2.2]
set_option maxRecDepth 8000 in
theorem ha_undo0 (h : g 0 13 = 1) (hz : g 211 7 = 0 ∨ g 211 7 = 1) : ∃ (g' a' : Nat → Nat → Int32) (b' : Nat → Nat → Int64), hr_T 3 185 [.ref 0] (cx g l a b R) (some (.int 0)) (cx g' l a' b' R) ∧ g' 0 13 = 0 ∧ g' 34 7 = g 211 7 ∧ cpo 15 192 g a b g' a' b' ∧ ∀ j, j ≠ 0 → ¬ (15 ≤ j ∧ j ≤ 40) → g' j = g j ∧ a' j = a j ∧ b' j = b j := by
  obtain ⟨g1, a1, b1, r1, p1, f1⟩ := hx_lake15_192 (g := (fm_u g 0 13 0)) (l := l) (a := a) (b := b) (R := R)
  obtain ⟨g2, a2, b2, r2, t2, f2⟩ := hx_tal15_192 (g := g1) (l := l) (a := a1) (b := b1) (R := R) (by rw [(f1 211 (by decide)).1]; exact hz)
  have e1 : g1 0 13 = 0 := congrFun (f1 0 (by decide)).1 13
  have e2 : g2 0 13 = 0 := (congrFun (f2 0 (by decide)).1 13).trans e1
  refine ⟨fm_u g2 0 0 0, a2, b2, hr_meth (by rfl) (by rfl) ?_, e2, t2.trans (congrFun (f1 211 (by decide)).1 7), cpo_k p1 (fun j hj => ?_), fun j hj hn => ⟨?_, ?_, ?_⟩⟩
  · refine hr_s 3 (pc' := 5) (lc' := [(0, .ref 0)]) (stk' := [.int 1, .int (g 0 13)]) (mem' := cx g l a b R) (by intro _ _ _; eq_refl) ?_
    rw [h]
    refine hr_s 1 (pc' := 15) (lc' := [(0, .ref 0)]) (stk' := []) (mem' := cx g l a b R) (by intro _ _ _; eq_refl) ?_
    refine hr_s 5 (pc' := 22) (lc' := [(0, .ref 0)]) (stk' := [.int (g 0 13 - 1), .ref 0]) (mem' := cx g l a b R) (by intro _ _ _; eq_refl) ?_
    rw [h]
    refine hr_s 7 (pc' := 37) (lc' := [(0, .ref 0)]) (stk' := [.int 0, .ref 67, .ref 15]) (mem' := cx (fm_u g 0 13 0) l a b R) (by intro _ _ _; eq_refl) ?_
    refine hr_ldA (by rfl) (by rfl) (by rfl) (by rfl) ?_
    refine hr_s 0 (pc' := 38) (lc' := [(0, .ref 0)]) (stk' := [.ref 192, .ref 15]) (mem' := cx (fm_u g 0 13 0) l a b R) (by intro _ _ _; eq_refl) ?_
    refine hr_ivV r1 (by omega) (by rfl) (by rfl) (by rfl) (by rfl) (by rfl) (by rfl) ?_
    refine hr_s 7 (pc' := 56) (lc' := [(0, .ref 0)]) (stk' := [.int (g1 0 13), .ref 67, .ref 34]) (mem' := cx g1 l a1 b1 R) (by intro _ _ _; eq_refl) ?_
    rw [e1]
    refine hr_ldA (by rfl) (by rfl) (by rfl) (by rfl) ?_
    refine hr_s 1 (pc' := 60) (lc' := [(0, .ref 0)]) (stk' := [.ref 211, .ref 34]) (mem' := cx g1 l a1 b1 R) (by intro _ _ _; eq_refl) ?_
    refine hr_ivV r2 (by omega) (by rfl) (by rfl) (by rfl) (by rfl) (by rfl) (by rfl) ?_
    refine hr_s 3 (pc' := 68) (lc' := [(0, .ref 0)]) (stk' := [.int (g2 0 13), .ref 0]) (mem' := cx g2 l a2 b2 R) (by intro _ _ _; eq_refl) ?_
    rw [e2]
    refine hr_ivV ha_ansx (by omega) (by rfl) (by rfl) (by rfl) (by rfl) (by rfl) (by rfl) ?_
    exact hr_ret (by rfl) (by rfl) (by rfl)
  · have q := f2 j (by omega)
    exact ⟨(fm_un (by omega)).trans q.1, q.2.1, q.2.2⟩
  · rw [fm_un hj, (f2 j (by omega)).1, (f1 j (by omega)).1, fm_un hj]
  · rw [(f2 j (by omega)).2.1, (f1 j (by omega)).2.1]
  · rw [(f2 j (by omega)).2.2, (f1 j (by omega)).2.2]
set_option maxRecDepth 8000 in
theorem ha_mark1 (h : g 0 13 = 1) (hz : g 34 7 = 0 ∨ g 34 7 = 1) : ∃ (g' a' : Nat → Nat → Int32) (b' : Nat → Nat → Int64), hr_T 3 184 [.ref 0] (cx g l a b R) (some (.int 2)) (cx g' l a' b' R) ∧ g' 0 13 = 2 ∧ g' 237 7 = g 34 7 ∧ cpo 218 15 g a b g' a' b' ∧ ∀ j, j ≠ 0 → ¬ (218 ≤ j ∧ j ≤ 243) → g' j = g j ∧ a' j = a j ∧ b' j = b j := by
  obtain ⟨g1, a1, b1, r1, p1, f1⟩ := hx_lake218_15 (g := g) (l := l) (a := a) (b := b) (R := R)
  obtain ⟨g2, a2, b2, r2, t2, f2⟩ := hx_tal218_15 (g := g1) (l := l) (a := a1) (b := b1) (R := R) (by rw [(f1 34 (by decide)).1]; exact hz)
  have e1 : g1 0 13 = 1 := (congrFun (f1 0 (by decide)).1 13).trans h
  have e2 : g2 0 13 = 1 := (congrFun (f2 0 (by decide)).1 13).trans e1
  refine ⟨fm_u (fm_u g2 0 13 2) 0 0 0, a2, b2, hr_meth (by rfl) (by rfl) ?_, rfl, t2.trans (congrFun (f1 34 (by decide)).1 7), cpo_k p1 (fun j hj => ?_), fun j hj hn => ⟨?_, ?_, ?_⟩⟩
  · refine hr_s 3 (pc' := 5) (lc' := [(0, .ref 0)]) (stk' := [.int 3, .int (g 0 13)]) (mem' := cx g l a b R) (by intro _ _ _; eq_refl) ?_
    rw [h]
    refine hr_s 1 (pc' := 14) (lc' := [(0, .ref 0)]) (stk' := []) (mem' := cx g l a b R) (by intro _ _ _; eq_refl) ?_
    refine hr_s 4 (pc' := 22) (lc' := [(0, .ref 0)]) (stk' := [.int (g 0 13), .ref 67]) (mem' := cx g l a b R) (by intro _ _ _; eq_refl) ?_
    rw [h]
    refine hr_ldA (by rfl) (by rfl) (by rfl) (by rfl) ?_
    refine hr_s 2 (pc' := 27) (lc' := [(0, .ref 0)]) (stk' := [.ref 15, .ref 218]) (mem' := cx g l a b R) (by intro _ _ _; eq_refl) ?_
    refine hr_ivV r1 (by omega) (by rfl) (by rfl) (by rfl) (by rfl) (by rfl) (by rfl) ?_
    refine hr_s 4 (pc' := 38) (lc' := [(0, .ref 0)]) (stk' := [.int (g1 0 13), .ref 67]) (mem' := cx g1 l a1 b1 R) (by intro _ _ _; eq_refl) ?_
    rw [e1]
    refine hr_ldA (by rfl) (by rfl) (by rfl) (by rfl) ?_
    refine hr_s 4 (pc' := 49) (lc' := [(0, .ref 0)]) (stk' := [.ref 34, .ref 237]) (mem' := cx g1 l a1 b1 R) (by intro _ _ _; eq_refl) ?_
    refine hr_ivV r2 (by omega) (by rfl) (by rfl) (by rfl) (by rfl) (by rfl) (by rfl) ?_
    refine hr_s 5 (pc' := 59) (lc' := [(0, .ref 0)]) (stk' := [.int (g2 0 13 + 1), .ref 0]) (mem' := cx g2 l a2 b2 R) (by intro _ _ _; eq_refl) ?_
    rw [e2]
    refine hr_s 4 (pc' := 67) (lc' := [(0, .ref 0)]) (stk' := [.int 2, .ref 0]) (mem' := cx (fm_u g2 0 13 2) l a2 b2 R) (by intro _ _ _; eq_refl) ?_
    refine hr_ivV ha_ansx (by omega) (by rfl) (by rfl) (by rfl) (by rfl) (by rfl) (by rfl) ?_
    exact hr_ret (by rfl) (by rfl) (by rfl)
  · have q := f2 j (by omega)
    exact ⟨(fm_un (by omega)).trans ((fm_un (by omega)).trans q.1), q.2.1, q.2.2⟩
  · rw [fm_un hj, fm_un hj, (f2 j (by omega)).1, (f1 j (by omega)).1]
  · rw [(f2 j (by omega)).2.1, (f1 j (by omega)).2.1]
  · rw [(f2 j (by omega)).2.2, (f1 j (by omega)).2.2]
set_option maxRecDepth 8000 in
theorem ha_undo1 (h : g 0 13 = 2) (hz : g 237 7 = 0 ∨ g 237 7 = 1) : ∃ (g' a' : Nat → Nat → Int32) (b' : Nat → Nat → Int64), hr_T 3 185 [.ref 0] (cx g l a b R) (some (.int 1)) (cx g' l a' b' R) ∧ g' 0 13 = 1 ∧ g' 34 7 = g 237 7 ∧ cpo 15 218 g a b g' a' b' ∧ ∀ j, j ≠ 0 → ¬ (15 ≤ j ∧ j ≤ 40) → g' j = g j ∧ a' j = a j ∧ b' j = b j := by
  obtain ⟨g1, a1, b1, r1, p1, f1⟩ := hx_lake15_218 (g := (fm_u g 0 13 1)) (l := l) (a := a) (b := b) (R := R)
  obtain ⟨g2, a2, b2, r2, t2, f2⟩ := hx_tal15_218 (g := g1) (l := l) (a := a1) (b := b1) (R := R) (by rw [(f1 237 (by decide)).1]; exact hz)
  have e1 : g1 0 13 = 1 := congrFun (f1 0 (by decide)).1 13
  have e2 : g2 0 13 = 1 := (congrFun (f2 0 (by decide)).1 13).trans e1
  refine ⟨fm_u g2 0 0 0, a2, b2, hr_meth (by rfl) (by rfl) ?_, e2, t2.trans (congrFun (f1 237 (by decide)).1 7), cpo_k p1 (fun j hj => ?_), fun j hj hn => ⟨?_, ?_, ?_⟩⟩
  · refine hr_s 3 (pc' := 5) (lc' := [(0, .ref 0)]) (stk' := [.int 1, .int (g 0 13)]) (mem' := cx g l a b R) (by intro _ _ _; eq_refl) ?_
    rw [h]
    refine hr_s 1 (pc' := 15) (lc' := [(0, .ref 0)]) (stk' := []) (mem' := cx g l a b R) (by intro _ _ _; eq_refl) ?_
    refine hr_s 5 (pc' := 22) (lc' := [(0, .ref 0)]) (stk' := [.int (g 0 13 - 1), .ref 0]) (mem' := cx g l a b R) (by intro _ _ _; eq_refl) ?_
    rw [h]
    refine hr_s 7 (pc' := 37) (lc' := [(0, .ref 0)]) (stk' := [.int 1, .ref 67, .ref 15]) (mem' := cx (fm_u g 0 13 1) l a b R) (by intro _ _ _; eq_refl) ?_
    refine hr_ldA (by rfl) (by rfl) (by rfl) (by rfl) ?_
    refine hr_s 0 (pc' := 38) (lc' := [(0, .ref 0)]) (stk' := [.ref 218, .ref 15]) (mem' := cx (fm_u g 0 13 1) l a b R) (by intro _ _ _; eq_refl) ?_
    refine hr_ivV r1 (by omega) (by rfl) (by rfl) (by rfl) (by rfl) (by rfl) (by rfl) ?_
    refine hr_s 7 (pc' := 56) (lc' := [(0, .ref 0)]) (stk' := [.int (g1 0 13), .ref 67, .ref 34]) (mem' := cx g1 l a1 b1 R) (by intro _ _ _; eq_refl) ?_
    rw [e1]
    refine hr_ldA (by rfl) (by rfl) (by rfl) (by rfl) ?_
    refine hr_s 1 (pc' := 60) (lc' := [(0, .ref 0)]) (stk' := [.ref 237, .ref 34]) (mem' := cx g1 l a1 b1 R) (by intro _ _ _; eq_refl) ?_
    refine hr_ivV r2 (by omega) (by rfl) (by rfl) (by rfl) (by rfl) (by rfl) (by rfl) ?_
    refine hr_s 3 (pc' := 68) (lc' := [(0, .ref 0)]) (stk' := [.int (g2 0 13), .ref 0]) (mem' := cx g2 l a2 b2 R) (by intro _ _ _; eq_refl) ?_
    rw [e2]
    refine hr_ivV ha_ansx (by omega) (by rfl) (by rfl) (by rfl) (by rfl) (by rfl) (by rfl) ?_
    exact hr_ret (by rfl) (by rfl) (by rfl)
  · have q := f2 j (by omega)
    exact ⟨(fm_un (by omega)).trans q.1, q.2.1, q.2.2⟩
  · rw [fm_un hj, (f2 j (by omega)).1, (f1 j (by omega)).1, fm_un hj]
  · rw [(f2 j (by omega)).2.1, (f1 j (by omega)).2.1]
  · rw [(f2 j (by omega)).2.2, (f1 j (by omega)).2.2]
set_option maxRecDepth 8000 in
theorem ha_mark2 (h : g 0 13 = 2) (hz : g 34 7 = 0 ∨ g 34 7 = 1) : ∃ (g' a' : Nat → Nat → Int32) (b' : Nat → Nat → Int64), hr_T 3 184 [.ref 0] (cx g l a b R) (some (.int 3)) (cx g' l a' b' R) ∧ g' 0 13 = 3 ∧ g' 263 7 = g 34 7 ∧ cpo 244 15 g a b g' a' b' ∧ ∀ j, j ≠ 0 → ¬ (244 ≤ j ∧ j ≤ 269) → g' j = g j ∧ a' j = a j ∧ b' j = b j := by
  obtain ⟨g1, a1, b1, r1, p1, f1⟩ := hx_lake244_15 (g := g) (l := l) (a := a) (b := b) (R := R)
  obtain ⟨g2, a2, b2, r2, t2, f2⟩ := hx_tal244_15 (g := g1) (l := l) (a := a1) (b := b1) (R := R) (by rw [(f1 34 (by decide)).1]; exact hz)
  have e1 : g1 0 13 = 2 := (congrFun (f1 0 (by decide)).1 13).trans h
  have e2 : g2 0 13 = 2 := (congrFun (f2 0 (by decide)).1 13).trans e1
  refine ⟨fm_u (fm_u g2 0 13 3) 0 0 0, a2, b2, hr_meth (by rfl) (by rfl) ?_, rfl, t2.trans (congrFun (f1 34 (by decide)).1 7), cpo_k p1 (fun j hj => ?_), fun j hj hn => ⟨?_, ?_, ?_⟩⟩
  · refine hr_s 3 (pc' := 5) (lc' := [(0, .ref 0)]) (stk' := [.int 3, .int (g 0 13)]) (mem' := cx g l a b R) (by intro _ _ _; eq_refl) ?_
    rw [h]
    refine hr_s 1 (pc' := 14) (lc' := [(0, .ref 0)]) (stk' := []) (mem' := cx g l a b R) (by intro _ _ _; eq_refl) ?_
    refine hr_s 4 (pc' := 22) (lc' := [(0, .ref 0)]) (stk' := [.int (g 0 13), .ref 67]) (mem' := cx g l a b R) (by intro _ _ _; eq_refl) ?_
    rw [h]
    refine hr_ldA (by rfl) (by rfl) (by rfl) (by rfl) ?_
    refine hr_s 2 (pc' := 27) (lc' := [(0, .ref 0)]) (stk' := [.ref 15, .ref 244]) (mem' := cx g l a b R) (by intro _ _ _; eq_refl) ?_
    refine hr_ivV r1 (by omega) (by rfl) (by rfl) (by rfl) (by rfl) (by rfl) (by rfl) ?_
    refine hr_s 4 (pc' := 38) (lc' := [(0, .ref 0)]) (stk' := [.int (g1 0 13), .ref 67]) (mem' := cx g1 l a1 b1 R) (by intro _ _ _; eq_refl) ?_
    rw [e1]
    refine hr_ldA (by rfl) (by rfl) (by rfl) (by rfl) ?_
    refine hr_s 4 (pc' := 49) (lc' := [(0, .ref 0)]) (stk' := [.ref 34, .ref 263]) (mem' := cx g1 l a1 b1 R) (by intro _ _ _; eq_refl) ?_
    refine hr_ivV r2 (by omega) (by rfl) (by rfl) (by rfl) (by rfl) (by rfl) (by rfl) ?_
    refine hr_s 5 (pc' := 59) (lc' := [(0, .ref 0)]) (stk' := [.int (g2 0 13 + 1), .ref 0]) (mem' := cx g2 l a2 b2 R) (by intro _ _ _; eq_refl) ?_
    rw [e2]
    refine hr_s 4 (pc' := 67) (lc' := [(0, .ref 0)]) (stk' := [.int 3, .ref 0]) (mem' := cx (fm_u g2 0 13 3) l a2 b2 R) (by intro _ _ _; eq_refl) ?_
    refine hr_ivV ha_ansx (by omega) (by rfl) (by rfl) (by rfl) (by rfl) (by rfl) (by rfl) ?_
    exact hr_ret (by rfl) (by rfl) (by rfl)
  · have q := f2 j (by omega)
    exact ⟨(fm_un (by omega)).trans ((fm_un (by omega)).trans q.1), q.2.1, q.2.2⟩
  · rw [fm_un hj, fm_un hj, (f2 j (by omega)).1, (f1 j (by omega)).1]
  · rw [(f2 j (by omega)).2.1, (f1 j (by omega)).2.1]
  · rw [(f2 j (by omega)).2.2, (f1 j (by omega)).2.2]
set_option maxRecDepth 8000 in
theorem ha_undo2 (h : g 0 13 = 3) (hz : g 263 7 = 0 ∨ g 263 7 = 1) : ∃ (g' a' : Nat → Nat → Int32) (b' : Nat → Nat → Int64), hr_T 3 185 [.ref 0] (cx g l a b R) (some (.int 2)) (cx g' l a' b' R) ∧ g' 0 13 = 2 ∧ g' 34 7 = g 263 7 ∧ cpo 15 244 g a b g' a' b' ∧ ∀ j, j ≠ 0 → ¬ (15 ≤ j ∧ j ≤ 40) → g' j = g j ∧ a' j = a j ∧ b' j = b j := by
  obtain ⟨g1, a1, b1, r1, p1, f1⟩ := hx_lake15_244 (g := (fm_u g 0 13 2)) (l := l) (a := a) (b := b) (R := R)
  obtain ⟨g2, a2, b2, r2, t2, f2⟩ := hx_tal15_244 (g := g1) (l := l) (a := a1) (b := b1) (R := R) (by rw [(f1 263 (by decide)).1]; exact hz)
  have e1 : g1 0 13 = 2 := congrFun (f1 0 (by decide)).1 13
  have e2 : g2 0 13 = 2 := (congrFun (f2 0 (by decide)).1 13).trans e1
  refine ⟨fm_u g2 0 0 0, a2, b2, hr_meth (by rfl) (by rfl) ?_, e2, t2.trans (congrFun (f1 263 (by decide)).1 7), cpo_k p1 (fun j hj => ?_), fun j hj hn => ⟨?_, ?_, ?_⟩⟩
  · refine hr_s 3 (pc' := 5) (lc' := [(0, .ref 0)]) (stk' := [.int 1, .int (g 0 13)]) (mem' := cx g l a b R) (by intro _ _ _; eq_refl) ?_
    rw [h]
    refine hr_s 1 (pc' := 15) (lc' := [(0, .ref 0)]) (stk' := []) (mem' := cx g l a b R) (by intro _ _ _; eq_refl) ?_
    refine hr_s 5 (pc' := 22) (lc' := [(0, .ref 0)]) (stk' := [.int (g 0 13 - 1), .ref 0]) (mem' := cx g l a b R) (by intro _ _ _; eq_refl) ?_
    rw [h]
    refine hr_s 7 (pc' := 37) (lc' := [(0, .ref 0)]) (stk' := [.int 2, .ref 67, .ref 15]) (mem' := cx (fm_u g 0 13 2) l a b R) (by intro _ _ _; eq_refl) ?_
    refine hr_ldA (by rfl) (by rfl) (by rfl) (by rfl) ?_
    refine hr_s 0 (pc' := 38) (lc' := [(0, .ref 0)]) (stk' := [.ref 244, .ref 15]) (mem' := cx (fm_u g 0 13 2) l a b R) (by intro _ _ _; eq_refl) ?_
    refine hr_ivV r1 (by omega) (by rfl) (by rfl) (by rfl) (by rfl) (by rfl) (by rfl) ?_
    refine hr_s 7 (pc' := 56) (lc' := [(0, .ref 0)]) (stk' := [.int (g1 0 13), .ref 67, .ref 34]) (mem' := cx g1 l a1 b1 R) (by intro _ _ _; eq_refl) ?_
    rw [e1]
    refine hr_ldA (by rfl) (by rfl) (by rfl) (by rfl) ?_
    refine hr_s 1 (pc' := 60) (lc' := [(0, .ref 0)]) (stk' := [.ref 263, .ref 34]) (mem' := cx g1 l a1 b1 R) (by intro _ _ _; eq_refl) ?_
    refine hr_ivV r2 (by omega) (by rfl) (by rfl) (by rfl) (by rfl) (by rfl) (by rfl) ?_
    refine hr_s 3 (pc' := 68) (lc' := [(0, .ref 0)]) (stk' := [.int (g2 0 13), .ref 0]) (mem' := cx g2 l a2 b2 R) (by intro _ _ _; eq_refl) ?_
    rw [e2]
    refine hr_ivV ha_ansx (by omega) (by rfl) (by rfl) (by rfl) (by rfl) (by rfl) (by rfl) ?_
    exact hr_ret (by rfl) (by rfl) (by rfl)
  · have q := f2 j (by omega)
    exact ⟨(fm_un (by omega)).trans q.1, q.2.1, q.2.2⟩
  · rw [fm_un hj, (f2 j (by omega)).1, (f1 j (by omega)).1, fm_un hj]
  · rw [(f2 j (by omega)).2.1, (f1 j (by omega)).2.1]
  · rw [(f2 j (by omega)).2.2, (f1 j (by omega)).2.2]
set_option maxRecDepth 8000 in
theorem ha_markN (h : g 0 13 = 3) : hr_T 3 184 [.ref 0] (cx g l a b R) (some (.int (-1))) (cx (fm_u g 0 0 4) l a b R) := by
  refine hr_meth (by rfl) (by rfl) ?_
  refine hr_s 3 (pc' := 5) (lc' := [(0, .ref 0)]) (stk' := [.int 3, .int (g 0 13)]) (mem' := cx g l a b R) (by intro _ _ _; eq_refl) ?_
  rw [h]
  refine hr_s 3 (pc' := 10) (lc' := [(0, .ref 0)]) (stk' := [.int 4, .ref 0]) (mem' := cx g l a b R) (by intro _ _ _; eq_refl) ?_
  refine hr_ivV ha_refx (by omega) (by rfl) (by rfl) (by rfl) (by rfl) (by rfl) (by rfl) ?_
  exact hr_ret (by rfl) (by rfl) (by rfl)
set_option maxRecDepth 8000 in
theorem ha_undoN (h : g 0 13 = 0) : hr_T 3 185 [.ref 0] (cx g l a b R) (some (.int (-1))) (cx (fm_u g 0 0 6) l a b R) := by
  refine hr_meth (by rfl) (by rfl) ?_
  refine hr_s 3 (pc' := 5) (lc' := [(0, .ref 0)]) (stk' := [.int 1, .int (g 0 13)]) (mem' := cx g l a b R) (by intro _ _ _; eq_refl) ?_
  rw [h]
  refine hr_s 3 (pc' := 11) (lc' := [(0, .ref 0)]) (stk' := [.int 6, .ref 0]) (mem' := cx g l a b R) (by intro _ _ _; eq_refl) ?_
  refine hr_ivV ha_refx (by omega) (by rfl) (by rfl) (by rfl) (by rfl) (by rfl) (by rfl) ?_
  exact hr_ret (by rfl) (by rfl) (by rfl)
end CPX
