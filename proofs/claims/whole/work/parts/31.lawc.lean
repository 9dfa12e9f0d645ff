/-! the law's cases, each over what class and reference answer (ySimI, ySimL): by program -/
/-- the same world under other names of its places -/
def yNorm (h h' : xH) : Prop := ∀ (D : va_G) (s : State) (α : Nat → Nat) (A : Nat → Prop) (H : Heap), xR D s α A h H → ∃ β : Nat → Nat, (∀ k, 1000 ≤ k → β k = α k) ∧ β 0 = α 0 ∧ xR D s β A h' H ∧ ∀ (j : Nat) (c' : xC), h'[j]? = some c' → xlive c' = true → ∃ (i : Nat) (c : xC), h[i]? = some c ∧ xlive c = true ∧ β j = α i
theorem yNorm.refl (h : xH) : yNorm h h := fun _ _ α _ _ hR => ⟨α, fun _ _ => rfl, rfl, hR, fun j c' h1 h2 => ⟨j, c', h1, h2, rfl⟩⟩
theorem ydis.norm {α β γ : Nat → Nat} {h h' k : xH} (hd : ydis α h γ k) (hn : ∀ (j : Nat) (c' : xC), h'[j]? = some c' → xlive c' = true → ∃ (i : Nat) (c : xC), h[i]? = some c ∧ xlive c = true ∧ β j = α i) : ydis β h' γ k := by
  intro i j c c' h1 h2 l1 l2 e
  obtain ⟨i', c2, h3, h4, e2⟩ := hn i c h1 l1
  exact hd i' j c2 c' h3 h2 h4 l2 (e2.symm.trans e)
/-- class and reference answer alike, with an int, and stay alike -/
def ySimI (Inv : xH → xH → Prop) (YA YB : xY) (as : List Value) : Prop := ∀ hA hB : xH, Inv hA hB → ∃ (v : Int32) (hA1 hB1 hA2 hB2 : xH) (mc ms : Nat), mc ≤ 16 ∧ ms ≤ 164 ∧ xMet xks YA 40 0 0 (.ref 0 :: as) hA (some (.int v)) hA1 ∧ xMet xks YB 40 mc ms (.ref 0 :: as) hB (some (.int v)) hB1 ∧ hA1.length ≤ 1000 ∧ hB1.length ≤ 1000 ∧ yNorm hA1 hA2 ∧ yNorm hB1 hB2 ∧ Inv hA2 hB2
def ySimL (Inv : xH → xH → Prop) (YA YB : xY) (as : List Value) : Prop := ∀ hA hB : xH, Inv hA hB → ∃ (v : Int64) (hA1 hB1 hA2 hB2 : xH) (mc ms : Nat), mc ≤ 16 ∧ ms ≤ 164 ∧ xMet xks YA 40 0 0 (.ref 0 :: as) hA (some (.long v)) hA1 ∧ xMet xks YB 40 mc ms (.ref 0 :: as) hB (some (.long v)) hB1 ∧ hA1.length ≤ 1000 ∧ hB1.length ≤ 1000 ∧ yNorm hA1 hA2 ∧ yNorm hB1 hB2 ∧ Inv hA2 hB2
def yTop (Inv : xH → xH → Prop) : Prop := ∀ hA hB : xH, Inv hA hB → (∃ fs, hA[0]? = some (.inr (7, fs))) ∧ (∃ fs, hB[0]? = some (.inr (9, fs)))
/-- what the law's heap is between two calls -/
def yI (Inv : xH → xH → Prop) (D : va_G) (s : State) (A : Nat → Prop) (x y o : Nat) (H : Heap) : Prop :=
  ∃ (αA αB αO : Nat → Nat) (hA hB : xH) (f : Nat → Int64), Inv hA hB ∧ αA 0 = x ∧ αB 0 = y ∧ αO 0 = o ∧ xR D s αA A hA H ∧ xR D s αB A hB H ∧ xR D s αO A [.inl (1, 1, .inr (.inl f))] H ∧ ydis αA hA αB hB ∧ ydis αA hA αO [.inl (1, 1, .inr (.inl f))] ∧ ydis αB hB αO [.inl (1, 1, .inr (.inl f))] ∧ xSt xks αA A s ∧ xSt xks αB A s
section LAW
variable {p : Program} {l : Launch} {e : Env} {s : State} {m : MethodId} {args : Array Value} {below : List Frame} {meth : Method} {c : Code} {D : va_G} {A : Nat → Prop} {H : Heap} {locs : List Loc} {cells slots : Nat} {Q : State → Prop} {ls : Array Slot} {Inv : xH → xH → Prop} {x y o b L : Nat} {xs : Nat → Int32} {xi : Int32}
theorem y_next {cells slots mc ms : Nat} {αA αB αO : Nat → Nat} {hA1 hB1 hA2 hB2 : xH} {f : Nat → Int64} {H2 : Heap} {locs2 : List Loc} (hmc : mc ≤ 16) (hms : ms ≤ 164) (RA : xR D s αA A hA1 H2) (RB : xR D s αB A hB1 H2) (RO : xR D s αO A [.inl (1, 1, .inr (.inl f))] H2) (dAB : ydis αA hA1 αB hB1) (dAO : ydis αA hA1 αO [.inl (1, 1, .inr (.inl f))]) (dBO : ydis αB hB1 αO [.inl (1, 1, .inr (.inl f))]) (SA : xSt xks αA A s) (SB : xSt xks αB A s) (hS : va_S A s.heap H2 locs2) (NA : yNorm hA1 hA2) (NB : yNorm hB1 hB2) (hI : Inv hA2 hB2)
    (next : ∀ (H1 : Heap) (locs1 : List Loc), yI Inv D s A (αA 0) (αB 0) (αO 0) H1 → va_S A s.heap H1 locs1 → W p l e room_1 s m args below meth c H1 locs1 (cells + 16) (slots + 164) Q (F0 m 1758 ls [])) : W p l e room_1 s m args below meth c H2 locs2 (cells + 0 + mc) (slots + 0 + ms) Q (F0 m 1758 ls []) := by
  obtain ⟨βA, a1, a2, a3, a4⟩ := NA D s αA A H2 RA
  obtain ⟨βB, b1, b2, b3, b4⟩ := NB D s αB A H2 RB
  refine W.widen (k := cells + 16) (n := slots + 164) (by omega) (by omega) ?_
  exact next H2 locs2 ⟨βA, βB, αO, hA2, hB2, f, hI, a2, b2, rfl, a3, b3, RO, ((dAB.norm a4).symm.norm b4).symm, dAO.norm a4, dBO.norm b4, SA.congr a1, SB.congr b1⟩ hS
theorem y_cmp (v : Int64) : lg_cmp v v = 0 := by
  unfold lg_cmp
  simp
def yS_feed (Inv : xH → xH → Prop) : Prop := ∀ v0 v1 v2 v3 v4 : Int32, ySimI Inv YX7_feed YX9_feed [.int v0, .int v1, .int v2, .int v3, .int v4]
set_option maxHeartbeats 4000000 in
set_option maxRecDepth 100000 in
theorem lawc_feed (C : yCx p l s m args meth c D A) (hT : yTop Inv) (hs : yS_feed Inv) (hX : va_X b L xs s s.heap) (hbl : b < s.heap.size) (hbA : ¬ A b) (hin : ∀ j : Int32, 0 ≤ j.toInt → j.toInt < 6 → vp_in (xi + j) L) (hY : yI Inv D s A x y o H) (hS : va_S A s.heap H locs) (hl : lv_has ls 7 [(0, .ref b), (1, .ref x), (2, .ref y), (3, .ref o), (4, .int xi)]) (hrm : cells + 16 ≤ 601024 ∧ slots + 164 ≤ 7293034)
    (next : ∀ (H1 : Heap) (locs1 : List Loc), yI Inv D s A x y o H1 → va_S A s.heap H1 locs1 → W p l e room_1 s m args below meth c H1 locs1 (cells + 16) (slots + 164) Q (F0 m 1758 ls [])) : W p l e room_1 s m args below meth c H locs cells slots Q (F0 m 252 ls []) := by
  have hx := C.1
  have hb := C.2.1
  obtain ⟨αA, αB, αO, hA, hB, f, hI, eA, eB, eO, RA, RB, RO, dAB, dAO, dBO, SA, SB⟩ := hY
  subst eA
  subst eB
  subst eO
  obtain ⟨⟨fsA, hA0⟩, ⟨fsB, hB0⟩⟩ := hT hA hB hI
  obtain ⟨v, hA1, hB1, hA2, hB2, mc, ms, hmc, hms, MA, MB, hlA, hlB, NA, NB, hI2⟩ := hs (xs (xi + 1).toNatClampNeg) (xs (xi + 2).toNatClampNeg) (xs (xi + 3).toNatClampNeg) (xs (xi + 4).toNatClampNeg) (xs (xi + 5).toNatClampNeg) hA hB hI
  refine lv_aload_n hx hb dL_law_252 rfl (lv_at hl 1 rfl) ?_
  refine lv_aload_n hx hb dL_law_253 rfl (lv_at hl 0 rfl) ?_
  refine lv_iload hx hb dL_law_254 (lv_at hl 4 rfl) ?_
  refine lv_iconst (v := 1) hx hb dL_law_256 (by decide) ?_
  refine lv_iadd hx hb dL_law_257 ?_
  refine va_sld hx hb hX hbl hbA hS (hin 1 (by decide) (by decide)) dL_law_258 ?_
  refine lv_aload_n hx hb dL_law_259 rfl (lv_at hl 0 rfl) ?_
  refine lv_iload hx hb dL_law_260 (lv_at hl 4 rfl) ?_
  refine lv_iconst (v := 2) hx hb dL_law_262 (by decide) ?_
  refine lv_iadd hx hb dL_law_263 ?_
  refine va_sld hx hb hX hbl hbA hS (hin 2 (by decide) (by decide)) dL_law_264 ?_
  refine lv_aload_n hx hb dL_law_265 rfl (lv_at hl 0 rfl) ?_
  refine lv_iload hx hb dL_law_266 (lv_at hl 4 rfl) ?_
  refine lv_iconst (v := 3) hx hb dL_law_268 (by decide) ?_
  refine lv_iadd hx hb dL_law_269 ?_
  refine va_sld hx hb hX hbl hbA hS (hin 3 (by decide) (by decide)) dL_law_270 ?_
  refine lv_aload_n hx hb dL_law_271 rfl (lv_at hl 0 rfl) ?_
  refine lv_iload hx hb dL_law_272 (lv_at hl 4 rfl) ?_
  refine lv_iconst (v := 4) hx hb dL_law_274 (by decide) ?_
  refine lv_iadd hx hb dL_law_275 ?_
  refine va_sld hx hb hX hbl hbA hS (hin 4 (by decide) (by decide)) dL_law_276 ?_
  refine lv_aload_n hx hb dL_law_277 rfl (lv_at hl 0 rfl) ?_
  refine lv_iload hx hb dL_law_278 (lv_at hl 4 rfl) ?_
  refine lv_iconst (v := 5) hx hb dL_law_280 (by decide) ?_
  refine lv_iadd hx hb dL_law_281 ?_
  refine va_sld hx hb hX hbl hbA hS (hin 5 (by decide) (by decide)) dL_law_282 ?_
  refine y_call (d := 40) (h2 := hB) (α2 := αB) (h3 := [.inl (1, 1, .inr (.inl f))]) (α3 := αO) C SA MA kL_19 dL_law_283 hA0 rfl rfl rfl rfl rfl (Nat.le_of_ble_eq_true rfl) hl.1 (by decide) (by omega) hlA RA RB RO dAB dAO hS (fun βA H1 locs1 hE1 RA1 RB1 RO1 dAB1 dAO1 SA1 hS1 => ?_)
  have eβ : βA 0 = αA 0 := hE1.2 0 (Or.inl (List.getElem?_eq_some_iff.mp hA0).1)
  refine lv_aload_n hx hb dL_law_286 rfl (lv_at hl 2 rfl) ?_
  refine lv_aload_n hx hb dL_law_287 rfl (lv_at hl 0 rfl) ?_
  refine lv_iload hx hb dL_law_288 (lv_at hl 4 rfl) ?_
  refine lv_iconst (v := 1) hx hb dL_law_290 (by decide) ?_
  refine lv_iadd hx hb dL_law_291 ?_
  refine va_sld hx hb hX hbl hbA hS1 (hin 1 (by decide) (by decide)) dL_law_292 ?_
  refine lv_aload_n hx hb dL_law_293 rfl (lv_at hl 0 rfl) ?_
  refine lv_iload hx hb dL_law_294 (lv_at hl 4 rfl) ?_
  refine lv_iconst (v := 2) hx hb dL_law_296 (by decide) ?_
  refine lv_iadd hx hb dL_law_297 ?_
  refine va_sld hx hb hX hbl hbA hS1 (hin 2 (by decide) (by decide)) dL_law_298 ?_
  refine lv_aload_n hx hb dL_law_299 rfl (lv_at hl 0 rfl) ?_
  refine lv_iload hx hb dL_law_300 (lv_at hl 4 rfl) ?_
  refine lv_iconst (v := 3) hx hb dL_law_302 (by decide) ?_
  refine lv_iadd hx hb dL_law_303 ?_
  refine va_sld hx hb hX hbl hbA hS1 (hin 3 (by decide) (by decide)) dL_law_304 ?_
  refine lv_aload_n hx hb dL_law_305 rfl (lv_at hl 0 rfl) ?_
  refine lv_iload hx hb dL_law_306 (lv_at hl 4 rfl) ?_
  refine lv_iconst (v := 4) hx hb dL_law_308 (by decide) ?_
  refine lv_iadd hx hb dL_law_309 ?_
  refine va_sld hx hb hX hbl hbA hS1 (hin 4 (by decide) (by decide)) dL_law_310 ?_
  refine lv_aload_n hx hb dL_law_311 rfl (lv_at hl 0 rfl) ?_
  refine lv_iload hx hb dL_law_312 (lv_at hl 4 rfl) ?_
  refine lv_iconst (v := 5) hx hb dL_law_314 (by decide) ?_
  refine lv_iadd hx hb dL_law_315 ?_
  refine va_sld hx hb hX hbl hbA hS1 (hin 5 (by decide) (by decide)) dL_law_316 ?_
  refine y_call (d := 40) (h2 := hA1) (α2 := βA) (h3 := [.inl (1, 1, .inr (.inl f))]) (α3 := αO) C SB MB kL_23 dL_law_317 hB0 rfl rfl rfl rfl rfl (Nat.le_of_ble_eq_true rfl) hl.1 (by decide) (by omega) hlB RB1 RA1 RO1 dAB1.symm dBO hS1 (fun βB H2 locs2 hE2 RB2 RA2 RO2 dAB2 dBO2 SB2 hS2 => ?_)
  have eβ2 : βB 0 = αB 0 := hE2.2 0 (Or.inl (List.getElem?_eq_some_iff.mp hB0).1)
  refine lv_icmp_eq (tgt := 1758) hx hb dL_law_320 (by decide) (fun _ => ?_) (fun z => absurd rfl z)
  exact y_next hmc hms RA2 RB2 RO2 dAB2.symm dAO1 dBO2 SA1 SB2 hS2 NA NB hI2 (fun H3 locs3 hY3 hS3 => next H3 locs3 (by rw [eβ, eβ2] at hY3; exact hY3) hS3)
def yS_county (Inv : xH → xH → Prop) : Prop := ∀ v0 : Int32, ySimI Inv YX7_county YX9_county [.int v0]
set_option maxHeartbeats 4000000 in
set_option maxRecDepth 100000 in
theorem lawc_county (C : yCx p l s m args meth c D A) (hT : yTop Inv) (hs : yS_county Inv) (hX : va_X b L xs s s.heap) (hbl : b < s.heap.size) (hbA : ¬ A b) (hin : ∀ j : Int32, 0 ≤ j.toInt → j.toInt < 6 → vp_in (xi + j) L) (hY : yI Inv D s A x y o H) (hS : va_S A s.heap H locs) (hl : lv_has ls 7 [(0, .ref b), (1, .ref x), (2, .ref y), (3, .ref o), (4, .int xi)]) (hrm : cells + 16 ≤ 601024 ∧ slots + 164 ≤ 7293034)
    (next : ∀ (H1 : Heap) (locs1 : List Loc), yI Inv D s A x y o H1 → va_S A s.heap H1 locs1 → W p l e room_1 s m args below meth c H1 locs1 (cells + 16) (slots + 164) Q (F0 m 1758 ls [])) : W p l e room_1 s m args below meth c H locs cells slots Q (F0 m 325 ls []) := by
  have hx := C.1
  have hb := C.2.1
  obtain ⟨αA, αB, αO, hA, hB, f, hI, eA, eB, eO, RA, RB, RO, dAB, dAO, dBO, SA, SB⟩ := hY
  subst eA
  subst eB
  subst eO
  obtain ⟨⟨fsA, hA0⟩, ⟨fsB, hB0⟩⟩ := hT hA hB hI
  obtain ⟨v, hA1, hB1, hA2, hB2, mc, ms, hmc, hms, MA, MB, hlA, hlB, NA, NB, hI2⟩ := hs (xs (xi + 1).toNatClampNeg) hA hB hI
  refine lv_aload_n hx hb dL_law_325 rfl (lv_at hl 1 rfl) ?_
  refine lv_aload_n hx hb dL_law_326 rfl (lv_at hl 0 rfl) ?_
  refine lv_iload hx hb dL_law_327 (lv_at hl 4 rfl) ?_
  refine lv_iconst (v := 1) hx hb dL_law_329 (by decide) ?_
  refine lv_iadd hx hb dL_law_330 ?_
  refine va_sld hx hb hX hbl hbA hS (hin 1 (by decide) (by decide)) dL_law_331 ?_
  refine y_call (d := 40) (h2 := hB) (α2 := αB) (h3 := [.inl (1, 1, .inr (.inl f))]) (α3 := αO) C SA MA kL_24 dL_law_332 hA0 rfl rfl rfl rfl rfl (Nat.le_of_ble_eq_true rfl) hl.1 (by decide) (by omega) hlA RA RB RO dAB dAO hS (fun βA H1 locs1 hE1 RA1 RB1 RO1 dAB1 dAO1 SA1 hS1 => ?_)
  have eβ : βA 0 = αA 0 := hE1.2 0 (Or.inl (List.getElem?_eq_some_iff.mp hA0).1)
  refine lv_aload_n hx hb dL_law_335 rfl (lv_at hl 2 rfl) ?_
  refine lv_aload_n hx hb dL_law_336 rfl (lv_at hl 0 rfl) ?_
  refine lv_iload hx hb dL_law_337 (lv_at hl 4 rfl) ?_
  refine lv_iconst (v := 1) hx hb dL_law_339 (by decide) ?_
  refine lv_iadd hx hb dL_law_340 ?_
  refine va_sld hx hb hX hbl hbA hS1 (hin 1 (by decide) (by decide)) dL_law_341 ?_
  refine y_call (d := 40) (h2 := hA1) (α2 := βA) (h3 := [.inl (1, 1, .inr (.inl f))]) (α3 := αO) C SB MB kL_27 dL_law_342 hB0 rfl rfl rfl rfl rfl (Nat.le_of_ble_eq_true rfl) hl.1 (by decide) (by omega) hlB RB1 RA1 RO1 dAB1.symm dBO hS1 (fun βB H2 locs2 hE2 RB2 RA2 RO2 dAB2 dBO2 SB2 hS2 => ?_)
  have eβ2 : βB 0 = αB 0 := hE2.2 0 (Or.inl (List.getElem?_eq_some_iff.mp hB0).1)
  refine lv_icmp_eq (tgt := 1758) hx hb dL_law_345 (by decide) (fun _ => ?_) (fun z => absurd rfl z)
  exact y_next hmc hms RA2 RB2 RO2 dAB2.symm dAO1 dBO2 SA1 SB2 hS2 NA NB hI2 (fun H3 locs3 hY3 hS3 => next H3 locs3 (by rw [eβ, eβ2] at hY3; exact hY3) hS3)
def yS_fault (Inv : xH → xH → Prop) : Prop := ySimI Inv YX7_fault YX9_fault []
set_option maxHeartbeats 4000000 in
set_option maxRecDepth 100000 in
theorem lawc_fault (C : yCx p l s m args meth c D A) (hT : yTop Inv) (hs : yS_fault Inv) (hX : va_X b L xs s s.heap) (hbl : b < s.heap.size) (hbA : ¬ A b) (hin : ∀ j : Int32, 0 ≤ j.toInt → j.toInt < 6 → vp_in (xi + j) L) (hY : yI Inv D s A x y o H) (hS : va_S A s.heap H locs) (hl : lv_has ls 7 [(0, .ref b), (1, .ref x), (2, .ref y), (3, .ref o), (4, .int xi)]) (hrm : cells + 16 ≤ 601024 ∧ slots + 164 ≤ 7293034)
    (next : ∀ (H1 : Heap) (locs1 : List Loc), yI Inv D s A x y o H1 → va_S A s.heap H1 locs1 → W p l e room_1 s m args below meth c H1 locs1 (cells + 16) (slots + 164) Q (F0 m 1758 ls [])) : W p l e room_1 s m args below meth c H locs cells slots Q (F0 m 350 ls []) := by
  have hx := C.1
  have hb := C.2.1
  obtain ⟨αA, αB, αO, hA, hB, f, hI, eA, eB, eO, RA, RB, RO, dAB, dAO, dBO, SA, SB⟩ := hY
  subst eA
  subst eB
  subst eO
  obtain ⟨⟨fsA, hA0⟩, ⟨fsB, hB0⟩⟩ := hT hA hB hI
  obtain ⟨v, hA1, hB1, hA2, hB2, mc, ms, hmc, hms, MA, MB, hlA, hlB, NA, NB, hI2⟩ := hs hA hB hI
  refine lv_aload_n hx hb dL_law_350 rfl (lv_at hl 1 rfl) ?_
  refine y_call (d := 40) (h2 := hB) (α2 := αB) (h3 := [.inl (1, 1, .inr (.inl f))]) (α3 := αO) C SA MA kL_28 dL_law_351 hA0 rfl rfl rfl rfl rfl (Nat.le_of_ble_eq_true rfl) hl.1 (by decide) (by omega) hlA RA RB RO dAB dAO hS (fun βA H1 locs1 hE1 RA1 RB1 RO1 dAB1 dAO1 SA1 hS1 => ?_)
  have eβ : βA 0 = αA 0 := hE1.2 0 (Or.inl (List.getElem?_eq_some_iff.mp hA0).1)
  refine lv_aload_n hx hb dL_law_354 rfl (lv_at hl 2 rfl) ?_
  refine y_call (d := 40) (h2 := hA1) (α2 := βA) (h3 := [.inl (1, 1, .inr (.inl f))]) (α3 := αO) C SB MB kL_32 dL_law_355 hB0 rfl rfl rfl rfl rfl (Nat.le_of_ble_eq_true rfl) hl.1 (by decide) (by omega) hlB RB1 RA1 RO1 dAB1.symm dBO hS1 (fun βB H2 locs2 hE2 RB2 RA2 RO2 dAB2 dBO2 SB2 hS2 => ?_)
  have eβ2 : βB 0 = αB 0 := hE2.2 0 (Or.inl (List.getElem?_eq_some_iff.mp hB0).1)
  refine lv_icmp_eq (tgt := 1758) hx hb dL_law_358 (by decide) (fun _ => ?_) (fun z => absurd rfl z)
  exact y_next hmc hms RA2 RB2 RO2 dAB2.symm dAO1 dBO2 SA1 SB2 hS2 NA NB hI2 (fun H3 locs3 hY3 hS3 => next H3 locs3 (by rw [eβ, eβ2] at hY3; exact hY3) hS3)
def yS_where (Inv : xH → xH → Prop) : Prop := ySimI Inv YX7_where YX9_where []
set_option maxHeartbeats 4000000 in
set_option maxRecDepth 100000 in
theorem lawc_where (C : yCx p l s m args meth c D A) (hT : yTop Inv) (hs : yS_where Inv) (hX : va_X b L xs s s.heap) (hbl : b < s.heap.size) (hbA : ¬ A b) (hin : ∀ j : Int32, 0 ≤ j.toInt → j.toInt < 6 → vp_in (xi + j) L) (hY : yI Inv D s A x y o H) (hS : va_S A s.heap H locs) (hl : lv_has ls 7 [(0, .ref b), (1, .ref x), (2, .ref y), (3, .ref o), (4, .int xi)]) (hrm : cells + 16 ≤ 601024 ∧ slots + 164 ≤ 7293034)
    (next : ∀ (H1 : Heap) (locs1 : List Loc), yI Inv D s A x y o H1 → va_S A s.heap H1 locs1 → W p l e room_1 s m args below meth c H1 locs1 (cells + 16) (slots + 164) Q (F0 m 1758 ls [])) : W p l e room_1 s m args below meth c H locs cells slots Q (F0 m 363 ls []) := by
  have hx := C.1
  have hb := C.2.1
  obtain ⟨αA, αB, αO, hA, hB, f, hI, eA, eB, eO, RA, RB, RO, dAB, dAO, dBO, SA, SB⟩ := hY
  subst eA
  subst eB
  subst eO
  obtain ⟨⟨fsA, hA0⟩, ⟨fsB, hB0⟩⟩ := hT hA hB hI
  obtain ⟨v, hA1, hB1, hA2, hB2, mc, ms, hmc, hms, MA, MB, hlA, hlB, NA, NB, hI2⟩ := hs hA hB hI
  refine lv_aload_n hx hb dL_law_363 rfl (lv_at hl 1 rfl) ?_
  refine y_call (d := 40) (h2 := hB) (α2 := αB) (h3 := [.inl (1, 1, .inr (.inl f))]) (α3 := αO) C SA MA kL_33 dL_law_364 hA0 rfl rfl rfl rfl rfl (Nat.le_of_ble_eq_true rfl) hl.1 (by decide) (by omega) hlA RA RB RO dAB dAO hS (fun βA H1 locs1 hE1 RA1 RB1 RO1 dAB1 dAO1 SA1 hS1 => ?_)
  have eβ : βA 0 = αA 0 := hE1.2 0 (Or.inl (List.getElem?_eq_some_iff.mp hA0).1)
  refine lv_aload_n hx hb dL_law_367 rfl (lv_at hl 2 rfl) ?_
  refine y_call (d := 40) (h2 := hA1) (α2 := βA) (h3 := [.inl (1, 1, .inr (.inl f))]) (α3 := αO) C SB MB kL_36 dL_law_368 hB0 rfl rfl rfl rfl rfl (Nat.le_of_ble_eq_true rfl) hl.1 (by decide) (by omega) hlB RB1 RA1 RO1 dAB1.symm dBO hS1 (fun βB H2 locs2 hE2 RB2 RA2 RO2 dAB2 dBO2 SB2 hS2 => ?_)
  have eβ2 : βB 0 = αB 0 := hE2.2 0 (Or.inl (List.getElem?_eq_some_iff.mp hB0).1)
  refine lv_icmp_eq (tgt := 1758) hx hb dL_law_371 (by decide) (fun _ => ?_) (fun z => absurd rfl z)
  exact y_next hmc hms RA2 RB2 RO2 dAB2.symm dAO1 dBO2 SA1 SB2 hS2 NA NB hI2 (fun H3 locs3 hY3 hS3 => next H3 locs3 (by rw [eβ, eβ2] at hY3; exact hY3) hS3)
def yS_umbrella (Inv : xH → xH → Prop) : Prop := ∀ v0 v1 : Int32, ySimI Inv YX7_umbrella YX9_umbrella [.int v0, .int v1]
set_option maxHeartbeats 4000000 in
set_option maxRecDepth 100000 in
theorem lawc_umbrella (C : yCx p l s m args meth c D A) (hT : yTop Inv) (hs : yS_umbrella Inv) (hX : va_X b L xs s s.heap) (hbl : b < s.heap.size) (hbA : ¬ A b) (hin : ∀ j : Int32, 0 ≤ j.toInt → j.toInt < 6 → vp_in (xi + j) L) (hY : yI Inv D s A x y o H) (hS : va_S A s.heap H locs) (hl : lv_has ls 7 [(0, .ref b), (1, .ref x), (2, .ref y), (3, .ref o), (4, .int xi)]) (hrm : cells + 16 ≤ 601024 ∧ slots + 164 ≤ 7293034)
    (next : ∀ (H1 : Heap) (locs1 : List Loc), yI Inv D s A x y o H1 → va_S A s.heap H1 locs1 → W p l e room_1 s m args below meth c H1 locs1 (cells + 16) (slots + 164) Q (F0 m 1758 ls [])) : W p l e room_1 s m args below meth c H locs cells slots Q (F0 m 376 ls []) := by
  have hx := C.1
  have hb := C.2.1
  obtain ⟨αA, αB, αO, hA, hB, f, hI, eA, eB, eO, RA, RB, RO, dAB, dAO, dBO, SA, SB⟩ := hY
  subst eA
  subst eB
  subst eO
  obtain ⟨⟨fsA, hA0⟩, ⟨fsB, hB0⟩⟩ := hT hA hB hI
  obtain ⟨v, hA1, hB1, hA2, hB2, mc, ms, hmc, hms, MA, MB, hlA, hlB, NA, NB, hI2⟩ := hs (xs (xi + 1).toNatClampNeg) (xs (xi + 2).toNatClampNeg) hA hB hI
  refine lv_aload_n hx hb dL_law_376 rfl (lv_at hl 1 rfl) ?_
  refine lv_aload_n hx hb dL_law_377 rfl (lv_at hl 0 rfl) ?_
  refine lv_iload hx hb dL_law_378 (lv_at hl 4 rfl) ?_
  refine lv_iconst (v := 1) hx hb dL_law_380 (by decide) ?_
  refine lv_iadd hx hb dL_law_381 ?_
  refine va_sld hx hb hX hbl hbA hS (hin 1 (by decide) (by decide)) dL_law_382 ?_
  refine lv_aload_n hx hb dL_law_383 rfl (lv_at hl 0 rfl) ?_
  refine lv_iload hx hb dL_law_384 (lv_at hl 4 rfl) ?_
  refine lv_iconst (v := 2) hx hb dL_law_386 (by decide) ?_
  refine lv_iadd hx hb dL_law_387 ?_
  refine va_sld hx hb hX hbl hbA hS (hin 2 (by decide) (by decide)) dL_law_388 ?_
  refine y_call (d := 40) (h2 := hB) (α2 := αB) (h3 := [.inl (1, 1, .inr (.inl f))]) (α3 := αO) C SA MA kL_37 dL_law_389 hA0 rfl rfl rfl rfl rfl (Nat.le_of_ble_eq_true rfl) hl.1 (by decide) (by omega) hlA RA RB RO dAB dAO hS (fun βA H1 locs1 hE1 RA1 RB1 RO1 dAB1 dAO1 SA1 hS1 => ?_)
  have eβ : βA 0 = αA 0 := hE1.2 0 (Or.inl (List.getElem?_eq_some_iff.mp hA0).1)
  refine lv_aload_n hx hb dL_law_392 rfl (lv_at hl 2 rfl) ?_
  refine lv_aload_n hx hb dL_law_393 rfl (lv_at hl 0 rfl) ?_
  refine lv_iload hx hb dL_law_394 (lv_at hl 4 rfl) ?_
  refine lv_iconst (v := 1) hx hb dL_law_396 (by decide) ?_
  refine lv_iadd hx hb dL_law_397 ?_
  refine va_sld hx hb hX hbl hbA hS1 (hin 1 (by decide) (by decide)) dL_law_398 ?_
  refine lv_aload_n hx hb dL_law_399 rfl (lv_at hl 0 rfl) ?_
  refine lv_iload hx hb dL_law_400 (lv_at hl 4 rfl) ?_
  refine lv_iconst (v := 2) hx hb dL_law_402 (by decide) ?_
  refine lv_iadd hx hb dL_law_403 ?_
  refine va_sld hx hb hX hbl hbA hS1 (hin 2 (by decide) (by decide)) dL_law_404 ?_
  refine y_call (d := 40) (h2 := hA1) (α2 := βA) (h3 := [.inl (1, 1, .inr (.inl f))]) (α3 := αO) C SB MB kL_41 dL_law_405 hB0 rfl rfl rfl rfl rfl (Nat.le_of_ble_eq_true rfl) hl.1 (by decide) (by omega) hlB RB1 RA1 RO1 dAB1.symm dBO hS1 (fun βB H2 locs2 hE2 RB2 RA2 RO2 dAB2 dBO2 SB2 hS2 => ?_)
  have eβ2 : βB 0 = αB 0 := hE2.2 0 (Or.inl (List.getElem?_eq_some_iff.mp hB0).1)
  refine lv_icmp_eq (tgt := 1758) hx hb dL_law_408 (by decide) (fun _ => ?_) (fun z => absurd rfl z)
  exact y_next hmc hms RA2 RB2 RO2 dAB2.symm dAO1 dBO2 SA1 SB2 hS2 NA NB hI2 (fun H3 locs3 hY3 hS3 => next H3 locs3 (by rw [eβ, eβ2] at hY3; exact hY3) hS3)
def yS_person (Inv : xH → xH → Prop) : Prop := ∀ v0 v1 : Int32, ySimI Inv YX7_person YX9_person [.int v0, .int v1]
set_option maxHeartbeats 4000000 in
set_option maxRecDepth 100000 in
theorem lawc_person (C : yCx p l s m args meth c D A) (hT : yTop Inv) (hs : yS_person Inv) (hX : va_X b L xs s s.heap) (hbl : b < s.heap.size) (hbA : ¬ A b) (hin : ∀ j : Int32, 0 ≤ j.toInt → j.toInt < 6 → vp_in (xi + j) L) (hY : yI Inv D s A x y o H) (hS : va_S A s.heap H locs) (hl : lv_has ls 7 [(0, .ref b), (1, .ref x), (2, .ref y), (3, .ref o), (4, .int xi)]) (hrm : cells + 16 ≤ 601024 ∧ slots + 164 ≤ 7293034)
    (next : ∀ (H1 : Heap) (locs1 : List Loc), yI Inv D s A x y o H1 → va_S A s.heap H1 locs1 → W p l e room_1 s m args below meth c H1 locs1 (cells + 16) (slots + 164) Q (F0 m 1758 ls [])) : W p l e room_1 s m args below meth c H locs cells slots Q (F0 m 413 ls []) := by
  have hx := C.1
  have hb := C.2.1
  obtain ⟨αA, αB, αO, hA, hB, f, hI, eA, eB, eO, RA, RB, RO, dAB, dAO, dBO, SA, SB⟩ := hY
  subst eA
  subst eB
  subst eO
  obtain ⟨⟨fsA, hA0⟩, ⟨fsB, hB0⟩⟩ := hT hA hB hI
  obtain ⟨v, hA1, hB1, hA2, hB2, mc, ms, hmc, hms, MA, MB, hlA, hlB, NA, NB, hI2⟩ := hs (xs (xi + 1).toNatClampNeg) (xs (xi + 2).toNatClampNeg) hA hB hI
  refine lv_aload_n hx hb dL_law_413 rfl (lv_at hl 1 rfl) ?_
  refine lv_aload_n hx hb dL_law_414 rfl (lv_at hl 0 rfl) ?_
  refine lv_iload hx hb dL_law_415 (lv_at hl 4 rfl) ?_
  refine lv_iconst (v := 1) hx hb dL_law_417 (by decide) ?_
  refine lv_iadd hx hb dL_law_418 ?_
  refine va_sld hx hb hX hbl hbA hS (hin 1 (by decide) (by decide)) dL_law_419 ?_
  refine lv_aload_n hx hb dL_law_420 rfl (lv_at hl 0 rfl) ?_
  refine lv_iload hx hb dL_law_421 (lv_at hl 4 rfl) ?_
  refine lv_iconst (v := 2) hx hb dL_law_423 (by decide) ?_
  refine lv_iadd hx hb dL_law_424 ?_
  refine va_sld hx hb hX hbl hbA hS (hin 2 (by decide) (by decide)) dL_law_425 ?_
  refine y_call (d := 40) (h2 := hB) (α2 := αB) (h3 := [.inl (1, 1, .inr (.inl f))]) (α3 := αO) C SA MA kL_42 dL_law_426 hA0 rfl rfl rfl rfl rfl (Nat.le_of_ble_eq_true rfl) hl.1 (by decide) (by omega) hlA RA RB RO dAB dAO hS (fun βA H1 locs1 hE1 RA1 RB1 RO1 dAB1 dAO1 SA1 hS1 => ?_)
  have eβ : βA 0 = αA 0 := hE1.2 0 (Or.inl (List.getElem?_eq_some_iff.mp hA0).1)
  refine lv_aload_n hx hb dL_law_429 rfl (lv_at hl 2 rfl) ?_
  refine lv_aload_n hx hb dL_law_430 rfl (lv_at hl 0 rfl) ?_
  refine lv_iload hx hb dL_law_431 (lv_at hl 4 rfl) ?_
  refine lv_iconst (v := 1) hx hb dL_law_433 (by decide) ?_
  refine lv_iadd hx hb dL_law_434 ?_
  refine va_sld hx hb hX hbl hbA hS1 (hin 1 (by decide) (by decide)) dL_law_435 ?_
  refine lv_aload_n hx hb dL_law_436 rfl (lv_at hl 0 rfl) ?_
  refine lv_iload hx hb dL_law_437 (lv_at hl 4 rfl) ?_
  refine lv_iconst (v := 2) hx hb dL_law_439 (by decide) ?_
  refine lv_iadd hx hb dL_law_440 ?_
  refine va_sld hx hb hX hbl hbA hS1 (hin 2 (by decide) (by decide)) dL_law_441 ?_
  refine y_call (d := 40) (h2 := hA1) (α2 := βA) (h3 := [.inl (1, 1, .inr (.inl f))]) (α3 := αO) C SB MB kL_45 dL_law_442 hB0 rfl rfl rfl rfl rfl (Nat.le_of_ble_eq_true rfl) hl.1 (by decide) (by omega) hlB RB1 RA1 RO1 dAB1.symm dBO hS1 (fun βB H2 locs2 hE2 RB2 RA2 RO2 dAB2 dBO2 SB2 hS2 => ?_)
  have eβ2 : βB 0 = αB 0 := hE2.2 0 (Or.inl (List.getElem?_eq_some_iff.mp hB0).1)
  refine lv_icmp_eq (tgt := 1758) hx hb dL_law_445 (by decide) (fun _ => ?_) (fun z => absurd rfl z)
  exact y_next hmc hms RA2 RB2 RO2 dAB2.symm dAO1 dBO2 SA1 SB2 hS2 NA NB hI2 (fun H3 locs3 hY3 hS3 => next H3 locs3 (by rw [eβ, eβ2] at hY3; exact hY3) hS3)
def yS_alike (Inv : xH → xH → Prop) : Prop := ∀ v0 : Int32, ySimI Inv YX7_alike YX9_alike [.int v0]
set_option maxHeartbeats 4000000 in
set_option maxRecDepth 100000 in
theorem lawc_alike (C : yCx p l s m args meth c D A) (hT : yTop Inv) (hs : yS_alike Inv) (hX : va_X b L xs s s.heap) (hbl : b < s.heap.size) (hbA : ¬ A b) (hin : ∀ j : Int32, 0 ≤ j.toInt → j.toInt < 6 → vp_in (xi + j) L) (hY : yI Inv D s A x y o H) (hS : va_S A s.heap H locs) (hl : lv_has ls 7 [(0, .ref b), (1, .ref x), (2, .ref y), (3, .ref o), (4, .int xi)]) (hrm : cells + 16 ≤ 601024 ∧ slots + 164 ≤ 7293034)
    (next : ∀ (H1 : Heap) (locs1 : List Loc), yI Inv D s A x y o H1 → va_S A s.heap H1 locs1 → W p l e room_1 s m args below meth c H1 locs1 (cells + 16) (slots + 164) Q (F0 m 1758 ls [])) : W p l e room_1 s m args below meth c H locs cells slots Q (F0 m 450 ls []) := by
  have hx := C.1
  have hb := C.2.1
  obtain ⟨αA, αB, αO, hA, hB, f, hI, eA, eB, eO, RA, RB, RO, dAB, dAO, dBO, SA, SB⟩ := hY
  subst eA
  subst eB
  subst eO
  obtain ⟨⟨fsA, hA0⟩, ⟨fsB, hB0⟩⟩ := hT hA hB hI
  obtain ⟨v, hA1, hB1, hA2, hB2, mc, ms, hmc, hms, MA, MB, hlA, hlB, NA, NB, hI2⟩ := hs (xs (xi + 1).toNatClampNeg) hA hB hI
  refine lv_aload_n hx hb dL_law_450 rfl (lv_at hl 1 rfl) ?_
  refine lv_aload_n hx hb dL_law_451 rfl (lv_at hl 0 rfl) ?_
  refine lv_iload hx hb dL_law_452 (lv_at hl 4 rfl) ?_
  refine lv_iconst (v := 1) hx hb dL_law_454 (by decide) ?_
  refine lv_iadd hx hb dL_law_455 ?_
  refine va_sld hx hb hX hbl hbA hS (hin 1 (by decide) (by decide)) dL_law_456 ?_
  refine y_call (d := 40) (h2 := hB) (α2 := αB) (h3 := [.inl (1, 1, .inr (.inl f))]) (α3 := αO) C SA MA kL_46 dL_law_457 hA0 rfl rfl rfl rfl rfl (Nat.le_of_ble_eq_true rfl) hl.1 (by decide) (by omega) hlA RA RB RO dAB dAO hS (fun βA H1 locs1 hE1 RA1 RB1 RO1 dAB1 dAO1 SA1 hS1 => ?_)
  have eβ : βA 0 = αA 0 := hE1.2 0 (Or.inl (List.getElem?_eq_some_iff.mp hA0).1)
  refine lv_aload_n hx hb dL_law_460 rfl (lv_at hl 2 rfl) ?_
  refine lv_aload_n hx hb dL_law_461 rfl (lv_at hl 0 rfl) ?_
  refine lv_iload hx hb dL_law_462 (lv_at hl 4 rfl) ?_
  refine lv_iconst (v := 1) hx hb dL_law_464 (by decide) ?_
  refine lv_iadd hx hb dL_law_465 ?_
  refine va_sld hx hb hX hbl hbA hS1 (hin 1 (by decide) (by decide)) dL_law_466 ?_
  refine y_call (d := 40) (h2 := hA1) (α2 := βA) (h3 := [.inl (1, 1, .inr (.inl f))]) (α3 := αO) C SB MB kL_49 dL_law_467 hB0 rfl rfl rfl rfl rfl (Nat.le_of_ble_eq_true rfl) hl.1 (by decide) (by omega) hlB RB1 RA1 RO1 dAB1.symm dBO hS1 (fun βB H2 locs2 hE2 RB2 RA2 RO2 dAB2 dBO2 SB2 hS2 => ?_)
  have eβ2 : βB 0 = αB 0 := hE2.2 0 (Or.inl (List.getElem?_eq_some_iff.mp hB0).1)
  refine lv_icmp_eq (tgt := 1758) hx hb dL_law_470 (by decide) (fun _ => ?_) (fun z => absurd rfl z)
  exact y_next hmc hms RA2 RB2 RO2 dAB2.symm dAO1 dBO2 SA1 SB2 hS2 NA NB hI2 (fun H3 locs3 hY3 hS3 => next H3 locs3 (by rw [eβ, eβ2] at hY3; exact hY3) hS3)
def yS_right (Inv : xH → xH → Prop) : Prop := ySimI Inv YX7_right YX9_right []
set_option maxHeartbeats 4000000 in
set_option maxRecDepth 100000 in
theorem lawc_right (C : yCx p l s m args meth c D A) (hT : yTop Inv) (hs : yS_right Inv) (hX : va_X b L xs s s.heap) (hbl : b < s.heap.size) (hbA : ¬ A b) (hin : ∀ j : Int32, 0 ≤ j.toInt → j.toInt < 6 → vp_in (xi + j) L) (hY : yI Inv D s A x y o H) (hS : va_S A s.heap H locs) (hl : lv_has ls 7 [(0, .ref b), (1, .ref x), (2, .ref y), (3, .ref o), (4, .int xi)]) (hrm : cells + 16 ≤ 601024 ∧ slots + 164 ≤ 7293034)
    (next : ∀ (H1 : Heap) (locs1 : List Loc), yI Inv D s A x y o H1 → va_S A s.heap H1 locs1 → W p l e room_1 s m args below meth c H1 locs1 (cells + 16) (slots + 164) Q (F0 m 1758 ls [])) : W p l e room_1 s m args below meth c H locs cells slots Q (F0 m 475 ls []) := by
  have hx := C.1
  have hb := C.2.1
  obtain ⟨αA, αB, αO, hA, hB, f, hI, eA, eB, eO, RA, RB, RO, dAB, dAO, dBO, SA, SB⟩ := hY
  subst eA
  subst eB
  subst eO
  obtain ⟨⟨fsA, hA0⟩, ⟨fsB, hB0⟩⟩ := hT hA hB hI
  obtain ⟨v, hA1, hB1, hA2, hB2, mc, ms, hmc, hms, MA, MB, hlA, hlB, NA, NB, hI2⟩ := hs hA hB hI
  refine lv_aload_n hx hb dL_law_475 rfl (lv_at hl 1 rfl) ?_
  refine y_call (d := 40) (h2 := hB) (α2 := αB) (h3 := [.inl (1, 1, .inr (.inl f))]) (α3 := αO) C SA MA kL_50 dL_law_476 hA0 rfl rfl rfl rfl rfl (Nat.le_of_ble_eq_true rfl) hl.1 (by decide) (by omega) hlA RA RB RO dAB dAO hS (fun βA H1 locs1 hE1 RA1 RB1 RO1 dAB1 dAO1 SA1 hS1 => ?_)
  have eβ : βA 0 = αA 0 := hE1.2 0 (Or.inl (List.getElem?_eq_some_iff.mp hA0).1)
  refine lv_aload_n hx hb dL_law_479 rfl (lv_at hl 2 rfl) ?_
  refine y_call (d := 40) (h2 := hA1) (α2 := βA) (h3 := [.inl (1, 1, .inr (.inl f))]) (α3 := αO) C SB MB kL_53 dL_law_480 hB0 rfl rfl rfl rfl rfl (Nat.le_of_ble_eq_true rfl) hl.1 (by decide) (by omega) hlB RB1 RA1 RO1 dAB1.symm dBO hS1 (fun βB H2 locs2 hE2 RB2 RA2 RO2 dAB2 dBO2 SB2 hS2 => ?_)
  have eβ2 : βB 0 = αB 0 := hE2.2 0 (Or.inl (List.getElem?_eq_some_iff.mp hB0).1)
  refine lv_icmp_eq (tgt := 1758) hx hb dL_law_483 (by decide) (fun _ => ?_) (fun z => absurd rfl z)
  exact y_next hmc hms RA2 RB2 RO2 dAB2.symm dAO1 dBO2 SA1 SB2 hS2 NA NB hI2 (fun H3 locs3 hY3 hS3 => next H3 locs3 (by rw [eβ, eβ2] at hY3; exact hY3) hS3)
def yS_richest (Inv : xH → xH → Prop) : Prop := ySimI Inv YX7_richest YX9_richest []
set_option maxHeartbeats 4000000 in
set_option maxRecDepth 100000 in
theorem lawc_richest (C : yCx p l s m args meth c D A) (hT : yTop Inv) (hs : yS_richest Inv) (hX : va_X b L xs s s.heap) (hbl : b < s.heap.size) (hbA : ¬ A b) (hin : ∀ j : Int32, 0 ≤ j.toInt → j.toInt < 6 → vp_in (xi + j) L) (hY : yI Inv D s A x y o H) (hS : va_S A s.heap H locs) (hl : lv_has ls 7 [(0, .ref b), (1, .ref x), (2, .ref y), (3, .ref o), (4, .int xi)]) (hrm : cells + 16 ≤ 601024 ∧ slots + 164 ≤ 7293034)
    (next : ∀ (H1 : Heap) (locs1 : List Loc), yI Inv D s A x y o H1 → va_S A s.heap H1 locs1 → W p l e room_1 s m args below meth c H1 locs1 (cells + 16) (slots + 164) Q (F0 m 1758 ls [])) : W p l e room_1 s m args below meth c H locs cells slots Q (F0 m 488 ls []) := by
  have hx := C.1
  have hb := C.2.1
  obtain ⟨αA, αB, αO, hA, hB, f, hI, eA, eB, eO, RA, RB, RO, dAB, dAO, dBO, SA, SB⟩ := hY
  subst eA
  subst eB
  subst eO
  obtain ⟨⟨fsA, hA0⟩, ⟨fsB, hB0⟩⟩ := hT hA hB hI
  obtain ⟨v, hA1, hB1, hA2, hB2, mc, ms, hmc, hms, MA, MB, hlA, hlB, NA, NB, hI2⟩ := hs hA hB hI
  refine lv_aload_n hx hb dL_law_488 rfl (lv_at hl 1 rfl) ?_
  refine y_call (d := 40) (h2 := hB) (α2 := αB) (h3 := [.inl (1, 1, .inr (.inl f))]) (α3 := αO) C SA MA kL_54 dL_law_489 hA0 rfl rfl rfl rfl rfl (Nat.le_of_ble_eq_true rfl) hl.1 (by decide) (by omega) hlA RA RB RO dAB dAO hS (fun βA H1 locs1 hE1 RA1 RB1 RO1 dAB1 dAO1 SA1 hS1 => ?_)
  have eβ : βA 0 = αA 0 := hE1.2 0 (Or.inl (List.getElem?_eq_some_iff.mp hA0).1)
  refine lv_aload_n hx hb dL_law_492 rfl (lv_at hl 2 rfl) ?_
  refine y_call (d := 40) (h2 := hA1) (α2 := βA) (h3 := [.inl (1, 1, .inr (.inl f))]) (α3 := αO) C SB MB kL_57 dL_law_493 hB0 rfl rfl rfl rfl rfl (Nat.le_of_ble_eq_true rfl) hl.1 (by decide) (by omega) hlB RB1 RA1 RO1 dAB1.symm dBO hS1 (fun βB H2 locs2 hE2 RB2 RA2 RO2 dAB2 dBO2 SB2 hS2 => ?_)
  have eβ2 : βB 0 = αB 0 := hE2.2 0 (Or.inl (List.getElem?_eq_some_iff.mp hB0).1)
  refine lv_icmp_eq (tgt := 1758) hx hb dL_law_496 (by decide) (fun _ => ?_) (fun z => absurd rfl z)
  exact y_next hmc hms RA2 RB2 RO2 dAB2.symm dAO1 dBO2 SA1 SB2 hS2 NA NB hI2 (fun H3 locs3 hY3 hS3 => next H3 locs3 (by rw [eβ, eβ2] at hY3; exact hY3) hS3)
def yS_hasIt (Inv : xH → xH → Prop) : Prop := ∀ v0 v1 : Int32, ySimI Inv YX7_hasIt YX9_hasIt [.int v0, .int v1]
set_option maxHeartbeats 4000000 in
set_option maxRecDepth 100000 in
theorem lawc_hasIt (C : yCx p l s m args meth c D A) (hT : yTop Inv) (hs : yS_hasIt Inv) (hX : va_X b L xs s s.heap) (hbl : b < s.heap.size) (hbA : ¬ A b) (hin : ∀ j : Int32, 0 ≤ j.toInt → j.toInt < 6 → vp_in (xi + j) L) (hY : yI Inv D s A x y o H) (hS : va_S A s.heap H locs) (hl : lv_has ls 7 [(0, .ref b), (1, .ref x), (2, .ref y), (3, .ref o), (4, .int xi)]) (hrm : cells + 16 ≤ 601024 ∧ slots + 164 ≤ 7293034)
    (next : ∀ (H1 : Heap) (locs1 : List Loc), yI Inv D s A x y o H1 → va_S A s.heap H1 locs1 → W p l e room_1 s m args below meth c H1 locs1 (cells + 16) (slots + 164) Q (F0 m 1758 ls [])) : W p l e room_1 s m args below meth c H locs cells slots Q (F0 m 501 ls []) := by
  have hx := C.1
  have hb := C.2.1
  obtain ⟨αA, αB, αO, hA, hB, f, hI, eA, eB, eO, RA, RB, RO, dAB, dAO, dBO, SA, SB⟩ := hY
  subst eA
  subst eB
  subst eO
  obtain ⟨⟨fsA, hA0⟩, ⟨fsB, hB0⟩⟩ := hT hA hB hI
  obtain ⟨v, hA1, hB1, hA2, hB2, mc, ms, hmc, hms, MA, MB, hlA, hlB, NA, NB, hI2⟩ := hs (xs (xi + 1).toNatClampNeg) (xs (xi + 2).toNatClampNeg) hA hB hI
  refine lv_aload_n hx hb dL_law_501 rfl (lv_at hl 1 rfl) ?_
  refine lv_aload_n hx hb dL_law_502 rfl (lv_at hl 0 rfl) ?_
  refine lv_iload hx hb dL_law_503 (lv_at hl 4 rfl) ?_
  refine lv_iconst (v := 1) hx hb dL_law_505 (by decide) ?_
  refine lv_iadd hx hb dL_law_506 ?_
  refine va_sld hx hb hX hbl hbA hS (hin 1 (by decide) (by decide)) dL_law_507 ?_
  refine lv_aload_n hx hb dL_law_508 rfl (lv_at hl 0 rfl) ?_
  refine lv_iload hx hb dL_law_509 (lv_at hl 4 rfl) ?_
  refine lv_iconst (v := 2) hx hb dL_law_511 (by decide) ?_
  refine lv_iadd hx hb dL_law_512 ?_
  refine va_sld hx hb hX hbl hbA hS (hin 2 (by decide) (by decide)) dL_law_513 ?_
  refine y_call (d := 40) (h2 := hB) (α2 := αB) (h3 := [.inl (1, 1, .inr (.inl f))]) (α3 := αO) C SA MA kL_58 dL_law_514 hA0 rfl rfl rfl rfl rfl (Nat.le_of_ble_eq_true rfl) hl.1 (by decide) (by omega) hlA RA RB RO dAB dAO hS (fun βA H1 locs1 hE1 RA1 RB1 RO1 dAB1 dAO1 SA1 hS1 => ?_)
  have eβ : βA 0 = αA 0 := hE1.2 0 (Or.inl (List.getElem?_eq_some_iff.mp hA0).1)
  refine lv_aload_n hx hb dL_law_517 rfl (lv_at hl 2 rfl) ?_
  refine lv_aload_n hx hb dL_law_518 rfl (lv_at hl 0 rfl) ?_
  refine lv_iload hx hb dL_law_519 (lv_at hl 4 rfl) ?_
  refine lv_iconst (v := 1) hx hb dL_law_521 (by decide) ?_
  refine lv_iadd hx hb dL_law_522 ?_
  refine va_sld hx hb hX hbl hbA hS1 (hin 1 (by decide) (by decide)) dL_law_523 ?_
  refine lv_aload_n hx hb dL_law_524 rfl (lv_at hl 0 rfl) ?_
  refine lv_iload hx hb dL_law_525 (lv_at hl 4 rfl) ?_
  refine lv_iconst (v := 2) hx hb dL_law_527 (by decide) ?_
  refine lv_iadd hx hb dL_law_528 ?_
  refine va_sld hx hb hX hbl hbA hS1 (hin 2 (by decide) (by decide)) dL_law_529 ?_
  refine y_call (d := 40) (h2 := hA1) (α2 := βA) (h3 := [.inl (1, 1, .inr (.inl f))]) (α3 := αO) C SB MB kL_61 dL_law_530 hB0 rfl rfl rfl rfl rfl (Nat.le_of_ble_eq_true rfl) hl.1 (by decide) (by omega) hlB RB1 RA1 RO1 dAB1.symm dBO hS1 (fun βB H2 locs2 hE2 RB2 RA2 RO2 dAB2 dBO2 SB2 hS2 => ?_)
  have eβ2 : βB 0 = αB 0 := hE2.2 0 (Or.inl (List.getElem?_eq_some_iff.mp hB0).1)
  refine lv_icmp_eq (tgt := 1758) hx hb dL_law_533 (by decide) (fun _ => ?_) (fun z => absurd rfl z)
  exact y_next hmc hms RA2 RB2 RO2 dAB2.symm dAO1 dBO2 SA1 SB2 hS2 NA NB hI2 (fun H3 locs3 hY3 hS3 => next H3 locs3 (by rw [eβ, eβ2] at hY3; exact hY3) hS3)
def yS_titleOf (Inv : xH → xH → Prop) : Prop := ∀ v0 v1 : Int32, ySimI Inv YX7_titleOf YX9_titleOf [.int v0, .int v1]
set_option maxHeartbeats 4000000 in
set_option maxRecDepth 100000 in
theorem lawc_titleOf (C : yCx p l s m args meth c D A) (hT : yTop Inv) (hs : yS_titleOf Inv) (hX : va_X b L xs s s.heap) (hbl : b < s.heap.size) (hbA : ¬ A b) (hin : ∀ j : Int32, 0 ≤ j.toInt → j.toInt < 6 → vp_in (xi + j) L) (hY : yI Inv D s A x y o H) (hS : va_S A s.heap H locs) (hl : lv_has ls 7 [(0, .ref b), (1, .ref x), (2, .ref y), (3, .ref o), (4, .int xi)]) (hrm : cells + 16 ≤ 601024 ∧ slots + 164 ≤ 7293034)
    (next : ∀ (H1 : Heap) (locs1 : List Loc), yI Inv D s A x y o H1 → va_S A s.heap H1 locs1 → W p l e room_1 s m args below meth c H1 locs1 (cells + 16) (slots + 164) Q (F0 m 1758 ls [])) : W p l e room_1 s m args below meth c H locs cells slots Q (F0 m 538 ls []) := by
  have hx := C.1
  have hb := C.2.1
  obtain ⟨αA, αB, αO, hA, hB, f, hI, eA, eB, eO, RA, RB, RO, dAB, dAO, dBO, SA, SB⟩ := hY
  subst eA
  subst eB
  subst eO
  obtain ⟨⟨fsA, hA0⟩, ⟨fsB, hB0⟩⟩ := hT hA hB hI
  obtain ⟨v, hA1, hB1, hA2, hB2, mc, ms, hmc, hms, MA, MB, hlA, hlB, NA, NB, hI2⟩ := hs (xs (xi + 1).toNatClampNeg) (xs (xi + 2).toNatClampNeg) hA hB hI
  refine lv_aload_n hx hb dL_law_538 rfl (lv_at hl 1 rfl) ?_
  refine lv_aload_n hx hb dL_law_539 rfl (lv_at hl 0 rfl) ?_
  refine lv_iload hx hb dL_law_540 (lv_at hl 4 rfl) ?_
  refine lv_iconst (v := 1) hx hb dL_law_542 (by decide) ?_
  refine lv_iadd hx hb dL_law_543 ?_
  refine va_sld hx hb hX hbl hbA hS (hin 1 (by decide) (by decide)) dL_law_544 ?_
  refine lv_aload_n hx hb dL_law_545 rfl (lv_at hl 0 rfl) ?_
  refine lv_iload hx hb dL_law_546 (lv_at hl 4 rfl) ?_
  refine lv_iconst (v := 2) hx hb dL_law_548 (by decide) ?_
  refine lv_iadd hx hb dL_law_549 ?_
  refine va_sld hx hb hX hbl hbA hS (hin 2 (by decide) (by decide)) dL_law_550 ?_
  refine y_call (d := 40) (h2 := hB) (α2 := αB) (h3 := [.inl (1, 1, .inr (.inl f))]) (α3 := αO) C SA MA kL_62 dL_law_551 hA0 rfl rfl rfl rfl rfl (Nat.le_of_ble_eq_true rfl) hl.1 (by decide) (by omega) hlA RA RB RO dAB dAO hS (fun βA H1 locs1 hE1 RA1 RB1 RO1 dAB1 dAO1 SA1 hS1 => ?_)
  have eβ : βA 0 = αA 0 := hE1.2 0 (Or.inl (List.getElem?_eq_some_iff.mp hA0).1)
  refine lv_aload_n hx hb dL_law_554 rfl (lv_at hl 2 rfl) ?_
  refine lv_aload_n hx hb dL_law_555 rfl (lv_at hl 0 rfl) ?_
  refine lv_iload hx hb dL_law_556 (lv_at hl 4 rfl) ?_
  refine lv_iconst (v := 1) hx hb dL_law_558 (by decide) ?_
  refine lv_iadd hx hb dL_law_559 ?_
  refine va_sld hx hb hX hbl hbA hS1 (hin 1 (by decide) (by decide)) dL_law_560 ?_
  refine lv_aload_n hx hb dL_law_561 rfl (lv_at hl 0 rfl) ?_
  refine lv_iload hx hb dL_law_562 (lv_at hl 4 rfl) ?_
  refine lv_iconst (v := 2) hx hb dL_law_564 (by decide) ?_
  refine lv_iadd hx hb dL_law_565 ?_
  refine va_sld hx hb hX hbl hbA hS1 (hin 2 (by decide) (by decide)) dL_law_566 ?_
  refine y_call (d := 40) (h2 := hA1) (α2 := βA) (h3 := [.inl (1, 1, .inr (.inl f))]) (α3 := αO) C SB MB kL_65 dL_law_567 hB0 rfl rfl rfl rfl rfl (Nat.le_of_ble_eq_true rfl) hl.1 (by decide) (by omega) hlB RB1 RA1 RO1 dAB1.symm dBO hS1 (fun βB H2 locs2 hE2 RB2 RA2 RO2 dAB2 dBO2 SB2 hS2 => ?_)
  have eβ2 : βB 0 = αB 0 := hE2.2 0 (Or.inl (List.getElem?_eq_some_iff.mp hB0).1)
  refine lv_icmp_eq (tgt := 1758) hx hb dL_law_570 (by decide) (fun _ => ?_) (fun z => absurd rfl z)
  exact y_next hmc hms RA2 RB2 RO2 dAB2.symm dAO1 dBO2 SA1 SB2 hS2 NA NB hI2 (fun H3 locs3 hY3 hS3 => next H3 locs3 (by rw [eβ, eβ2] at hY3; exact hY3) hS3)
def yS_landsOf (Inv : xH → xH → Prop) : Prop := ∀ v0 v1 : Int32, ySimI Inv YX7_landsOf YX9_landsOf [.int v0, .int v1]
set_option maxHeartbeats 4000000 in
set_option maxRecDepth 100000 in
theorem lawc_landsOf (C : yCx p l s m args meth c D A) (hT : yTop Inv) (hs : yS_landsOf Inv) (hX : va_X b L xs s s.heap) (hbl : b < s.heap.size) (hbA : ¬ A b) (hin : ∀ j : Int32, 0 ≤ j.toInt → j.toInt < 6 → vp_in (xi + j) L) (hY : yI Inv D s A x y o H) (hS : va_S A s.heap H locs) (hl : lv_has ls 7 [(0, .ref b), (1, .ref x), (2, .ref y), (3, .ref o), (4, .int xi)]) (hrm : cells + 16 ≤ 601024 ∧ slots + 164 ≤ 7293034)
    (next : ∀ (H1 : Heap) (locs1 : List Loc), yI Inv D s A x y o H1 → va_S A s.heap H1 locs1 → W p l e room_1 s m args below meth c H1 locs1 (cells + 16) (slots + 164) Q (F0 m 1758 ls [])) : W p l e room_1 s m args below meth c H locs cells slots Q (F0 m 575 ls []) := by
  have hx := C.1
  have hb := C.2.1
  obtain ⟨αA, αB, αO, hA, hB, f, hI, eA, eB, eO, RA, RB, RO, dAB, dAO, dBO, SA, SB⟩ := hY
  subst eA
  subst eB
  subst eO
  obtain ⟨⟨fsA, hA0⟩, ⟨fsB, hB0⟩⟩ := hT hA hB hI
  obtain ⟨v, hA1, hB1, hA2, hB2, mc, ms, hmc, hms, MA, MB, hlA, hlB, NA, NB, hI2⟩ := hs (xs (xi + 1).toNatClampNeg) (xs (xi + 2).toNatClampNeg) hA hB hI
  refine lv_aload_n hx hb dL_law_575 rfl (lv_at hl 1 rfl) ?_
  refine lv_aload_n hx hb dL_law_576 rfl (lv_at hl 0 rfl) ?_
  refine lv_iload hx hb dL_law_577 (lv_at hl 4 rfl) ?_
  refine lv_iconst (v := 1) hx hb dL_law_579 (by decide) ?_
  refine lv_iadd hx hb dL_law_580 ?_
  refine va_sld hx hb hX hbl hbA hS (hin 1 (by decide) (by decide)) dL_law_581 ?_
  refine lv_aload_n hx hb dL_law_582 rfl (lv_at hl 0 rfl) ?_
  refine lv_iload hx hb dL_law_583 (lv_at hl 4 rfl) ?_
  refine lv_iconst (v := 2) hx hb dL_law_585 (by decide) ?_
  refine lv_iadd hx hb dL_law_586 ?_
  refine va_sld hx hb hX hbl hbA hS (hin 2 (by decide) (by decide)) dL_law_587 ?_
  refine y_call (d := 40) (h2 := hB) (α2 := αB) (h3 := [.inl (1, 1, .inr (.inl f))]) (α3 := αO) C SA MA kL_66 dL_law_588 hA0 rfl rfl rfl rfl rfl (Nat.le_of_ble_eq_true rfl) hl.1 (by decide) (by omega) hlA RA RB RO dAB dAO hS (fun βA H1 locs1 hE1 RA1 RB1 RO1 dAB1 dAO1 SA1 hS1 => ?_)
  have eβ : βA 0 = αA 0 := hE1.2 0 (Or.inl (List.getElem?_eq_some_iff.mp hA0).1)
  refine lv_aload_n hx hb dL_law_591 rfl (lv_at hl 2 rfl) ?_
  refine lv_aload_n hx hb dL_law_592 rfl (lv_at hl 0 rfl) ?_
  refine lv_iload hx hb dL_law_593 (lv_at hl 4 rfl) ?_
  refine lv_iconst (v := 1) hx hb dL_law_595 (by decide) ?_
  refine lv_iadd hx hb dL_law_596 ?_
  refine va_sld hx hb hX hbl hbA hS1 (hin 1 (by decide) (by decide)) dL_law_597 ?_
  refine lv_aload_n hx hb dL_law_598 rfl (lv_at hl 0 rfl) ?_
  refine lv_iload hx hb dL_law_599 (lv_at hl 4 rfl) ?_
  refine lv_iconst (v := 2) hx hb dL_law_601 (by decide) ?_
  refine lv_iadd hx hb dL_law_602 ?_
  refine va_sld hx hb hX hbl hbA hS1 (hin 2 (by decide) (by decide)) dL_law_603 ?_
  refine y_call (d := 40) (h2 := hA1) (α2 := βA) (h3 := [.inl (1, 1, .inr (.inl f))]) (α3 := αO) C SB MB kL_69 dL_law_604 hB0 rfl rfl rfl rfl rfl (Nat.le_of_ble_eq_true rfl) hl.1 (by decide) (by omega) hlB RB1 RA1 RO1 dAB1.symm dBO hS1 (fun βB H2 locs2 hE2 RB2 RA2 RO2 dAB2 dBO2 SB2 hS2 => ?_)
  have eβ2 : βB 0 = αB 0 := hE2.2 0 (Or.inl (List.getElem?_eq_some_iff.mp hB0).1)
  refine lv_icmp_eq (tgt := 1758) hx hb dL_law_607 (by decide) (fun _ => ?_) (fun z => absurd rfl z)
  exact y_next hmc hms RA2 RB2 RO2 dAB2.symm dAO1 dBO2 SA1 SB2 hS2 NA NB hI2 (fun H3 locs3 hY3 hS3 => next H3 locs3 (by rw [eβ, eβ2] at hY3; exact hY3) hS3)
def yS_lapsed (Inv : xH → xH → Prop) : Prop := ∀ v0 : Int32, ySimI Inv YX7_lapsed YX9_lapsed [.int v0]
set_option maxHeartbeats 4000000 in
set_option maxRecDepth 100000 in
theorem lawc_lapsed (C : yCx p l s m args meth c D A) (hT : yTop Inv) (hs : yS_lapsed Inv) (hX : va_X b L xs s s.heap) (hbl : b < s.heap.size) (hbA : ¬ A b) (hin : ∀ j : Int32, 0 ≤ j.toInt → j.toInt < 6 → vp_in (xi + j) L) (hY : yI Inv D s A x y o H) (hS : va_S A s.heap H locs) (hl : lv_has ls 7 [(0, .ref b), (1, .ref x), (2, .ref y), (3, .ref o), (4, .int xi)]) (hrm : cells + 16 ≤ 601024 ∧ slots + 164 ≤ 7293034)
    (next : ∀ (H1 : Heap) (locs1 : List Loc), yI Inv D s A x y o H1 → va_S A s.heap H1 locs1 → W p l e room_1 s m args below meth c H1 locs1 (cells + 16) (slots + 164) Q (F0 m 1758 ls [])) : W p l e room_1 s m args below meth c H locs cells slots Q (F0 m 612 ls []) := by
  have hx := C.1
  have hb := C.2.1
  obtain ⟨αA, αB, αO, hA, hB, f, hI, eA, eB, eO, RA, RB, RO, dAB, dAO, dBO, SA, SB⟩ := hY
  subst eA
  subst eB
  subst eO
  obtain ⟨⟨fsA, hA0⟩, ⟨fsB, hB0⟩⟩ := hT hA hB hI
  obtain ⟨v, hA1, hB1, hA2, hB2, mc, ms, hmc, hms, MA, MB, hlA, hlB, NA, NB, hI2⟩ := hs (xs (xi + 1).toNatClampNeg) hA hB hI
  refine lv_aload_n hx hb dL_law_612 rfl (lv_at hl 1 rfl) ?_
  refine lv_aload_n hx hb dL_law_613 rfl (lv_at hl 0 rfl) ?_
  refine lv_iload hx hb dL_law_614 (lv_at hl 4 rfl) ?_
  refine lv_iconst (v := 1) hx hb dL_law_616 (by decide) ?_
  refine lv_iadd hx hb dL_law_617 ?_
  refine va_sld hx hb hX hbl hbA hS (hin 1 (by decide) (by decide)) dL_law_618 ?_
  refine y_call (d := 40) (h2 := hB) (α2 := αB) (h3 := [.inl (1, 1, .inr (.inl f))]) (α3 := αO) C SA MA kL_70 dL_law_619 hA0 rfl rfl rfl rfl rfl (Nat.le_of_ble_eq_true rfl) hl.1 (by decide) (by omega) hlA RA RB RO dAB dAO hS (fun βA H1 locs1 hE1 RA1 RB1 RO1 dAB1 dAO1 SA1 hS1 => ?_)
  have eβ : βA 0 = αA 0 := hE1.2 0 (Or.inl (List.getElem?_eq_some_iff.mp hA0).1)
  refine lv_aload_n hx hb dL_law_622 rfl (lv_at hl 2 rfl) ?_
  refine lv_aload_n hx hb dL_law_623 rfl (lv_at hl 0 rfl) ?_
  refine lv_iload hx hb dL_law_624 (lv_at hl 4 rfl) ?_
  refine lv_iconst (v := 1) hx hb dL_law_626 (by decide) ?_
  refine lv_iadd hx hb dL_law_627 ?_
  refine va_sld hx hb hX hbl hbA hS1 (hin 1 (by decide) (by decide)) dL_law_628 ?_
  refine y_call (d := 40) (h2 := hA1) (α2 := βA) (h3 := [.inl (1, 1, .inr (.inl f))]) (α3 := αO) C SB MB kL_73 dL_law_629 hB0 rfl rfl rfl rfl rfl (Nat.le_of_ble_eq_true rfl) hl.1 (by decide) (by omega) hlB RB1 RA1 RO1 dAB1.symm dBO hS1 (fun βB H2 locs2 hE2 RB2 RA2 RO2 dAB2 dBO2 SB2 hS2 => ?_)
  have eβ2 : βB 0 = αB 0 := hE2.2 0 (Or.inl (List.getElem?_eq_some_iff.mp hB0).1)
  refine lv_icmp_eq (tgt := 1758) hx hb dL_law_632 (by decide) (fun _ => ?_) (fun z => absurd rfl z)
  exact y_next hmc hms RA2 RB2 RO2 dAB2.symm dAO1 dBO2 SA1 SB2 hS2 NA NB hI2 (fun H3 locs3 hY3 hS3 => next H3 locs3 (by rw [eβ, eβ2] at hY3; exact hY3) hS3)
def yS_passed (Inv : xH → xH → Prop) : Prop := ∀ v0 : Int32, ySimI Inv YX7_passed YX9_passed [.int v0]
set_option maxHeartbeats 4000000 in
set_option maxRecDepth 100000 in
theorem lawc_passed (C : yCx p l s m args meth c D A) (hT : yTop Inv) (hs : yS_passed Inv) (hX : va_X b L xs s s.heap) (hbl : b < s.heap.size) (hbA : ¬ A b) (hin : ∀ j : Int32, 0 ≤ j.toInt → j.toInt < 6 → vp_in (xi + j) L) (hY : yI Inv D s A x y o H) (hS : va_S A s.heap H locs) (hl : lv_has ls 7 [(0, .ref b), (1, .ref x), (2, .ref y), (3, .ref o), (4, .int xi)]) (hrm : cells + 16 ≤ 601024 ∧ slots + 164 ≤ 7293034)
    (next : ∀ (H1 : Heap) (locs1 : List Loc), yI Inv D s A x y o H1 → va_S A s.heap H1 locs1 → W p l e room_1 s m args below meth c H1 locs1 (cells + 16) (slots + 164) Q (F0 m 1758 ls [])) : W p l e room_1 s m args below meth c H locs cells slots Q (F0 m 637 ls []) := by
  have hx := C.1
  have hb := C.2.1
  obtain ⟨αA, αB, αO, hA, hB, f, hI, eA, eB, eO, RA, RB, RO, dAB, dAO, dBO, SA, SB⟩ := hY
  subst eA
  subst eB
  subst eO
  obtain ⟨⟨fsA, hA0⟩, ⟨fsB, hB0⟩⟩ := hT hA hB hI
  obtain ⟨v, hA1, hB1, hA2, hB2, mc, ms, hmc, hms, MA, MB, hlA, hlB, NA, NB, hI2⟩ := hs (xs (xi + 1).toNatClampNeg) hA hB hI
  refine lv_aload_n hx hb dL_law_637 rfl (lv_at hl 1 rfl) ?_
  refine lv_aload_n hx hb dL_law_638 rfl (lv_at hl 0 rfl) ?_
  refine lv_iload hx hb dL_law_639 (lv_at hl 4 rfl) ?_
  refine lv_iconst (v := 1) hx hb dL_law_641 (by decide) ?_
  refine lv_iadd hx hb dL_law_642 ?_
  refine va_sld hx hb hX hbl hbA hS (hin 1 (by decide) (by decide)) dL_law_643 ?_
  refine y_call (d := 40) (h2 := hB) (α2 := αB) (h3 := [.inl (1, 1, .inr (.inl f))]) (α3 := αO) C SA MA kL_74 dL_law_644 hA0 rfl rfl rfl rfl rfl (Nat.le_of_ble_eq_true rfl) hl.1 (by decide) (by omega) hlA RA RB RO dAB dAO hS (fun βA H1 locs1 hE1 RA1 RB1 RO1 dAB1 dAO1 SA1 hS1 => ?_)
  have eβ : βA 0 = αA 0 := hE1.2 0 (Or.inl (List.getElem?_eq_some_iff.mp hA0).1)
  refine lv_aload_n hx hb dL_law_647 rfl (lv_at hl 2 rfl) ?_
  refine lv_aload_n hx hb dL_law_648 rfl (lv_at hl 0 rfl) ?_
  refine lv_iload hx hb dL_law_649 (lv_at hl 4 rfl) ?_
  refine lv_iconst (v := 1) hx hb dL_law_651 (by decide) ?_
  refine lv_iadd hx hb dL_law_652 ?_
  refine va_sld hx hb hX hbl hbA hS1 (hin 1 (by decide) (by decide)) dL_law_653 ?_
  refine y_call (d := 40) (h2 := hA1) (α2 := βA) (h3 := [.inl (1, 1, .inr (.inl f))]) (α3 := αO) C SB MB kL_77 dL_law_654 hB0 rfl rfl rfl rfl rfl (Nat.le_of_ble_eq_true rfl) hl.1 (by decide) (by omega) hlB RB1 RA1 RO1 dAB1.symm dBO hS1 (fun βB H2 locs2 hE2 RB2 RA2 RO2 dAB2 dBO2 SB2 hS2 => ?_)
  have eβ2 : βB 0 = αB 0 := hE2.2 0 (Or.inl (List.getElem?_eq_some_iff.mp hB0).1)
  refine lv_icmp_eq (tgt := 1758) hx hb dL_law_657 (by decide) (fun _ => ?_) (fun z => absurd rfl z)
  exact y_next hmc hms RA2 RB2 RO2 dAB2.symm dAO1 dBO2 SA1 SB2 hS2 NA NB hI2 (fun H3 locs3 hY3 hS3 => next H3 locs3 (by rw [eβ, eβ2] at hY3; exact hY3) hS3)
def yS_judge (Inv : xH → xH → Prop) : Prop := ySimI Inv YX7_judge YX9_judge []
set_option maxHeartbeats 4000000 in
set_option maxRecDepth 100000 in
theorem lawc_judge (C : yCx p l s m args meth c D A) (hT : yTop Inv) (hs : yS_judge Inv) (hX : va_X b L xs s s.heap) (hbl : b < s.heap.size) (hbA : ¬ A b) (hin : ∀ j : Int32, 0 ≤ j.toInt → j.toInt < 6 → vp_in (xi + j) L) (hY : yI Inv D s A x y o H) (hS : va_S A s.heap H locs) (hl : lv_has ls 7 [(0, .ref b), (1, .ref x), (2, .ref y), (3, .ref o), (4, .int xi)]) (hrm : cells + 16 ≤ 601024 ∧ slots + 164 ≤ 7293034)
    (next : ∀ (H1 : Heap) (locs1 : List Loc), yI Inv D s A x y o H1 → va_S A s.heap H1 locs1 → W p l e room_1 s m args below meth c H1 locs1 (cells + 16) (slots + 164) Q (F0 m 1758 ls [])) : W p l e room_1 s m args below meth c H locs cells slots Q (F0 m 662 ls []) := by
  have hx := C.1
  have hb := C.2.1
  obtain ⟨αA, αB, αO, hA, hB, f, hI, eA, eB, eO, RA, RB, RO, dAB, dAO, dBO, SA, SB⟩ := hY
  subst eA
  subst eB
  subst eO
  obtain ⟨⟨fsA, hA0⟩, ⟨fsB, hB0⟩⟩ := hT hA hB hI
  obtain ⟨v, hA1, hB1, hA2, hB2, mc, ms, hmc, hms, MA, MB, hlA, hlB, NA, NB, hI2⟩ := hs hA hB hI
  refine lv_aload_n hx hb dL_law_662 rfl (lv_at hl 1 rfl) ?_
  refine y_call (d := 40) (h2 := hB) (α2 := αB) (h3 := [.inl (1, 1, .inr (.inl f))]) (α3 := αO) C SA MA kL_78 dL_law_663 hA0 rfl rfl rfl rfl rfl (Nat.le_of_ble_eq_true rfl) hl.1 (by decide) (by omega) hlA RA RB RO dAB dAO hS (fun βA H1 locs1 hE1 RA1 RB1 RO1 dAB1 dAO1 SA1 hS1 => ?_)
  have eβ : βA 0 = αA 0 := hE1.2 0 (Or.inl (List.getElem?_eq_some_iff.mp hA0).1)
  refine lv_aload_n hx hb dL_law_666 rfl (lv_at hl 2 rfl) ?_
  refine y_call (d := 40) (h2 := hA1) (α2 := βA) (h3 := [.inl (1, 1, .inr (.inl f))]) (α3 := αO) C SB MB kL_81 dL_law_667 hB0 rfl rfl rfl rfl rfl (Nat.le_of_ble_eq_true rfl) hl.1 (by decide) (by omega) hlB RB1 RA1 RO1 dAB1.symm dBO hS1 (fun βB H2 locs2 hE2 RB2 RA2 RO2 dAB2 dBO2 SB2 hS2 => ?_)
  have eβ2 : βB 0 = αB 0 := hE2.2 0 (Or.inl (List.getElem?_eq_some_iff.mp hB0).1)
  refine lv_icmp_eq (tgt := 1758) hx hb dL_law_670 (by decide) (fun _ => ?_) (fun z => absurd rfl z)
  exact y_next hmc hms RA2 RB2 RO2 dAB2.symm dAO1 dBO2 SA1 SB2 hS2 NA NB hI2 (fun H3 locs3 hY3 hS3 => next H3 locs3 (by rw [eβ, eβ2] at hY3; exact hY3) hS3)
def yS_ways (Inv : xH → xH → Prop) : Prop := ySimI Inv YX7_ways YX9_ways []
set_option maxHeartbeats 4000000 in
set_option maxRecDepth 100000 in
theorem lawc_ways (C : yCx p l s m args meth c D A) (hT : yTop Inv) (hs : yS_ways Inv) (hX : va_X b L xs s s.heap) (hbl : b < s.heap.size) (hbA : ¬ A b) (hin : ∀ j : Int32, 0 ≤ j.toInt → j.toInt < 6 → vp_in (xi + j) L) (hY : yI Inv D s A x y o H) (hS : va_S A s.heap H locs) (hl : lv_has ls 7 [(0, .ref b), (1, .ref x), (2, .ref y), (3, .ref o), (4, .int xi)]) (hrm : cells + 16 ≤ 601024 ∧ slots + 164 ≤ 7293034)
    (next : ∀ (H1 : Heap) (locs1 : List Loc), yI Inv D s A x y o H1 → va_S A s.heap H1 locs1 → W p l e room_1 s m args below meth c H1 locs1 (cells + 16) (slots + 164) Q (F0 m 1758 ls [])) : W p l e room_1 s m args below meth c H locs cells slots Q (F0 m 675 ls []) := by
  have hx := C.1
  have hb := C.2.1
  obtain ⟨αA, αB, αO, hA, hB, f, hI, eA, eB, eO, RA, RB, RO, dAB, dAO, dBO, SA, SB⟩ := hY
  subst eA
  subst eB
  subst eO
  obtain ⟨⟨fsA, hA0⟩, ⟨fsB, hB0⟩⟩ := hT hA hB hI
  obtain ⟨v, hA1, hB1, hA2, hB2, mc, ms, hmc, hms, MA, MB, hlA, hlB, NA, NB, hI2⟩ := hs hA hB hI
  refine lv_aload_n hx hb dL_law_675 rfl (lv_at hl 1 rfl) ?_
  refine y_call (d := 40) (h2 := hB) (α2 := αB) (h3 := [.inl (1, 1, .inr (.inl f))]) (α3 := αO) C SA MA kL_82 dL_law_676 hA0 rfl rfl rfl rfl rfl (Nat.le_of_ble_eq_true rfl) hl.1 (by decide) (by omega) hlA RA RB RO dAB dAO hS (fun βA H1 locs1 hE1 RA1 RB1 RO1 dAB1 dAO1 SA1 hS1 => ?_)
  have eβ : βA 0 = αA 0 := hE1.2 0 (Or.inl (List.getElem?_eq_some_iff.mp hA0).1)
  refine lv_aload_n hx hb dL_law_679 rfl (lv_at hl 2 rfl) ?_
  refine y_call (d := 40) (h2 := hA1) (α2 := βA) (h3 := [.inl (1, 1, .inr (.inl f))]) (α3 := αO) C SB MB kL_85 dL_law_680 hB0 rfl rfl rfl rfl rfl (Nat.le_of_ble_eq_true rfl) hl.1 (by decide) (by omega) hlB RB1 RA1 RO1 dAB1.symm dBO hS1 (fun βB H2 locs2 hE2 RB2 RA2 RO2 dAB2 dBO2 SB2 hS2 => ?_)
  have eβ2 : βB 0 = αB 0 := hE2.2 0 (Or.inl (List.getElem?_eq_some_iff.mp hB0).1)
  refine lv_icmp_eq (tgt := 1758) hx hb dL_law_683 (by decide) (fun _ => ?_) (fun z => absurd rfl z)
  exact y_next hmc hms RA2 RB2 RO2 dAB2.symm dAO1 dBO2 SA1 SB2 hS2 NA NB hI2 (fun H3 locs3 hY3 hS3 => next H3 locs3 (by rw [eβ, eβ2] at hY3; exact hY3) hS3)
def yS_wayAt (Inv : xH → xH → Prop) : Prop := ∀ v0 : Int32, ySimI Inv YX7_wayAt YX9_wayAt [.int v0]
set_option maxHeartbeats 4000000 in
set_option maxRecDepth 100000 in
theorem lawc_wayAt (C : yCx p l s m args meth c D A) (hT : yTop Inv) (hs : yS_wayAt Inv) (hX : va_X b L xs s s.heap) (hbl : b < s.heap.size) (hbA : ¬ A b) (hin : ∀ j : Int32, 0 ≤ j.toInt → j.toInt < 6 → vp_in (xi + j) L) (hY : yI Inv D s A x y o H) (hS : va_S A s.heap H locs) (hl : lv_has ls 7 [(0, .ref b), (1, .ref x), (2, .ref y), (3, .ref o), (4, .int xi)]) (hrm : cells + 16 ≤ 601024 ∧ slots + 164 ≤ 7293034)
    (next : ∀ (H1 : Heap) (locs1 : List Loc), yI Inv D s A x y o H1 → va_S A s.heap H1 locs1 → W p l e room_1 s m args below meth c H1 locs1 (cells + 16) (slots + 164) Q (F0 m 1758 ls [])) : W p l e room_1 s m args below meth c H locs cells slots Q (F0 m 688 ls []) := by
  have hx := C.1
  have hb := C.2.1
  obtain ⟨αA, αB, αO, hA, hB, f, hI, eA, eB, eO, RA, RB, RO, dAB, dAO, dBO, SA, SB⟩ := hY
  subst eA
  subst eB
  subst eO
  obtain ⟨⟨fsA, hA0⟩, ⟨fsB, hB0⟩⟩ := hT hA hB hI
  obtain ⟨v, hA1, hB1, hA2, hB2, mc, ms, hmc, hms, MA, MB, hlA, hlB, NA, NB, hI2⟩ := hs (xs (xi + 1).toNatClampNeg) hA hB hI
  refine lv_aload_n hx hb dL_law_688 rfl (lv_at hl 1 rfl) ?_
  refine lv_aload_n hx hb dL_law_689 rfl (lv_at hl 0 rfl) ?_
  refine lv_iload hx hb dL_law_690 (lv_at hl 4 rfl) ?_
  refine lv_iconst (v := 1) hx hb dL_law_692 (by decide) ?_
  refine lv_iadd hx hb dL_law_693 ?_
  refine va_sld hx hb hX hbl hbA hS (hin 1 (by decide) (by decide)) dL_law_694 ?_
  refine y_call (d := 40) (h2 := hB) (α2 := αB) (h3 := [.inl (1, 1, .inr (.inl f))]) (α3 := αO) C SA MA kL_86 dL_law_695 hA0 rfl rfl rfl rfl rfl (Nat.le_of_ble_eq_true rfl) hl.1 (by decide) (by omega) hlA RA RB RO dAB dAO hS (fun βA H1 locs1 hE1 RA1 RB1 RO1 dAB1 dAO1 SA1 hS1 => ?_)
  have eβ : βA 0 = αA 0 := hE1.2 0 (Or.inl (List.getElem?_eq_some_iff.mp hA0).1)
  refine lv_aload_n hx hb dL_law_698 rfl (lv_at hl 2 rfl) ?_
  refine lv_aload_n hx hb dL_law_699 rfl (lv_at hl 0 rfl) ?_
  refine lv_iload hx hb dL_law_700 (lv_at hl 4 rfl) ?_
  refine lv_iconst (v := 1) hx hb dL_law_702 (by decide) ?_
  refine lv_iadd hx hb dL_law_703 ?_
  refine va_sld hx hb hX hbl hbA hS1 (hin 1 (by decide) (by decide)) dL_law_704 ?_
  refine y_call (d := 40) (h2 := hA1) (α2 := βA) (h3 := [.inl (1, 1, .inr (.inl f))]) (α3 := αO) C SB MB kL_89 dL_law_705 hB0 rfl rfl rfl rfl rfl (Nat.le_of_ble_eq_true rfl) hl.1 (by decide) (by omega) hlB RB1 RA1 RO1 dAB1.symm dBO hS1 (fun βB H2 locs2 hE2 RB2 RA2 RO2 dAB2 dBO2 SB2 hS2 => ?_)
  have eβ2 : βB 0 = αB 0 := hE2.2 0 (Or.inl (List.getElem?_eq_some_iff.mp hB0).1)
  refine lv_icmp_eq (tgt := 1758) hx hb dL_law_708 (by decide) (fun _ => ?_) (fun z => absurd rfl z)
  exact y_next hmc hms RA2 RB2 RO2 dAB2.symm dAO1 dBO2 SA1 SB2 hS2 NA NB hI2 (fun H3 locs3 hY3 hS3 => next H3 locs3 (by rw [eβ, eβ2] at hY3; exact hY3) hS3)
def yS_longest (Inv : xH → xH → Prop) : Prop := ∀ v0 : Int32, ySimI Inv YX7_longest YX9_longest [.int v0]
set_option maxHeartbeats 4000000 in
set_option maxRecDepth 100000 in
theorem lawc_longest (C : yCx p l s m args meth c D A) (hT : yTop Inv) (hs : yS_longest Inv) (hX : va_X b L xs s s.heap) (hbl : b < s.heap.size) (hbA : ¬ A b) (hin : ∀ j : Int32, 0 ≤ j.toInt → j.toInt < 6 → vp_in (xi + j) L) (hY : yI Inv D s A x y o H) (hS : va_S A s.heap H locs) (hl : lv_has ls 7 [(0, .ref b), (1, .ref x), (2, .ref y), (3, .ref o), (4, .int xi)]) (hrm : cells + 16 ≤ 601024 ∧ slots + 164 ≤ 7293034)
    (next : ∀ (H1 : Heap) (locs1 : List Loc), yI Inv D s A x y o H1 → va_S A s.heap H1 locs1 → W p l e room_1 s m args below meth c H1 locs1 (cells + 16) (slots + 164) Q (F0 m 1758 ls [])) : W p l e room_1 s m args below meth c H locs cells slots Q (F0 m 713 ls []) := by
  have hx := C.1
  have hb := C.2.1
  obtain ⟨αA, αB, αO, hA, hB, f, hI, eA, eB, eO, RA, RB, RO, dAB, dAO, dBO, SA, SB⟩ := hY
  subst eA
  subst eB
  subst eO
  obtain ⟨⟨fsA, hA0⟩, ⟨fsB, hB0⟩⟩ := hT hA hB hI
  obtain ⟨v, hA1, hB1, hA2, hB2, mc, ms, hmc, hms, MA, MB, hlA, hlB, NA, NB, hI2⟩ := hs (xs (xi + 1).toNatClampNeg) hA hB hI
  refine lv_aload_n hx hb dL_law_713 rfl (lv_at hl 1 rfl) ?_
  refine lv_aload_n hx hb dL_law_714 rfl (lv_at hl 0 rfl) ?_
  refine lv_iload hx hb dL_law_715 (lv_at hl 4 rfl) ?_
  refine lv_iconst (v := 1) hx hb dL_law_717 (by decide) ?_
  refine lv_iadd hx hb dL_law_718 ?_
  refine va_sld hx hb hX hbl hbA hS (hin 1 (by decide) (by decide)) dL_law_719 ?_
  refine y_call (d := 40) (h2 := hB) (α2 := αB) (h3 := [.inl (1, 1, .inr (.inl f))]) (α3 := αO) C SA MA kL_90 dL_law_720 hA0 rfl rfl rfl rfl rfl (Nat.le_of_ble_eq_true rfl) hl.1 (by decide) (by omega) hlA RA RB RO dAB dAO hS (fun βA H1 locs1 hE1 RA1 RB1 RO1 dAB1 dAO1 SA1 hS1 => ?_)
  have eβ : βA 0 = αA 0 := hE1.2 0 (Or.inl (List.getElem?_eq_some_iff.mp hA0).1)
  refine lv_aload_n hx hb dL_law_723 rfl (lv_at hl 2 rfl) ?_
  refine lv_aload_n hx hb dL_law_724 rfl (lv_at hl 0 rfl) ?_
  refine lv_iload hx hb dL_law_725 (lv_at hl 4 rfl) ?_
  refine lv_iconst (v := 1) hx hb dL_law_727 (by decide) ?_
  refine lv_iadd hx hb dL_law_728 ?_
  refine va_sld hx hb hX hbl hbA hS1 (hin 1 (by decide) (by decide)) dL_law_729 ?_
  refine y_call (d := 40) (h2 := hA1) (α2 := βA) (h3 := [.inl (1, 1, .inr (.inl f))]) (α3 := αO) C SB MB kL_93 dL_law_730 hB0 rfl rfl rfl rfl rfl (Nat.le_of_ble_eq_true rfl) hl.1 (by decide) (by omega) hlB RB1 RA1 RO1 dAB1.symm dBO hS1 (fun βB H2 locs2 hE2 RB2 RA2 RO2 dAB2 dBO2 SB2 hS2 => ?_)
  have eβ2 : βB 0 = αB 0 := hE2.2 0 (Or.inl (List.getElem?_eq_some_iff.mp hB0).1)
  refine lv_icmp_eq (tgt := 1758) hx hb dL_law_733 (by decide) (fun _ => ?_) (fun z => absurd rfl z)
  exact y_next hmc hms RA2 RB2 RO2 dAB2.symm dAO1 dBO2 SA1 SB2 hS2 NA NB hI2 (fun H3 locs3 hY3 hS3 => next H3 locs3 (by rw [eβ, eβ2] at hY3; exact hY3) hS3)
def yS_worstDay (Inv : xH → xH → Prop) : Prop := ySimI Inv YX7_worstDay YX9_worstDay []
set_option maxHeartbeats 4000000 in
set_option maxRecDepth 100000 in
theorem lawc_worstDay (C : yCx p l s m args meth c D A) (hT : yTop Inv) (hs : yS_worstDay Inv) (hX : va_X b L xs s s.heap) (hbl : b < s.heap.size) (hbA : ¬ A b) (hin : ∀ j : Int32, 0 ≤ j.toInt → j.toInt < 6 → vp_in (xi + j) L) (hY : yI Inv D s A x y o H) (hS : va_S A s.heap H locs) (hl : lv_has ls 7 [(0, .ref b), (1, .ref x), (2, .ref y), (3, .ref o), (4, .int xi)]) (hrm : cells + 16 ≤ 601024 ∧ slots + 164 ≤ 7293034)
    (next : ∀ (H1 : Heap) (locs1 : List Loc), yI Inv D s A x y o H1 → va_S A s.heap H1 locs1 → W p l e room_1 s m args below meth c H1 locs1 (cells + 16) (slots + 164) Q (F0 m 1758 ls [])) : W p l e room_1 s m args below meth c H locs cells slots Q (F0 m 738 ls []) := by
  have hx := C.1
  have hb := C.2.1
  obtain ⟨αA, αB, αO, hA, hB, f, hI, eA, eB, eO, RA, RB, RO, dAB, dAO, dBO, SA, SB⟩ := hY
  subst eA
  subst eB
  subst eO
  obtain ⟨⟨fsA, hA0⟩, ⟨fsB, hB0⟩⟩ := hT hA hB hI
  obtain ⟨v, hA1, hB1, hA2, hB2, mc, ms, hmc, hms, MA, MB, hlA, hlB, NA, NB, hI2⟩ := hs hA hB hI
  refine lv_aload_n hx hb dL_law_738 rfl (lv_at hl 1 rfl) ?_
  refine y_call (d := 40) (h2 := hB) (α2 := αB) (h3 := [.inl (1, 1, .inr (.inl f))]) (α3 := αO) C SA MA kL_94 dL_law_739 hA0 rfl rfl rfl rfl rfl (Nat.le_of_ble_eq_true rfl) hl.1 (by decide) (by omega) hlA RA RB RO dAB dAO hS (fun βA H1 locs1 hE1 RA1 RB1 RO1 dAB1 dAO1 SA1 hS1 => ?_)
  have eβ : βA 0 = αA 0 := hE1.2 0 (Or.inl (List.getElem?_eq_some_iff.mp hA0).1)
  refine lv_aload_n hx hb dL_law_742 rfl (lv_at hl 2 rfl) ?_
  refine y_call (d := 40) (h2 := hA1) (α2 := βA) (h3 := [.inl (1, 1, .inr (.inl f))]) (α3 := αO) C SB MB kL_97 dL_law_743 hB0 rfl rfl rfl rfl rfl (Nat.le_of_ble_eq_true rfl) hl.1 (by decide) (by omega) hlB RB1 RA1 RO1 dAB1.symm dBO hS1 (fun βB H2 locs2 hE2 RB2 RA2 RO2 dAB2 dBO2 SB2 hS2 => ?_)
  have eβ2 : βB 0 = αB 0 := hE2.2 0 (Or.inl (List.getElem?_eq_some_iff.mp hB0).1)
  refine lv_icmp_eq (tgt := 1758) hx hb dL_law_746 (by decide) (fun _ => ?_) (fun z => absurd rfl z)
  exact y_next hmc hms RA2 RB2 RO2 dAB2.symm dAO1 dBO2 SA1 SB2 hS2 NA NB hI2 (fun H3 locs3 hY3 hS3 => next H3 locs3 (by rw [eβ, eβ2] at hY3; exact hY3) hS3)
def yS_owing (Inv : xH → xH → Prop) : Prop := ∀ v0 v1 : Int32, ySimI Inv YX7_owing YX9_owing [.int v0, .int v1]
set_option maxHeartbeats 4000000 in
set_option maxRecDepth 100000 in
theorem lawc_owing (C : yCx p l s m args meth c D A) (hT : yTop Inv) (hs : yS_owing Inv) (hX : va_X b L xs s s.heap) (hbl : b < s.heap.size) (hbA : ¬ A b) (hin : ∀ j : Int32, 0 ≤ j.toInt → j.toInt < 6 → vp_in (xi + j) L) (hY : yI Inv D s A x y o H) (hS : va_S A s.heap H locs) (hl : lv_has ls 7 [(0, .ref b), (1, .ref x), (2, .ref y), (3, .ref o), (4, .int xi)]) (hrm : cells + 16 ≤ 601024 ∧ slots + 164 ≤ 7293034)
    (next : ∀ (H1 : Heap) (locs1 : List Loc), yI Inv D s A x y o H1 → va_S A s.heap H1 locs1 → W p l e room_1 s m args below meth c H1 locs1 (cells + 16) (slots + 164) Q (F0 m 1758 ls [])) : W p l e room_1 s m args below meth c H locs cells slots Q (F0 m 751 ls []) := by
  have hx := C.1
  have hb := C.2.1
  obtain ⟨αA, αB, αO, hA, hB, f, hI, eA, eB, eO, RA, RB, RO, dAB, dAO, dBO, SA, SB⟩ := hY
  subst eA
  subst eB
  subst eO
  obtain ⟨⟨fsA, hA0⟩, ⟨fsB, hB0⟩⟩ := hT hA hB hI
  obtain ⟨v, hA1, hB1, hA2, hB2, mc, ms, hmc, hms, MA, MB, hlA, hlB, NA, NB, hI2⟩ := hs (xs (xi + 1).toNatClampNeg) (xs (xi + 2).toNatClampNeg) hA hB hI
  refine lv_aload_n hx hb dL_law_751 rfl (lv_at hl 1 rfl) ?_
  refine lv_aload_n hx hb dL_law_752 rfl (lv_at hl 0 rfl) ?_
  refine lv_iload hx hb dL_law_753 (lv_at hl 4 rfl) ?_
  refine lv_iconst (v := 1) hx hb dL_law_755 (by decide) ?_
  refine lv_iadd hx hb dL_law_756 ?_
  refine va_sld hx hb hX hbl hbA hS (hin 1 (by decide) (by decide)) dL_law_757 ?_
  refine lv_aload_n hx hb dL_law_758 rfl (lv_at hl 0 rfl) ?_
  refine lv_iload hx hb dL_law_759 (lv_at hl 4 rfl) ?_
  refine lv_iconst (v := 2) hx hb dL_law_761 (by decide) ?_
  refine lv_iadd hx hb dL_law_762 ?_
  refine va_sld hx hb hX hbl hbA hS (hin 2 (by decide) (by decide)) dL_law_763 ?_
  refine y_call (d := 40) (h2 := hB) (α2 := αB) (h3 := [.inl (1, 1, .inr (.inl f))]) (α3 := αO) C SA MA kL_98 dL_law_764 hA0 rfl rfl rfl rfl rfl (Nat.le_of_ble_eq_true rfl) hl.1 (by decide) (by omega) hlA RA RB RO dAB dAO hS (fun βA H1 locs1 hE1 RA1 RB1 RO1 dAB1 dAO1 SA1 hS1 => ?_)
  have eβ : βA 0 = αA 0 := hE1.2 0 (Or.inl (List.getElem?_eq_some_iff.mp hA0).1)
  refine lv_aload_n hx hb dL_law_767 rfl (lv_at hl 2 rfl) ?_
  refine lv_aload_n hx hb dL_law_768 rfl (lv_at hl 0 rfl) ?_
  refine lv_iload hx hb dL_law_769 (lv_at hl 4 rfl) ?_
  refine lv_iconst (v := 1) hx hb dL_law_771 (by decide) ?_
  refine lv_iadd hx hb dL_law_772 ?_
  refine va_sld hx hb hX hbl hbA hS1 (hin 1 (by decide) (by decide)) dL_law_773 ?_
  refine lv_aload_n hx hb dL_law_774 rfl (lv_at hl 0 rfl) ?_
  refine lv_iload hx hb dL_law_775 (lv_at hl 4 rfl) ?_
  refine lv_iconst (v := 2) hx hb dL_law_777 (by decide) ?_
  refine lv_iadd hx hb dL_law_778 ?_
  refine va_sld hx hb hX hbl hbA hS1 (hin 2 (by decide) (by decide)) dL_law_779 ?_
  refine y_call (d := 40) (h2 := hA1) (α2 := βA) (h3 := [.inl (1, 1, .inr (.inl f))]) (α3 := αO) C SB MB kL_101 dL_law_780 hB0 rfl rfl rfl rfl rfl (Nat.le_of_ble_eq_true rfl) hl.1 (by decide) (by omega) hlB RB1 RA1 RO1 dAB1.symm dBO hS1 (fun βB H2 locs2 hE2 RB2 RA2 RO2 dAB2 dBO2 SB2 hS2 => ?_)
  have eβ2 : βB 0 = αB 0 := hE2.2 0 (Or.inl (List.getElem?_eq_some_iff.mp hB0).1)
  refine lv_icmp_eq (tgt := 1758) hx hb dL_law_783 (by decide) (fun _ => ?_) (fun z => absurd rfl z)
  exact y_next hmc hms RA2 RB2 RO2 dAB2.symm dAO1 dBO2 SA1 SB2 hS2 NA NB hI2 (fun H3 locs3 hY3 hS3 => next H3 locs3 (by rw [eβ, eβ2] at hY3; exact hY3) hS3)
def yS_change (Inv : xH → xH → Prop) : Prop := ∀ v0 v1 : Int32, (v1 = 0 ∨ v1 = 1) → ySimI Inv YX7_change YX9_change [.int v0, .int v1]
set_option maxHeartbeats 4000000 in
set_option maxRecDepth 100000 in
theorem lawc_change (C : yCx p l s m args meth c D A) (hT : yTop Inv) (hs : yS_change Inv) (hX : va_X b L xs s s.heap) (hbl : b < s.heap.size) (hbA : ¬ A b) (hin : ∀ j : Int32, 0 ≤ j.toInt → j.toInt < 6 → vp_in (xi + j) L) (hY : yI Inv D s A x y o H) (hS : va_S A s.heap H locs) (hl : lv_has ls 7 [(0, .ref b), (1, .ref x), (2, .ref y), (3, .ref o), (4, .int xi)]) (hrm : cells + 16 ≤ 601024 ∧ slots + 164 ≤ 7293034)
    (next : ∀ (H1 : Heap) (locs1 : List Loc), yI Inv D s A x y o H1 → va_S A s.heap H1 locs1 → W p l e room_1 s m args below meth c H1 locs1 (cells + 16) (slots + 164) Q (F0 m 1758 ls [])) : W p l e room_1 s m args below meth c H locs cells slots Q (F0 m 788 ls []) := by
  have hx := C.1
  have hb := C.2.1
  obtain ⟨αA, αB, αO, hA, hB, f, hI, eA, eB, eO, RA, RB, RO, dAB, dAO, dBO, SA, SB⟩ := hY
  subst eA
  subst eB
  subst eO
  obtain ⟨⟨fsA, hA0⟩, ⟨fsB, hB0⟩⟩ := hT hA hB hI
  by_cases hq : (xs (xi + 2).toNatClampNeg) = 0
  · obtain ⟨v, hA1, hB1, hA2, hB2, mc, ms, hmc, hms, MA, MB, hlA, hlB, NA, NB, hI2⟩ := hs (xs (xi + 1).toNatClampNeg) 0 (Or.inl rfl) hA hB hI
    refine lv_aload_n hx hb dL_law_788 rfl (lv_at hl 1 rfl) ?_
    refine lv_aload_n hx hb dL_law_789 rfl (lv_at hl 0 rfl) ?_
    refine lv_iload hx hb dL_law_790 (lv_at hl 4 rfl) ?_
    refine lv_iconst (v := 1) hx hb dL_law_792 (by decide) ?_
    refine lv_iadd hx hb dL_law_793 ?_
    refine va_sld hx hb hX hbl hbA hS (hin 1 (by decide) (by decide)) dL_law_794 ?_
    refine lv_aload_n hx hb dL_law_795 rfl (lv_at hl 0 rfl) ?_
    refine lv_iload hx hb dL_law_796 (lv_at hl 4 rfl) ?_
    refine lv_iconst (v := 2) hx hb dL_law_798 (by decide) ?_
    refine lv_iadd hx hb dL_law_799 ?_
    refine va_sld hx hb hX hbl hbA hS (hin 2 (by decide) (by decide)) dL_law_800 ?_
    refine lv_if_eq (tgt := 808) hx hb dL_law_801 (by decide) (fun _ => ?_) (fun z => absurd hq z)
    refine lv_iconst (v := 0) hx hb dL_law_808 (by decide) ?_
    refine y_call (d := 40) (h2 := hB) (α2 := αB) (h3 := [.inl (1, 1, .inr (.inl f))]) (α3 := αO) C SA MA kL_102 dL_law_809 hA0 rfl rfl rfl rfl rfl (Nat.le_of_ble_eq_true rfl) hl.1 (by decide) (by omega) hlA RA RB RO dAB dAO hS (fun βA H1 locs1 hE1 RA1 RB1 RO1 dAB1 dAO1 SA1 hS1 => ?_)
    have eβ : βA 0 = αA 0 := hE1.2 0 (Or.inl (List.getElem?_eq_some_iff.mp hA0).1)
    refine lv_aload_n hx hb dL_law_812 rfl (lv_at hl 2 rfl) ?_
    refine lv_aload_n hx hb dL_law_813 rfl (lv_at hl 0 rfl) ?_
    refine lv_iload hx hb dL_law_814 (lv_at hl 4 rfl) ?_
    refine lv_iconst (v := 1) hx hb dL_law_816 (by decide) ?_
    refine lv_iadd hx hb dL_law_817 ?_
    refine va_sld hx hb hX hbl hbA hS1 (hin 1 (by decide) (by decide)) dL_law_818 ?_
    refine lv_aload_n hx hb dL_law_819 rfl (lv_at hl 0 rfl) ?_
    refine lv_iload hx hb dL_law_820 (lv_at hl 4 rfl) ?_
    refine lv_iconst (v := 2) hx hb dL_law_822 (by decide) ?_
    refine lv_iadd hx hb dL_law_823 ?_
    refine va_sld hx hb hX hbl hbA hS1 (hin 2 (by decide) (by decide)) dL_law_824 ?_
    refine lv_if_eq (tgt := 832) hx hb dL_law_825 (by decide) (fun _ => ?_) (fun z => absurd hq z)
    refine lv_iconst (v := 0) hx hb dL_law_832 (by decide) ?_
    refine y_call (d := 40) (h2 := hA1) (α2 := βA) (h3 := [.inl (1, 1, .inr (.inl f))]) (α3 := αO) C SB MB kL_106 dL_law_833 hB0 rfl rfl rfl rfl rfl (Nat.le_of_ble_eq_true rfl) hl.1 (by decide) (by omega) hlB RB1 RA1 RO1 dAB1.symm dBO hS1 (fun βB H2 locs2 hE2 RB2 RA2 RO2 dAB2 dBO2 SB2 hS2 => ?_)
    have eβ2 : βB 0 = αB 0 := hE2.2 0 (Or.inl (List.getElem?_eq_some_iff.mp hB0).1)
    refine lv_icmp_eq (tgt := 1758) hx hb dL_law_836 (by decide) (fun _ => ?_) (fun z => absurd rfl z)
    exact y_next hmc hms RA2 RB2 RO2 dAB2.symm dAO1 dBO2 SA1 SB2 hS2 NA NB hI2 (fun H3 locs3 hY3 hS3 => next H3 locs3 (by rw [eβ, eβ2] at hY3; exact hY3) hS3)
  · obtain ⟨v, hA1, hB1, hA2, hB2, mc, ms, hmc, hms, MA, MB, hlA, hlB, NA, NB, hI2⟩ := hs (xs (xi + 1).toNatClampNeg) 1 (Or.inr rfl) hA hB hI
    refine lv_aload_n hx hb dL_law_788 rfl (lv_at hl 1 rfl) ?_
    refine lv_aload_n hx hb dL_law_789 rfl (lv_at hl 0 rfl) ?_
    refine lv_iload hx hb dL_law_790 (lv_at hl 4 rfl) ?_
    refine lv_iconst (v := 1) hx hb dL_law_792 (by decide) ?_
    refine lv_iadd hx hb dL_law_793 ?_
    refine va_sld hx hb hX hbl hbA hS (hin 1 (by decide) (by decide)) dL_law_794 ?_
    refine lv_aload_n hx hb dL_law_795 rfl (lv_at hl 0 rfl) ?_
    refine lv_iload hx hb dL_law_796 (lv_at hl 4 rfl) ?_
    refine lv_iconst (v := 2) hx hb dL_law_798 (by decide) ?_
    refine lv_iadd hx hb dL_law_799 ?_
    refine va_sld hx hb hX hbl hbA hS (hin 2 (by decide) (by decide)) dL_law_800 ?_
    refine lv_if_eq (tgt := 808) hx hb dL_law_801 (by decide) (fun z => absurd z hq) (fun _ => ?_)
    refine lv_iconst (v := 1) hx hb dL_law_804 (by decide) ?_
    refine lv_goto (tgt := 809) hx hb dL_law_805 (by decide) ?_
    refine y_call (d := 40) (h2 := hB) (α2 := αB) (h3 := [.inl (1, 1, .inr (.inl f))]) (α3 := αO) C SA MA kL_102 dL_law_809 hA0 rfl rfl rfl rfl rfl (Nat.le_of_ble_eq_true rfl) hl.1 (by decide) (by omega) hlA RA RB RO dAB dAO hS (fun βA H1 locs1 hE1 RA1 RB1 RO1 dAB1 dAO1 SA1 hS1 => ?_)
    have eβ : βA 0 = αA 0 := hE1.2 0 (Or.inl (List.getElem?_eq_some_iff.mp hA0).1)
    refine lv_aload_n hx hb dL_law_812 rfl (lv_at hl 2 rfl) ?_
    refine lv_aload_n hx hb dL_law_813 rfl (lv_at hl 0 rfl) ?_
    refine lv_iload hx hb dL_law_814 (lv_at hl 4 rfl) ?_
    refine lv_iconst (v := 1) hx hb dL_law_816 (by decide) ?_
    refine lv_iadd hx hb dL_law_817 ?_
    refine va_sld hx hb hX hbl hbA hS1 (hin 1 (by decide) (by decide)) dL_law_818 ?_
    refine lv_aload_n hx hb dL_law_819 rfl (lv_at hl 0 rfl) ?_
    refine lv_iload hx hb dL_law_820 (lv_at hl 4 rfl) ?_
    refine lv_iconst (v := 2) hx hb dL_law_822 (by decide) ?_
    refine lv_iadd hx hb dL_law_823 ?_
    refine va_sld hx hb hX hbl hbA hS1 (hin 2 (by decide) (by decide)) dL_law_824 ?_
    refine lv_if_eq (tgt := 832) hx hb dL_law_825 (by decide) (fun z => absurd z hq) (fun _ => ?_)
    refine lv_iconst (v := 1) hx hb dL_law_828 (by decide) ?_
    refine lv_goto (tgt := 833) hx hb dL_law_829 (by decide) ?_
    refine y_call (d := 40) (h2 := hA1) (α2 := βA) (h3 := [.inl (1, 1, .inr (.inl f))]) (α3 := αO) C SB MB kL_106 dL_law_833 hB0 rfl rfl rfl rfl rfl (Nat.le_of_ble_eq_true rfl) hl.1 (by decide) (by omega) hlB RB1 RA1 RO1 dAB1.symm dBO hS1 (fun βB H2 locs2 hE2 RB2 RA2 RO2 dAB2 dBO2 SB2 hS2 => ?_)
    have eβ2 : βB 0 = αB 0 := hE2.2 0 (Or.inl (List.getElem?_eq_some_iff.mp hB0).1)
    refine lv_icmp_eq (tgt := 1758) hx hb dL_law_836 (by decide) (fun _ => ?_) (fun z => absurd rfl z)
    exact y_next hmc hms RA2 RB2 RO2 dAB2.symm dAO1 dBO2 SA1 SB2 hS2 NA NB hI2 (fun H3 locs3 hY3 hS3 => next H3 locs3 (by rw [eβ, eβ2] at hY3; exact hY3) hS3)
def yS_lapsesIn (Inv : xH → xH → Prop) : Prop := ∀ v0 : Int32, ySimI Inv YX7_lapsesIn YX9_lapsesIn [.int v0]
set_option maxHeartbeats 4000000 in
set_option maxRecDepth 100000 in
theorem lawc_lapsesIn (C : yCx p l s m args meth c D A) (hT : yTop Inv) (hs : yS_lapsesIn Inv) (hX : va_X b L xs s s.heap) (hbl : b < s.heap.size) (hbA : ¬ A b) (hin : ∀ j : Int32, 0 ≤ j.toInt → j.toInt < 6 → vp_in (xi + j) L) (hY : yI Inv D s A x y o H) (hS : va_S A s.heap H locs) (hl : lv_has ls 7 [(0, .ref b), (1, .ref x), (2, .ref y), (3, .ref o), (4, .int xi)]) (hrm : cells + 16 ≤ 601024 ∧ slots + 164 ≤ 7293034)
    (next : ∀ (H1 : Heap) (locs1 : List Loc), yI Inv D s A x y o H1 → va_S A s.heap H1 locs1 → W p l e room_1 s m args below meth c H1 locs1 (cells + 16) (slots + 164) Q (F0 m 1758 ls [])) : W p l e room_1 s m args below meth c H locs cells slots Q (F0 m 841 ls []) := by
  have hx := C.1
  have hb := C.2.1
  obtain ⟨αA, αB, αO, hA, hB, f, hI, eA, eB, eO, RA, RB, RO, dAB, dAO, dBO, SA, SB⟩ := hY
  subst eA
  subst eB
  subst eO
  obtain ⟨⟨fsA, hA0⟩, ⟨fsB, hB0⟩⟩ := hT hA hB hI
  obtain ⟨v, hA1, hB1, hA2, hB2, mc, ms, hmc, hms, MA, MB, hlA, hlB, NA, NB, hI2⟩ := hs (xs (xi + 1).toNatClampNeg) hA hB hI
  refine lv_aload_n hx hb dL_law_841 rfl (lv_at hl 1 rfl) ?_
  refine lv_aload_n hx hb dL_law_842 rfl (lv_at hl 0 rfl) ?_
  refine lv_iload hx hb dL_law_843 (lv_at hl 4 rfl) ?_
  refine lv_iconst (v := 1) hx hb dL_law_845 (by decide) ?_
  refine lv_iadd hx hb dL_law_846 ?_
  refine va_sld hx hb hX hbl hbA hS (hin 1 (by decide) (by decide)) dL_law_847 ?_
  refine y_call (d := 40) (h2 := hB) (α2 := αB) (h3 := [.inl (1, 1, .inr (.inl f))]) (α3 := αO) C SA MA kL_107 dL_law_848 hA0 rfl rfl rfl rfl rfl (Nat.le_of_ble_eq_true rfl) hl.1 (by decide) (by omega) hlA RA RB RO dAB dAO hS (fun βA H1 locs1 hE1 RA1 RB1 RO1 dAB1 dAO1 SA1 hS1 => ?_)
  have eβ : βA 0 = αA 0 := hE1.2 0 (Or.inl (List.getElem?_eq_some_iff.mp hA0).1)
  refine lv_aload_n hx hb dL_law_851 rfl (lv_at hl 2 rfl) ?_
  refine lv_aload_n hx hb dL_law_852 rfl (lv_at hl 0 rfl) ?_
  refine lv_iload hx hb dL_law_853 (lv_at hl 4 rfl) ?_
  refine lv_iconst (v := 1) hx hb dL_law_855 (by decide) ?_
  refine lv_iadd hx hb dL_law_856 ?_
  refine va_sld hx hb hX hbl hbA hS1 (hin 1 (by decide) (by decide)) dL_law_857 ?_
  refine y_call (d := 40) (h2 := hA1) (α2 := βA) (h3 := [.inl (1, 1, .inr (.inl f))]) (α3 := αO) C SB MB kL_110 dL_law_858 hB0 rfl rfl rfl rfl rfl (Nat.le_of_ble_eq_true rfl) hl.1 (by decide) (by omega) hlB RB1 RA1 RO1 dAB1.symm dBO hS1 (fun βB H2 locs2 hE2 RB2 RA2 RO2 dAB2 dBO2 SB2 hS2 => ?_)
  have eβ2 : βB 0 = αB 0 := hE2.2 0 (Or.inl (List.getElem?_eq_some_iff.mp hB0).1)
  refine lv_icmp_eq (tgt := 1758) hx hb dL_law_861 (by decide) (fun _ => ?_) (fun z => absurd rfl z)
  exact y_next hmc hms RA2 RB2 RO2 dAB2.symm dAO1 dBO2 SA1 SB2 hS2 NA NB hI2 (fun H3 locs3 hY3 hS3 => next H3 locs3 (by rw [eβ, eβ2] at hY3; exact hY3) hS3)
def yS_guest (Inv : xH → xH → Prop) : Prop := ∀ v0 : Int32, ySimI Inv YX7_guest YX9_guest [.int v0]
set_option maxHeartbeats 4000000 in
set_option maxRecDepth 100000 in
theorem lawc_guest (C : yCx p l s m args meth c D A) (hT : yTop Inv) (hs : yS_guest Inv) (hX : va_X b L xs s s.heap) (hbl : b < s.heap.size) (hbA : ¬ A b) (hin : ∀ j : Int32, 0 ≤ j.toInt → j.toInt < 6 → vp_in (xi + j) L) (hY : yI Inv D s A x y o H) (hS : va_S A s.heap H locs) (hl : lv_has ls 7 [(0, .ref b), (1, .ref x), (2, .ref y), (3, .ref o), (4, .int xi)]) (hrm : cells + 16 ≤ 601024 ∧ slots + 164 ≤ 7293034)
    (next : ∀ (H1 : Heap) (locs1 : List Loc), yI Inv D s A x y o H1 → va_S A s.heap H1 locs1 → W p l e room_1 s m args below meth c H1 locs1 (cells + 16) (slots + 164) Q (F0 m 1758 ls [])) : W p l e room_1 s m args below meth c H locs cells slots Q (F0 m 866 ls []) := by
  have hx := C.1
  have hb := C.2.1
  obtain ⟨αA, αB, αO, hA, hB, f, hI, eA, eB, eO, RA, RB, RO, dAB, dAO, dBO, SA, SB⟩ := hY
  subst eA
  subst eB
  subst eO
  obtain ⟨⟨fsA, hA0⟩, ⟨fsB, hB0⟩⟩ := hT hA hB hI
  obtain ⟨v, hA1, hB1, hA2, hB2, mc, ms, hmc, hms, MA, MB, hlA, hlB, NA, NB, hI2⟩ := hs (xs (xi + 1).toNatClampNeg) hA hB hI
  refine lv_aload_n hx hb dL_law_866 rfl (lv_at hl 1 rfl) ?_
  refine lv_aload_n hx hb dL_law_867 rfl (lv_at hl 0 rfl) ?_
  refine lv_iload hx hb dL_law_868 (lv_at hl 4 rfl) ?_
  refine lv_iconst (v := 1) hx hb dL_law_870 (by decide) ?_
  refine lv_iadd hx hb dL_law_871 ?_
  refine va_sld hx hb hX hbl hbA hS (hin 1 (by decide) (by decide)) dL_law_872 ?_
  refine y_call (d := 40) (h2 := hB) (α2 := αB) (h3 := [.inl (1, 1, .inr (.inl f))]) (α3 := αO) C SA MA kL_111 dL_law_873 hA0 rfl rfl rfl rfl rfl (Nat.le_of_ble_eq_true rfl) hl.1 (by decide) (by omega) hlA RA RB RO dAB dAO hS (fun βA H1 locs1 hE1 RA1 RB1 RO1 dAB1 dAO1 SA1 hS1 => ?_)
  have eβ : βA 0 = αA 0 := hE1.2 0 (Or.inl (List.getElem?_eq_some_iff.mp hA0).1)
  refine lv_aload_n hx hb dL_law_876 rfl (lv_at hl 2 rfl) ?_
  refine lv_aload_n hx hb dL_law_877 rfl (lv_at hl 0 rfl) ?_
  refine lv_iload hx hb dL_law_878 (lv_at hl 4 rfl) ?_
  refine lv_iconst (v := 1) hx hb dL_law_880 (by decide) ?_
  refine lv_iadd hx hb dL_law_881 ?_
  refine va_sld hx hb hX hbl hbA hS1 (hin 1 (by decide) (by decide)) dL_law_882 ?_
  refine y_call (d := 40) (h2 := hA1) (α2 := βA) (h3 := [.inl (1, 1, .inr (.inl f))]) (α3 := αO) C SB MB kL_114 dL_law_883 hB0 rfl rfl rfl rfl rfl (Nat.le_of_ble_eq_true rfl) hl.1 (by decide) (by omega) hlB RB1 RA1 RO1 dAB1.symm dBO hS1 (fun βB H2 locs2 hE2 RB2 RA2 RO2 dAB2 dBO2 SB2 hS2 => ?_)
  have eβ2 : βB 0 = αB 0 := hE2.2 0 (Or.inl (List.getElem?_eq_some_iff.mp hB0).1)
  refine lv_icmp_eq (tgt := 1758) hx hb dL_law_886 (by decide) (fun _ => ?_) (fun z => absurd rfl z)
  exact y_next hmc hms RA2 RB2 RO2 dAB2.symm dAO1 dBO2 SA1 SB2 hS2 NA NB hI2 (fun H3 locs3 hY3 hS3 => next H3 locs3 (by rw [eβ, eβ2] at hY3; exact hY3) hS3)
def yS_putRight (Inv : xH → xH → Prop) : Prop := ySimI Inv YX7_putRight YX9_putRight []
set_option maxHeartbeats 4000000 in
set_option maxRecDepth 100000 in
theorem lawc_putRight (C : yCx p l s m args meth c D A) (hT : yTop Inv) (hs : yS_putRight Inv) (hX : va_X b L xs s s.heap) (hbl : b < s.heap.size) (hbA : ¬ A b) (hin : ∀ j : Int32, 0 ≤ j.toInt → j.toInt < 6 → vp_in (xi + j) L) (hY : yI Inv D s A x y o H) (hS : va_S A s.heap H locs) (hl : lv_has ls 7 [(0, .ref b), (1, .ref x), (2, .ref y), (3, .ref o), (4, .int xi)]) (hrm : cells + 16 ≤ 601024 ∧ slots + 164 ≤ 7293034)
    (next : ∀ (H1 : Heap) (locs1 : List Loc), yI Inv D s A x y o H1 → va_S A s.heap H1 locs1 → W p l e room_1 s m args below meth c H1 locs1 (cells + 16) (slots + 164) Q (F0 m 1758 ls [])) : W p l e room_1 s m args below meth c H locs cells slots Q (F0 m 891 ls []) := by
  have hx := C.1
  have hb := C.2.1
  obtain ⟨αA, αB, αO, hA, hB, f, hI, eA, eB, eO, RA, RB, RO, dAB, dAO, dBO, SA, SB⟩ := hY
  subst eA
  subst eB
  subst eO
  obtain ⟨⟨fsA, hA0⟩, ⟨fsB, hB0⟩⟩ := hT hA hB hI
  obtain ⟨v, hA1, hB1, hA2, hB2, mc, ms, hmc, hms, MA, MB, hlA, hlB, NA, NB, hI2⟩ := hs hA hB hI
  refine lv_aload_n hx hb dL_law_891 rfl (lv_at hl 1 rfl) ?_
  refine y_call (d := 40) (h2 := hB) (α2 := αB) (h3 := [.inl (1, 1, .inr (.inl f))]) (α3 := αO) C SA MA kL_115 dL_law_892 hA0 rfl rfl rfl rfl rfl (Nat.le_of_ble_eq_true rfl) hl.1 (by decide) (by omega) hlA RA RB RO dAB dAO hS (fun βA H1 locs1 hE1 RA1 RB1 RO1 dAB1 dAO1 SA1 hS1 => ?_)
  have eβ : βA 0 = αA 0 := hE1.2 0 (Or.inl (List.getElem?_eq_some_iff.mp hA0).1)
  refine lv_aload_n hx hb dL_law_895 rfl (lv_at hl 2 rfl) ?_
  refine y_call (d := 40) (h2 := hA1) (α2 := βA) (h3 := [.inl (1, 1, .inr (.inl f))]) (α3 := αO) C SB MB kL_118 dL_law_896 hB0 rfl rfl rfl rfl rfl (Nat.le_of_ble_eq_true rfl) hl.1 (by decide) (by omega) hlB RB1 RA1 RO1 dAB1.symm dBO hS1 (fun βB H2 locs2 hE2 RB2 RA2 RO2 dAB2 dBO2 SB2 hS2 => ?_)
  have eβ2 : βB 0 = αB 0 := hE2.2 0 (Or.inl (List.getElem?_eq_some_iff.mp hB0).1)
  refine lv_icmp_eq (tgt := 1758) hx hb dL_law_899 (by decide) (fun _ => ?_) (fun z => absurd rfl z)
  exact y_next hmc hms RA2 RB2 RO2 dAB2.symm dAO1 dBO2 SA1 SB2 hS2 NA NB hI2 (fun H3 locs3 hY3 hS3 => next H3 locs3 (by rw [eβ, eβ2] at hY3; exact hY3) hS3)
def yS_exchanges (Inv : xH → xH → Prop) : Prop := ySimI Inv YX7_exchanges YX9_exchanges []
set_option maxHeartbeats 4000000 in
set_option maxRecDepth 100000 in
theorem lawc_exchanges (C : yCx p l s m args meth c D A) (hT : yTop Inv) (hs : yS_exchanges Inv) (hX : va_X b L xs s s.heap) (hbl : b < s.heap.size) (hbA : ¬ A b) (hin : ∀ j : Int32, 0 ≤ j.toInt → j.toInt < 6 → vp_in (xi + j) L) (hY : yI Inv D s A x y o H) (hS : va_S A s.heap H locs) (hl : lv_has ls 7 [(0, .ref b), (1, .ref x), (2, .ref y), (3, .ref o), (4, .int xi)]) (hrm : cells + 16 ≤ 601024 ∧ slots + 164 ≤ 7293034)
    (next : ∀ (H1 : Heap) (locs1 : List Loc), yI Inv D s A x y o H1 → va_S A s.heap H1 locs1 → W p l e room_1 s m args below meth c H1 locs1 (cells + 16) (slots + 164) Q (F0 m 1758 ls [])) : W p l e room_1 s m args below meth c H locs cells slots Q (F0 m 904 ls []) := by
  have hx := C.1
  have hb := C.2.1
  obtain ⟨αA, αB, αO, hA, hB, f, hI, eA, eB, eO, RA, RB, RO, dAB, dAO, dBO, SA, SB⟩ := hY
  subst eA
  subst eB
  subst eO
  obtain ⟨⟨fsA, hA0⟩, ⟨fsB, hB0⟩⟩ := hT hA hB hI
  obtain ⟨v, hA1, hB1, hA2, hB2, mc, ms, hmc, hms, MA, MB, hlA, hlB, NA, NB, hI2⟩ := hs hA hB hI
  refine lv_aload_n hx hb dL_law_904 rfl (lv_at hl 1 rfl) ?_
  refine y_call (d := 40) (h2 := hB) (α2 := αB) (h3 := [.inl (1, 1, .inr (.inl f))]) (α3 := αO) C SA MA kL_119 dL_law_905 hA0 rfl rfl rfl rfl rfl (Nat.le_of_ble_eq_true rfl) hl.1 (by decide) (by omega) hlA RA RB RO dAB dAO hS (fun βA H1 locs1 hE1 RA1 RB1 RO1 dAB1 dAO1 SA1 hS1 => ?_)
  have eβ : βA 0 = αA 0 := hE1.2 0 (Or.inl (List.getElem?_eq_some_iff.mp hA0).1)
  refine lv_aload_n hx hb dL_law_908 rfl (lv_at hl 2 rfl) ?_
  refine y_call (d := 40) (h2 := hA1) (α2 := βA) (h3 := [.inl (1, 1, .inr (.inl f))]) (α3 := αO) C SB MB kL_122 dL_law_909 hB0 rfl rfl rfl rfl rfl (Nat.le_of_ble_eq_true rfl) hl.1 (by decide) (by omega) hlB RB1 RA1 RO1 dAB1.symm dBO hS1 (fun βB H2 locs2 hE2 RB2 RA2 RO2 dAB2 dBO2 SB2 hS2 => ?_)
  have eβ2 : βB 0 = αB 0 := hE2.2 0 (Or.inl (List.getElem?_eq_some_iff.mp hB0).1)
  refine lv_icmp_eq (tgt := 1758) hx hb dL_law_912 (by decide) (fun _ => ?_) (fun z => absurd rfl z)
  exact y_next hmc hms RA2 RB2 RO2 dAB2.symm dAO1 dBO2 SA1 SB2 hS2 NA NB hI2 (fun H3 locs3 hY3 hS3 => next H3 locs3 (by rw [eβ, eβ2] at hY3; exact hY3) hS3)
def yS_exchangeAt (Inv : xH → xH → Prop) : Prop := ∀ v0 : Int32, ySimI Inv YX7_exchangeAt YX9_exchangeAt [.int v0]
set_option maxHeartbeats 4000000 in
set_option maxRecDepth 100000 in
theorem lawc_exchangeAt (C : yCx p l s m args meth c D A) (hT : yTop Inv) (hs : yS_exchangeAt Inv) (hX : va_X b L xs s s.heap) (hbl : b < s.heap.size) (hbA : ¬ A b) (hin : ∀ j : Int32, 0 ≤ j.toInt → j.toInt < 6 → vp_in (xi + j) L) (hY : yI Inv D s A x y o H) (hS : va_S A s.heap H locs) (hl : lv_has ls 7 [(0, .ref b), (1, .ref x), (2, .ref y), (3, .ref o), (4, .int xi)]) (hrm : cells + 16 ≤ 601024 ∧ slots + 164 ≤ 7293034)
    (next : ∀ (H1 : Heap) (locs1 : List Loc), yI Inv D s A x y o H1 → va_S A s.heap H1 locs1 → W p l e room_1 s m args below meth c H1 locs1 (cells + 16) (slots + 164) Q (F0 m 1758 ls [])) : W p l e room_1 s m args below meth c H locs cells slots Q (F0 m 917 ls []) := by
  have hx := C.1
  have hb := C.2.1
  obtain ⟨αA, αB, αO, hA, hB, f, hI, eA, eB, eO, RA, RB, RO, dAB, dAO, dBO, SA, SB⟩ := hY
  subst eA
  subst eB
  subst eO
  obtain ⟨⟨fsA, hA0⟩, ⟨fsB, hB0⟩⟩ := hT hA hB hI
  obtain ⟨v, hA1, hB1, hA2, hB2, mc, ms, hmc, hms, MA, MB, hlA, hlB, NA, NB, hI2⟩ := hs (xs (xi + 1).toNatClampNeg) hA hB hI
  refine lv_aload_n hx hb dL_law_917 rfl (lv_at hl 1 rfl) ?_
  refine lv_aload_n hx hb dL_law_918 rfl (lv_at hl 0 rfl) ?_
  refine lv_iload hx hb dL_law_919 (lv_at hl 4 rfl) ?_
  refine lv_iconst (v := 1) hx hb dL_law_921 (by decide) ?_
  refine lv_iadd hx hb dL_law_922 ?_
  refine va_sld hx hb hX hbl hbA hS (hin 1 (by decide) (by decide)) dL_law_923 ?_
  refine y_call (d := 40) (h2 := hB) (α2 := αB) (h3 := [.inl (1, 1, .inr (.inl f))]) (α3 := αO) C SA MA kL_123 dL_law_924 hA0 rfl rfl rfl rfl rfl (Nat.le_of_ble_eq_true rfl) hl.1 (by decide) (by omega) hlA RA RB RO dAB dAO hS (fun βA H1 locs1 hE1 RA1 RB1 RO1 dAB1 dAO1 SA1 hS1 => ?_)
  have eβ : βA 0 = αA 0 := hE1.2 0 (Or.inl (List.getElem?_eq_some_iff.mp hA0).1)
  refine lv_aload_n hx hb dL_law_927 rfl (lv_at hl 2 rfl) ?_
  refine lv_aload_n hx hb dL_law_928 rfl (lv_at hl 0 rfl) ?_
  refine lv_iload hx hb dL_law_929 (lv_at hl 4 rfl) ?_
  refine lv_iconst (v := 1) hx hb dL_law_931 (by decide) ?_
  refine lv_iadd hx hb dL_law_932 ?_
  refine va_sld hx hb hX hbl hbA hS1 (hin 1 (by decide) (by decide)) dL_law_933 ?_
  refine y_call (d := 40) (h2 := hA1) (α2 := βA) (h3 := [.inl (1, 1, .inr (.inl f))]) (α3 := αO) C SB MB kL_126 dL_law_934 hB0 rfl rfl rfl rfl rfl (Nat.le_of_ble_eq_true rfl) hl.1 (by decide) (by omega) hlB RB1 RA1 RO1 dAB1.symm dBO hS1 (fun βB H2 locs2 hE2 RB2 RA2 RO2 dAB2 dBO2 SB2 hS2 => ?_)
  have eβ2 : βB 0 = αB 0 := hE2.2 0 (Or.inl (List.getElem?_eq_some_iff.mp hB0).1)
  refine lv_icmp_eq (tgt := 1758) hx hb dL_law_937 (by decide) (fun _ => ?_) (fun z => absurd rfl z)
  exact y_next hmc hms RA2 RB2 RO2 dAB2.symm dAO1 dBO2 SA1 SB2 hS2 NA NB hI2 (fun H3 locs3 hY3 hS3 => next H3 locs3 (by rw [eβ, eβ2] at hY3; exact hY3) hS3)
def yS_party (Inv : xH → xH → Prop) : Prop := ∀ v0 : Int32, ySimI Inv YX7_party YX9_party [.int v0]
set_option maxHeartbeats 4000000 in
set_option maxRecDepth 100000 in
theorem lawc_party (C : yCx p l s m args meth c D A) (hT : yTop Inv) (hs : yS_party Inv) (hX : va_X b L xs s s.heap) (hbl : b < s.heap.size) (hbA : ¬ A b) (hin : ∀ j : Int32, 0 ≤ j.toInt → j.toInt < 6 → vp_in (xi + j) L) (hY : yI Inv D s A x y o H) (hS : va_S A s.heap H locs) (hl : lv_has ls 7 [(0, .ref b), (1, .ref x), (2, .ref y), (3, .ref o), (4, .int xi)]) (hrm : cells + 16 ≤ 601024 ∧ slots + 164 ≤ 7293034)
    (next : ∀ (H1 : Heap) (locs1 : List Loc), yI Inv D s A x y o H1 → va_S A s.heap H1 locs1 → W p l e room_1 s m args below meth c H1 locs1 (cells + 16) (slots + 164) Q (F0 m 1758 ls [])) : W p l e room_1 s m args below meth c H locs cells slots Q (F0 m 942 ls []) := by
  have hx := C.1
  have hb := C.2.1
  obtain ⟨αA, αB, αO, hA, hB, f, hI, eA, eB, eO, RA, RB, RO, dAB, dAO, dBO, SA, SB⟩ := hY
  subst eA
  subst eB
  subst eO
  obtain ⟨⟨fsA, hA0⟩, ⟨fsB, hB0⟩⟩ := hT hA hB hI
  obtain ⟨v, hA1, hB1, hA2, hB2, mc, ms, hmc, hms, MA, MB, hlA, hlB, NA, NB, hI2⟩ := hs (xs (xi + 1).toNatClampNeg) hA hB hI
  refine lv_aload_n hx hb dL_law_942 rfl (lv_at hl 1 rfl) ?_
  refine lv_aload_n hx hb dL_law_943 rfl (lv_at hl 0 rfl) ?_
  refine lv_iload hx hb dL_law_944 (lv_at hl 4 rfl) ?_
  refine lv_iconst (v := 1) hx hb dL_law_946 (by decide) ?_
  refine lv_iadd hx hb dL_law_947 ?_
  refine va_sld hx hb hX hbl hbA hS (hin 1 (by decide) (by decide)) dL_law_948 ?_
  refine y_call (d := 40) (h2 := hB) (α2 := αB) (h3 := [.inl (1, 1, .inr (.inl f))]) (α3 := αO) C SA MA kL_127 dL_law_949 hA0 rfl rfl rfl rfl rfl (Nat.le_of_ble_eq_true rfl) hl.1 (by decide) (by omega) hlA RA RB RO dAB dAO hS (fun βA H1 locs1 hE1 RA1 RB1 RO1 dAB1 dAO1 SA1 hS1 => ?_)
  have eβ : βA 0 = αA 0 := hE1.2 0 (Or.inl (List.getElem?_eq_some_iff.mp hA0).1)
  refine lv_aload_n hx hb dL_law_952 rfl (lv_at hl 2 rfl) ?_
  refine lv_aload_n hx hb dL_law_953 rfl (lv_at hl 0 rfl) ?_
  refine lv_iload hx hb dL_law_954 (lv_at hl 4 rfl) ?_
  refine lv_iconst (v := 1) hx hb dL_law_956 (by decide) ?_
  refine lv_iadd hx hb dL_law_957 ?_
  refine va_sld hx hb hX hbl hbA hS1 (hin 1 (by decide) (by decide)) dL_law_958 ?_
  refine y_call (d := 40) (h2 := hA1) (α2 := βA) (h3 := [.inl (1, 1, .inr (.inl f))]) (α3 := αO) C SB MB kL_130 dL_law_959 hB0 rfl rfl rfl rfl rfl (Nat.le_of_ble_eq_true rfl) hl.1 (by decide) (by omega) hlB RB1 RA1 RO1 dAB1.symm dBO hS1 (fun βB H2 locs2 hE2 RB2 RA2 RO2 dAB2 dBO2 SB2 hS2 => ?_)
  have eβ2 : βB 0 = αB 0 := hE2.2 0 (Or.inl (List.getElem?_eq_some_iff.mp hB0).1)
  refine lv_icmp_eq (tgt := 1758) hx hb dL_law_962 (by decide) (fun _ => ?_) (fun z => absurd rfl z)
  exact y_next hmc hms RA2 RB2 RO2 dAB2.symm dAO1 dBO2 SA1 SB2 hS2 NA NB hI2 (fun H3 locs3 hY3 hS3 => next H3 locs3 (by rw [eβ, eβ2] at hY3; exact hY3) hS3)
def yS_partyOf (Inv : xH → xH → Prop) : Prop := ∀ v0 v1 : Int32, ySimI Inv YX7_partyOf YX9_partyOf [.int v0, .int v1]
set_option maxHeartbeats 4000000 in
set_option maxRecDepth 100000 in
theorem lawc_partyOf (C : yCx p l s m args meth c D A) (hT : yTop Inv) (hs : yS_partyOf Inv) (hX : va_X b L xs s s.heap) (hbl : b < s.heap.size) (hbA : ¬ A b) (hin : ∀ j : Int32, 0 ≤ j.toInt → j.toInt < 6 → vp_in (xi + j) L) (hY : yI Inv D s A x y o H) (hS : va_S A s.heap H locs) (hl : lv_has ls 7 [(0, .ref b), (1, .ref x), (2, .ref y), (3, .ref o), (4, .int xi)]) (hrm : cells + 16 ≤ 601024 ∧ slots + 164 ≤ 7293034)
    (next : ∀ (H1 : Heap) (locs1 : List Loc), yI Inv D s A x y o H1 → va_S A s.heap H1 locs1 → W p l e room_1 s m args below meth c H1 locs1 (cells + 16) (slots + 164) Q (F0 m 1758 ls [])) : W p l e room_1 s m args below meth c H locs cells slots Q (F0 m 967 ls []) := by
  have hx := C.1
  have hb := C.2.1
  obtain ⟨αA, αB, αO, hA, hB, f, hI, eA, eB, eO, RA, RB, RO, dAB, dAO, dBO, SA, SB⟩ := hY
  subst eA
  subst eB
  subst eO
  obtain ⟨⟨fsA, hA0⟩, ⟨fsB, hB0⟩⟩ := hT hA hB hI
  obtain ⟨v, hA1, hB1, hA2, hB2, mc, ms, hmc, hms, MA, MB, hlA, hlB, NA, NB, hI2⟩ := hs (xs (xi + 1).toNatClampNeg) (xs (xi + 2).toNatClampNeg) hA hB hI
  refine lv_aload_n hx hb dL_law_967 rfl (lv_at hl 1 rfl) ?_
  refine lv_aload_n hx hb dL_law_968 rfl (lv_at hl 0 rfl) ?_
  refine lv_iload hx hb dL_law_969 (lv_at hl 4 rfl) ?_
  refine lv_iconst (v := 1) hx hb dL_law_971 (by decide) ?_
  refine lv_iadd hx hb dL_law_972 ?_
  refine va_sld hx hb hX hbl hbA hS (hin 1 (by decide) (by decide)) dL_law_973 ?_
  refine lv_aload_n hx hb dL_law_974 rfl (lv_at hl 0 rfl) ?_
  refine lv_iload hx hb dL_law_975 (lv_at hl 4 rfl) ?_
  refine lv_iconst (v := 2) hx hb dL_law_977 (by decide) ?_
  refine lv_iadd hx hb dL_law_978 ?_
  refine va_sld hx hb hX hbl hbA hS (hin 2 (by decide) (by decide)) dL_law_979 ?_
  refine y_call (d := 40) (h2 := hB) (α2 := αB) (h3 := [.inl (1, 1, .inr (.inl f))]) (α3 := αO) C SA MA kL_131 dL_law_980 hA0 rfl rfl rfl rfl rfl (Nat.le_of_ble_eq_true rfl) hl.1 (by decide) (by omega) hlA RA RB RO dAB dAO hS (fun βA H1 locs1 hE1 RA1 RB1 RO1 dAB1 dAO1 SA1 hS1 => ?_)
  have eβ : βA 0 = αA 0 := hE1.2 0 (Or.inl (List.getElem?_eq_some_iff.mp hA0).1)
  refine lv_aload_n hx hb dL_law_983 rfl (lv_at hl 2 rfl) ?_
  refine lv_aload_n hx hb dL_law_984 rfl (lv_at hl 0 rfl) ?_
  refine lv_iload hx hb dL_law_985 (lv_at hl 4 rfl) ?_
  refine lv_iconst (v := 1) hx hb dL_law_987 (by decide) ?_
  refine lv_iadd hx hb dL_law_988 ?_
  refine va_sld hx hb hX hbl hbA hS1 (hin 1 (by decide) (by decide)) dL_law_989 ?_
  refine lv_aload_n hx hb dL_law_990 rfl (lv_at hl 0 rfl) ?_
  refine lv_iload hx hb dL_law_991 (lv_at hl 4 rfl) ?_
  refine lv_iconst (v := 2) hx hb dL_law_993 (by decide) ?_
  refine lv_iadd hx hb dL_law_994 ?_
  refine va_sld hx hb hX hbl hbA hS1 (hin 2 (by decide) (by decide)) dL_law_995 ?_
  refine y_call (d := 40) (h2 := hA1) (α2 := βA) (h3 := [.inl (1, 1, .inr (.inl f))]) (α3 := αO) C SB MB kL_134 dL_law_996 hB0 rfl rfl rfl rfl rfl (Nat.le_of_ble_eq_true rfl) hl.1 (by decide) (by omega) hlB RB1 RA1 RO1 dAB1.symm dBO hS1 (fun βB H2 locs2 hE2 RB2 RA2 RO2 dAB2 dBO2 SB2 hS2 => ?_)
  have eβ2 : βB 0 = αB 0 := hE2.2 0 (Or.inl (List.getElem?_eq_some_iff.mp hB0).1)
  refine lv_icmp_eq (tgt := 1758) hx hb dL_law_999 (by decide) (fun _ => ?_) (fun z => absurd rfl z)
  exact y_next hmc hms RA2 RB2 RO2 dAB2.symm dAO1 dBO2 SA1 SB2 hS2 NA NB hI2 (fun H3 locs3 hY3 hS3 => next H3 locs3 (by rw [eβ, eβ2] at hY3; exact hY3) hS3)
def yS_room (Inv : xH → xH → Prop) : Prop := ∀ v0 : Int32, ySimI Inv YX7_room YX9_room [.int v0]
set_option maxHeartbeats 4000000 in
set_option maxRecDepth 100000 in
theorem lawc_room (C : yCx p l s m args meth c D A) (hT : yTop Inv) (hs : yS_room Inv) (hX : va_X b L xs s s.heap) (hbl : b < s.heap.size) (hbA : ¬ A b) (hin : ∀ j : Int32, 0 ≤ j.toInt → j.toInt < 6 → vp_in (xi + j) L) (hY : yI Inv D s A x y o H) (hS : va_S A s.heap H locs) (hl : lv_has ls 7 [(0, .ref b), (1, .ref x), (2, .ref y), (3, .ref o), (4, .int xi)]) (hrm : cells + 16 ≤ 601024 ∧ slots + 164 ≤ 7293034)
    (next : ∀ (H1 : Heap) (locs1 : List Loc), yI Inv D s A x y o H1 → va_S A s.heap H1 locs1 → W p l e room_1 s m args below meth c H1 locs1 (cells + 16) (slots + 164) Q (F0 m 1758 ls [])) : W p l e room_1 s m args below meth c H locs cells slots Q (F0 m 1004 ls []) := by
  have hx := C.1
  have hb := C.2.1
  obtain ⟨αA, αB, αO, hA, hB, f, hI, eA, eB, eO, RA, RB, RO, dAB, dAO, dBO, SA, SB⟩ := hY
  subst eA
  subst eB
  subst eO
  obtain ⟨⟨fsA, hA0⟩, ⟨fsB, hB0⟩⟩ := hT hA hB hI
  obtain ⟨v, hA1, hB1, hA2, hB2, mc, ms, hmc, hms, MA, MB, hlA, hlB, NA, NB, hI2⟩ := hs (xs (xi + 1).toNatClampNeg) hA hB hI
  refine lv_aload_n hx hb dL_law_1004 rfl (lv_at hl 1 rfl) ?_
  refine lv_aload_n hx hb dL_law_1005 rfl (lv_at hl 0 rfl) ?_
  refine lv_iload hx hb dL_law_1006 (lv_at hl 4 rfl) ?_
  refine lv_iconst (v := 1) hx hb dL_law_1008 (by decide) ?_
  refine lv_iadd hx hb dL_law_1009 ?_
  refine va_sld hx hb hX hbl hbA hS (hin 1 (by decide) (by decide)) dL_law_1010 ?_
  refine y_call (d := 40) (h2 := hB) (α2 := αB) (h3 := [.inl (1, 1, .inr (.inl f))]) (α3 := αO) C SA MA kL_135 dL_law_1011 hA0 rfl rfl rfl rfl rfl (Nat.le_of_ble_eq_true rfl) hl.1 (by decide) (by omega) hlA RA RB RO dAB dAO hS (fun βA H1 locs1 hE1 RA1 RB1 RO1 dAB1 dAO1 SA1 hS1 => ?_)
  have eβ : βA 0 = αA 0 := hE1.2 0 (Or.inl (List.getElem?_eq_some_iff.mp hA0).1)
  refine lv_aload_n hx hb dL_law_1014 rfl (lv_at hl 2 rfl) ?_
  refine lv_aload_n hx hb dL_law_1015 rfl (lv_at hl 0 rfl) ?_
  refine lv_iload hx hb dL_law_1016 (lv_at hl 4 rfl) ?_
  refine lv_iconst (v := 1) hx hb dL_law_1018 (by decide) ?_
  refine lv_iadd hx hb dL_law_1019 ?_
  refine va_sld hx hb hX hbl hbA hS1 (hin 1 (by decide) (by decide)) dL_law_1020 ?_
  refine y_call (d := 40) (h2 := hA1) (α2 := βA) (h3 := [.inl (1, 1, .inr (.inl f))]) (α3 := αO) C SB MB kL_138 dL_law_1021 hB0 rfl rfl rfl rfl rfl (Nat.le_of_ble_eq_true rfl) hl.1 (by decide) (by omega) hlB RB1 RA1 RO1 dAB1.symm dBO hS1 (fun βB H2 locs2 hE2 RB2 RA2 RO2 dAB2 dBO2 SB2 hS2 => ?_)
  have eβ2 : βB 0 = αB 0 := hE2.2 0 (Or.inl (List.getElem?_eq_some_iff.mp hB0).1)
  refine lv_icmp_eq (tgt := 1758) hx hb dL_law_1024 (by decide) (fun _ => ?_) (fun z => absurd rfl z)
  exact y_next hmc hms RA2 RB2 RO2 dAB2.symm dAO1 dBO2 SA1 SB2 hS2 NA NB hI2 (fun H3 locs3 hY3 hS3 => next H3 locs3 (by rw [eβ, eβ2] at hY3; exact hY3) hS3)
def yS_whole (Inv : xH → xH → Prop) : Prop := ∀ v0 v1 v2 : Int32, (v2 = 0 ∨ v2 = 1) → ySimL Inv YX7_whole YX9_whole [.int v0, .int v1, .int v2]
set_option maxHeartbeats 4000000 in
set_option maxRecDepth 100000 in
theorem lawc_whole (C : yCx p l s m args meth c D A) (hT : yTop Inv) (hs : yS_whole Inv) (hX : va_X b L xs s s.heap) (hbl : b < s.heap.size) (hbA : ¬ A b) (hin : ∀ j : Int32, 0 ≤ j.toInt → j.toInt < 6 → vp_in (xi + j) L) (hY : yI Inv D s A x y o H) (hS : va_S A s.heap H locs) (hl : lv_has ls 7 [(0, .ref b), (1, .ref x), (2, .ref y), (3, .ref o), (4, .int xi)]) (hrm : cells + 16 ≤ 601024 ∧ slots + 164 ≤ 7293034)
    (next : ∀ (H1 : Heap) (locs1 : List Loc), yI Inv D s A x y o H1 → va_S A s.heap H1 locs1 → W p l e room_1 s m args below meth c H1 locs1 (cells + 16) (slots + 164) Q (F0 m 1758 ls [])) : W p l e room_1 s m args below meth c H locs cells slots Q (F0 m 1029 ls []) := by
  have hx := C.1
  have hb := C.2.1
  obtain ⟨αA, αB, αO, hA, hB, f, hI, eA, eB, eO, RA, RB, RO, dAB, dAO, dBO, SA, SB⟩ := hY
  subst eA
  subst eB
  subst eO
  obtain ⟨⟨fsA, hA0⟩, ⟨fsB, hB0⟩⟩ := hT hA hB hI
  by_cases hq : (xs (xi + 3).toNatClampNeg) = 0
  · obtain ⟨v, hA1, hB1, hA2, hB2, mc, ms, hmc, hms, MA, MB, hlA, hlB, NA, NB, hI2⟩ := hs (xs (xi + 1).toNatClampNeg) (xs (xi + 2).toNatClampNeg) 0 (Or.inl rfl) hA hB hI
    refine lv_aload_n hx hb dL_law_1029 rfl (lv_at hl 1 rfl) ?_
    refine lv_aload_n hx hb dL_law_1030 rfl (lv_at hl 0 rfl) ?_
    refine lv_iload hx hb dL_law_1031 (lv_at hl 4 rfl) ?_
    refine lv_iconst (v := 1) hx hb dL_law_1033 (by decide) ?_
    refine lv_iadd hx hb dL_law_1034 ?_
    refine va_sld hx hb hX hbl hbA hS (hin 1 (by decide) (by decide)) dL_law_1035 ?_
    refine lv_aload_n hx hb dL_law_1036 rfl (lv_at hl 0 rfl) ?_
    refine lv_iload hx hb dL_law_1037 (lv_at hl 4 rfl) ?_
    refine lv_iconst (v := 2) hx hb dL_law_1039 (by decide) ?_
    refine lv_iadd hx hb dL_law_1040 ?_
    refine va_sld hx hb hX hbl hbA hS (hin 2 (by decide) (by decide)) dL_law_1041 ?_
    refine lv_aload_n hx hb dL_law_1042 rfl (lv_at hl 0 rfl) ?_
    refine lv_iload hx hb dL_law_1043 (lv_at hl 4 rfl) ?_
    refine lv_iconst (v := 3) hx hb dL_law_1045 (by decide) ?_
    refine lv_iadd hx hb dL_law_1046 ?_
    refine va_sld hx hb hX hbl hbA hS (hin 3 (by decide) (by decide)) dL_law_1047 ?_
    refine lv_if_eq (tgt := 1055) hx hb dL_law_1048 (by decide) (fun _ => ?_) (fun z => absurd hq z)
    refine lv_iconst (v := 0) hx hb dL_law_1055 (by decide) ?_
    refine y_call (d := 40) (h2 := hB) (α2 := αB) (h3 := [.inl (1, 1, .inr (.inl f))]) (α3 := αO) C SA MA kL_139 dL_law_1056 hA0 rfl rfl rfl rfl rfl (Nat.le_of_ble_eq_true rfl) hl.1 (by decide) (by omega) hlA RA RB RO dAB dAO hS (fun βA H1 locs1 hE1 RA1 RB1 RO1 dAB1 dAO1 SA1 hS1 => ?_)
    have eβ : βA 0 = αA 0 := hE1.2 0 (Or.inl (List.getElem?_eq_some_iff.mp hA0).1)
    refine lv_aload_n hx hb dL_law_1059 rfl (lv_at hl 2 rfl) ?_
    refine lv_aload_n hx hb dL_law_1060 rfl (lv_at hl 0 rfl) ?_
    refine lv_iload hx hb dL_law_1061 (lv_at hl 4 rfl) ?_
    refine lv_iconst (v := 1) hx hb dL_law_1063 (by decide) ?_
    refine lv_iadd hx hb dL_law_1064 ?_
    refine va_sld hx hb hX hbl hbA hS1 (hin 1 (by decide) (by decide)) dL_law_1065 ?_
    refine lv_aload_n hx hb dL_law_1066 rfl (lv_at hl 0 rfl) ?_
    refine lv_iload hx hb dL_law_1067 (lv_at hl 4 rfl) ?_
    refine lv_iconst (v := 2) hx hb dL_law_1069 (by decide) ?_
    refine lv_iadd hx hb dL_law_1070 ?_
    refine va_sld hx hb hX hbl hbA hS1 (hin 2 (by decide) (by decide)) dL_law_1071 ?_
    refine lv_aload_n hx hb dL_law_1072 rfl (lv_at hl 0 rfl) ?_
    refine lv_iload hx hb dL_law_1073 (lv_at hl 4 rfl) ?_
    refine lv_iconst (v := 3) hx hb dL_law_1075 (by decide) ?_
    refine lv_iadd hx hb dL_law_1076 ?_
    refine va_sld hx hb hX hbl hbA hS1 (hin 3 (by decide) (by decide)) dL_law_1077 ?_
    refine lv_if_eq (tgt := 1085) hx hb dL_law_1078 (by decide) (fun _ => ?_) (fun z => absurd hq z)
    refine lv_iconst (v := 0) hx hb dL_law_1085 (by decide) ?_
    refine y_call (d := 40) (h2 := hA1) (α2 := βA) (h3 := [.inl (1, 1, .inr (.inl f))]) (α3 := αO) C SB MB kL_143 dL_law_1086 hB0 rfl rfl rfl rfl rfl (Nat.le_of_ble_eq_true rfl) hl.1 (by decide) (by omega) hlB RB1 RA1 RO1 dAB1.symm dBO hS1 (fun βB H2 locs2 hE2 RB2 RA2 RO2 dAB2 dBO2 SB2 hS2 => ?_)
    have eβ2 : βB 0 = αB 0 := hE2.2 0 (Or.inl (List.getElem?_eq_some_iff.mp hB0).1)
    refine W.lcmp hx hb dL_law_1089 ?_
    refine lv_if_eq (tgt := 1758) hx hb dL_law_1090 (by decide) (fun _ => ?_) (fun z => absurd (y_cmp v) z)
    exact y_next hmc hms RA2 RB2 RO2 dAB2.symm dAO1 dBO2 SA1 SB2 hS2 NA NB hI2 (fun H3 locs3 hY3 hS3 => next H3 locs3 (by rw [eβ, eβ2] at hY3; exact hY3) hS3)
  · obtain ⟨v, hA1, hB1, hA2, hB2, mc, ms, hmc, hms, MA, MB, hlA, hlB, NA, NB, hI2⟩ := hs (xs (xi + 1).toNatClampNeg) (xs (xi + 2).toNatClampNeg) 1 (Or.inr rfl) hA hB hI
    refine lv_aload_n hx hb dL_law_1029 rfl (lv_at hl 1 rfl) ?_
    refine lv_aload_n hx hb dL_law_1030 rfl (lv_at hl 0 rfl) ?_
    refine lv_iload hx hb dL_law_1031 (lv_at hl 4 rfl) ?_
    refine lv_iconst (v := 1) hx hb dL_law_1033 (by decide) ?_
    refine lv_iadd hx hb dL_law_1034 ?_
    refine va_sld hx hb hX hbl hbA hS (hin 1 (by decide) (by decide)) dL_law_1035 ?_
    refine lv_aload_n hx hb dL_law_1036 rfl (lv_at hl 0 rfl) ?_
    refine lv_iload hx hb dL_law_1037 (lv_at hl 4 rfl) ?_
    refine lv_iconst (v := 2) hx hb dL_law_1039 (by decide) ?_
    refine lv_iadd hx hb dL_law_1040 ?_
    refine va_sld hx hb hX hbl hbA hS (hin 2 (by decide) (by decide)) dL_law_1041 ?_
    refine lv_aload_n hx hb dL_law_1042 rfl (lv_at hl 0 rfl) ?_
    refine lv_iload hx hb dL_law_1043 (lv_at hl 4 rfl) ?_
    refine lv_iconst (v := 3) hx hb dL_law_1045 (by decide) ?_
    refine lv_iadd hx hb dL_law_1046 ?_
    refine va_sld hx hb hX hbl hbA hS (hin 3 (by decide) (by decide)) dL_law_1047 ?_
    refine lv_if_eq (tgt := 1055) hx hb dL_law_1048 (by decide) (fun z => absurd z hq) (fun _ => ?_)
    refine lv_iconst (v := 1) hx hb dL_law_1051 (by decide) ?_
    refine lv_goto (tgt := 1056) hx hb dL_law_1052 (by decide) ?_
    refine y_call (d := 40) (h2 := hB) (α2 := αB) (h3 := [.inl (1, 1, .inr (.inl f))]) (α3 := αO) C SA MA kL_139 dL_law_1056 hA0 rfl rfl rfl rfl rfl (Nat.le_of_ble_eq_true rfl) hl.1 (by decide) (by omega) hlA RA RB RO dAB dAO hS (fun βA H1 locs1 hE1 RA1 RB1 RO1 dAB1 dAO1 SA1 hS1 => ?_)
    have eβ : βA 0 = αA 0 := hE1.2 0 (Or.inl (List.getElem?_eq_some_iff.mp hA0).1)
    refine lv_aload_n hx hb dL_law_1059 rfl (lv_at hl 2 rfl) ?_
    refine lv_aload_n hx hb dL_law_1060 rfl (lv_at hl 0 rfl) ?_
    refine lv_iload hx hb dL_law_1061 (lv_at hl 4 rfl) ?_
    refine lv_iconst (v := 1) hx hb dL_law_1063 (by decide) ?_
    refine lv_iadd hx hb dL_law_1064 ?_
    refine va_sld hx hb hX hbl hbA hS1 (hin 1 (by decide) (by decide)) dL_law_1065 ?_
    refine lv_aload_n hx hb dL_law_1066 rfl (lv_at hl 0 rfl) ?_
    refine lv_iload hx hb dL_law_1067 (lv_at hl 4 rfl) ?_
    refine lv_iconst (v := 2) hx hb dL_law_1069 (by decide) ?_
    refine lv_iadd hx hb dL_law_1070 ?_
    refine va_sld hx hb hX hbl hbA hS1 (hin 2 (by decide) (by decide)) dL_law_1071 ?_
    refine lv_aload_n hx hb dL_law_1072 rfl (lv_at hl 0 rfl) ?_
    refine lv_iload hx hb dL_law_1073 (lv_at hl 4 rfl) ?_
    refine lv_iconst (v := 3) hx hb dL_law_1075 (by decide) ?_
    refine lv_iadd hx hb dL_law_1076 ?_
    refine va_sld hx hb hX hbl hbA hS1 (hin 3 (by decide) (by decide)) dL_law_1077 ?_
    refine lv_if_eq (tgt := 1085) hx hb dL_law_1078 (by decide) (fun z => absurd z hq) (fun _ => ?_)
    refine lv_iconst (v := 1) hx hb dL_law_1081 (by decide) ?_
    refine lv_goto (tgt := 1086) hx hb dL_law_1082 (by decide) ?_
    refine y_call (d := 40) (h2 := hA1) (α2 := βA) (h3 := [.inl (1, 1, .inr (.inl f))]) (α3 := αO) C SB MB kL_143 dL_law_1086 hB0 rfl rfl rfl rfl rfl (Nat.le_of_ble_eq_true rfl) hl.1 (by decide) (by omega) hlB RB1 RA1 RO1 dAB1.symm dBO hS1 (fun βB H2 locs2 hE2 RB2 RA2 RO2 dAB2 dBO2 SB2 hS2 => ?_)
    have eβ2 : βB 0 = αB 0 := hE2.2 0 (Or.inl (List.getElem?_eq_some_iff.mp hB0).1)
    refine W.lcmp hx hb dL_law_1089 ?_
    refine lv_if_eq (tgt := 1758) hx hb dL_law_1090 (by decide) (fun _ => ?_) (fun z => absurd (y_cmp v) z)
    exact y_next hmc hms RA2 RB2 RO2 dAB2.symm dAO1 dBO2 SA1 SB2 hS2 NA NB hI2 (fun H3 locs3 hY3 hS3 => next H3 locs3 (by rw [eβ, eβ2] at hY3; exact hY3) hS3)
def yS_allWhole (Inv : xH → xH → Prop) : Prop := ∀ v0 v1 v2 : Int32, (v2 = 0 ∨ v2 = 1) → ySimL Inv YX7_allWhole YX9_allWhole [.int v0, .int v1, .int v2]
set_option maxHeartbeats 4000000 in
set_option maxRecDepth 100000 in
theorem lawc_allWhole (C : yCx p l s m args meth c D A) (hT : yTop Inv) (hs : yS_allWhole Inv) (hX : va_X b L xs s s.heap) (hbl : b < s.heap.size) (hbA : ¬ A b) (hin : ∀ j : Int32, 0 ≤ j.toInt → j.toInt < 6 → vp_in (xi + j) L) (hY : yI Inv D s A x y o H) (hS : va_S A s.heap H locs) (hl : lv_has ls 7 [(0, .ref b), (1, .ref x), (2, .ref y), (3, .ref o), (4, .int xi)]) (hrm : cells + 16 ≤ 601024 ∧ slots + 164 ≤ 7293034)
    (next : ∀ (H1 : Heap) (locs1 : List Loc), yI Inv D s A x y o H1 → va_S A s.heap H1 locs1 → W p l e room_1 s m args below meth c H1 locs1 (cells + 16) (slots + 164) Q (F0 m 1758 ls [])) : W p l e room_1 s m args below meth c H locs cells slots Q (F0 m 1095 ls []) := by
  have hx := C.1
  have hb := C.2.1
  obtain ⟨αA, αB, αO, hA, hB, f, hI, eA, eB, eO, RA, RB, RO, dAB, dAO, dBO, SA, SB⟩ := hY
  subst eA
  subst eB
  subst eO
  obtain ⟨⟨fsA, hA0⟩, ⟨fsB, hB0⟩⟩ := hT hA hB hI
  by_cases hq : (xs (xi + 3).toNatClampNeg) = 0
  · obtain ⟨v, hA1, hB1, hA2, hB2, mc, ms, hmc, hms, MA, MB, hlA, hlB, NA, NB, hI2⟩ := hs (xs (xi + 1).toNatClampNeg) (xs (xi + 2).toNatClampNeg) 0 (Or.inl rfl) hA hB hI
    refine lv_aload_n hx hb dL_law_1095 rfl (lv_at hl 1 rfl) ?_
    refine lv_aload_n hx hb dL_law_1096 rfl (lv_at hl 0 rfl) ?_
    refine lv_iload hx hb dL_law_1097 (lv_at hl 4 rfl) ?_
    refine lv_iconst (v := 1) hx hb dL_law_1099 (by decide) ?_
    refine lv_iadd hx hb dL_law_1100 ?_
    refine va_sld hx hb hX hbl hbA hS (hin 1 (by decide) (by decide)) dL_law_1101 ?_
    refine lv_aload_n hx hb dL_law_1102 rfl (lv_at hl 0 rfl) ?_
    refine lv_iload hx hb dL_law_1103 (lv_at hl 4 rfl) ?_
    refine lv_iconst (v := 2) hx hb dL_law_1105 (by decide) ?_
    refine lv_iadd hx hb dL_law_1106 ?_
    refine va_sld hx hb hX hbl hbA hS (hin 2 (by decide) (by decide)) dL_law_1107 ?_
    refine lv_aload_n hx hb dL_law_1108 rfl (lv_at hl 0 rfl) ?_
    refine lv_iload hx hb dL_law_1109 (lv_at hl 4 rfl) ?_
    refine lv_iconst (v := 3) hx hb dL_law_1111 (by decide) ?_
    refine lv_iadd hx hb dL_law_1112 ?_
    refine va_sld hx hb hX hbl hbA hS (hin 3 (by decide) (by decide)) dL_law_1113 ?_
    refine lv_if_eq (tgt := 1121) hx hb dL_law_1114 (by decide) (fun _ => ?_) (fun z => absurd hq z)
    refine lv_iconst (v := 0) hx hb dL_law_1121 (by decide) ?_
    refine y_call (d := 40) (h2 := hB) (α2 := αB) (h3 := [.inl (1, 1, .inr (.inl f))]) (α3 := αO) C SA MA kL_144 dL_law_1122 hA0 rfl rfl rfl rfl rfl (Nat.le_of_ble_eq_true rfl) hl.1 (by decide) (by omega) hlA RA RB RO dAB dAO hS (fun βA H1 locs1 hE1 RA1 RB1 RO1 dAB1 dAO1 SA1 hS1 => ?_)
    have eβ : βA 0 = αA 0 := hE1.2 0 (Or.inl (List.getElem?_eq_some_iff.mp hA0).1)
    refine lv_aload_n hx hb dL_law_1125 rfl (lv_at hl 2 rfl) ?_
    refine lv_aload_n hx hb dL_law_1126 rfl (lv_at hl 0 rfl) ?_
    refine lv_iload hx hb dL_law_1127 (lv_at hl 4 rfl) ?_
    refine lv_iconst (v := 1) hx hb dL_law_1129 (by decide) ?_
    refine lv_iadd hx hb dL_law_1130 ?_
    refine va_sld hx hb hX hbl hbA hS1 (hin 1 (by decide) (by decide)) dL_law_1131 ?_
    refine lv_aload_n hx hb dL_law_1132 rfl (lv_at hl 0 rfl) ?_
    refine lv_iload hx hb dL_law_1133 (lv_at hl 4 rfl) ?_
    refine lv_iconst (v := 2) hx hb dL_law_1135 (by decide) ?_
    refine lv_iadd hx hb dL_law_1136 ?_
    refine va_sld hx hb hX hbl hbA hS1 (hin 2 (by decide) (by decide)) dL_law_1137 ?_
    refine lv_aload_n hx hb dL_law_1138 rfl (lv_at hl 0 rfl) ?_
    refine lv_iload hx hb dL_law_1139 (lv_at hl 4 rfl) ?_
    refine lv_iconst (v := 3) hx hb dL_law_1141 (by decide) ?_
    refine lv_iadd hx hb dL_law_1142 ?_
    refine va_sld hx hb hX hbl hbA hS1 (hin 3 (by decide) (by decide)) dL_law_1143 ?_
    refine lv_if_eq (tgt := 1151) hx hb dL_law_1144 (by decide) (fun _ => ?_) (fun z => absurd hq z)
    refine lv_iconst (v := 0) hx hb dL_law_1151 (by decide) ?_
    refine y_call (d := 40) (h2 := hA1) (α2 := βA) (h3 := [.inl (1, 1, .inr (.inl f))]) (α3 := αO) C SB MB kL_147 dL_law_1152 hB0 rfl rfl rfl rfl rfl (Nat.le_of_ble_eq_true rfl) hl.1 (by decide) (by omega) hlB RB1 RA1 RO1 dAB1.symm dBO hS1 (fun βB H2 locs2 hE2 RB2 RA2 RO2 dAB2 dBO2 SB2 hS2 => ?_)
    have eβ2 : βB 0 = αB 0 := hE2.2 0 (Or.inl (List.getElem?_eq_some_iff.mp hB0).1)
    refine W.lcmp hx hb dL_law_1155 ?_
    refine lv_if_eq (tgt := 1758) hx hb dL_law_1156 (by decide) (fun _ => ?_) (fun z => absurd (y_cmp v) z)
    exact y_next hmc hms RA2 RB2 RO2 dAB2.symm dAO1 dBO2 SA1 SB2 hS2 NA NB hI2 (fun H3 locs3 hY3 hS3 => next H3 locs3 (by rw [eβ, eβ2] at hY3; exact hY3) hS3)
  · obtain ⟨v, hA1, hB1, hA2, hB2, mc, ms, hmc, hms, MA, MB, hlA, hlB, NA, NB, hI2⟩ := hs (xs (xi + 1).toNatClampNeg) (xs (xi + 2).toNatClampNeg) 1 (Or.inr rfl) hA hB hI
    refine lv_aload_n hx hb dL_law_1095 rfl (lv_at hl 1 rfl) ?_
    refine lv_aload_n hx hb dL_law_1096 rfl (lv_at hl 0 rfl) ?_
    refine lv_iload hx hb dL_law_1097 (lv_at hl 4 rfl) ?_
    refine lv_iconst (v := 1) hx hb dL_law_1099 (by decide) ?_
    refine lv_iadd hx hb dL_law_1100 ?_
    refine va_sld hx hb hX hbl hbA hS (hin 1 (by decide) (by decide)) dL_law_1101 ?_
    refine lv_aload_n hx hb dL_law_1102 rfl (lv_at hl 0 rfl) ?_
    refine lv_iload hx hb dL_law_1103 (lv_at hl 4 rfl) ?_
    refine lv_iconst (v := 2) hx hb dL_law_1105 (by decide) ?_
    refine lv_iadd hx hb dL_law_1106 ?_
    refine va_sld hx hb hX hbl hbA hS (hin 2 (by decide) (by decide)) dL_law_1107 ?_
    refine lv_aload_n hx hb dL_law_1108 rfl (lv_at hl 0 rfl) ?_
    refine lv_iload hx hb dL_law_1109 (lv_at hl 4 rfl) ?_
    refine lv_iconst (v := 3) hx hb dL_law_1111 (by decide) ?_
    refine lv_iadd hx hb dL_law_1112 ?_
    refine va_sld hx hb hX hbl hbA hS (hin 3 (by decide) (by decide)) dL_law_1113 ?_
    refine lv_if_eq (tgt := 1121) hx hb dL_law_1114 (by decide) (fun z => absurd z hq) (fun _ => ?_)
    refine lv_iconst (v := 1) hx hb dL_law_1117 (by decide) ?_
    refine lv_goto (tgt := 1122) hx hb dL_law_1118 (by decide) ?_
    refine y_call (d := 40) (h2 := hB) (α2 := αB) (h3 := [.inl (1, 1, .inr (.inl f))]) (α3 := αO) C SA MA kL_144 dL_law_1122 hA0 rfl rfl rfl rfl rfl (Nat.le_of_ble_eq_true rfl) hl.1 (by decide) (by omega) hlA RA RB RO dAB dAO hS (fun βA H1 locs1 hE1 RA1 RB1 RO1 dAB1 dAO1 SA1 hS1 => ?_)
    have eβ : βA 0 = αA 0 := hE1.2 0 (Or.inl (List.getElem?_eq_some_iff.mp hA0).1)
    refine lv_aload_n hx hb dL_law_1125 rfl (lv_at hl 2 rfl) ?_
    refine lv_aload_n hx hb dL_law_1126 rfl (lv_at hl 0 rfl) ?_
    refine lv_iload hx hb dL_law_1127 (lv_at hl 4 rfl) ?_
    refine lv_iconst (v := 1) hx hb dL_law_1129 (by decide) ?_
    refine lv_iadd hx hb dL_law_1130 ?_
    refine va_sld hx hb hX hbl hbA hS1 (hin 1 (by decide) (by decide)) dL_law_1131 ?_
    refine lv_aload_n hx hb dL_law_1132 rfl (lv_at hl 0 rfl) ?_
    refine lv_iload hx hb dL_law_1133 (lv_at hl 4 rfl) ?_
    refine lv_iconst (v := 2) hx hb dL_law_1135 (by decide) ?_
    refine lv_iadd hx hb dL_law_1136 ?_
    refine va_sld hx hb hX hbl hbA hS1 (hin 2 (by decide) (by decide)) dL_law_1137 ?_
    refine lv_aload_n hx hb dL_law_1138 rfl (lv_at hl 0 rfl) ?_
    refine lv_iload hx hb dL_law_1139 (lv_at hl 4 rfl) ?_
    refine lv_iconst (v := 3) hx hb dL_law_1141 (by decide) ?_
    refine lv_iadd hx hb dL_law_1142 ?_
    refine va_sld hx hb hX hbl hbA hS1 (hin 3 (by decide) (by decide)) dL_law_1143 ?_
    refine lv_if_eq (tgt := 1151) hx hb dL_law_1144 (by decide) (fun z => absurd z hq) (fun _ => ?_)
    refine lv_iconst (v := 1) hx hb dL_law_1147 (by decide) ?_
    refine lv_goto (tgt := 1152) hx hb dL_law_1148 (by decide) ?_
    refine y_call (d := 40) (h2 := hA1) (α2 := βA) (h3 := [.inl (1, 1, .inr (.inl f))]) (α3 := αO) C SB MB kL_147 dL_law_1152 hB0 rfl rfl rfl rfl rfl (Nat.le_of_ble_eq_true rfl) hl.1 (by decide) (by omega) hlB RB1 RA1 RO1 dAB1.symm dBO hS1 (fun βB H2 locs2 hE2 RB2 RA2 RO2 dAB2 dBO2 SB2 hS2 => ?_)
    have eβ2 : βB 0 = αB 0 := hE2.2 0 (Or.inl (List.getElem?_eq_some_iff.mp hB0).1)
    refine W.lcmp hx hb dL_law_1155 ?_
    refine lv_if_eq (tgt := 1758) hx hb dL_law_1156 (by decide) (fun _ => ?_) (fun z => absurd (y_cmp v) z)
    exact y_next hmc hms RA2 RB2 RO2 dAB2.symm dAO1 dBO2 SA1 SB2 hS2 NA NB hI2 (fun H3 locs3 hY3 hS3 => next H3 locs3 (by rw [eβ, eβ2] at hY3; exact hY3) hS3)
def yS_divided (Inv : xH → xH → Prop) : Prop := ∀ v0 v1 v2 : Int32, ySimI Inv YX7_divided YX9_divided [.int v0, .int v1, .int v2]
set_option maxHeartbeats 4000000 in
set_option maxRecDepth 100000 in
theorem lawc_divided (C : yCx p l s m args meth c D A) (hT : yTop Inv) (hs : yS_divided Inv) (hX : va_X b L xs s s.heap) (hbl : b < s.heap.size) (hbA : ¬ A b) (hin : ∀ j : Int32, 0 ≤ j.toInt → j.toInt < 6 → vp_in (xi + j) L) (hY : yI Inv D s A x y o H) (hS : va_S A s.heap H locs) (hl : lv_has ls 7 [(0, .ref b), (1, .ref x), (2, .ref y), (3, .ref o), (4, .int xi)]) (hrm : cells + 16 ≤ 601024 ∧ slots + 164 ≤ 7293034)
    (next : ∀ (H1 : Heap) (locs1 : List Loc), yI Inv D s A x y o H1 → va_S A s.heap H1 locs1 → W p l e room_1 s m args below meth c H1 locs1 (cells + 16) (slots + 164) Q (F0 m 1758 ls [])) : W p l e room_1 s m args below meth c H locs cells slots Q (F0 m 1161 ls []) := by
  have hx := C.1
  have hb := C.2.1
  obtain ⟨αA, αB, αO, hA, hB, f, hI, eA, eB, eO, RA, RB, RO, dAB, dAO, dBO, SA, SB⟩ := hY
  subst eA
  subst eB
  subst eO
  obtain ⟨⟨fsA, hA0⟩, ⟨fsB, hB0⟩⟩ := hT hA hB hI
  obtain ⟨v, hA1, hB1, hA2, hB2, mc, ms, hmc, hms, MA, MB, hlA, hlB, NA, NB, hI2⟩ := hs (xs (xi + 1).toNatClampNeg) (xs (xi + 2).toNatClampNeg) (xs (xi + 3).toNatClampNeg) hA hB hI
  refine lv_aload_n hx hb dL_law_1161 rfl (lv_at hl 1 rfl) ?_
  refine lv_aload_n hx hb dL_law_1162 rfl (lv_at hl 0 rfl) ?_
  refine lv_iload hx hb dL_law_1163 (lv_at hl 4 rfl) ?_
  refine lv_iconst (v := 1) hx hb dL_law_1165 (by decide) ?_
  refine lv_iadd hx hb dL_law_1166 ?_
  refine va_sld hx hb hX hbl hbA hS (hin 1 (by decide) (by decide)) dL_law_1167 ?_
  refine lv_aload_n hx hb dL_law_1168 rfl (lv_at hl 0 rfl) ?_
  refine lv_iload hx hb dL_law_1169 (lv_at hl 4 rfl) ?_
  refine lv_iconst (v := 2) hx hb dL_law_1171 (by decide) ?_
  refine lv_iadd hx hb dL_law_1172 ?_
  refine va_sld hx hb hX hbl hbA hS (hin 2 (by decide) (by decide)) dL_law_1173 ?_
  refine lv_aload_n hx hb dL_law_1174 rfl (lv_at hl 0 rfl) ?_
  refine lv_iload hx hb dL_law_1175 (lv_at hl 4 rfl) ?_
  refine lv_iconst (v := 3) hx hb dL_law_1177 (by decide) ?_
  refine lv_iadd hx hb dL_law_1178 ?_
  refine va_sld hx hb hX hbl hbA hS (hin 3 (by decide) (by decide)) dL_law_1179 ?_
  refine y_call (d := 40) (h2 := hB) (α2 := αB) (h3 := [.inl (1, 1, .inr (.inl f))]) (α3 := αO) C SA MA kL_148 dL_law_1180 hA0 rfl rfl rfl rfl rfl (Nat.le_of_ble_eq_true rfl) hl.1 (by decide) (by omega) hlA RA RB RO dAB dAO hS (fun βA H1 locs1 hE1 RA1 RB1 RO1 dAB1 dAO1 SA1 hS1 => ?_)
  have eβ : βA 0 = αA 0 := hE1.2 0 (Or.inl (List.getElem?_eq_some_iff.mp hA0).1)
  refine lv_aload_n hx hb dL_law_1183 rfl (lv_at hl 2 rfl) ?_
  refine lv_aload_n hx hb dL_law_1184 rfl (lv_at hl 0 rfl) ?_
  refine lv_iload hx hb dL_law_1185 (lv_at hl 4 rfl) ?_
  refine lv_iconst (v := 1) hx hb dL_law_1187 (by decide) ?_
  refine lv_iadd hx hb dL_law_1188 ?_
  refine va_sld hx hb hX hbl hbA hS1 (hin 1 (by decide) (by decide)) dL_law_1189 ?_
  refine lv_aload_n hx hb dL_law_1190 rfl (lv_at hl 0 rfl) ?_
  refine lv_iload hx hb dL_law_1191 (lv_at hl 4 rfl) ?_
  refine lv_iconst (v := 2) hx hb dL_law_1193 (by decide) ?_
  refine lv_iadd hx hb dL_law_1194 ?_
  refine va_sld hx hb hX hbl hbA hS1 (hin 2 (by decide) (by decide)) dL_law_1195 ?_
  refine lv_aload_n hx hb dL_law_1196 rfl (lv_at hl 0 rfl) ?_
  refine lv_iload hx hb dL_law_1197 (lv_at hl 4 rfl) ?_
  refine lv_iconst (v := 3) hx hb dL_law_1199 (by decide) ?_
  refine lv_iadd hx hb dL_law_1200 ?_
  refine va_sld hx hb hX hbl hbA hS1 (hin 3 (by decide) (by decide)) dL_law_1201 ?_
  refine y_call (d := 40) (h2 := hA1) (α2 := βA) (h3 := [.inl (1, 1, .inr (.inl f))]) (α3 := αO) C SB MB kL_152 dL_law_1202 hB0 rfl rfl rfl rfl rfl (Nat.le_of_ble_eq_true rfl) hl.1 (by decide) (by omega) hlB RB1 RA1 RO1 dAB1.symm dBO hS1 (fun βB H2 locs2 hE2 RB2 RA2 RO2 dAB2 dBO2 SB2 hS2 => ?_)
  have eβ2 : βB 0 = αB 0 := hE2.2 0 (Or.inl (List.getElem?_eq_some_iff.mp hB0).1)
  refine lv_icmp_eq (tgt := 1758) hx hb dL_law_1205 (by decide) (fun _ => ?_) (fun z => absurd rfl z)
  exact y_next hmc hms RA2 RB2 RO2 dAB2.symm dAO1 dBO2 SA1 SB2 hS2 NA NB hI2 (fun H3 locs3 hY3 hS3 => next H3 locs3 (by rw [eβ, eβ2] at hY3; exact hY3) hS3)
def yS_heirs (Inv : xH → xH → Prop) : Prop := ∀ v0 v1 v2 v3 : Int32, (v3 = 0 ∨ v3 = 1) → ySimI Inv YX7_heirs YX9_heirs [.int v0, .int v1, .int v2, .int v3]
set_option maxHeartbeats 4000000 in
set_option maxRecDepth 100000 in
theorem lawc_heirs (C : yCx p l s m args meth c D A) (hT : yTop Inv) (hs : yS_heirs Inv) (hX : va_X b L xs s s.heap) (hbl : b < s.heap.size) (hbA : ¬ A b) (hin : ∀ j : Int32, 0 ≤ j.toInt → j.toInt < 6 → vp_in (xi + j) L) (hY : yI Inv D s A x y o H) (hS : va_S A s.heap H locs) (hl : lv_has ls 7 [(0, .ref b), (1, .ref x), (2, .ref y), (3, .ref o), (4, .int xi)]) (hrm : cells + 16 ≤ 601024 ∧ slots + 164 ≤ 7293034)
    (next : ∀ (H1 : Heap) (locs1 : List Loc), yI Inv D s A x y o H1 → va_S A s.heap H1 locs1 → W p l e room_1 s m args below meth c H1 locs1 (cells + 16) (slots + 164) Q (F0 m 1758 ls [])) : W p l e room_1 s m args below meth c H locs cells slots Q (F0 m 1210 ls []) := by
  have hx := C.1
  have hb := C.2.1
  obtain ⟨αA, αB, αO, hA, hB, f, hI, eA, eB, eO, RA, RB, RO, dAB, dAO, dBO, SA, SB⟩ := hY
  subst eA
  subst eB
  subst eO
  obtain ⟨⟨fsA, hA0⟩, ⟨fsB, hB0⟩⟩ := hT hA hB hI
  by_cases hq : (xs (xi + 4).toNatClampNeg) = 0
  · obtain ⟨v, hA1, hB1, hA2, hB2, mc, ms, hmc, hms, MA, MB, hlA, hlB, NA, NB, hI2⟩ := hs (xs (xi + 1).toNatClampNeg) (xs (xi + 2).toNatClampNeg) (xs (xi + 3).toNatClampNeg) 0 (Or.inl rfl) hA hB hI
    refine lv_aload_n hx hb dL_law_1210 rfl (lv_at hl 1 rfl) ?_
    refine lv_aload_n hx hb dL_law_1211 rfl (lv_at hl 0 rfl) ?_
    refine lv_iload hx hb dL_law_1212 (lv_at hl 4 rfl) ?_
    refine lv_iconst (v := 1) hx hb dL_law_1214 (by decide) ?_
    refine lv_iadd hx hb dL_law_1215 ?_
    refine va_sld hx hb hX hbl hbA hS (hin 1 (by decide) (by decide)) dL_law_1216 ?_
    refine lv_aload_n hx hb dL_law_1217 rfl (lv_at hl 0 rfl) ?_
    refine lv_iload hx hb dL_law_1218 (lv_at hl 4 rfl) ?_
    refine lv_iconst (v := 2) hx hb dL_law_1220 (by decide) ?_
    refine lv_iadd hx hb dL_law_1221 ?_
    refine va_sld hx hb hX hbl hbA hS (hin 2 (by decide) (by decide)) dL_law_1222 ?_
    refine lv_aload_n hx hb dL_law_1223 rfl (lv_at hl 0 rfl) ?_
    refine lv_iload hx hb dL_law_1224 (lv_at hl 4 rfl) ?_
    refine lv_iconst (v := 3) hx hb dL_law_1226 (by decide) ?_
    refine lv_iadd hx hb dL_law_1227 ?_
    refine va_sld hx hb hX hbl hbA hS (hin 3 (by decide) (by decide)) dL_law_1228 ?_
    refine lv_aload_n hx hb dL_law_1229 rfl (lv_at hl 0 rfl) ?_
    refine lv_iload hx hb dL_law_1230 (lv_at hl 4 rfl) ?_
    refine lv_iconst (v := 4) hx hb dL_law_1232 (by decide) ?_
    refine lv_iadd hx hb dL_law_1233 ?_
    refine va_sld hx hb hX hbl hbA hS (hin 4 (by decide) (by decide)) dL_law_1234 ?_
    refine lv_if_eq (tgt := 1242) hx hb dL_law_1235 (by decide) (fun _ => ?_) (fun z => absurd hq z)
    refine lv_iconst (v := 0) hx hb dL_law_1242 (by decide) ?_
    refine y_call (d := 40) (h2 := hB) (α2 := αB) (h3 := [.inl (1, 1, .inr (.inl f))]) (α3 := αO) C SA MA kL_153 dL_law_1243 hA0 rfl rfl rfl rfl rfl (Nat.le_of_ble_eq_true rfl) hl.1 (by decide) (by omega) hlA RA RB RO dAB dAO hS (fun βA H1 locs1 hE1 RA1 RB1 RO1 dAB1 dAO1 SA1 hS1 => ?_)
    have eβ : βA 0 = αA 0 := hE1.2 0 (Or.inl (List.getElem?_eq_some_iff.mp hA0).1)
    refine lv_aload_n hx hb dL_law_1246 rfl (lv_at hl 2 rfl) ?_
    refine lv_aload_n hx hb dL_law_1247 rfl (lv_at hl 0 rfl) ?_
    refine lv_iload hx hb dL_law_1248 (lv_at hl 4 rfl) ?_
    refine lv_iconst (v := 1) hx hb dL_law_1250 (by decide) ?_
    refine lv_iadd hx hb dL_law_1251 ?_
    refine va_sld hx hb hX hbl hbA hS1 (hin 1 (by decide) (by decide)) dL_law_1252 ?_
    refine lv_aload_n hx hb dL_law_1253 rfl (lv_at hl 0 rfl) ?_
    refine lv_iload hx hb dL_law_1254 (lv_at hl 4 rfl) ?_
    refine lv_iconst (v := 2) hx hb dL_law_1256 (by decide) ?_
    refine lv_iadd hx hb dL_law_1257 ?_
    refine va_sld hx hb hX hbl hbA hS1 (hin 2 (by decide) (by decide)) dL_law_1258 ?_
    refine lv_aload_n hx hb dL_law_1259 rfl (lv_at hl 0 rfl) ?_
    refine lv_iload hx hb dL_law_1260 (lv_at hl 4 rfl) ?_
    refine lv_iconst (v := 3) hx hb dL_law_1262 (by decide) ?_
    refine lv_iadd hx hb dL_law_1263 ?_
    refine va_sld hx hb hX hbl hbA hS1 (hin 3 (by decide) (by decide)) dL_law_1264 ?_
    refine lv_aload_n hx hb dL_law_1265 rfl (lv_at hl 0 rfl) ?_
    refine lv_iload hx hb dL_law_1266 (lv_at hl 4 rfl) ?_
    refine lv_iconst (v := 4) hx hb dL_law_1268 (by decide) ?_
    refine lv_iadd hx hb dL_law_1269 ?_
    refine va_sld hx hb hX hbl hbA hS1 (hin 4 (by decide) (by decide)) dL_law_1270 ?_
    refine lv_if_eq (tgt := 1278) hx hb dL_law_1271 (by decide) (fun _ => ?_) (fun z => absurd hq z)
    refine lv_iconst (v := 0) hx hb dL_law_1278 (by decide) ?_
    refine y_call (d := 40) (h2 := hA1) (α2 := βA) (h3 := [.inl (1, 1, .inr (.inl f))]) (α3 := αO) C SB MB kL_157 dL_law_1279 hB0 rfl rfl rfl rfl rfl (Nat.le_of_ble_eq_true rfl) hl.1 (by decide) (by omega) hlB RB1 RA1 RO1 dAB1.symm dBO hS1 (fun βB H2 locs2 hE2 RB2 RA2 RO2 dAB2 dBO2 SB2 hS2 => ?_)
    have eβ2 : βB 0 = αB 0 := hE2.2 0 (Or.inl (List.getElem?_eq_some_iff.mp hB0).1)
    refine lv_icmp_eq (tgt := 1758) hx hb dL_law_1282 (by decide) (fun _ => ?_) (fun z => absurd rfl z)
    exact y_next hmc hms RA2 RB2 RO2 dAB2.symm dAO1 dBO2 SA1 SB2 hS2 NA NB hI2 (fun H3 locs3 hY3 hS3 => next H3 locs3 (by rw [eβ, eβ2] at hY3; exact hY3) hS3)
  · obtain ⟨v, hA1, hB1, hA2, hB2, mc, ms, hmc, hms, MA, MB, hlA, hlB, NA, NB, hI2⟩ := hs (xs (xi + 1).toNatClampNeg) (xs (xi + 2).toNatClampNeg) (xs (xi + 3).toNatClampNeg) 1 (Or.inr rfl) hA hB hI
    refine lv_aload_n hx hb dL_law_1210 rfl (lv_at hl 1 rfl) ?_
    refine lv_aload_n hx hb dL_law_1211 rfl (lv_at hl 0 rfl) ?_
    refine lv_iload hx hb dL_law_1212 (lv_at hl 4 rfl) ?_
    refine lv_iconst (v := 1) hx hb dL_law_1214 (by decide) ?_
    refine lv_iadd hx hb dL_law_1215 ?_
    refine va_sld hx hb hX hbl hbA hS (hin 1 (by decide) (by decide)) dL_law_1216 ?_
    refine lv_aload_n hx hb dL_law_1217 rfl (lv_at hl 0 rfl) ?_
    refine lv_iload hx hb dL_law_1218 (lv_at hl 4 rfl) ?_
    refine lv_iconst (v := 2) hx hb dL_law_1220 (by decide) ?_
    refine lv_iadd hx hb dL_law_1221 ?_
    refine va_sld hx hb hX hbl hbA hS (hin 2 (by decide) (by decide)) dL_law_1222 ?_
    refine lv_aload_n hx hb dL_law_1223 rfl (lv_at hl 0 rfl) ?_
    refine lv_iload hx hb dL_law_1224 (lv_at hl 4 rfl) ?_
    refine lv_iconst (v := 3) hx hb dL_law_1226 (by decide) ?_
    refine lv_iadd hx hb dL_law_1227 ?_
    refine va_sld hx hb hX hbl hbA hS (hin 3 (by decide) (by decide)) dL_law_1228 ?_
    refine lv_aload_n hx hb dL_law_1229 rfl (lv_at hl 0 rfl) ?_
    refine lv_iload hx hb dL_law_1230 (lv_at hl 4 rfl) ?_
    refine lv_iconst (v := 4) hx hb dL_law_1232 (by decide) ?_
    refine lv_iadd hx hb dL_law_1233 ?_
    refine va_sld hx hb hX hbl hbA hS (hin 4 (by decide) (by decide)) dL_law_1234 ?_
    refine lv_if_eq (tgt := 1242) hx hb dL_law_1235 (by decide) (fun z => absurd z hq) (fun _ => ?_)
    refine lv_iconst (v := 1) hx hb dL_law_1238 (by decide) ?_
    refine lv_goto (tgt := 1243) hx hb dL_law_1239 (by decide) ?_
    refine y_call (d := 40) (h2 := hB) (α2 := αB) (h3 := [.inl (1, 1, .inr (.inl f))]) (α3 := αO) C SA MA kL_153 dL_law_1243 hA0 rfl rfl rfl rfl rfl (Nat.le_of_ble_eq_true rfl) hl.1 (by decide) (by omega) hlA RA RB RO dAB dAO hS (fun βA H1 locs1 hE1 RA1 RB1 RO1 dAB1 dAO1 SA1 hS1 => ?_)
    have eβ : βA 0 = αA 0 := hE1.2 0 (Or.inl (List.getElem?_eq_some_iff.mp hA0).1)
    refine lv_aload_n hx hb dL_law_1246 rfl (lv_at hl 2 rfl) ?_
    refine lv_aload_n hx hb dL_law_1247 rfl (lv_at hl 0 rfl) ?_
    refine lv_iload hx hb dL_law_1248 (lv_at hl 4 rfl) ?_
    refine lv_iconst (v := 1) hx hb dL_law_1250 (by decide) ?_
    refine lv_iadd hx hb dL_law_1251 ?_
    refine va_sld hx hb hX hbl hbA hS1 (hin 1 (by decide) (by decide)) dL_law_1252 ?_
    refine lv_aload_n hx hb dL_law_1253 rfl (lv_at hl 0 rfl) ?_
    refine lv_iload hx hb dL_law_1254 (lv_at hl 4 rfl) ?_
    refine lv_iconst (v := 2) hx hb dL_law_1256 (by decide) ?_
    refine lv_iadd hx hb dL_law_1257 ?_
    refine va_sld hx hb hX hbl hbA hS1 (hin 2 (by decide) (by decide)) dL_law_1258 ?_
    refine lv_aload_n hx hb dL_law_1259 rfl (lv_at hl 0 rfl) ?_
    refine lv_iload hx hb dL_law_1260 (lv_at hl 4 rfl) ?_
    refine lv_iconst (v := 3) hx hb dL_law_1262 (by decide) ?_
    refine lv_iadd hx hb dL_law_1263 ?_
    refine va_sld hx hb hX hbl hbA hS1 (hin 3 (by decide) (by decide)) dL_law_1264 ?_
    refine lv_aload_n hx hb dL_law_1265 rfl (lv_at hl 0 rfl) ?_
    refine lv_iload hx hb dL_law_1266 (lv_at hl 4 rfl) ?_
    refine lv_iconst (v := 4) hx hb dL_law_1268 (by decide) ?_
    refine lv_iadd hx hb dL_law_1269 ?_
    refine va_sld hx hb hX hbl hbA hS1 (hin 4 (by decide) (by decide)) dL_law_1270 ?_
    refine lv_if_eq (tgt := 1278) hx hb dL_law_1271 (by decide) (fun z => absurd z hq) (fun _ => ?_)
    refine lv_iconst (v := 1) hx hb dL_law_1274 (by decide) ?_
    refine lv_goto (tgt := 1279) hx hb dL_law_1275 (by decide) ?_
    refine y_call (d := 40) (h2 := hA1) (α2 := βA) (h3 := [.inl (1, 1, .inr (.inl f))]) (α3 := αO) C SB MB kL_157 dL_law_1279 hB0 rfl rfl rfl rfl rfl (Nat.le_of_ble_eq_true rfl) hl.1 (by decide) (by omega) hlB RB1 RA1 RO1 dAB1.symm dBO hS1 (fun βB H2 locs2 hE2 RB2 RA2 RO2 dAB2 dBO2 SB2 hS2 => ?_)
    have eβ2 : βB 0 = αB 0 := hE2.2 0 (Or.inl (List.getElem?_eq_some_iff.mp hB0).1)
    refine lv_icmp_eq (tgt := 1758) hx hb dL_law_1282 (by decide) (fun _ => ?_) (fun z => absurd rfl z)
    exact y_next hmc hms RA2 RB2 RO2 dAB2.symm dAO1 dBO2 SA1 SB2 hS2 NA NB hI2 (fun H3 locs3 hY3 hS3 => next H3 locs3 (by rw [eβ, eβ2] at hY3; exact hY3) hS3)
def yS_rests (Inv : xH → xH → Prop) : Prop := ∀ v0 : Int32, ySimI Inv YX7_rests YX9_rests [.int v0]
set_option maxHeartbeats 4000000 in
set_option maxRecDepth 100000 in
theorem lawc_rests (C : yCx p l s m args meth c D A) (hT : yTop Inv) (hs : yS_rests Inv) (hX : va_X b L xs s s.heap) (hbl : b < s.heap.size) (hbA : ¬ A b) (hin : ∀ j : Int32, 0 ≤ j.toInt → j.toInt < 6 → vp_in (xi + j) L) (hY : yI Inv D s A x y o H) (hS : va_S A s.heap H locs) (hl : lv_has ls 7 [(0, .ref b), (1, .ref x), (2, .ref y), (3, .ref o), (4, .int xi)]) (hrm : cells + 16 ≤ 601024 ∧ slots + 164 ≤ 7293034)
    (next : ∀ (H1 : Heap) (locs1 : List Loc), yI Inv D s A x y o H1 → va_S A s.heap H1 locs1 → W p l e room_1 s m args below meth c H1 locs1 (cells + 16) (slots + 164) Q (F0 m 1758 ls [])) : W p l e room_1 s m args below meth c H locs cells slots Q (F0 m 1287 ls []) := by
  have hx := C.1
  have hb := C.2.1
  obtain ⟨αA, αB, αO, hA, hB, f, hI, eA, eB, eO, RA, RB, RO, dAB, dAO, dBO, SA, SB⟩ := hY
  subst eA
  subst eB
  subst eO
  obtain ⟨⟨fsA, hA0⟩, ⟨fsB, hB0⟩⟩ := hT hA hB hI
  obtain ⟨v, hA1, hB1, hA2, hB2, mc, ms, hmc, hms, MA, MB, hlA, hlB, NA, NB, hI2⟩ := hs (xs (xi + 1).toNatClampNeg) hA hB hI
  refine lv_aload_n hx hb dL_law_1287 rfl (lv_at hl 1 rfl) ?_
  refine lv_aload_n hx hb dL_law_1288 rfl (lv_at hl 0 rfl) ?_
  refine lv_iload hx hb dL_law_1289 (lv_at hl 4 rfl) ?_
  refine lv_iconst (v := 1) hx hb dL_law_1291 (by decide) ?_
  refine lv_iadd hx hb dL_law_1292 ?_
  refine va_sld hx hb hX hbl hbA hS (hin 1 (by decide) (by decide)) dL_law_1293 ?_
  refine y_call (d := 40) (h2 := hB) (α2 := αB) (h3 := [.inl (1, 1, .inr (.inl f))]) (α3 := αO) C SA MA kL_158 dL_law_1294 hA0 rfl rfl rfl rfl rfl (Nat.le_of_ble_eq_true rfl) hl.1 (by decide) (by omega) hlA RA RB RO dAB dAO hS (fun βA H1 locs1 hE1 RA1 RB1 RO1 dAB1 dAO1 SA1 hS1 => ?_)
  have eβ : βA 0 = αA 0 := hE1.2 0 (Or.inl (List.getElem?_eq_some_iff.mp hA0).1)
  refine lv_aload_n hx hb dL_law_1297 rfl (lv_at hl 2 rfl) ?_
  refine lv_aload_n hx hb dL_law_1298 rfl (lv_at hl 0 rfl) ?_
  refine lv_iload hx hb dL_law_1299 (lv_at hl 4 rfl) ?_
  refine lv_iconst (v := 1) hx hb dL_law_1301 (by decide) ?_
  refine lv_iadd hx hb dL_law_1302 ?_
  refine va_sld hx hb hX hbl hbA hS1 (hin 1 (by decide) (by decide)) dL_law_1303 ?_
  refine y_call (d := 40) (h2 := hA1) (α2 := βA) (h3 := [.inl (1, 1, .inr (.inl f))]) (α3 := αO) C SB MB kL_161 dL_law_1304 hB0 rfl rfl rfl rfl rfl (Nat.le_of_ble_eq_true rfl) hl.1 (by decide) (by omega) hlB RB1 RA1 RO1 dAB1.symm dBO hS1 (fun βB H2 locs2 hE2 RB2 RA2 RO2 dAB2 dBO2 SB2 hS2 => ?_)
  have eβ2 : βB 0 = αB 0 := hE2.2 0 (Or.inl (List.getElem?_eq_some_iff.mp hB0).1)
  refine lv_icmp_eq (tgt := 1758) hx hb dL_law_1307 (by decide) (fun _ => ?_) (fun z => absurd rfl z)
  exact y_next hmc hms RA2 RB2 RO2 dAB2.symm dAO1 dBO2 SA1 SB2 hS2 NA NB hI2 (fun H3 locs3 hY3 hS3 => next H3 locs3 (by rw [eβ, eβ2] at hY3; exact hY3) hS3)
def yS_rest (Inv : xH → xH → Prop) : Prop := ∀ v0 : Int32, ySimI Inv YX7_rest YX9_rest [.int v0]
set_option maxHeartbeats 4000000 in
set_option maxRecDepth 100000 in
theorem lawc_rest (C : yCx p l s m args meth c D A) (hT : yTop Inv) (hs : yS_rest Inv) (hX : va_X b L xs s s.heap) (hbl : b < s.heap.size) (hbA : ¬ A b) (hin : ∀ j : Int32, 0 ≤ j.toInt → j.toInt < 6 → vp_in (xi + j) L) (hY : yI Inv D s A x y o H) (hS : va_S A s.heap H locs) (hl : lv_has ls 7 [(0, .ref b), (1, .ref x), (2, .ref y), (3, .ref o), (4, .int xi)]) (hrm : cells + 16 ≤ 601024 ∧ slots + 164 ≤ 7293034)
    (next : ∀ (H1 : Heap) (locs1 : List Loc), yI Inv D s A x y o H1 → va_S A s.heap H1 locs1 → W p l e room_1 s m args below meth c H1 locs1 (cells + 16) (slots + 164) Q (F0 m 1758 ls [])) : W p l e room_1 s m args below meth c H locs cells slots Q (F0 m 1312 ls []) := by
  have hx := C.1
  have hb := C.2.1
  obtain ⟨αA, αB, αO, hA, hB, f, hI, eA, eB, eO, RA, RB, RO, dAB, dAO, dBO, SA, SB⟩ := hY
  subst eA
  subst eB
  subst eO
  obtain ⟨⟨fsA, hA0⟩, ⟨fsB, hB0⟩⟩ := hT hA hB hI
  obtain ⟨v, hA1, hB1, hA2, hB2, mc, ms, hmc, hms, MA, MB, hlA, hlB, NA, NB, hI2⟩ := hs (xs (xi + 1).toNatClampNeg) hA hB hI
  refine lv_aload_n hx hb dL_law_1312 rfl (lv_at hl 1 rfl) ?_
  refine lv_aload_n hx hb dL_law_1313 rfl (lv_at hl 0 rfl) ?_
  refine lv_iload hx hb dL_law_1314 (lv_at hl 4 rfl) ?_
  refine lv_iconst (v := 1) hx hb dL_law_1316 (by decide) ?_
  refine lv_iadd hx hb dL_law_1317 ?_
  refine va_sld hx hb hX hbl hbA hS (hin 1 (by decide) (by decide)) dL_law_1318 ?_
  refine y_call (d := 40) (h2 := hB) (α2 := αB) (h3 := [.inl (1, 1, .inr (.inl f))]) (α3 := αO) C SA MA kL_162 dL_law_1319 hA0 rfl rfl rfl rfl rfl (Nat.le_of_ble_eq_true rfl) hl.1 (by decide) (by omega) hlA RA RB RO dAB dAO hS (fun βA H1 locs1 hE1 RA1 RB1 RO1 dAB1 dAO1 SA1 hS1 => ?_)
  have eβ : βA 0 = αA 0 := hE1.2 0 (Or.inl (List.getElem?_eq_some_iff.mp hA0).1)
  refine lv_aload_n hx hb dL_law_1322 rfl (lv_at hl 2 rfl) ?_
  refine lv_aload_n hx hb dL_law_1323 rfl (lv_at hl 0 rfl) ?_
  refine lv_iload hx hb dL_law_1324 (lv_at hl 4 rfl) ?_
  refine lv_iconst (v := 1) hx hb dL_law_1326 (by decide) ?_
  refine lv_iadd hx hb dL_law_1327 ?_
  refine va_sld hx hb hX hbl hbA hS1 (hin 1 (by decide) (by decide)) dL_law_1328 ?_
  refine y_call (d := 40) (h2 := hA1) (α2 := βA) (h3 := [.inl (1, 1, .inr (.inl f))]) (α3 := αO) C SB MB kL_165 dL_law_1329 hB0 rfl rfl rfl rfl rfl (Nat.le_of_ble_eq_true rfl) hl.1 (by decide) (by omega) hlB RB1 RA1 RO1 dAB1.symm dBO hS1 (fun βB H2 locs2 hE2 RB2 RA2 RO2 dAB2 dBO2 SB2 hS2 => ?_)
  have eβ2 : βB 0 = αB 0 := hE2.2 0 (Or.inl (List.getElem?_eq_some_iff.mp hB0).1)
  refine lv_icmp_eq (tgt := 1758) hx hb dL_law_1332 (by decide) (fun _ => ?_) (fun z => absurd rfl z)
  exact y_next hmc hms RA2 RB2 RO2 dAB2.symm dAO1 dBO2 SA1 SB2 hS2 NA NB hI2 (fun H3 locs3 hY3 hS3 => next H3 locs3 (by rw [eβ, eβ2] at hY3; exact hY3) hS3)
def yS_most (Inv : xH → xH → Prop) : Prop := ∀ v0 : Int32, ySimI Inv YX7_most YX9_most [.int v0]
set_option maxHeartbeats 4000000 in
set_option maxRecDepth 100000 in
theorem lawc_most (C : yCx p l s m args meth c D A) (hT : yTop Inv) (hs : yS_most Inv) (hX : va_X b L xs s s.heap) (hbl : b < s.heap.size) (hbA : ¬ A b) (hin : ∀ j : Int32, 0 ≤ j.toInt → j.toInt < 6 → vp_in (xi + j) L) (hY : yI Inv D s A x y o H) (hS : va_S A s.heap H locs) (hl : lv_has ls 7 [(0, .ref b), (1, .ref x), (2, .ref y), (3, .ref o), (4, .int xi)]) (hrm : cells + 16 ≤ 601024 ∧ slots + 164 ≤ 7293034)
    (next : ∀ (H1 : Heap) (locs1 : List Loc), yI Inv D s A x y o H1 → va_S A s.heap H1 locs1 → W p l e room_1 s m args below meth c H1 locs1 (cells + 16) (slots + 164) Q (F0 m 1758 ls [])) : W p l e room_1 s m args below meth c H locs cells slots Q (F0 m 1337 ls []) := by
  have hx := C.1
  have hb := C.2.1
  obtain ⟨αA, αB, αO, hA, hB, f, hI, eA, eB, eO, RA, RB, RO, dAB, dAO, dBO, SA, SB⟩ := hY
  subst eA
  subst eB
  subst eO
  obtain ⟨⟨fsA, hA0⟩, ⟨fsB, hB0⟩⟩ := hT hA hB hI
  obtain ⟨v, hA1, hB1, hA2, hB2, mc, ms, hmc, hms, MA, MB, hlA, hlB, NA, NB, hI2⟩ := hs (xs (xi + 1).toNatClampNeg) hA hB hI
  refine lv_aload_n hx hb dL_law_1337 rfl (lv_at hl 1 rfl) ?_
  refine lv_aload_n hx hb dL_law_1338 rfl (lv_at hl 0 rfl) ?_
  refine lv_iload hx hb dL_law_1339 (lv_at hl 4 rfl) ?_
  refine lv_iconst (v := 1) hx hb dL_law_1341 (by decide) ?_
  refine lv_iadd hx hb dL_law_1342 ?_
  refine va_sld hx hb hX hbl hbA hS (hin 1 (by decide) (by decide)) dL_law_1343 ?_
  refine y_call (d := 40) (h2 := hB) (α2 := αB) (h3 := [.inl (1, 1, .inr (.inl f))]) (α3 := αO) C SA MA kL_166 dL_law_1344 hA0 rfl rfl rfl rfl rfl (Nat.le_of_ble_eq_true rfl) hl.1 (by decide) (by omega) hlA RA RB RO dAB dAO hS (fun βA H1 locs1 hE1 RA1 RB1 RO1 dAB1 dAO1 SA1 hS1 => ?_)
  have eβ : βA 0 = αA 0 := hE1.2 0 (Or.inl (List.getElem?_eq_some_iff.mp hA0).1)
  refine lv_aload_n hx hb dL_law_1347 rfl (lv_at hl 2 rfl) ?_
  refine lv_aload_n hx hb dL_law_1348 rfl (lv_at hl 0 rfl) ?_
  refine lv_iload hx hb dL_law_1349 (lv_at hl 4 rfl) ?_
  refine lv_iconst (v := 1) hx hb dL_law_1351 (by decide) ?_
  refine lv_iadd hx hb dL_law_1352 ?_
  refine va_sld hx hb hX hbl hbA hS1 (hin 1 (by decide) (by decide)) dL_law_1353 ?_
  refine y_call (d := 40) (h2 := hA1) (α2 := βA) (h3 := [.inl (1, 1, .inr (.inl f))]) (α3 := αO) C SB MB kL_169 dL_law_1354 hB0 rfl rfl rfl rfl rfl (Nat.le_of_ble_eq_true rfl) hl.1 (by decide) (by omega) hlB RB1 RA1 RO1 dAB1.symm dBO hS1 (fun βB H2 locs2 hE2 RB2 RA2 RO2 dAB2 dBO2 SB2 hS2 => ?_)
  have eβ2 : βB 0 = αB 0 := hE2.2 0 (Or.inl (List.getElem?_eq_some_iff.mp hB0).1)
  refine lv_icmp_eq (tgt := 1758) hx hb dL_law_1357 (by decide) (fun _ => ?_) (fun z => absurd rfl z)
  exact y_next hmc hms RA2 RB2 RO2 dAB2.symm dAO1 dBO2 SA1 SB2 hS2 NA NB hI2 (fun H3 locs3 hY3 hS3 => next H3 locs3 (by rw [eβ, eβ2] at hY3; exact hY3) hS3)
def yS_mostLands (Inv : xH → xH → Prop) : Prop := ∀ v0 : Int32, ySimI Inv YX7_mostLands YX9_mostLands [.int v0]
set_option maxHeartbeats 4000000 in
set_option maxRecDepth 100000 in
theorem lawc_mostLands (C : yCx p l s m args meth c D A) (hT : yTop Inv) (hs : yS_mostLands Inv) (hX : va_X b L xs s s.heap) (hbl : b < s.heap.size) (hbA : ¬ A b) (hin : ∀ j : Int32, 0 ≤ j.toInt → j.toInt < 6 → vp_in (xi + j) L) (hY : yI Inv D s A x y o H) (hS : va_S A s.heap H locs) (hl : lv_has ls 7 [(0, .ref b), (1, .ref x), (2, .ref y), (3, .ref o), (4, .int xi)]) (hrm : cells + 16 ≤ 601024 ∧ slots + 164 ≤ 7293034)
    (next : ∀ (H1 : Heap) (locs1 : List Loc), yI Inv D s A x y o H1 → va_S A s.heap H1 locs1 → W p l e room_1 s m args below meth c H1 locs1 (cells + 16) (slots + 164) Q (F0 m 1758 ls [])) : W p l e room_1 s m args below meth c H locs cells slots Q (F0 m 1362 ls []) := by
  have hx := C.1
  have hb := C.2.1
  obtain ⟨αA, αB, αO, hA, hB, f, hI, eA, eB, eO, RA, RB, RO, dAB, dAO, dBO, SA, SB⟩ := hY
  subst eA
  subst eB
  subst eO
  obtain ⟨⟨fsA, hA0⟩, ⟨fsB, hB0⟩⟩ := hT hA hB hI
  obtain ⟨v, hA1, hB1, hA2, hB2, mc, ms, hmc, hms, MA, MB, hlA, hlB, NA, NB, hI2⟩ := hs (xs (xi + 1).toNatClampNeg) hA hB hI
  refine lv_aload_n hx hb dL_law_1362 rfl (lv_at hl 1 rfl) ?_
  refine lv_aload_n hx hb dL_law_1363 rfl (lv_at hl 0 rfl) ?_
  refine lv_iload hx hb dL_law_1364 (lv_at hl 4 rfl) ?_
  refine lv_iconst (v := 1) hx hb dL_law_1366 (by decide) ?_
  refine lv_iadd hx hb dL_law_1367 ?_
  refine va_sld hx hb hX hbl hbA hS (hin 1 (by decide) (by decide)) dL_law_1368 ?_
  refine y_call (d := 40) (h2 := hB) (α2 := αB) (h3 := [.inl (1, 1, .inr (.inl f))]) (α3 := αO) C SA MA kL_170 dL_law_1369 hA0 rfl rfl rfl rfl rfl (Nat.le_of_ble_eq_true rfl) hl.1 (by decide) (by omega) hlA RA RB RO dAB dAO hS (fun βA H1 locs1 hE1 RA1 RB1 RO1 dAB1 dAO1 SA1 hS1 => ?_)
  have eβ : βA 0 = αA 0 := hE1.2 0 (Or.inl (List.getElem?_eq_some_iff.mp hA0).1)
  refine lv_aload_n hx hb dL_law_1372 rfl (lv_at hl 2 rfl) ?_
  refine lv_aload_n hx hb dL_law_1373 rfl (lv_at hl 0 rfl) ?_
  refine lv_iload hx hb dL_law_1374 (lv_at hl 4 rfl) ?_
  refine lv_iconst (v := 1) hx hb dL_law_1376 (by decide) ?_
  refine lv_iadd hx hb dL_law_1377 ?_
  refine va_sld hx hb hX hbl hbA hS1 (hin 1 (by decide) (by decide)) dL_law_1378 ?_
  refine y_call (d := 40) (h2 := hA1) (α2 := βA) (h3 := [.inl (1, 1, .inr (.inl f))]) (α3 := αO) C SB MB kL_173 dL_law_1379 hB0 rfl rfl rfl rfl rfl (Nat.le_of_ble_eq_true rfl) hl.1 (by decide) (by omega) hlB RB1 RA1 RO1 dAB1.symm dBO hS1 (fun βB H2 locs2 hE2 RB2 RA2 RO2 dAB2 dBO2 SB2 hS2 => ?_)
  have eβ2 : βB 0 = αB 0 := hE2.2 0 (Or.inl (List.getElem?_eq_some_iff.mp hB0).1)
  refine lv_icmp_eq (tgt := 1758) hx hb dL_law_1382 (by decide) (fun _ => ?_) (fun z => absurd rfl z)
  exact y_next hmc hms RA2 RB2 RO2 dAB2.symm dAO1 dBO2 SA1 SB2 hS2 NA NB hI2 (fun H3 locs3 hY3 hS3 => next H3 locs3 (by rw [eβ, eβ2] at hY3; exact hY3) hS3)
def yS_century (Inv : xH → xH → Prop) : Prop := ∀ v0 v1 v2 : Int32, ySimI Inv YX7_century YX9_century [.int v0, .int v1, .int v2]
set_option maxHeartbeats 4000000 in
set_option maxRecDepth 100000 in
theorem lawc_century (C : yCx p l s m args meth c D A) (hT : yTop Inv) (hs : yS_century Inv) (hX : va_X b L xs s s.heap) (hbl : b < s.heap.size) (hbA : ¬ A b) (hin : ∀ j : Int32, 0 ≤ j.toInt → j.toInt < 6 → vp_in (xi + j) L) (hY : yI Inv D s A x y o H) (hS : va_S A s.heap H locs) (hl : lv_has ls 7 [(0, .ref b), (1, .ref x), (2, .ref y), (3, .ref o), (4, .int xi)]) (hrm : cells + 16 ≤ 601024 ∧ slots + 164 ≤ 7293034)
    (next : ∀ (H1 : Heap) (locs1 : List Loc), yI Inv D s A x y o H1 → va_S A s.heap H1 locs1 → W p l e room_1 s m args below meth c H1 locs1 (cells + 16) (slots + 164) Q (F0 m 1758 ls [])) : W p l e room_1 s m args below meth c H locs cells slots Q (F0 m 1387 ls []) := by
  have hx := C.1
  have hb := C.2.1
  obtain ⟨αA, αB, αO, hA, hB, f, hI, eA, eB, eO, RA, RB, RO, dAB, dAO, dBO, SA, SB⟩ := hY
  subst eA
  subst eB
  subst eO
  obtain ⟨⟨fsA, hA0⟩, ⟨fsB, hB0⟩⟩ := hT hA hB hI
  obtain ⟨v, hA1, hB1, hA2, hB2, mc, ms, hmc, hms, MA, MB, hlA, hlB, NA, NB, hI2⟩ := hs (xs (xi + 1).toNatClampNeg) (xs (xi + 2).toNatClampNeg) (xs (xi + 3).toNatClampNeg) hA hB hI
  refine lv_aload_n hx hb dL_law_1387 rfl (lv_at hl 1 rfl) ?_
  refine lv_aload_n hx hb dL_law_1388 rfl (lv_at hl 0 rfl) ?_
  refine lv_iload hx hb dL_law_1389 (lv_at hl 4 rfl) ?_
  refine lv_iconst (v := 1) hx hb dL_law_1391 (by decide) ?_
  refine lv_iadd hx hb dL_law_1392 ?_
  refine va_sld hx hb hX hbl hbA hS (hin 1 (by decide) (by decide)) dL_law_1393 ?_
  refine lv_aload_n hx hb dL_law_1394 rfl (lv_at hl 0 rfl) ?_
  refine lv_iload hx hb dL_law_1395 (lv_at hl 4 rfl) ?_
  refine lv_iconst (v := 2) hx hb dL_law_1397 (by decide) ?_
  refine lv_iadd hx hb dL_law_1398 ?_
  refine va_sld hx hb hX hbl hbA hS (hin 2 (by decide) (by decide)) dL_law_1399 ?_
  refine lv_aload_n hx hb dL_law_1400 rfl (lv_at hl 0 rfl) ?_
  refine lv_iload hx hb dL_law_1401 (lv_at hl 4 rfl) ?_
  refine lv_iconst (v := 3) hx hb dL_law_1403 (by decide) ?_
  refine lv_iadd hx hb dL_law_1404 ?_
  refine va_sld hx hb hX hbl hbA hS (hin 3 (by decide) (by decide)) dL_law_1405 ?_
  refine y_call (d := 40) (h2 := hB) (α2 := αB) (h3 := [.inl (1, 1, .inr (.inl f))]) (α3 := αO) C SA MA kL_174 dL_law_1406 hA0 rfl rfl rfl rfl rfl (Nat.le_of_ble_eq_true rfl) hl.1 (by decide) (by omega) hlA RA RB RO dAB dAO hS (fun βA H1 locs1 hE1 RA1 RB1 RO1 dAB1 dAO1 SA1 hS1 => ?_)
  have eβ : βA 0 = αA 0 := hE1.2 0 (Or.inl (List.getElem?_eq_some_iff.mp hA0).1)
  refine lv_aload_n hx hb dL_law_1409 rfl (lv_at hl 2 rfl) ?_
  refine lv_aload_n hx hb dL_law_1410 rfl (lv_at hl 0 rfl) ?_
  refine lv_iload hx hb dL_law_1411 (lv_at hl 4 rfl) ?_
  refine lv_iconst (v := 1) hx hb dL_law_1413 (by decide) ?_
  refine lv_iadd hx hb dL_law_1414 ?_
  refine va_sld hx hb hX hbl hbA hS1 (hin 1 (by decide) (by decide)) dL_law_1415 ?_
  refine lv_aload_n hx hb dL_law_1416 rfl (lv_at hl 0 rfl) ?_
  refine lv_iload hx hb dL_law_1417 (lv_at hl 4 rfl) ?_
  refine lv_iconst (v := 2) hx hb dL_law_1419 (by decide) ?_
  refine lv_iadd hx hb dL_law_1420 ?_
  refine va_sld hx hb hX hbl hbA hS1 (hin 2 (by decide) (by decide)) dL_law_1421 ?_
  refine lv_aload_n hx hb dL_law_1422 rfl (lv_at hl 0 rfl) ?_
  refine lv_iload hx hb dL_law_1423 (lv_at hl 4 rfl) ?_
  refine lv_iconst (v := 3) hx hb dL_law_1425 (by decide) ?_
  refine lv_iadd hx hb dL_law_1426 ?_
  refine va_sld hx hb hX hbl hbA hS1 (hin 3 (by decide) (by decide)) dL_law_1427 ?_
  refine y_call (d := 40) (h2 := hA1) (α2 := βA) (h3 := [.inl (1, 1, .inr (.inl f))]) (α3 := αO) C SB MB kL_177 dL_law_1428 hB0 rfl rfl rfl rfl rfl (Nat.le_of_ble_eq_true rfl) hl.1 (by decide) (by omega) hlB RB1 RA1 RO1 dAB1.symm dBO hS1 (fun βB H2 locs2 hE2 RB2 RA2 RO2 dAB2 dBO2 SB2 hS2 => ?_)
  have eβ2 : βB 0 = αB 0 := hE2.2 0 (Or.inl (List.getElem?_eq_some_iff.mp hB0).1)
  refine lv_icmp_eq (tgt := 1758) hx hb dL_law_1431 (by decide) (fun _ => ?_) (fun z => absurd rfl z)
  exact y_next hmc hms RA2 RB2 RO2 dAB2.symm dAO1 dBO2 SA1 SB2 hS2 NA NB hI2 (fun H3 locs3 hY3 hS3 => next H3 locs3 (by rw [eβ, eβ2] at hY3; exact hY3) hS3)
def yS_untitled (Inv : xH → xH → Prop) : Prop := ∀ v0 v1 : Int32, ySimI Inv YX7_untitled YX9_untitled [.int v0, .int v1]
set_option maxHeartbeats 4000000 in
set_option maxRecDepth 100000 in
theorem lawc_untitled (C : yCx p l s m args meth c D A) (hT : yTop Inv) (hs : yS_untitled Inv) (hX : va_X b L xs s s.heap) (hbl : b < s.heap.size) (hbA : ¬ A b) (hin : ∀ j : Int32, 0 ≤ j.toInt → j.toInt < 6 → vp_in (xi + j) L) (hY : yI Inv D s A x y o H) (hS : va_S A s.heap H locs) (hl : lv_has ls 7 [(0, .ref b), (1, .ref x), (2, .ref y), (3, .ref o), (4, .int xi)]) (hrm : cells + 16 ≤ 601024 ∧ slots + 164 ≤ 7293034)
    (next : ∀ (H1 : Heap) (locs1 : List Loc), yI Inv D s A x y o H1 → va_S A s.heap H1 locs1 → W p l e room_1 s m args below meth c H1 locs1 (cells + 16) (slots + 164) Q (F0 m 1758 ls [])) : W p l e room_1 s m args below meth c H locs cells slots Q (F0 m 1436 ls []) := by
  have hx := C.1
  have hb := C.2.1
  obtain ⟨αA, αB, αO, hA, hB, f, hI, eA, eB, eO, RA, RB, RO, dAB, dAO, dBO, SA, SB⟩ := hY
  subst eA
  subst eB
  subst eO
  obtain ⟨⟨fsA, hA0⟩, ⟨fsB, hB0⟩⟩ := hT hA hB hI
  obtain ⟨v, hA1, hB1, hA2, hB2, mc, ms, hmc, hms, MA, MB, hlA, hlB, NA, NB, hI2⟩ := hs (xs (xi + 1).toNatClampNeg) (xs (xi + 2).toNatClampNeg) hA hB hI
  refine lv_aload_n hx hb dL_law_1436 rfl (lv_at hl 1 rfl) ?_
  refine lv_aload_n hx hb dL_law_1437 rfl (lv_at hl 0 rfl) ?_
  refine lv_iload hx hb dL_law_1438 (lv_at hl 4 rfl) ?_
  refine lv_iconst (v := 1) hx hb dL_law_1440 (by decide) ?_
  refine lv_iadd hx hb dL_law_1441 ?_
  refine va_sld hx hb hX hbl hbA hS (hin 1 (by decide) (by decide)) dL_law_1442 ?_
  refine lv_aload_n hx hb dL_law_1443 rfl (lv_at hl 0 rfl) ?_
  refine lv_iload hx hb dL_law_1444 (lv_at hl 4 rfl) ?_
  refine lv_iconst (v := 2) hx hb dL_law_1446 (by decide) ?_
  refine lv_iadd hx hb dL_law_1447 ?_
  refine va_sld hx hb hX hbl hbA hS (hin 2 (by decide) (by decide)) dL_law_1448 ?_
  refine y_call (d := 40) (h2 := hB) (α2 := αB) (h3 := [.inl (1, 1, .inr (.inl f))]) (α3 := αO) C SA MA kL_178 dL_law_1449 hA0 rfl rfl rfl rfl rfl (Nat.le_of_ble_eq_true rfl) hl.1 (by decide) (by omega) hlA RA RB RO dAB dAO hS (fun βA H1 locs1 hE1 RA1 RB1 RO1 dAB1 dAO1 SA1 hS1 => ?_)
  have eβ : βA 0 = αA 0 := hE1.2 0 (Or.inl (List.getElem?_eq_some_iff.mp hA0).1)
  refine lv_aload_n hx hb dL_law_1452 rfl (lv_at hl 2 rfl) ?_
  refine lv_aload_n hx hb dL_law_1453 rfl (lv_at hl 0 rfl) ?_
  refine lv_iload hx hb dL_law_1454 (lv_at hl 4 rfl) ?_
  refine lv_iconst (v := 1) hx hb dL_law_1456 (by decide) ?_
  refine lv_iadd hx hb dL_law_1457 ?_
  refine va_sld hx hb hX hbl hbA hS1 (hin 1 (by decide) (by decide)) dL_law_1458 ?_
  refine lv_aload_n hx hb dL_law_1459 rfl (lv_at hl 0 rfl) ?_
  refine lv_iload hx hb dL_law_1460 (lv_at hl 4 rfl) ?_
  refine lv_iconst (v := 2) hx hb dL_law_1462 (by decide) ?_
  refine lv_iadd hx hb dL_law_1463 ?_
  refine va_sld hx hb hX hbl hbA hS1 (hin 2 (by decide) (by decide)) dL_law_1464 ?_
  refine y_call (d := 40) (h2 := hA1) (α2 := βA) (h3 := [.inl (1, 1, .inr (.inl f))]) (α3 := αO) C SB MB kL_181 dL_law_1465 hB0 rfl rfl rfl rfl rfl (Nat.le_of_ble_eq_true rfl) hl.1 (by decide) (by omega) hlB RB1 RA1 RO1 dAB1.symm dBO hS1 (fun βB H2 locs2 hE2 RB2 RA2 RO2 dAB2 dBO2 SB2 hS2 => ?_)
  have eβ2 : βB 0 = αB 0 := hE2.2 0 (Or.inl (List.getElem?_eq_some_iff.mp hB0).1)
  refine lv_icmp_eq (tgt := 1758) hx hb dL_law_1468 (by decide) (fun _ => ?_) (fun z => absurd rfl z)
  exact y_next hmc hms RA2 RB2 RO2 dAB2.symm dAO1 dBO2 SA1 SB2 hS2 NA NB hI2 (fun H3 locs3 hY3 hS3 => next H3 locs3 (by rw [eβ, eβ2] at hY3; exact hY3) hS3)
def yS_lend (Inv : xH → xH → Prop) : Prop := ∀ v0 v1 : Int32, ySimI Inv YX7_lend YX9_lend [.int v0, .int v1]
set_option maxHeartbeats 4000000 in
set_option maxRecDepth 100000 in
theorem lawc_lend (C : yCx p l s m args meth c D A) (hT : yTop Inv) (hs : yS_lend Inv) (hX : va_X b L xs s s.heap) (hbl : b < s.heap.size) (hbA : ¬ A b) (hin : ∀ j : Int32, 0 ≤ j.toInt → j.toInt < 6 → vp_in (xi + j) L) (hY : yI Inv D s A x y o H) (hS : va_S A s.heap H locs) (hl : lv_has ls 7 [(0, .ref b), (1, .ref x), (2, .ref y), (3, .ref o), (4, .int xi)]) (hrm : cells + 16 ≤ 601024 ∧ slots + 164 ≤ 7293034)
    (next : ∀ (H1 : Heap) (locs1 : List Loc), yI Inv D s A x y o H1 → va_S A s.heap H1 locs1 → W p l e room_1 s m args below meth c H1 locs1 (cells + 16) (slots + 164) Q (F0 m 1758 ls [])) : W p l e room_1 s m args below meth c H locs cells slots Q (F0 m 1473 ls []) := by
  have hx := C.1
  have hb := C.2.1
  obtain ⟨αA, αB, αO, hA, hB, f, hI, eA, eB, eO, RA, RB, RO, dAB, dAO, dBO, SA, SB⟩ := hY
  subst eA
  subst eB
  subst eO
  obtain ⟨⟨fsA, hA0⟩, ⟨fsB, hB0⟩⟩ := hT hA hB hI
  obtain ⟨v, hA1, hB1, hA2, hB2, mc, ms, hmc, hms, MA, MB, hlA, hlB, NA, NB, hI2⟩ := hs (xs (xi + 1).toNatClampNeg) (xs (xi + 2).toNatClampNeg) hA hB hI
  refine lv_aload_n hx hb dL_law_1473 rfl (lv_at hl 1 rfl) ?_
  refine lv_aload_n hx hb dL_law_1474 rfl (lv_at hl 0 rfl) ?_
  refine lv_iload hx hb dL_law_1475 (lv_at hl 4 rfl) ?_
  refine lv_iconst (v := 1) hx hb dL_law_1477 (by decide) ?_
  refine lv_iadd hx hb dL_law_1478 ?_
  refine va_sld hx hb hX hbl hbA hS (hin 1 (by decide) (by decide)) dL_law_1479 ?_
  refine lv_aload_n hx hb dL_law_1480 rfl (lv_at hl 0 rfl) ?_
  refine lv_iload hx hb dL_law_1481 (lv_at hl 4 rfl) ?_
  refine lv_iconst (v := 2) hx hb dL_law_1483 (by decide) ?_
  refine lv_iadd hx hb dL_law_1484 ?_
  refine va_sld hx hb hX hbl hbA hS (hin 2 (by decide) (by decide)) dL_law_1485 ?_
  refine y_call (d := 40) (h2 := hB) (α2 := αB) (h3 := [.inl (1, 1, .inr (.inl f))]) (α3 := αO) C SA MA kL_182 dL_law_1486 hA0 rfl rfl rfl rfl rfl (Nat.le_of_ble_eq_true rfl) hl.1 (by decide) (by omega) hlA RA RB RO dAB dAO hS (fun βA H1 locs1 hE1 RA1 RB1 RO1 dAB1 dAO1 SA1 hS1 => ?_)
  have eβ : βA 0 = αA 0 := hE1.2 0 (Or.inl (List.getElem?_eq_some_iff.mp hA0).1)
  refine lv_aload_n hx hb dL_law_1489 rfl (lv_at hl 2 rfl) ?_
  refine lv_aload_n hx hb dL_law_1490 rfl (lv_at hl 0 rfl) ?_
  refine lv_iload hx hb dL_law_1491 (lv_at hl 4 rfl) ?_
  refine lv_iconst (v := 1) hx hb dL_law_1493 (by decide) ?_
  refine lv_iadd hx hb dL_law_1494 ?_
  refine va_sld hx hb hX hbl hbA hS1 (hin 1 (by decide) (by decide)) dL_law_1495 ?_
  refine lv_aload_n hx hb dL_law_1496 rfl (lv_at hl 0 rfl) ?_
  refine lv_iload hx hb dL_law_1497 (lv_at hl 4 rfl) ?_
  refine lv_iconst (v := 2) hx hb dL_law_1499 (by decide) ?_
  refine lv_iadd hx hb dL_law_1500 ?_
  refine va_sld hx hb hX hbl hbA hS1 (hin 2 (by decide) (by decide)) dL_law_1501 ?_
  refine y_call (d := 40) (h2 := hA1) (α2 := βA) (h3 := [.inl (1, 1, .inr (.inl f))]) (α3 := αO) C SB MB kL_186 dL_law_1502 hB0 rfl rfl rfl rfl rfl (Nat.le_of_ble_eq_true rfl) hl.1 (by decide) (by omega) hlB RB1 RA1 RO1 dAB1.symm dBO hS1 (fun βB H2 locs2 hE2 RB2 RA2 RO2 dAB2 dBO2 SB2 hS2 => ?_)
  have eβ2 : βB 0 = αB 0 := hE2.2 0 (Or.inl (List.getElem?_eq_some_iff.mp hB0).1)
  refine lv_icmp_eq (tgt := 1758) hx hb dL_law_1505 (by decide) (fun _ => ?_) (fun z => absurd rfl z)
  exact y_next hmc hms RA2 RB2 RO2 dAB2.symm dAO1 dBO2 SA1 SB2 hS2 NA NB hI2 (fun H3 locs3 hY3 hS3 => next H3 locs3 (by rw [eβ, eβ2] at hY3; exact hY3) hS3)
def yS_leave (Inv : xH → xH → Prop) : Prop := ∀ v0 : Int32, ySimI Inv YX7_leave YX9_leave [.int v0]
set_option maxHeartbeats 4000000 in
set_option maxRecDepth 100000 in
theorem lawc_leave (C : yCx p l s m args meth c D A) (hT : yTop Inv) (hs : yS_leave Inv) (hX : va_X b L xs s s.heap) (hbl : b < s.heap.size) (hbA : ¬ A b) (hin : ∀ j : Int32, 0 ≤ j.toInt → j.toInt < 6 → vp_in (xi + j) L) (hY : yI Inv D s A x y o H) (hS : va_S A s.heap H locs) (hl : lv_has ls 7 [(0, .ref b), (1, .ref x), (2, .ref y), (3, .ref o), (4, .int xi)]) (hrm : cells + 16 ≤ 601024 ∧ slots + 164 ≤ 7293034)
    (next : ∀ (H1 : Heap) (locs1 : List Loc), yI Inv D s A x y o H1 → va_S A s.heap H1 locs1 → W p l e room_1 s m args below meth c H1 locs1 (cells + 16) (slots + 164) Q (F0 m 1758 ls [])) : W p l e room_1 s m args below meth c H locs cells slots Q (F0 m 1510 ls []) := by
  have hx := C.1
  have hb := C.2.1
  obtain ⟨αA, αB, αO, hA, hB, f, hI, eA, eB, eO, RA, RB, RO, dAB, dAO, dBO, SA, SB⟩ := hY
  subst eA
  subst eB
  subst eO
  obtain ⟨⟨fsA, hA0⟩, ⟨fsB, hB0⟩⟩ := hT hA hB hI
  obtain ⟨v, hA1, hB1, hA2, hB2, mc, ms, hmc, hms, MA, MB, hlA, hlB, NA, NB, hI2⟩ := hs (xs (xi + 1).toNatClampNeg) hA hB hI
  refine lv_aload_n hx hb dL_law_1510 rfl (lv_at hl 1 rfl) ?_
  refine lv_aload_n hx hb dL_law_1511 rfl (lv_at hl 0 rfl) ?_
  refine lv_iload hx hb dL_law_1512 (lv_at hl 4 rfl) ?_
  refine lv_iconst (v := 1) hx hb dL_law_1514 (by decide) ?_
  refine lv_iadd hx hb dL_law_1515 ?_
  refine va_sld hx hb hX hbl hbA hS (hin 1 (by decide) (by decide)) dL_law_1516 ?_
  refine y_call (d := 40) (h2 := hB) (α2 := αB) (h3 := [.inl (1, 1, .inr (.inl f))]) (α3 := αO) C SA MA kL_187 dL_law_1517 hA0 rfl rfl rfl rfl rfl (Nat.le_of_ble_eq_true rfl) hl.1 (by decide) (by omega) hlA RA RB RO dAB dAO hS (fun βA H1 locs1 hE1 RA1 RB1 RO1 dAB1 dAO1 SA1 hS1 => ?_)
  have eβ : βA 0 = αA 0 := hE1.2 0 (Or.inl (List.getElem?_eq_some_iff.mp hA0).1)
  refine lv_aload_n hx hb dL_law_1520 rfl (lv_at hl 2 rfl) ?_
  refine lv_aload_n hx hb dL_law_1521 rfl (lv_at hl 0 rfl) ?_
  refine lv_iload hx hb dL_law_1522 (lv_at hl 4 rfl) ?_
  refine lv_iconst (v := 1) hx hb dL_law_1524 (by decide) ?_
  refine lv_iadd hx hb dL_law_1525 ?_
  refine va_sld hx hb hX hbl hbA hS1 (hin 1 (by decide) (by decide)) dL_law_1526 ?_
  refine y_call (d := 40) (h2 := hA1) (α2 := βA) (h3 := [.inl (1, 1, .inr (.inl f))]) (α3 := αO) C SB MB kL_191 dL_law_1527 hB0 rfl rfl rfl rfl rfl (Nat.le_of_ble_eq_true rfl) hl.1 (by decide) (by omega) hlB RB1 RA1 RO1 dAB1.symm dBO hS1 (fun βB H2 locs2 hE2 RB2 RA2 RO2 dAB2 dBO2 SB2 hS2 => ?_)
  have eβ2 : βB 0 = αB 0 := hE2.2 0 (Or.inl (List.getElem?_eq_some_iff.mp hB0).1)
  refine lv_icmp_eq (tgt := 1758) hx hb dL_law_1530 (by decide) (fun _ => ?_) (fun z => absurd rfl z)
  exact y_next hmc hms RA2 RB2 RO2 dAB2.symm dAO1 dBO2 SA1 SB2 hS2 NA NB hI2 (fun H3 locs3 hY3 hS3 => next H3 locs3 (by rw [eβ, eβ2] at hY3; exact hY3) hS3)
def yS_exchange (Inv : xH → xH → Prop) : Prop := ∀ v0 v1 : Int32, ySimI Inv YX7_exchange YX9_exchange [.int v0, .int v1]
set_option maxHeartbeats 4000000 in
set_option maxRecDepth 100000 in
theorem lawc_exchange (C : yCx p l s m args meth c D A) (hT : yTop Inv) (hs : yS_exchange Inv) (hX : va_X b L xs s s.heap) (hbl : b < s.heap.size) (hbA : ¬ A b) (hin : ∀ j : Int32, 0 ≤ j.toInt → j.toInt < 6 → vp_in (xi + j) L) (hY : yI Inv D s A x y o H) (hS : va_S A s.heap H locs) (hl : lv_has ls 7 [(0, .ref b), (1, .ref x), (2, .ref y), (3, .ref o), (4, .int xi)]) (hrm : cells + 16 ≤ 601024 ∧ slots + 164 ≤ 7293034)
    (next : ∀ (H1 : Heap) (locs1 : List Loc), yI Inv D s A x y o H1 → va_S A s.heap H1 locs1 → W p l e room_1 s m args below meth c H1 locs1 (cells + 16) (slots + 164) Q (F0 m 1758 ls [])) : W p l e room_1 s m args below meth c H locs cells slots Q (F0 m 1535 ls []) := by
  have hx := C.1
  have hb := C.2.1
  obtain ⟨αA, αB, αO, hA, hB, f, hI, eA, eB, eO, RA, RB, RO, dAB, dAO, dBO, SA, SB⟩ := hY
  subst eA
  subst eB
  subst eO
  obtain ⟨⟨fsA, hA0⟩, ⟨fsB, hB0⟩⟩ := hT hA hB hI
  obtain ⟨v, hA1, hB1, hA2, hB2, mc, ms, hmc, hms, MA, MB, hlA, hlB, NA, NB, hI2⟩ := hs (xs (xi + 1).toNatClampNeg) (xs (xi + 2).toNatClampNeg) hA hB hI
  refine lv_aload_n hx hb dL_law_1535 rfl (lv_at hl 1 rfl) ?_
  refine lv_aload_n hx hb dL_law_1536 rfl (lv_at hl 0 rfl) ?_
  refine lv_iload hx hb dL_law_1537 (lv_at hl 4 rfl) ?_
  refine lv_iconst (v := 1) hx hb dL_law_1539 (by decide) ?_
  refine lv_iadd hx hb dL_law_1540 ?_
  refine va_sld hx hb hX hbl hbA hS (hin 1 (by decide) (by decide)) dL_law_1541 ?_
  refine lv_aload_n hx hb dL_law_1542 rfl (lv_at hl 0 rfl) ?_
  refine lv_iload hx hb dL_law_1543 (lv_at hl 4 rfl) ?_
  refine lv_iconst (v := 2) hx hb dL_law_1545 (by decide) ?_
  refine lv_iadd hx hb dL_law_1546 ?_
  refine va_sld hx hb hX hbl hbA hS (hin 2 (by decide) (by decide)) dL_law_1547 ?_
  refine y_call (d := 40) (h2 := hB) (α2 := αB) (h3 := [.inl (1, 1, .inr (.inl f))]) (α3 := αO) C SA MA kL_192 dL_law_1548 hA0 rfl rfl rfl rfl rfl (Nat.le_of_ble_eq_true rfl) hl.1 (by decide) (by omega) hlA RA RB RO dAB dAO hS (fun βA H1 locs1 hE1 RA1 RB1 RO1 dAB1 dAO1 SA1 hS1 => ?_)
  have eβ : βA 0 = αA 0 := hE1.2 0 (Or.inl (List.getElem?_eq_some_iff.mp hA0).1)
  refine lv_aload_n hx hb dL_law_1551 rfl (lv_at hl 2 rfl) ?_
  refine lv_aload_n hx hb dL_law_1552 rfl (lv_at hl 0 rfl) ?_
  refine lv_iload hx hb dL_law_1553 (lv_at hl 4 rfl) ?_
  refine lv_iconst (v := 1) hx hb dL_law_1555 (by decide) ?_
  refine lv_iadd hx hb dL_law_1556 ?_
  refine va_sld hx hb hX hbl hbA hS1 (hin 1 (by decide) (by decide)) dL_law_1557 ?_
  refine lv_aload_n hx hb dL_law_1558 rfl (lv_at hl 0 rfl) ?_
  refine lv_iload hx hb dL_law_1559 (lv_at hl 4 rfl) ?_
  refine lv_iconst (v := 2) hx hb dL_law_1561 (by decide) ?_
  refine lv_iadd hx hb dL_law_1562 ?_
  refine va_sld hx hb hX hbl hbA hS1 (hin 2 (by decide) (by decide)) dL_law_1563 ?_
  refine y_call (d := 40) (h2 := hA1) (α2 := βA) (h3 := [.inl (1, 1, .inr (.inl f))]) (α3 := αO) C SB MB kL_195 dL_law_1564 hB0 rfl rfl rfl rfl rfl (Nat.le_of_ble_eq_true rfl) hl.1 (by decide) (by omega) hlB RB1 RA1 RO1 dAB1.symm dBO hS1 (fun βB H2 locs2 hE2 RB2 RA2 RO2 dAB2 dBO2 SB2 hS2 => ?_)
  have eβ2 : βB 0 = αB 0 := hE2.2 0 (Or.inl (List.getElem?_eq_some_iff.mp hB0).1)
  refine lv_icmp_eq (tgt := 1758) hx hb dL_law_1567 (by decide) (fun _ => ?_) (fun z => absurd rfl z)
  exact y_next hmc hms RA2 RB2 RO2 dAB2.symm dAO1 dBO2 SA1 SB2 hS2 NA NB hI2 (fun H3 locs3 hY3 hS3 => next H3 locs3 (by rw [eβ, eβ2] at hY3; exact hY3) hS3)
def yS_day (Inv : xH → xH → Prop) : Prop := ∀ v0 : Int32, (v0 = 0 ∨ v0 = 1) → ySimI Inv YX7_day YX9_day [.int v0]
set_option maxHeartbeats 4000000 in
set_option maxRecDepth 100000 in
theorem lawc_day (C : yCx p l s m args meth c D A) (hT : yTop Inv) (hs : yS_day Inv) (hX : va_X b L xs s s.heap) (hbl : b < s.heap.size) (hbA : ¬ A b) (hin : ∀ j : Int32, 0 ≤ j.toInt → j.toInt < 6 → vp_in (xi + j) L) (hY : yI Inv D s A x y o H) (hS : va_S A s.heap H locs) (hl : lv_has ls 7 [(0, .ref b), (1, .ref x), (2, .ref y), (3, .ref o), (4, .int xi)]) (hrm : cells + 16 ≤ 601024 ∧ slots + 164 ≤ 7293034)
    (next : ∀ (H1 : Heap) (locs1 : List Loc), yI Inv D s A x y o H1 → va_S A s.heap H1 locs1 → W p l e room_1 s m args below meth c H1 locs1 (cells + 16) (slots + 164) Q (F0 m 1758 ls [])) : W p l e room_1 s m args below meth c H locs cells slots Q (F0 m 1572 ls []) := by
  have hx := C.1
  have hb := C.2.1
  obtain ⟨αA, αB, αO, hA, hB, f, hI, eA, eB, eO, RA, RB, RO, dAB, dAO, dBO, SA, SB⟩ := hY
  subst eA
  subst eB
  subst eO
  obtain ⟨⟨fsA, hA0⟩, ⟨fsB, hB0⟩⟩ := hT hA hB hI
  by_cases hq : (xs (xi + 1).toNatClampNeg) = 0
  · obtain ⟨v, hA1, hB1, hA2, hB2, mc, ms, hmc, hms, MA, MB, hlA, hlB, NA, NB, hI2⟩ := hs 0 (Or.inl rfl) hA hB hI
    refine lv_aload_n hx hb dL_law_1572 rfl (lv_at hl 1 rfl) ?_
    refine lv_aload_n hx hb dL_law_1573 rfl (lv_at hl 0 rfl) ?_
    refine lv_iload hx hb dL_law_1574 (lv_at hl 4 rfl) ?_
    refine lv_iconst (v := 1) hx hb dL_law_1576 (by decide) ?_
    refine lv_iadd hx hb dL_law_1577 ?_
    refine va_sld hx hb hX hbl hbA hS (hin 1 (by decide) (by decide)) dL_law_1578 ?_
    refine lv_if_eq (tgt := 1586) hx hb dL_law_1579 (by decide) (fun _ => ?_) (fun z => absurd hq z)
    refine lv_iconst (v := 0) hx hb dL_law_1586 (by decide) ?_
    refine y_call (d := 40) (h2 := hB) (α2 := αB) (h3 := [.inl (1, 1, .inr (.inl f))]) (α3 := αO) C SA MA kL_196 dL_law_1587 hA0 rfl rfl rfl rfl rfl (Nat.le_of_ble_eq_true rfl) hl.1 (by decide) (by omega) hlA RA RB RO dAB dAO hS (fun βA H1 locs1 hE1 RA1 RB1 RO1 dAB1 dAO1 SA1 hS1 => ?_)
    have eβ : βA 0 = αA 0 := hE1.2 0 (Or.inl (List.getElem?_eq_some_iff.mp hA0).1)
    refine lv_aload_n hx hb dL_law_1590 rfl (lv_at hl 2 rfl) ?_
    refine lv_aload_n hx hb dL_law_1591 rfl (lv_at hl 0 rfl) ?_
    refine lv_iload hx hb dL_law_1592 (lv_at hl 4 rfl) ?_
    refine lv_iconst (v := 1) hx hb dL_law_1594 (by decide) ?_
    refine lv_iadd hx hb dL_law_1595 ?_
    refine va_sld hx hb hX hbl hbA hS1 (hin 1 (by decide) (by decide)) dL_law_1596 ?_
    refine lv_if_eq (tgt := 1604) hx hb dL_law_1597 (by decide) (fun _ => ?_) (fun z => absurd hq z)
    refine lv_iconst (v := 0) hx hb dL_law_1604 (by decide) ?_
    refine y_call (d := 40) (h2 := hA1) (α2 := βA) (h3 := [.inl (1, 1, .inr (.inl f))]) (α3 := αO) C SB MB kL_200 dL_law_1605 hB0 rfl rfl rfl rfl rfl (Nat.le_of_ble_eq_true rfl) hl.1 (by decide) (by omega) hlB RB1 RA1 RO1 dAB1.symm dBO hS1 (fun βB H2 locs2 hE2 RB2 RA2 RO2 dAB2 dBO2 SB2 hS2 => ?_)
    have eβ2 : βB 0 = αB 0 := hE2.2 0 (Or.inl (List.getElem?_eq_some_iff.mp hB0).1)
    refine lv_icmp_eq (tgt := 1758) hx hb dL_law_1608 (by decide) (fun _ => ?_) (fun z => absurd rfl z)
    exact y_next hmc hms RA2 RB2 RO2 dAB2.symm dAO1 dBO2 SA1 SB2 hS2 NA NB hI2 (fun H3 locs3 hY3 hS3 => next H3 locs3 (by rw [eβ, eβ2] at hY3; exact hY3) hS3)
  · obtain ⟨v, hA1, hB1, hA2, hB2, mc, ms, hmc, hms, MA, MB, hlA, hlB, NA, NB, hI2⟩ := hs 1 (Or.inr rfl) hA hB hI
    refine lv_aload_n hx hb dL_law_1572 rfl (lv_at hl 1 rfl) ?_
    refine lv_aload_n hx hb dL_law_1573 rfl (lv_at hl 0 rfl) ?_
    refine lv_iload hx hb dL_law_1574 (lv_at hl 4 rfl) ?_
    refine lv_iconst (v := 1) hx hb dL_law_1576 (by decide) ?_
    refine lv_iadd hx hb dL_law_1577 ?_
    refine va_sld hx hb hX hbl hbA hS (hin 1 (by decide) (by decide)) dL_law_1578 ?_
    refine lv_if_eq (tgt := 1586) hx hb dL_law_1579 (by decide) (fun z => absurd z hq) (fun _ => ?_)
    refine lv_iconst (v := 1) hx hb dL_law_1582 (by decide) ?_
    refine lv_goto (tgt := 1587) hx hb dL_law_1583 (by decide) ?_
    refine y_call (d := 40) (h2 := hB) (α2 := αB) (h3 := [.inl (1, 1, .inr (.inl f))]) (α3 := αO) C SA MA kL_196 dL_law_1587 hA0 rfl rfl rfl rfl rfl (Nat.le_of_ble_eq_true rfl) hl.1 (by decide) (by omega) hlA RA RB RO dAB dAO hS (fun βA H1 locs1 hE1 RA1 RB1 RO1 dAB1 dAO1 SA1 hS1 => ?_)
    have eβ : βA 0 = αA 0 := hE1.2 0 (Or.inl (List.getElem?_eq_some_iff.mp hA0).1)
    refine lv_aload_n hx hb dL_law_1590 rfl (lv_at hl 2 rfl) ?_
    refine lv_aload_n hx hb dL_law_1591 rfl (lv_at hl 0 rfl) ?_
    refine lv_iload hx hb dL_law_1592 (lv_at hl 4 rfl) ?_
    refine lv_iconst (v := 1) hx hb dL_law_1594 (by decide) ?_
    refine lv_iadd hx hb dL_law_1595 ?_
    refine va_sld hx hb hX hbl hbA hS1 (hin 1 (by decide) (by decide)) dL_law_1596 ?_
    refine lv_if_eq (tgt := 1604) hx hb dL_law_1597 (by decide) (fun z => absurd z hq) (fun _ => ?_)
    refine lv_iconst (v := 1) hx hb dL_law_1600 (by decide) ?_
    refine lv_goto (tgt := 1605) hx hb dL_law_1601 (by decide) ?_
    refine y_call (d := 40) (h2 := hA1) (α2 := βA) (h3 := [.inl (1, 1, .inr (.inl f))]) (α3 := αO) C SB MB kL_200 dL_law_1605 hB0 rfl rfl rfl rfl rfl (Nat.le_of_ble_eq_true rfl) hl.1 (by decide) (by omega) hlB RB1 RA1 RO1 dAB1.symm dBO hS1 (fun βB H2 locs2 hE2 RB2 RA2 RO2 dAB2 dBO2 SB2 hS2 => ?_)
    have eβ2 : βB 0 = αB 0 := hE2.2 0 (Or.inl (List.getElem?_eq_some_iff.mp hB0).1)
    refine lv_icmp_eq (tgt := 1758) hx hb dL_law_1608 (by decide) (fun _ => ?_) (fun z => absurd rfl z)
    exact y_next hmc hms RA2 RB2 RO2 dAB2.symm dAO1 dBO2 SA1 SB2 hS2 NA NB hI2 (fun H3 locs3 hY3 hS3 => next H3 locs3 (by rw [eβ, eβ2] at hY3; exact hY3) hS3)
def yS_undo (Inv : xH → xH → Prop) : Prop := ySimI Inv YX7_undo YX9_undo []
set_option maxHeartbeats 4000000 in
set_option maxRecDepth 100000 in
theorem lawc_undo (C : yCx p l s m args meth c D A) (hT : yTop Inv) (hs : yS_undo Inv) (hX : va_X b L xs s s.heap) (hbl : b < s.heap.size) (hbA : ¬ A b) (hin : ∀ j : Int32, 0 ≤ j.toInt → j.toInt < 6 → vp_in (xi + j) L) (hY : yI Inv D s A x y o H) (hS : va_S A s.heap H locs) (hl : lv_has ls 7 [(0, .ref b), (1, .ref x), (2, .ref y), (3, .ref o), (4, .int xi)]) (hrm : cells + 16 ≤ 601024 ∧ slots + 164 ≤ 7293034)
    (next : ∀ (H1 : Heap) (locs1 : List Loc), yI Inv D s A x y o H1 → va_S A s.heap H1 locs1 → W p l e room_1 s m args below meth c H1 locs1 (cells + 16) (slots + 164) Q (F0 m 1758 ls [])) : W p l e room_1 s m args below meth c H locs cells slots Q (F0 m 1613 ls []) := by
  have hx := C.1
  have hb := C.2.1
  obtain ⟨αA, αB, αO, hA, hB, f, hI, eA, eB, eO, RA, RB, RO, dAB, dAO, dBO, SA, SB⟩ := hY
  subst eA
  subst eB
  subst eO
  obtain ⟨⟨fsA, hA0⟩, ⟨fsB, hB0⟩⟩ := hT hA hB hI
  obtain ⟨v, hA1, hB1, hA2, hB2, mc, ms, hmc, hms, MA, MB, hlA, hlB, NA, NB, hI2⟩ := hs hA hB hI
  refine lv_aload_n hx hb dL_law_1613 rfl (lv_at hl 1 rfl) ?_
  refine y_call (d := 40) (h2 := hB) (α2 := αB) (h3 := [.inl (1, 1, .inr (.inl f))]) (α3 := αO) C SA MA kL_201 dL_law_1614 hA0 rfl rfl rfl rfl rfl (Nat.le_of_ble_eq_true rfl) hl.1 (by decide) (by omega) hlA RA RB RO dAB dAO hS (fun βA H1 locs1 hE1 RA1 RB1 RO1 dAB1 dAO1 SA1 hS1 => ?_)
  have eβ : βA 0 = αA 0 := hE1.2 0 (Or.inl (List.getElem?_eq_some_iff.mp hA0).1)
  refine lv_aload_n hx hb dL_law_1617 rfl (lv_at hl 2 rfl) ?_
  refine y_call (d := 40) (h2 := hA1) (α2 := βA) (h3 := [.inl (1, 1, .inr (.inl f))]) (α3 := αO) C SB MB kL_205 dL_law_1618 hB0 rfl rfl rfl rfl rfl (Nat.le_of_ble_eq_true rfl) hl.1 (by decide) (by omega) hlB RB1 RA1 RO1 dAB1.symm dBO hS1 (fun βB H2 locs2 hE2 RB2 RA2 RO2 dAB2 dBO2 SB2 hS2 => ?_)
  have eβ2 : βB 0 = αB 0 := hE2.2 0 (Or.inl (List.getElem?_eq_some_iff.mp hB0).1)
  refine lv_icmp_eq (tgt := 1758) hx hb dL_law_1621 (by decide) (fun _ => ?_) (fun z => absurd rfl z)
  exact y_next hmc hms RA2 RB2 RO2 dAB2.symm dAO1 dBO2 SA1 SB2 hS2 NA NB hI2 (fun H3 locs3 hY3 hS3 => next H3 locs3 (by rw [eβ, eβ2] at hY3; exact hY3) hS3)
def yS_mark (Inv : xH → xH → Prop) : Prop := ySimI Inv YX7_mark YX9_mark []
set_option maxHeartbeats 4000000 in
set_option maxRecDepth 100000 in
theorem lawc_mark (C : yCx p l s m args meth c D A) (hT : yTop Inv) (hs : yS_mark Inv) (hX : va_X b L xs s s.heap) (hbl : b < s.heap.size) (hbA : ¬ A b) (hin : ∀ j : Int32, 0 ≤ j.toInt → j.toInt < 6 → vp_in (xi + j) L) (hY : yI Inv D s A x y o H) (hS : va_S A s.heap H locs) (hl : lv_has ls 7 [(0, .ref b), (1, .ref x), (2, .ref y), (3, .ref o), (4, .int xi)]) (hrm : cells + 16 ≤ 601024 ∧ slots + 164 ≤ 7293034)
    (next : ∀ (H1 : Heap) (locs1 : List Loc), yI Inv D s A x y o H1 → va_S A s.heap H1 locs1 → W p l e room_1 s m args below meth c H1 locs1 (cells + 16) (slots + 164) Q (F0 m 1758 ls [])) : W p l e room_1 s m args below meth c H locs cells slots Q (F0 m 1626 ls []) := by
  have hx := C.1
  have hb := C.2.1
  obtain ⟨αA, αB, αO, hA, hB, f, hI, eA, eB, eO, RA, RB, RO, dAB, dAO, dBO, SA, SB⟩ := hY
  subst eA
  subst eB
  subst eO
  obtain ⟨⟨fsA, hA0⟩, ⟨fsB, hB0⟩⟩ := hT hA hB hI
  obtain ⟨v, hA1, hB1, hA2, hB2, mc, ms, hmc, hms, MA, MB, hlA, hlB, NA, NB, hI2⟩ := hs hA hB hI
  refine lv_aload_n hx hb dL_law_1626 rfl (lv_at hl 1 rfl) ?_
  refine y_call (d := 40) (h2 := hB) (α2 := αB) (h3 := [.inl (1, 1, .inr (.inl f))]) (α3 := αO) C SA MA kL_206 dL_law_1627 hA0 rfl rfl rfl rfl rfl (Nat.le_of_ble_eq_true rfl) hl.1 (by decide) (by omega) hlA RA RB RO dAB dAO hS (fun βA H1 locs1 hE1 RA1 RB1 RO1 dAB1 dAO1 SA1 hS1 => ?_)
  have eβ : βA 0 = αA 0 := hE1.2 0 (Or.inl (List.getElem?_eq_some_iff.mp hA0).1)
  refine lv_aload_n hx hb dL_law_1630 rfl (lv_at hl 2 rfl) ?_
  refine y_call (d := 40) (h2 := hA1) (α2 := βA) (h3 := [.inl (1, 1, .inr (.inl f))]) (α3 := αO) C SB MB kL_209 dL_law_1631 hB0 rfl rfl rfl rfl rfl (Nat.le_of_ble_eq_true rfl) hl.1 (by decide) (by omega) hlB RB1 RA1 RO1 dAB1.symm dBO hS1 (fun βB H2 locs2 hE2 RB2 RA2 RO2 dAB2 dBO2 SB2 hS2 => ?_)
  have eβ2 : βB 0 = αB 0 := hE2.2 0 (Or.inl (List.getElem?_eq_some_iff.mp hB0).1)
  refine lv_icmp_eq (tgt := 1758) hx hb dL_law_1634 (by decide) (fun _ => ?_) (fun z => absurd rfl z)
  exact y_next hmc hms RA2 RB2 RO2 dAB2.symm dAO1 dBO2 SA1 SB2 hS2 NA NB hI2 (fun H3 locs3 hY3 hS3 => next H3 locs3 (by rw [eβ, eβ2] at hY3; exact hY3) hS3)
def yS_back (Inv : xH → xH → Prop) : Prop := ∀ v0 : Int32, ySimI Inv YX7_back YX9_back [.int v0]
set_option maxHeartbeats 4000000 in
set_option maxRecDepth 100000 in
theorem lawc_back (C : yCx p l s m args meth c D A) (hT : yTop Inv) (hs : yS_back Inv) (hX : va_X b L xs s s.heap) (hbl : b < s.heap.size) (hbA : ¬ A b) (hin : ∀ j : Int32, 0 ≤ j.toInt → j.toInt < 6 → vp_in (xi + j) L) (hY : yI Inv D s A x y o H) (hS : va_S A s.heap H locs) (hl : lv_has ls 7 [(0, .ref b), (1, .ref x), (2, .ref y), (3, .ref o), (4, .int xi)]) (hrm : cells + 16 ≤ 601024 ∧ slots + 164 ≤ 7293034)
    (next : ∀ (H1 : Heap) (locs1 : List Loc), yI Inv D s A x y o H1 → va_S A s.heap H1 locs1 → W p l e room_1 s m args below meth c H1 locs1 (cells + 16) (slots + 164) Q (F0 m 1758 ls [])) : W p l e room_1 s m args below meth c H locs cells slots Q (F0 m 1639 ls []) := by
  have hx := C.1
  have hb := C.2.1
  obtain ⟨αA, αB, αO, hA, hB, f, hI, eA, eB, eO, RA, RB, RO, dAB, dAO, dBO, SA, SB⟩ := hY
  subst eA
  subst eB
  subst eO
  obtain ⟨⟨fsA, hA0⟩, ⟨fsB, hB0⟩⟩ := hT hA hB hI
  obtain ⟨v, hA1, hB1, hA2, hB2, mc, ms, hmc, hms, MA, MB, hlA, hlB, NA, NB, hI2⟩ := hs (xs (xi + 1).toNatClampNeg) hA hB hI
  refine lv_aload_n hx hb dL_law_1639 rfl (lv_at hl 1 rfl) ?_
  refine lv_aload_n hx hb dL_law_1640 rfl (lv_at hl 0 rfl) ?_
  refine lv_iload hx hb dL_law_1641 (lv_at hl 4 rfl) ?_
  refine lv_iconst (v := 1) hx hb dL_law_1643 (by decide) ?_
  refine lv_iadd hx hb dL_law_1644 ?_
  refine va_sld hx hb hX hbl hbA hS (hin 1 (by decide) (by decide)) dL_law_1645 ?_
  refine y_call (d := 40) (h2 := hB) (α2 := αB) (h3 := [.inl (1, 1, .inr (.inl f))]) (α3 := αO) C SA MA kL_210 dL_law_1646 hA0 rfl rfl rfl rfl rfl (Nat.le_of_ble_eq_true rfl) hl.1 (by decide) (by omega) hlA RA RB RO dAB dAO hS (fun βA H1 locs1 hE1 RA1 RB1 RO1 dAB1 dAO1 SA1 hS1 => ?_)
  have eβ : βA 0 = αA 0 := hE1.2 0 (Or.inl (List.getElem?_eq_some_iff.mp hA0).1)
  refine lv_aload_n hx hb dL_law_1649 rfl (lv_at hl 2 rfl) ?_
  refine lv_aload_n hx hb dL_law_1650 rfl (lv_at hl 0 rfl) ?_
  refine lv_iload hx hb dL_law_1651 (lv_at hl 4 rfl) ?_
  refine lv_iconst (v := 1) hx hb dL_law_1653 (by decide) ?_
  refine lv_iadd hx hb dL_law_1654 ?_
  refine va_sld hx hb hX hbl hbA hS1 (hin 1 (by decide) (by decide)) dL_law_1655 ?_
  refine y_call (d := 40) (h2 := hA1) (α2 := βA) (h3 := [.inl (1, 1, .inr (.inl f))]) (α3 := αO) C SB MB kL_213 dL_law_1656 hB0 rfl rfl rfl rfl rfl (Nat.le_of_ble_eq_true rfl) hl.1 (by decide) (by omega) hlB RB1 RA1 RO1 dAB1.symm dBO hS1 (fun βB H2 locs2 hE2 RB2 RA2 RO2 dAB2 dBO2 SB2 hS2 => ?_)
  have eβ2 : βB 0 = αB 0 := hE2.2 0 (Or.inl (List.getElem?_eq_some_iff.mp hB0).1)
  refine lv_icmp_eq (tgt := 1758) hx hb dL_law_1659 (by decide) (fun _ => ?_) (fun z => absurd rfl z)
  exact y_next hmc hms RA2 RB2 RO2 dAB2.symm dAO1 dBO2 SA1 SB2 hS2 NA NB hI2 (fun H3 locs3 hY3 hS3 => next H3 locs3 (by rw [eβ, eβ2] at hY3; exact hY3) hS3)
def yS_size (Inv : xH → xH → Prop) : Prop := ∀ v0 : Int32, ySimI Inv YX7_size YX9_size [.int v0]
set_option maxHeartbeats 4000000 in
set_option maxRecDepth 100000 in
theorem lawc_size (C : yCx p l s m args meth c D A) (hT : yTop Inv) (hs : yS_size Inv) (hX : va_X b L xs s s.heap) (hbl : b < s.heap.size) (hbA : ¬ A b) (hin : ∀ j : Int32, 0 ≤ j.toInt → j.toInt < 6 → vp_in (xi + j) L) (hY : yI Inv D s A x y o H) (hS : va_S A s.heap H locs) (hl : lv_has ls 7 [(0, .ref b), (1, .ref x), (2, .ref y), (3, .ref o), (4, .int xi)]) (hrm : cells + 16 ≤ 601024 ∧ slots + 164 ≤ 7293034)
    (next : ∀ (H1 : Heap) (locs1 : List Loc), yI Inv D s A x y o H1 → va_S A s.heap H1 locs1 → W p l e room_1 s m args below meth c H1 locs1 (cells + 16) (slots + 164) Q (F0 m 1758 ls [])) : W p l e room_1 s m args below meth c H locs cells slots Q (F0 m 1720 ls []) := by
  have hx := C.1
  have hb := C.2.1
  obtain ⟨αA, αB, αO, hA, hB, f, hI, eA, eB, eO, RA, RB, RO, dAB, dAO, dBO, SA, SB⟩ := hY
  subst eA
  subst eB
  subst eO
  obtain ⟨⟨fsA, hA0⟩, ⟨fsB, hB0⟩⟩ := hT hA hB hI
  obtain ⟨v, hA1, hB1, hA2, hB2, mc, ms, hmc, hms, MA, MB, hlA, hlB, NA, NB, hI2⟩ := hs (xs (xi + 1).toNatClampNeg) hA hB hI
  refine lv_aload_n hx hb dL_law_1720 rfl (lv_at hl 1 rfl) ?_
  refine lv_aload_n hx hb dL_law_1721 rfl (lv_at hl 0 rfl) ?_
  refine lv_iload hx hb dL_law_1722 (lv_at hl 4 rfl) ?_
  refine lv_iconst (v := 1) hx hb dL_law_1724 (by decide) ?_
  refine lv_iadd hx hb dL_law_1725 ?_
  refine va_sld hx hb hX hbl hbA hS (hin 1 (by decide) (by decide)) dL_law_1726 ?_
  refine y_call (d := 40) (h2 := hB) (α2 := αB) (h3 := [.inl (1, 1, .inr (.inl f))]) (α3 := αO) C SA MA kL_223 dL_law_1727 hA0 rfl rfl rfl rfl rfl (Nat.le_of_ble_eq_true rfl) hl.1 (by decide) (by omega) hlA RA RB RO dAB dAO hS (fun βA H1 locs1 hE1 RA1 RB1 RO1 dAB1 dAO1 SA1 hS1 => ?_)
  have eβ : βA 0 = αA 0 := hE1.2 0 (Or.inl (List.getElem?_eq_some_iff.mp hA0).1)
  refine lv_aload_n hx hb dL_law_1730 rfl (lv_at hl 2 rfl) ?_
  refine lv_aload_n hx hb dL_law_1731 rfl (lv_at hl 0 rfl) ?_
  refine lv_iload hx hb dL_law_1732 (lv_at hl 4 rfl) ?_
  refine lv_iconst (v := 1) hx hb dL_law_1734 (by decide) ?_
  refine lv_iadd hx hb dL_law_1735 ?_
  refine va_sld hx hb hX hbl hbA hS1 (hin 1 (by decide) (by decide)) dL_law_1736 ?_
  refine y_call (d := 40) (h2 := hA1) (α2 := βA) (h3 := [.inl (1, 1, .inr (.inl f))]) (α3 := αO) C SB MB kL_226 dL_law_1737 hB0 rfl rfl rfl rfl rfl (Nat.le_of_ble_eq_true rfl) hl.1 (by decide) (by omega) hlB RB1 RA1 RO1 dAB1.symm dBO hS1 (fun βB H2 locs2 hE2 RB2 RA2 RO2 dAB2 dBO2 SB2 hS2 => ?_)
  have eβ2 : βB 0 = αB 0 := hE2.2 0 (Or.inl (List.getElem?_eq_some_iff.mp hB0).1)
  refine lv_icmp_eq (tgt := 1758) hx hb dL_law_1740 (by decide) (fun _ => ?_) (fun z => absurd rfl z)
  exact y_next hmc hms RA2 RB2 RO2 dAB2.symm dAO1 dBO2 SA1 SB2 hS2 NA NB hI2 (fun H3 locs3 hY3 hS3 => next H3 locs3 (by rw [eβ, eβ2] at hY3; exact hY3) hS3)
def yS_trouble (Inv : xH → xH → Prop) : Prop := ySimI Inv YX7_trouble YX9_trouble []
set_option maxHeartbeats 4000000 in
set_option maxRecDepth 100000 in
theorem lawc_trouble (C : yCx p l s m args meth c D A) (hT : yTop Inv) (hs : yS_trouble Inv) (hX : va_X b L xs s s.heap) (hbl : b < s.heap.size) (hbA : ¬ A b) (hin : ∀ j : Int32, 0 ≤ j.toInt → j.toInt < 6 → vp_in (xi + j) L) (hY : yI Inv D s A x y o H) (hS : va_S A s.heap H locs) (hl : lv_has ls 7 [(0, .ref b), (1, .ref x), (2, .ref y), (3, .ref o), (4, .int xi)]) (hrm : cells + 16 ≤ 601024 ∧ slots + 164 ≤ 7293034)
    (next : ∀ (H1 : Heap) (locs1 : List Loc), yI Inv D s A x y o H1 → va_S A s.heap H1 locs1 → W p l e room_1 s m args below meth c H1 locs1 (cells + 16) (slots + 164) Q (F0 m 1758 ls [])) : W p l e room_1 s m args below meth c H locs cells slots Q (F0 m 1745 ls []) := by
  have hx := C.1
  have hb := C.2.1
  obtain ⟨αA, αB, αO, hA, hB, f, hI, eA, eB, eO, RA, RB, RO, dAB, dAO, dBO, SA, SB⟩ := hY
  subst eA
  subst eB
  subst eO
  obtain ⟨⟨fsA, hA0⟩, ⟨fsB, hB0⟩⟩ := hT hA hB hI
  obtain ⟨v, hA1, hB1, hA2, hB2, mc, ms, hmc, hms, MA, MB, hlA, hlB, NA, NB, hI2⟩ := hs hA hB hI
  refine lv_aload_n hx hb dL_law_1745 rfl (lv_at hl 1 rfl) ?_
  refine y_call (d := 40) (h2 := hB) (α2 := αB) (h3 := [.inl (1, 1, .inr (.inl f))]) (α3 := αO) C SA MA kL_227 dL_law_1746 hA0 rfl rfl rfl rfl rfl (Nat.le_of_ble_eq_true rfl) hl.1 (by decide) (by omega) hlA RA RB RO dAB dAO hS (fun βA H1 locs1 hE1 RA1 RB1 RO1 dAB1 dAO1 SA1 hS1 => ?_)
  have eβ : βA 0 = αA 0 := hE1.2 0 (Or.inl (List.getElem?_eq_some_iff.mp hA0).1)
  refine lv_aload_n hx hb dL_law_1749 rfl (lv_at hl 2 rfl) ?_
  refine y_call (d := 40) (h2 := hA1) (α2 := βA) (h3 := [.inl (1, 1, .inr (.inl f))]) (α3 := αO) C SB MB kL_230 dL_law_1750 hB0 rfl rfl rfl rfl rfl (Nat.le_of_ble_eq_true rfl) hl.1 (by decide) (by omega) hlB RB1 RA1 RO1 dAB1.symm dBO hS1 (fun βB H2 locs2 hE2 RB2 RA2 RO2 dAB2 dBO2 SB2 hS2 => ?_)
  have eβ2 : βB 0 = αB 0 := hE2.2 0 (Or.inl (List.getElem?_eq_some_iff.mp hB0).1)
  refine lv_icmp_eq (tgt := 1758) hx hb dL_law_1753 (by decide) (fun _ => ?_) (fun z => absurd rfl z)
  exact y_next hmc hms RA2 RB2 RO2 dAB2.symm dAO1 dBO2 SA1 SB2 hS2 NA NB hI2 (fun H3 locs3 hY3 hS3 => next H3 locs3 (by rw [eβ, eβ2] at hY3; exact hY3) hS3)
end LAW
