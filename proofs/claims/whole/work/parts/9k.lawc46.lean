/-! the law's case 46: led -/
theorem led_words : ∀ w ∈ va_wsS RL 214 yL_led wsLl, w ∈ xT := by
  have h3 : ∀ w ∈ ([.methodLink RL 214 yL_led, .static yL_led, .initialized yL_led.cls, Cond.codeWith yL_led cL_led 4 (some .int) [(0, 9, 12, 13)]] : List Cond), w ∈ xT := by decide +kernel
  intro w hw
  simp only [va_wsS, wsLl, List.cons_append, List.nil_append, List.mem_cons] at hw
  rcases hw with rfl | rfl | rfl | rfl | hw
  · exact h3 _ (by simp)
  · exact h3 _ (by simp)
  · exact h3 _ (by simp)
  · exact h3 _ (by simp)
  · exact hw
theorem nseB_in : ∀ w ∈ nseB, w ∈ lw_tbl := by decide +kernel
theorem nseN_of {args : Array Value} {s : State} (h : ∀ w ∈ lw_tbl, w.before args s = true) : nseN s :=
  ⟨va_Nw.of rfl (h _ (nseB_in _ (by simp [nseB]))), va_Nw.of rfl (h _ (nseB_in _ (by simp [nseB]))), va_Nw.of rfl (h _ (nseB_in _ (by simp [nseB]))), va_Nw.of rfl (h _ (nseB_in _ (by simp [nseB])))⟩
section L46
variable {p : Program} {l : Launch} {e : Env} {s : State} {m : MethodId} {args : Array Value} {below : List Frame} {meth : Method} {c : Code} {D : va_G} {A : Nat → Prop} {H : Heap} {locs : List Loc} {cells slots : Nat} {Q : State → Prop} {ls : Array Slot} {Inv : xH → xH → Prop} {x y o b L : Nat} {xs : Nat → Int32} {xi : Int32}
theorem y_callL {pc : Nat} {α αO αB : Nat → Nat} {h hB : xH} {f f' : Nat → Int64} {v k : Int32}
    (C : yCx p l s m args meth c D A) (hSt : xSt xks α A s) (hR : xR D s α A h H) (hRO : xR D s αO A [.inl (1, 1, .inr (.inl f))] H) (hRB : xR D s αB A hB H) (dAO : ydis α h αO [.inl (1, 1, .inr (.inl f))]) (dAB : ydis α h αB hB) (dBO : ydis αB hB αO [.inl (1, 1, .inr (.inl f))]) (hS : va_S A s.heap H locs)
    (hM : Met l yL_led wsLl (xrm 40 1 6) (va_Pc [.ref (α 0), .int v, .ref (αO 0)] (fun U => (xPre xks D α H.size h U ∧ outAt (αO 0) f U U.heap) ∧ nseN U)) (fun _ st oc t => oc = .returned (some (.int k)) ∧ va_F (lA α h H.size (αO 0)) st t ∧ xR D t α (lA α h H.size (αO 0)) h t.heap ∧ outAt (αO 0) f' t t.heap) 1 6 (lA α h H.size (αO 0)))
    (hd : decode code pc = .ok (.invokestatic 214, 3)) (hsz : ls.size = 7) (hf : cells + 1 ≤ 601024 ∧ slots + 6 ≤ 7293034)
    (kk : ∀ (H1 : Heap) (locs1 : List Loc), xR D s α A h H1 → xR D s αO A [.inl (1, 1, .inr (.inl f'))] H1 → xR D s αB A hB H1 → va_S A s.heap H1 locs1 → W p l e room_1 s m args below meth c H1 locs1 (cells + 1) (slots + 6) Q (F0 m (pc + 3) ls [.int k])) :
    W p l e room_1 s m args below meth c H locs cells slots Q (F0 m pc ls [.ref (αO 0), .int v, .ref (α 0)]) := by
  obtain ⟨hx, hb, hml, hown, hts, hlt, hK, hAll, hN⟩ := C
  obtain ⟨⟨cA, o1, o2⟩, hAo⟩ := hRO.1 0 _ rfl rfl
  have hsub : ∀ q, xA α h H.size q → A q := by
    intro q hq
    rcases hq with ⟨i, c, h1, h2, rfl⟩ | hq
    · exact (hR.1 i c h1 h2).2
    · exact hAll q (Nat.le_trans hS.1 hq)
  have hsub2 : ∀ q, lA α h H.size (αO 0) q → A q := fun q z => z.elim (hsub q) (fun e => e ▸ hAo)
  have hpre : ∀ U : State, U.heap = H → s.WarmedH U.vm → va_Pc [.ref (α 0), .int v, .ref (αO 0)] (fun U => (xPre xks D α H.size h U ∧ outAt (αO 0) f U U.heap) ∧ nseN U) ([.ref (α 0), .int v, .ref (αO 0)] : List Value).toArray U := by
    intro U hU hW
    refine ⟨rfl, ⟨⟨by rw [hU], ?_, va_K.moved hW.alike hK, hSt.to (fun k hk => rfl) hS hU hW hsub, hN.to hW⟩, ?_⟩, (nseN_of hts).to hW⟩
    · rw [hU]
      exact ⟨fun i c hi hl => ⟨((hR.1 i c hi hl).1).moved hW.alike, Or.inl ⟨i, c, hi, hl, rfl⟩⟩, hR.2⟩
    · rw [hU]
      exact outAt.moved hW.alike ⟨cA, o1, o2⟩
  have hrun := vx_runSW (p := p) (l := l) (e := e) (R := room_1) (s := s) (m := m) (args := args) (below := below) (meth := meth) (c := c) (H := H) (locs := locs) (cells := cells) (slots := slots) (cc := code) (nL := 7) (Ts := lw_tbl) (own := RL) (index := 214) (g := F0 m pc ls [.ref (αO 0), .int v, .ref (α 0)]) (bytes := cL_led) (maxL := 4) (ret := some .int) (hh := [(0, 9, 12, 13)]) (ws := wsLl) (As := [.ref (α 0), .int v, .ref (αO 0)]) (rest := []) (n := 3) ⟨hx, hb, hml, hown, hts⟩ hM
    (vx_cwSW (ws' := xT) 3 hts (fun w hw => ⟨xT_in (led_words w hw), xgood (led_words w hw)⟩) rfl rfl rfl (by decide +kernel) ⟨by decide, by decide⟩)
    ⟨l_blind (fun U g mk a z => z.same rfl), hpre⟩ rfl rfl hsz rfl (Nat.le_of_ble_eq_true rfl) hd hf
  intro T hT X
  obtain ⟨v', st₀, t, T', L', g0, X', hL', e1, e2, ⟨hv, hF, hR1, hO1⟩, stp⟩ := hrun T hT X
  cases hv
  replace hF : H.size ≤ t.heap.size ∧ ∀ q : Nat, q < H.size → ¬ lA α h H.size (αO 0) q → t.heap[q]? = H[q]? := by rw [← g0]; rw [← g0] at hF; exact hF
  have hal : t.vm.Alike s.vm := by rw [← e2]; exact X'.warmed.alike.symm
  have hS1 : va_S A s.heap t.heap (locs ++ L') := ⟨Nat.le_trans hS.1 hF.1, fun q h1 h2 => by rw [hF.2 q (Nat.lt_of_lt_of_le h1 hS.1) (fun z => h2 (hsub2 q z))]; exact hS.2.1 q h1 h2, fun q hq => by
    rcases List.mem_append.mp hq with h | h
    · exact hS.2.2 q h
    · exact hsub2 _ (hL' q h)⟩
  have hB1 : xR D s αB A hB t.heap := by
    refine ⟨fun i c' hi hl => ?_, hRB.2⟩
    obtain ⟨h1, h2⟩ := hRB.1 i c' hi hl
    refine ⟨h1.kept (hF.2 _ h1.lt fun z => ?_), h2⟩
    rcases z with (⟨j, c2, hj, hl', e'⟩ | z) | z
    · exact dAB j i c2 c' hj hi hl' hl e'.symm
    · exact Nat.lt_irrefl _ (Nat.lt_of_lt_of_le h1.lt z)
    · exact dBO i 0 c' _ hi rfl hl rfl z
  have hO2 : xR D s αO A [.inl (1, 1, .inr (.inl f'))] t.heap := by
    refine ⟨fun i c' hi hl => ?_, fun i j c' c2 hi hj _ _ _ => ?_⟩
    · cases i with
      | zero => cases hi; exact ⟨hO1.moved hal, hAo⟩
      | succ i => cases hi
    · cases i with
      | succ i => cases hi
      | zero => cases j with
        | succ j => cases hj
        | zero => rfl
  obtain ⟨t2, a1, b1⟩ := kk t.heap (locs ++ L') ((hR1.moved hal).mono hsub2) hO2 hB1 hS1 T' e1 X'
  exact ⟨t2, stp t2 a1, b1⟩
set_option maxHeartbeats 4000000 in
set_option maxRecDepth 100000 in
theorem lawc_led (C : yCx p l s m args meth c D A) (hT : yTop Inv) (hs : yS_led Inv) (hX : va_X b L xs s s.heap) (hbl : b < s.heap.size) (hbA : ¬ A b) (hin : ∀ j : Int32, 0 ≤ j.toInt → j.toInt < 6 → vp_in (xi + j) L) (hY : yI Inv D s A x y o H) (hS : va_S A s.heap H locs) (hl : lv_has ls 7 [(0, .ref b), (1, .ref x), (2, .ref y), (3, .ref o), (4, .int xi)]) (hrm : cells + 16 ≤ 601024 ∧ slots + 164 ≤ 7293034)
    (next : ∀ (ls1 : Array Slot) (H1 : Heap) (locs1 : List Loc), lv_has ls1 7 [(0, .ref b), (1, .ref x), (2, .ref y), (3, .ref o), (4, .int xi)] → yI Inv D s A x y o H1 → va_S A s.heap H1 locs1 → W p l e room_1 s m args below meth c H1 locs1 (cells + 16) (slots + 164) Q (F0 m 1758 ls1 [])) : W p l e room_1 s m args below meth c H locs cells slots Q (F0 m 1664 ls []) := by
  have hx := C.1
  have hb := C.2.1
  have hlt := C.2.2.2.2.2.1
  obtain ⟨αA, αB, αO, hA, hB, f, hI, eA, eB, eO, RA, RB, RO, dAB, dAO, dBO, SA, SB⟩ := hY
  subst eA
  subst eB
  subst eO
  obtain ⟨⟨fsA, hA0⟩, ⟨fsB, hB0⟩⟩ := hT hA hB hI
  obtain ⟨k, w, hB1, hk, MB, hlB, MT, hI2⟩ := hs (xs (xi + 1).toNatClampNeg) hA hB hI
  obtain ⟨-, ⟨fsB1, hB10⟩⟩ := hT hA hB1 hI2
  have hdis : ∀ (i : Nat) (c : xC), hA[i]? = some c → xlive c = true → αA i ≠ αO 0 := fun i c h1 h2 => dAO i 0 c _ h1 rfl h2 rfl
  have hos : αO 0 < H.size := (RO.1 0 _ rfl rfl).1.lt
  refine lv_aload_n hx hb dL_law_1664 rfl (lv_at hl 1 rfl) ?_
  refine lv_aload_n hx hb dL_law_1665 rfl (lv_at hl 0 rfl) ?_
  refine lv_iload hx hb dL_law_1666 (lv_at hl 4 rfl) ?_
  refine lv_iconst (v := 1) hx hb dL_law_1668 (by decide) ?_
  refine lv_iadd hx hb dL_law_1669 ?_
  refine va_sld hx hb hX hbl hbA hS (hin 1 (by decide) (by decide)) dL_law_1670 ?_
  refine lv_aload_n hx hb dL_law_1671 rfl (lv_at hl 3 rfl) ?_
  have call : ∃ f' : Nat → Int64, (k = 0 → f' 0 = w.toInt64) ∧ Met l yL_led wsLl (xrm 40 1 6) (va_Pc [.ref (αA 0), .int (xs (xi + 1).toNatClampNeg), .ref (αO 0)] (fun U => (xPre xks D αA H.size hA U ∧ outAt (αO 0) f U U.heap) ∧ nseN U)) (fun _ st oc t => oc = .returned (some (.int k)) ∧ va_F (lA αA hA H.size (αO 0)) st t ∧ xR D t αA (lA αA hA H.size (αO 0)) hA t.heap ∧ outAt (αO 0) f' t t.heap) 1 6 (lA αA hA H.size (αO 0)) := by
    rcases hk with ⟨rfl, hM⟩ | ⟨rfl, hM⟩
    · exact ⟨vp_updL f 0 w.toInt64, fun _ => by simp [vp_updL], l_led_ret hM hA0 hlt hdis hos⟩
    · exact ⟨f, fun z => absurd z (by decide), l_led_thr (hM l hlt D αA H.size) hA0 hlt hdis hos⟩
  obtain ⟨f', hf0, hMet⟩ := call
  refine y_callL (αB := αB) (hB := hB) (f' := f') (k := k) C SA RA RO RB dAO dAB dBO hS hMet dL_law_1672 hl.1 (by omega) (fun H1 locs1 RA1 RO1 RB1 hS1 => ?_)
  have dAO' : ydis αA hA αO [.inl (1, 1, .inr (.inl f'))] := fun i j c c' h1 h2 l1 l2 => by
    cases j with
    | zero => exact dAO i 0 c _ h1 rfl l1 rfl
    | succ j => cases h2
  have dBO' : ydis αB hB αO [.inl (1, 1, .inr (.inl f'))] := fun i j c c' h1 h2 l1 l2 => by
    cases j with
    | zero => exact dBO i 0 c _ h1 rfl l1 rfl
    | succ j => cases h2
  refine lv_istore (lv' := [(5, .int k), (0, .ref b), (1, .ref (αA 0)), (2, .ref (αB 0)), (3, .ref (αO 0)), (4, .int xi)]) hx hb dL_law_1675 hl (by decide) rfl fun ls1 hl1 => ?_
  refine lv_aload_n hx hb dL_law_1677 rfl (lv_at hl1 3 rfl) ?_
  refine lv_aload_n hx hb dL_law_1678 rfl (lv_at hl1 1 rfl) ?_
  refine lv_iload hx hb dL_law_1679 (lv_at hl1 5 rfl) ?_
  refine lv_iconst (v := 1) hx hb dL_law_1681 (by decide) ?_
  refine lv_iadd hx hb dL_law_1682 ?_
  refine va_sld hx hb hX hbl hbA hS1 (hin 1 (by decide) (by decide)) dL_law_1683 ?_
  refine y_call (d := 40) (h2 := hA) (α2 := αA) (h3 := [.inl (1, 1, .inr (.inl f'))]) (α3 := αO) C SB MB kL_219 dL_law_1684 hB0 rfl rfl rfl rfl rfl (Nat.le_of_ble_eq_true rfl) hl1.1 (by decide) (by omega) hlB RB1 RA1 RO1 dAB.symm dBO' hS1 (fun βB H2 locs2 hE2 RB2 RA2 RO2 dBA2 dBO2 SB2 hS2 => ?_)
  have eβ2 : βB 0 = αB 0 := hE2.2 0 (Or.inl (List.getElem?_eq_some_iff.mp hB0).1)
  refine lv_istore (lv' := [(6, .int w), (5, .int k), (0, .ref b), (1, .ref (αA 0)), (2, .ref (αB 0)), (3, .ref (αO 0)), (4, .int xi)]) hx hb dL_law_1687 hl1 (by decide) rfl fun ls2 hl2 => ?_
  refine lv_aload_n hx hb dL_law_1689 rfl (lv_at hl2 4 rfl) ?_
  rw [← eβ2]
  refine y_call (d := 40) (h2 := hA) (α2 := αA) (h3 := [.inl (1, 1, .inr (.inl f'))]) (α3 := αO) C SB2 MT kL_220 dL_law_1690 hB10 rfl rfl rfl rfl rfl (Nat.le_of_ble_eq_true rfl) hl2.1 (by decide) (by omega) hlB RB2 RA2 RO2 dBA2 dBO2 hS2 (fun βC H3 locs3 hE3 RB3 RA3 RO3 dBA3 dBO3 SB3 hS3 => ?_)
  have eβ3 : βC 0 = βB 0 := hE3.2 0 (Or.inl (List.getElem?_eq_some_iff.mp hB10).1)
  refine lv_iload hx hb dL_law_1693 (lv_at hl2 1 rfl) ?_
  refine lv_icmp_eq (tgt := 1700) hx hb dL_law_1695 (by decide) (fun _ => ?_) (fun z => absurd rfl z)
  refine lv_iload hx hb dL_law_1700 (lv_at hl2 1 rfl) ?_
  have fin : W p l e room_1 s m args below meth c H3 locs3 (cells + 1 + 0 + 0) (slots + 6 + 0 + 0) Q (F0 m 1717 ls2 []) := by
    refine lv_goto (tgt := 1758) hx hb dL_law_1717 (by decide) ?_
    refine W.widen (k := cells + 16) (n := slots + 164) (by omega) (by omega) ?_
    have hl3 : lv_has ls2 7 [(0, .ref b), (1, .ref (αA 0)), (2, .ref (αB 0)), (3, .ref (αO 0)), (4, .int xi)] := ⟨hl2.1, hl2.2.1, fun q hq => hl2.2.2 q (List.mem_cons_of_mem _ (List.mem_cons_of_mem _ hq))⟩
    exact next ls2 H3 locs3 hl3 ⟨αA, βC, αO, hA, hB1, f', hI2, rfl, eβ3.trans eβ2, rfl, RA3, RB3, RO3, dBA3.symm, dAO', dBO3, SA, SB3⟩ hS3
  refine lv_if_ne (tgt := 1717) hx hb dL_law_1702 (by decide) (fun _ => fin) (fun z => ?_)
  have hk0 : k = 0 := z
  refine lv_aload_n hx hb dL_law_1705 rfl (lv_at hl2 5 rfl) ?_
  refine lv_iconst (v := 0) hx hb dL_law_1706 (by decide) ?_
  obtain ⟨⟨cA, o1, o2⟩, -⟩ := RO3.1 0 _ rfl rfl
  refine W.lald (v := .long (f' 0)) hx hb o1 (o2 1 (fun j => .long (f' j))) (fun q => by cases q) (by show ¬ ((0 : Int32) < 0 ∨ (arrV _ _ _).slots.size ≤ _); rw [arrV_size]; exact (show ¬ ((0 : Int32) < 0 ∨ 1 ≤ (0 : Int32).toNatClampNeg) from by decide)) rfl rfl rfl dL_law_1707 ?_
  refine lv_iload hx hb dL_law_1708 (lv_at hl2 0 rfl) ?_
  refine lv_i2l hx hb dL_law_1710 rfl ?_
  refine W.lcmp hx hb dL_law_1711 ?_
  rw [hf0 hk0, y_cmp]
  refine lv_if_eq (pc := 1712) (tgt := 1717) hx hb dL_law_1712 (by decide) (fun _ => fin) (fun z => absurd rfl z)
end L46
