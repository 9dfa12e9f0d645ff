/-! calls -/
def xCb (idx n : Nat) (Y' : xY) : Prop :=
  Cond.code Y'.1 Y'.2.1 Y'.2.2.1 Y'.2.2.2 ∈ xT ∧ Cond.initialized Y'.1.cls ∈ xT ∧ Y'.2.2.1 ≤ 45 ∧ (Y'.1.cls ≠ "java/lang/invoke/MethodHandle" ∧ Y'.1.cls ≠ "java/lang/invoke/VarHandle" ∧ (parseMethodDescriptor Y'.1.desc).map (fun d => d.parameters.length) = some n)
def xCv (own : String) (idx n : Nat) (Y' : xY) : Prop := xCb idx n Y' ∧ Cond.methodLink own idx Y'.1 ∈ xT ∧ Cond.instanceMethod Y'.1 ∈ xT ∧ Cond.selects Y'.1.cls Y'.1 Y'.1 ∈ xT
def xCs (own : String) (idx n : Nat) (Y' : xY) : Prop := xCb idx n Y' ∧ Cond.methodLink own idx Y'.1 ∈ xT ∧ Cond.static Y'.1 ∈ xT
def xCi (own : String) (idx n : Nat) (Y' : xY) : Prop := xCb idx n Y' ∧ Y'.2.2.2 = none ∧ Y'.1.name = "<init>" ∧ Cond.instanceMethod Y'.1 ∈ xT ∧ (Cond.methodLink own idx Y'.1 ∈ xT ∨ ∃ host : String, Cond.methodLinkNest own idx Y'.1 host ∈ xN)
theorem xgood {w : Cond} (h : w ∈ xT) : (w.onTables && w.keeps) = true ∨ ∃ ty, w = .arrayClass ty := good_of_word (List.mem_filter.mp h).2
theorem xgoodIn {Y : xY} {ws : List Cond} (h : ∀ w ∈ ws, w ∈ xT) : GoodIn (xws Y) ws := fun w hw => ⟨List.mem_cons_of_mem _ (h w hw), xgood (h w hw)⟩
theorem xws_in {Y' : xY} (h : Cond.code Y'.1 Y'.2.1 Y'.2.2.1 Y'.2.2.2 ∈ xT) : ∀ w ∈ xws Y', w ∈ xT := fun w hw => (List.mem_cons.mp hw).elim (fun e => by rw [e]; exact h) id
theorem xSt.to {ks : List xSK} {α0 α : Nat → Nat} {A B : Nat → Prop} {s U : State} {H : Heap} {locs : List Loc} (h : xSt ks α0 A s) (hα : ∀ k, 1000 ≤ k → α k = α0 k) (hS : va_S A s.heap H locs) (hU : U.heap = H) (hW : s.WarmedH U.vm) (hAB : ∀ q, B q → A q) : xSt ks α B U := by
  obtain ⟨h0, g1, g2, g3, g4⟩ := h
  refine ⟨fun k q hk => ?_, ?_, ?_, ?_, ?_⟩
  · obtain ⟨h1, h2, h3, h4, h5⟩ := h0 k q hk
    rw [hα (1000 + k) (by omega), hα (2000 + k) (by omega), hU]
    exact ⟨h1.warm hW, ((h2.moved hW.alike).kept hS.2.1).narrow hAB, ((h3.moved hW.alike).kept hS.2.1).narrow hAB, ((h4.moved hW.alike).kept hS.2.1).narrow hAB, ((h5.moved hW.alike).kept hS.2.1).narrow hAB⟩
  · rw [hU]; exact ((g1.moved hW.alike).kept hS.2.1).narrow hAB
  · rw [hU, hα 3000 (by omega)]
    rcases g2 with g2 | g2
    · exact Or.inl (((g2.moved hW.alike).kept hS.2.1).narrow hAB)
    · exact Or.inr (((g2.moved hW.alike).kept hS.2.1).narrow hAB)
  · rw [hU]; exact ((vx_Zq.moved hW.alike g3).kept hS.2.1).narrow hAB
  · rw [hU]; exact ((vx_Zq.moved hW.alike g4).kept hS.2.1).narrow hAB
theorem xNw.to {s U : State} (h : xNw s) (hW : s.WarmedH U.vm) : xNw U := by
  intro w hw
  have h1 := h w hw
  have h2 := (List.mem_filter.mp hw).2
  cases w <;> simp [xisN] at h2
  all_goals first
    | exact va_Nw.warmF hW h1
    | exact va_Nw.warmM hW h1
theorem xblind {ks : List xSK} {D : va_G} {α : Nat → Nat} {sz : Nat} {h : xH} {av : List Value} : FrameBlind (va_Pc av (xPre ks D α sz h)) := by
  intro a U g mk hq
  obtain ⟨e, h1, h2, h3, h4, h5⟩ := hq
  refine ⟨e, h1, h2.moved (t := U.calling g mk a) (Vm.Alike.refl U.vm), va_K.moved (u := U) (U := U.calling g mk a) (Vm.Alike.refl U.vm) h3, ?_, ?_⟩
  · obtain ⟨h0, f1, f2, f3, f4⟩ := h4
    refine ⟨fun k q hk => ?_, f1.moved (U := U.calling g mk a) (Vm.Alike.refl U.vm), ?_, vx_Zq.moved (U := U.calling g mk a) (Vm.Alike.refl U.vm) f3, vx_Zq.moved (U := U.calling g mk a) (Vm.Alike.refl U.vm) f4⟩
    · obtain ⟨g1, g2, g3, g4, g5⟩ := h0 k q hk
      exact ⟨vk_R.same (u := U) rfl g1, g2.moved (U := U.calling g mk a) (Vm.Alike.refl U.vm), g3.moved (U := U.calling g mk a) (Vm.Alike.refl U.vm), g4.moved (U := U.calling g mk a) (Vm.Alike.refl U.vm), g5.moved (U := U.calling g mk a) (Vm.Alike.refl U.vm)⟩
    · rcases f2 with f2 | f2
      · exact Or.inl (f2.moved (U := U.calling g mk a) (Vm.Alike.refl U.vm))
      · exact Or.inr (f2.moved (U := U.calling g mk a) (Vm.Alike.refl U.vm))
  · intro w hw
    have h2 := (List.mem_filter.mp hw).2
    have h1 := h5 w hw
    cases w <;> simp [xisN] at h2
    · exact va_Nw.same rfl rfl h1
    · exact va_Nw.same rfl rfl h1
section XCALL
variable {ks : List xSK} {Y : xY} {d mc ms n0 : Nat} {Z : xEnd} {kc kz pc : Nat} {pl : List (Option Value)} {st : List Value} {h : xH}
theorem xcat_sum (α : Nat → Nat) (l : List Value) : ((l.map (xv α)).map fun v => v.category) = l.map fun v => v.category := by
  rw [List.map_map]
  exact List.map_congr_left fun v _ => xv_cat α v
theorem xA_sub {ks : List xSK} {Y : xY} {p : Program} {l : Launch} {s : State} {m : MethodId} {args : Array Value} {meth : Method} {c : Code} {D : va_G} {A : Nat → Prop} {α0 α : Nat → Nat} {H : Heap} {locs : List Loc} (C : xCx ks Y p l s m args meth c D A α0) (R : xR D s α A h H) (S : va_S A s.heap H locs) : ∀ q, xA α h H.size q → A q := by
  intro q hq
  rcases hq with ⟨i, c, h1, h2, rfl⟩ | hq
  · exact (R.1 i c h1 h2).2
  · exact x_A C q (Nat.le_trans S.1 hq)
theorem xpre_of {ks : List xSK} {Y : xY} {p : Program} {l : Launch} {s : State} {m : MethodId} {args : Array Value} {meth : Method} {c : Code} {D : va_G} {A : Nat → Prop} {α0 α : Nat → Nat} {H : Heap} {locs : List Loc} (C : xCx ks Y p l s m args meth c D A α0) (E : xE α0 α n0 h.length ∧ h.length ≤ 1000) (R : xR D s α A h H) (S : va_S A s.heap H locs) {av : List Value} : ∀ U : State, U.heap = H → s.WarmedH U.vm → va_Pc av (xPre ks D α H.size h) av.toArray U := by
  intro U hU hW
  refine ⟨rfl, by rw [hU], ?_, va_K.moved hW.alike (x_K C), C.2.2.2.2.2.2.2.2.2.2.1.to (fun k hk => E.1.2 k (Or.inr (by omega))) S hU hW (xA_sub C R S), (x_nest C).to hW⟩
  rw [hU]
  exact ⟨fun i c hi hl => ⟨((R.1 i c hi hl).1).moved hW.alike, Or.inl ⟨i, c, hi, hl, rfl⟩⟩, R.2⟩
/-- behind a call -/
theorem x_behind {p : Program} {l : Launch} {e : Env} {s : State} {m : MethodId} {args : Array Value} {below : List Frame} {meth : Method} {c : Code} {D : va_G} {A : Nat → Prop} {α0 α : Nat → Nat} {H : Heap} {locs : List Loc} {cells slots : Nat} {ls : Array Slot} {st0 : List Value} {mc' ms' kc2 kz2 : Nat} {r1 : Option Value} {h1 : xH} {a : Array Value}
    (C : xCx ks Y p l s m args meth c D A α0) (E : xE α0 α n0 h.length ∧ h.length ≤ 1000) (R : xR D s α A h H) (S : va_S A s.heap H locs) (L : lv_has ls Y.2.2.1 (xas α 0 pl)) (B : cells + kc ≤ mc ∧ slots + kz ≤ ms) (hle : h1.length ≤ 1000) (hkc : kc = kc2 + mc') (hkz : kz = kz2 + ms') (hok : h1.length = h.length ∨ (xloL h.length h1.length pl = true ∧ st.all (xlo h.length h1.length) = true))
    (hr : va_Run p l e (xrm d mc ms) s m args below meth c H locs cells slots mc' ms' (F0 m pc ls st0) (st.map (xv α)) (xQ D α (xA α h H.size) h.length r1 h1 a) (xA α h H.size))
    (k : xW ks Y d mc ms n0 Z kc2 kz2 (pc + 3) pl (r1.toList ++ st) h1) : W p l e (xrm d mc ms) s m args below meth c H locs cells slots (Z s args below D A α0) (F0 m pc ls st0) := by
  intro T hT X
  obtain ⟨v, st₀, t, T', L', g0, X', hL', e1, e2, ⟨⟨β, hv, hE, hR⟩, hz, hk⟩, stp⟩ := hr T hT X
  cases hv
  rw [g0] at hz hk
  have hsub := xA_sub C R S
  have hβ : ∀ i : Nat, (i < h.length ∨ h1.length ≤ i) → β i = α i := hE.2
  have epl : xas β 0 pl = xas α 0 pl := by
    refine xas_eq fun w hw => ?_
    rcases hok with e | ⟨o1, -⟩
    · have : β = α := funext fun i => hβ i (by omega)
      rw [this]
    · exact xv_lo hβ (xloL_of o1 hw)
  have est : st.map (xv β) = st.map (xv α) := by
    rcases hok with e | ⟨-, o2⟩
    · have : β = α := funext fun i => hβ i (by omega)
      rw [this]
    · exact xmap_eq fun w hw => xv_lo hβ (List.all_eq_true.mp o2 w hw)
  have hal : t.vm.Alike s.vm := by rw [← e2]; exact X'.warmed.alike.symm
  have hR1 : xR D s β A h1 T'.heap := by rw [e1]; exact (hR.moved hal).mono hsub
  have hS1 : va_S A s.heap T'.heap (locs ++ L') := ⟨Nat.le_trans S.1 (by rw [e1]; exact hz), fun q h1 h2 => by rw [e1, hk q (Nat.lt_of_lt_of_le h1 S.1) (fun z => h2 (hsub q z))]; exact S.2.1 q h1 h2, fun q hq => by
    rcases List.mem_append.mp hq with h | h
    · exact S.2.2 q h
    · exact hsub _ (hL' q h)⟩
  have hk2 := k p l e s m args below meth c D A α0 β T'.heap (locs ++ L') (cells + mc') (slots + ms') ls C ⟨⟨Nat.le_trans E.1.1 hE.1, fun i hi => by
    rw [hβ i (by have := E.1.1; have := hE.1; omega)]
    exact E.1.2 i (by have := hE.1; omega)⟩, hle⟩ hR1 hS1 (by rw [epl]; exact L) (by omega)
  have es : (r1.toList ++ st).map (xv β) = (r1.map (xv β)).toList ++ st.map (xv α) := by
    rw [List.map_append, est]
    cases r1 <;> rfl
  rw [es] at hk2
  obtain ⟨t2, a1, b1⟩ := hk2 T' rfl X'
  exact ⟨t2, stp t2 a1, b1⟩
theorem x_callV {idx n i ci mc' ms' kc2 kz2 : Nat} {Y' : xY} {as st0 : List Value} {fs : List Value} {r1 : Option Value} {h1 : xH} (hM : xMet ks Y' d mc' ms' (.ref i :: as) h r1 h1) (hc : xCv Y.1.cls idx n Y') (hd : decode Y.2.1 pc = .ok (.invokevirtual idx, 3)) (hh : h[i]? = some (.inr (ci, fs))) (hl : xlive (.inr (ci, fs)) = true) (hcl : (vwCl[ci]?).map (fun q => q.1) = some Y'.1.cls) (hst : st0 = as.reverse ++ .ref i :: st) (hn : as.length = n) (hr : (st.map fun v => v.category).sum ≤ 8)
    (hle : h1.length ≤ 1000) (hkc : kc = kc2 + mc') (hkz : kz = kz2 + ms') (hok : h1.length = h.length ∨ (xloL h.length h1.length pl = true ∧ st.all (xlo h.length h1.length) = true)) (k : xW ks Y (d + 1) mc ms n0 Z kc2 kz2 (pc + 3) pl (r1.toList ++ st) h1) : xW ks Y (d + 1) mc ms n0 Z kc kz pc pl st0 h := by
  intro p l e s m args below meth c D A α0 α H locs cells slots ls C E R S L B
  obtain ⟨⟨c1, c2, c3, c4⟩, c5, c6, c7⟩ := hc
  refine x_behind C E R S L B hle hkc hkz hok (a := (Value.ref (α i) :: as.map (xv α)).toArray) ?_ k
  obtain ⟨⟨r0, q0, cell, q1, q2, q3, q4⟩, -⟩ := R.1 i _ hh hl
  have hcls : r0.1 = Y'.1.cls := by rw [q0] at hcl; exact Option.some.inj hcl
  refine va_runV (C := Y'.1.cls) (bytes := Y'.2.1) (maxL := Y'.2.2.1) (ret := Y'.2.2.2) (ws := xws Y') (b := α i) (As := as.map (xv α)) (rest := st.map (xv α)) (n := n) ⟨C.1, C.2.1, C.2.2.2.1, C.2.2.2.2.1, C.2.2.2.2.2.1⟩ (hM l C.2.2.2.2.2.2.2.2.2.2.2.2 D α H.size) (cwV (ws' := xT) n C.2.2.2.2.2.1 (xgoodIn ?_) rfl rfl rfl ⟨rfl, c4⟩ ⟨Nat.le_refl _, ?_⟩) ⟨xblind, ⟨cell, q1, by rw [q3]; rfl, ?_⟩, ?_⟩ rfl (by rw [List.length_map]; exact hn) L.1 ?_ ?_ hd ⟨?_, ?_⟩
  · intro w hw
    simp only [wsV, List.cons_append, List.nil_append, List.mem_cons] at hw
    rcases hw with rfl | rfl | rfl | rfl | hw
    · exact c5
    · exact c6
    · exact c7
    · exact c2
    · exact xws_in c1 w hw
  · show 8 + (Y'.2.2.1 + 11) + 64 * d ≤ 64 * (d + 1)
    omega
  · rw [q2, ← hcls]
    exact ((x_K C).1 ci r0 q0).2.1
  · exact xpre_of C E R S
  · rw [hst]
    show List.map (xv α) _ = _
    rw [List.map_append, List.map_reverse]
    rfl
  · exact lv_room (m := m) (pc := pc) (ls := ls) (rest := []) (by rw [xcat_sum]; exact hr)
  · show cells + mc' ≤ mc
    omega
  · show slots + ms' ≤ ms
    omega
theorem x_callS {idx n mc' ms' kc2 kz2 : Nat} {Y' : xY} {as st0 : List Value} {r1 : Option Value} {h1 : xH} (hM : xMet ks Y' d mc' ms' as h r1 h1) (hc : xCs Y.1.cls idx n Y') (hd : decode Y.2.1 pc = .ok (.invokestatic idx, 3)) (hst : st0 = as.reverse ++ st) (hn : as.length = n) (hr : (st.map fun v => v.category).sum ≤ 8)
    (hle : h1.length ≤ 1000) (hkc : kc = kc2 + mc') (hkz : kz = kz2 + ms') (hok : h1.length = h.length ∨ (xloL h.length h1.length pl = true ∧ st.all (xlo h.length h1.length) = true)) (k : xW ks Y (d + 1) mc ms n0 Z kc2 kz2 (pc + 3) pl (r1.toList ++ st) h1) : xW ks Y (d + 1) mc ms n0 Z kc kz pc pl st0 h := by
  intro p l e s m args below meth c D A α0 α H locs cells slots ls C E R S L B
  obtain ⟨⟨c1, c2, c3, c4⟩, c5, c6⟩ := hc
  refine x_behind C E R S L B hle hkc hkz hok (a := (as.map (xv α)).toArray) ?_ k
  refine va_runS (bytes := Y'.2.1) (maxL := Y'.2.2.1) (ret := Y'.2.2.2) (ws := xws Y') (As := as.map (xv α)) (rest := st.map (xv α)) (n := n) ⟨C.1, C.2.1, C.2.2.2.1, C.2.2.2.2.1, C.2.2.2.2.2.1⟩ (hM l C.2.2.2.2.2.2.2.2.2.2.2.2 D α H.size) (va_cwS (ws' := xT) n C.2.2.2.2.2.1 (xgoodIn ?_) rfl rfl rfl c4 ⟨Nat.le_refl _, ?_⟩) ⟨xblind, ?_⟩ rfl (by rw [List.length_map]; exact hn) L.1 ?_ ?_ hd ⟨?_, ?_⟩
  · intro w hw
    simp only [va_wsS, List.cons_append, List.nil_append, List.mem_cons] at hw
    rcases hw with rfl | rfl | rfl | hw
    · exact c5
    · exact c6
    · exact c2
    · exact xws_in c1 w hw
  · show 8 + (Y'.2.2.1 + 11) + 64 * d ≤ 64 * (d + 1)
    omega
  · exact xpre_of C E R S
  · rw [hst]
    show List.map (xv α) _ = _
    rw [List.map_append, List.map_reverse]
  · exact lv_room (m := m) (pc := pc) (ls := ls) (rest := []) (by rw [xcat_sum]; exact hr)
  · show cells + mc' ≤ mc
    omega
  · show slots + ms' ≤ ms
    omega
theorem x_callI {idx n i mc' ms' kc2 kz2 : Nat} {Y' : xY} {as st0 : List Value} {r1 : Option Value} {h1 : xH} (hM : xMet ks Y' d mc' ms' (.ref i :: as) h r1 h1) (hc : xCi Y.1.cls idx n Y') (hd : decode Y.2.1 pc = .ok (.invokespecial idx, 3)) (hst : st0 = as.reverse ++ .ref i :: st) (hn : as.length = n) (hr : (st.map fun v => v.category).sum ≤ 8)
    (hle : h1.length ≤ 1000) (hkc : kc = kc2 + mc') (hkz : kz = kz2 + ms') (hok : h1.length = h.length ∨ (xloL h.length h1.length pl = true ∧ st.all (xlo h.length h1.length) = true)) (k : xW ks Y (d + 1) mc ms n0 Z kc2 kz2 (pc + 3) pl (r1.toList ++ st) h1) : xW ks Y (d + 1) mc ms n0 Z kc kz pc pl st0 h := by
  intro p l e s m args below meth c D A α0 α H locs cells slots ls C E R S L B
  obtain ⟨⟨c1, c2, c3, c4⟩, c8, c9, c6, c5⟩ := hc
  refine x_behind C E R S L B hle hkc hkz hok (a := (Value.ref (α i) :: as.map (xv α)).toArray) ?_ k
  have hst' : (F0 m pc ls (st0.map (xv α))).stack = (as.map (xv α)).reverse ++ .ref (α i) :: st.map (xv α) := by
    rw [hst]
    show List.map (xv α) _ = _
    rw [List.map_append, List.map_reverse]
    rfl
  have hR : (xrm d mc' ms').frames + 1 ≤ (xrm (d + 1) mc ms).frames ∧ 8 + (Y'.2.2.1 + 11) + (xrm d mc' ms').locals ≤ (xrm (d + 1) mc ms).locals := ⟨Nat.le_refl _, by show 8 + (Y'.2.2.1 + 11) + 64 * d ≤ 64 * (d + 1); omega⟩
  have hws : xws Y' = Cond.code Y'.1 Y'.2.1 Y'.2.2.1 none :: xT := by rw [← c8]; rfl
  rcases c5 with c5 | ⟨host, c5⟩
  · exact va_runI (bytes := Y'.2.1) (maxL := Y'.2.2.1) (ws := xws Y') (b := α i) (As := as.map (xv α)) (rest := st.map (xv α)) (n := n) ⟨C.1, C.2.1, C.2.2.2.1, C.2.2.2.2.1, C.2.2.2.2.2.1⟩ (hM l C.2.2.2.2.2.2.2.2.2.2.2.2 D α H.size) (cwI (ws' := xT) n C.2.2.2.2.2.1 (xgoodIn (xws_in c1)) hws rfl rfl (x_in _ c2 C) (x_in _ c5 C) (x_in _ c6 C) c9 c4 hR) ⟨xblind, xpre_of C E R S⟩ rfl (by rw [List.length_map]; exact hn) L.1 hst' (lv_room (m := m) (pc := pc) (ls := ls) (rest := []) (by rw [xcat_sum]; exact hr)) hd ⟨by show cells + mc' ≤ mc; omega, by show slots + ms' ≤ ms; omega⟩
  · exact va_runIN (bytes := Y'.2.1) (maxL := Y'.2.2.1) (ws := xws Y') (b := α i) (As := as.map (xv α)) (rest := st.map (xv α)) (n := n) ⟨C.1, C.2.1, C.2.2.2.1, C.2.2.2.2.1, C.2.2.2.2.2.1⟩ (hM l C.2.2.2.2.2.2.2.2.2.2.2.2 D α H.size) ⟨va_cnB (ws' := xT) n C.2.2.2.2.2.1 (xgoodIn (xws_in c1)) hws rfl rfl (x_nest C _ c5) (x_in _ c2 C) c4 hR, c9, x_in _ c6 C⟩ ⟨xblind, xpre_of C E R S⟩ rfl (by rw [List.length_map]; exact hn) L.1 hst' (lv_room (m := m) (pc := pc) (ls := ls) (rest := []) (by rw [xcat_sum]; exact hr)) hd ⟨by show cells + mc' ≤ mc; omega, by show slots + ms' ≤ ms; omega⟩
theorem x_max {idx : Nat} {a b : Int32} (hd : decode Y.2.1 pc = .ok (.invokestatic idx, 3)) (h1 : Cond.methodLink Y.1.cls idx Lib.Math.max.name ∈ xT) (h2 : Cond.static Lib.Math.max.name ∈ xT) (h3 : Cond.initialized "java/lang/Math" ∈ xT) (h4 : Cond.code Lib.Math.max.name Lib.Math.max.code 2 (some .int) ∈ xT) (hdp : 1 ≤ d) (hr : (st.map fun v => v.category).sum ≤ 8) (k : xW ks Y d mc ms n0 Z kc kz (pc + 3) pl (.int (if a < b then b else a) :: st) h) : xW ks Y d mc ms n0 Z kc kz pc pl (.int b :: .int a :: st) h := by
  intro p l e s m args below meth c D A α0 α H locs cells slots ls C E R S L B
  exact va_mmax C.1 C.2.1 (C.2.2.2.1.trans L.1.symm) C.2.2.2.2.1 (x_in _ h1 C) (x_in _ h2 C) (x_in _ h3 C) (x_in _ h4 C) hdp (by rw [xcat_sum]; show _ ≤ 64 * d; omega) (by show cells ≤ mc; omega) (by show slots ≤ ms; omega) hd (k p l e s m args below meth c D A α0 α H locs cells slots ls C E R S L B)
theorem x_min {idx : Nat} {a b : Int32} (hd : decode Y.2.1 pc = .ok (.invokestatic idx, 3)) (h1 : Cond.methodLink Y.1.cls idx Lib.Math.min.name ∈ xT) (h2 : Cond.static Lib.Math.min.name ∈ xT) (h3 : Cond.initialized "java/lang/Math" ∈ xT) (h4 : Cond.code Lib.Math.min.name Lib.Math.min.code 2 (some .int) ∈ xT) (hdp : 1 ≤ d) (hr : (st.map fun v => v.category).sum ≤ 8) (k : xW ks Y d mc ms n0 Z kc kz (pc + 3) pl (.int (if b < a then b else a) :: st) h) : xW ks Y d mc ms n0 Z kc kz pc pl (.int b :: .int a :: st) h := by
  intro p l e s m args below meth c D A α0 α H locs cells slots ls C E R S L B
  exact va_mmin C.1 C.2.1 (C.2.2.2.1.trans L.1.symm) C.2.2.2.2.1 (x_in _ h1 C) (x_in _ h2 C) (x_in _ h3 C) (x_in _ h4 C) hdp (by rw [xcat_sum]; show _ ≤ 64 * d; omega) (by show cells ≤ mc; omega) (by show slots ≤ ms; omega) hd (k p l e s m args below meth c D A α0 α H locs cells slots ls C E R S L B)
end XCALL
