/-! the law's own led: it calls the class's, and catches -/
theorem y_ofWH {l : Launch} {y : MethodName} {ws ws' : List Cond} {rm : Room} {Pc : Array Value → State → Prop} {Qc : Array Value → State → Outcome → State → Prop} {mc ms : Nat} {free : Addr → Prop} {cc : ByteArray} {maxL : Nat} {ret : Option FieldType} {hh : List (Nat × Nat × Nat × Nat)}
    (hy : plainName y.cls = true) (hw : ws = Cond.codeWith y cc maxL ret hh :: ws')
    (body : ∀ p e s m args below meth c s₁, BodyLoose p l y (headSpec ws rm) cc maxL ret e s m args below meth c s₁ → c.maxLocals = maxL → c.exceptionTable.toList = tableOf hh → Pc args s →
      W p l e (headSpec ws rm).room s m args below meth c s.heap [] 0 0 (MQ below Qc args s mc ms free) (entryFrame m args maxL)) : Met l y ws rm Pc Qc mc ms free := by
  refine MetFree.of_bodyS (code := cc) (maxLocals := maxL) (ret := ret) hy ?_ ?_
  · intro args s m h hn
    obtain ⟨m9, meth, c, hn9, h1, h2, h3, h4, -, h5, h6, -⟩ := Cond.codeWith_spec (atoms_spec (ws := ws) h _ (by rw [hw]; exact List.mem_cons_self))
    cases hn.symm.trans hn9
    exact ⟨meth, c, h1, h2, h3, h4, h5, h6⟩
  · intro p e s m args below meth c s₁ B hml hP _
    have hh0 : s₁.heap = s.heap := by rw [B.state]; rfl
    have ht := vx_table (x := y) B (atoms_spec (ws := ws) B.pre _ (by rw [hw]; exact List.mem_cons_self))
    obtain ⟨t, a1, o, b1, b2, b3⟩ := body p e s m args below meth c s₁ B hml ht hP s₁ hh0 (Stand.of_body B)
    exact ⟨t, o, a1, b1, b2, ⟨b3.1, b3.2⟩⟩
def wsLl : List Cond := Cond.codeWith yL_led cL_led 4 (some .int) [(0, 9, 12, 13)] :: xT
/-- the row that the answer is put into -/
def outAt (o : Nat) (f : Nat → Int64) (U : State) (H : Heap) : Prop := ∃ cA : ClassId, H[o]? = some (vp_cell cA (1, .inr (.inl f))) ∧ ArrOfT U cA .long
theorem outAt.moved {o : Nat} {f : Nat → Int64} {s U : State} {H : Heap} (hv : s.vm.Alike U.vm) (h : outAt o f s H) : outAt o f U H := by
  have hx : xat ((fun _ => 0), fun _ _ => 0) s id o (.inl (1, 1, .inr (.inl f))) H := h
  exact xat.moved hv hx
def lA (α : Nat → Nat) (h : xH) (sz o : Nat) : Nat → Prop := fun q => xA α h sz q ∨ q = o
section LLED
variable {h : xH} {fs : List Value} {x1 u : Int32} {l : Launch} {D : va_G} {α : Nat → Nat} {sz o : Nat} {f : Nat → Int64}
theorem l_blind {N : State → Prop} (hN : ∀ (U : State) (g : JFrame) (mk : MethodId) (a : Array Value), N U → N (U.calling g mk a)) {av : List Value} : FrameBlind (va_Pc av (fun U => (xPre xks D α sz h U ∧ outAt o f U U.heap) ∧ N U)) := by
  intro a U g mk hq
  obtain ⟨e, ⟨h1, h2⟩, h3⟩ := hq
  exact ⟨e, ⟨(xblind a U g mk ⟨e, h1⟩).2, h2.moved (Vm.Alike.refl U.vm)⟩, hN U g mk a h3⟩
theorem l_led_ret (hM : xMet xks YX7_led 38 0 0 [.ref 0, .int x1] h (some (.int u)) h) (h0 : h[0]? = some (.inr (7, fs))) (hlt : l.stackTraces = false) (hdis : ∀ (i : Nat) (c : xC), h[i]? = some c → xlive c = true → α i ≠ o) (hos : o < sz) :
    Met l yL_led wsLl (xrm 40 1 6) (va_Pc [.ref (α 0), .int x1, .ref o] (fun U => (xPre xks D α sz h U ∧ outAt o f U U.heap) ∧ nseN U))
      (fun _ st oc t => oc = .returned (some (.int 0)) ∧ va_F (lA α h sz o) st t ∧ xR D t α (lA α h sz o) h t.heap ∧ outAt o (vp_updL f 0 u.toInt64) t t.heap) 1 6 (lA α h sz o) := by
  refine y_ofWH (cc := cL_led) (maxL := 4) (ret := some .int) (hh := [(0, 9, 12, 13)]) (ws' := xT) (by decide) rfl ?_
  intro p e s m args below meth c s₁ B hml ht hv
  obtain ⟨rfl, ⟨⟨hsz, hR, hK, hSt, hN⟩, hO⟩, -⟩ := hv
  subst hsz
  have hx := B.exec
  have hb := B.bytes
  have hown : s.vm.findClass RL = some m.cls := findClass_of_methodNamed B.named
  have hws : ∀ w ∈ wsLl, w.before _ s = true := atoms_spec (ws := wsLl) B.pre
  have hts : ∀ w ∈ xT, w.before _ s = true := fun w hw => hws w (List.mem_cons_of_mem _ hw)
  have hlv := lv_entry [.ref (α 0), .int x1, .ref o] (n := 4) (Nat.le_of_ble_eq_true rfl)
  rw [lg_entry_eq]
  generalize (lg_sl [.ref (α 0), .int x1, .ref o] ++ List.replicate (4 - (lg_sl [.ref (α 0), .int x1, .ref o]).length) Slot.unset).toArray = ls at hlv ⊢
  have hl : lv_has ls 4 [(0, .ref (α 0)), (1, .int x1), (2, .ref o)] := hlv
  refine lv_aload_n hx hb dL_led_0 rfl (lv_at hl 2 rfl) ?_
  refine lv_iconst (v := 0) hx hb dL_led_1 (by decide) ?_
  refine lv_aload_n hx hb dL_led_2 rfl (lv_at hl 0 rfl) ?_
  refine lv_iload_n hx hb dL_led_3 rfl (lv_at hl 1 rfl) ?_
  obtain ⟨⟨r0, q0, cell, q1, q2, q3, q4⟩, -⟩ := hR.1 0 _ h0 rfl
  have hcls : r0.1 = RX7 := by
    have : (vwCl[7]?).map (fun q => q.1) = some RX7 := rfl
    rw [q0] at this
    exact Option.some.inj this
  have hgood : ∀ ws : List Cond, (∀ w ∈ ws, w ∈ xT) → GoodIn xT ws := fun ws h w hw => ⟨h w hw, xgood (h w hw)⟩
  obtain ⟨⟨c1, c2, c3, c4⟩, c5, c6, c7⟩ := kL_7
  have hpre : ∀ U : State, U.heap = s.heap → s.WarmedH U.vm → va_Pc (.ref (α 0) :: [.int x1]) (xPre xks D α s.heap.size h) (Value.ref (α 0) :: [.int x1]).toArray U := by
    intro U hU hW
    refine ⟨rfl, by rw [hU], ?_, va_K.moved hW.alike hK, hSt.to (fun k hk => rfl) va_S.rf hU hW (fun q h => h), hN.to hW⟩
    rw [hU]
    exact hR.moved hW.alike
  have hM2 : Met l YX7_led.1 (xws YX7_led) (xrm 38 0 0) (va_Pc (.ref (α 0) :: [.int x1]) (xPre xks D α s.heap.size h)) (xQ D α (xA α h s.heap.size) h.length (some (.int u)) h) 0 0 (xA α h s.heap.size) := hM l hlt D α s.heap.size
  have hrun := va_runV (p := p) (l := l) (e := e) (R := xrm 40 1 6) (s := s) (m := m) (below := below) (meth := meth) (c := c) (H := s.heap) (locs := []) (cells := 0) (slots := 0) (cc := cL_led) (nL := 4) (Ts := xT) (own := RL) (index := 7) (g := F0 m 4 ls [.int x1, .ref (α 0), .int 0, .ref o]) (C := RX7) (bytes := cX7_led) (maxL := 4) (ret := some .int) (ws := xws YX7_led) (b := α 0) (As := [.int x1]) (rest := [.int 0, .ref o]) (n := 1) ⟨hx, hb, hml, hown, hts⟩ hM2
    (cwV (ws' := xT) 1 hts (hgood _ (fun w hw => by
      simp only [wsV, List.cons_append, List.nil_append, List.mem_cons] at hw
      rcases hw with rfl | rfl | rfl | rfl | hw
      · exact c5
      · exact c6
      · exact c7
      · exact c2
      · exact xws_in c1 w hw)) rfl rfl rfl ⟨rfl, c4⟩ ⟨by decide, by decide⟩)
    ⟨xblind, ⟨cell, q1, by rw [q3]; rfl, by rw [q2, ← hcls]; exact (hK.1 7 r0 q0).2.1⟩, hpre⟩ rfl rfl hl.1 rfl (Nat.le_of_ble_eq_true rfl) dL_led_4 ⟨by decide, by decide⟩
  intro T hT X
  obtain ⟨v, st₀, t, T', L', g0, X', hL', e1, e2, ⟨⟨β, hv, hE, hR1⟩, hF⟩, stp⟩ := hrun T hT X
  cases hv
  have ea : β = α := funext fun i => hE.2 i (by omega)
  subst ea
  replace hF : s.heap.size ≤ t.heap.size ∧ ∀ q : Nat, q < s.heap.size → ¬ xA β h s.heap.size q → t.heap[q]? = s.heap[q]? := by rw [← g0]; rw [← g0] at hF; exact hF
  have hal : s.vm.Alike t.vm := by rw [← e2]; exact X'.warmed.alike
  have hOt : outAt o f s t.heap := by
    obtain ⟨cA, o1, o2⟩ := hO
    refine ⟨cA, ?_, o2⟩
    rw [hF.2 o hos (fun z => ?_)]
    · exact o1
    · rcases z with ⟨i, c', z1, z2, z3⟩ | z
      · exact hdis i c' z1 z2 z3.symm
      · omega
  have hRs : xR D s β (lA β h s.heap.size o) h t.heap := (hR1.moved hal.symm).mono (fun q z => Or.inl z)
  obtain ⟨cA, o1, o2⟩ := hOt
  have hSt1 : va_S (lA β h s.heap.size o) s.heap t.heap ([] ++ L') := ⟨hF.1, fun q z1 z2 => hF.2 q z1 (fun z => z2 (Or.inl z)), fun q z => Or.inl (hL' q z)⟩
  have k : W p l e (xrm 40 1 6) s m [.ref (β 0), .int x1, .ref o].toArray below meth c t.heap ([] ++ L') (0 + 0) (0 + 0) (MQ below (fun _ st oc t => oc = .returned (some (.int 0)) ∧ va_F (lA β h s.heap.size o) st t ∧ xR D t β (lA β h s.heap.size o) h t.heap ∧ outAt o (vp_updL f 0 u.toInt64) t t.heap) [.ref (β 0), .int x1, .ref o].toArray s 1 6 (lA β h s.heap.size o)) (F0 m 7 ls [.int u, .int 0, .ref o]) := by
    refine lv_i2l hx hb dL_led_7 rfl ?_
    refine W.last hx hb o1 (o2 1 (fun j => .long (f j))) (fun q => by cases q) (by show ¬ ((0 : Int32) < 0 ∨ (arrV _ _ _).slots.size ≤ _); rw [arrV_size]; exact (show ¬ ((0 : Int32) < 0 ∨ 1 ≤ (0 : Int32).toNatClampNeg) from by decide)) rfl rfl dL_led_8 fun H1 w1 z oq => ?_
    refine lv_goto (pc := 9) (tgt := 15) hx hb dL_led_9 (by decide) ?_
    refine lv_iconst (v := 0) hx hb dL_led_15 (by decide) ?_
    have hS2 := hSt1.put (k := (0 : Int32).toNatClampNeg) z oq (Or.inr rfl)
    have hR2 : xR D s β (lA β h s.heap.size o) h H1 := ⟨fun i c' z1 z2 => ⟨((hRs.1 i c' z1 z2).1).kept (oq _ (hdis i c' z1 z2)), (hRs.1 i c' z1 z2).2⟩, hRs.2⟩
    have hO2 : outAt o (vp_updL f 0 u.toInt64) s H1 := by
      refine ⟨cA, ?_, o2⟩
      rw [w1]
      show some ((vp_cell cA (1, .inr (.inl f))).setSlot _ _) = some (vp_cell cA (1, .inr (.inl (vp_updL f 0 u.toInt64))))
      rw [vp_cell_l, vp_cell_l, arrV_store]
      congr 2
      funext q
      by_cases hq : q = (0 : Int32).toNatClampNeg
      · subst hq
        simp [updV, vp_updL]
      · have hq' : ¬ q = 0 := hq
        simp [updV, vp_updL, hq']
    refine W.widen (k := 1) (n := 6) (by decide) (by decide) ?_
    exact W.iret hx hb B.returns (fun t2 ht2 hW2 => ⟨rfl, va_S.F hS2 ht2, by rw [ht2]; exact hR2.moved hW2.alike, by rw [ht2]; exact hO2.moved hW2.alike⟩) hS2.2.2 dL_led_16 B.notSynchronized
  obtain ⟨t2, a1, b1⟩ := k T' e1 X'
  exact ⟨t2, stp t2 a1, b1⟩
theorem nse_kL : Cond.classLink RL 13 nse ∈ xT := by decide +kernel
theorem l_led_thr (hM : vx_Met l yX7_led (xws YX7_led) (xrm 38 1 6) (va_Pc [.ref (α 0), .int x1] (fun U => xPre xks D α sz h U ∧ nseN U)) (fun _ _ _ _ => False) (XL D α (xA α h sz) h) 1 6 (xA α h sz)) (h0 : h[0]? = some (.inr (7, fs))) (hlt : l.stackTraces = false) (hdis : ∀ (i : Nat) (c : xC), h[i]? = some c → xlive c = true → α i ≠ o) (hos : o < sz) :
    Met l yL_led wsLl (xrm 40 1 6) (va_Pc [.ref (α 0), .int x1, .ref o] (fun U => (xPre xks D α sz h U ∧ outAt o f U U.heap) ∧ nseN U))
      (fun _ st oc t => oc = .returned (some (.int 1)) ∧ va_F (lA α h sz o) st t ∧ xR D t α (lA α h sz o) h t.heap ∧ outAt o f t t.heap) 1 6 (lA α h sz o) := by
  refine y_ofWH (cc := cL_led) (maxL := 4) (ret := some .int) (hh := [(0, 9, 12, 13)]) (ws' := xT) (by decide) rfl ?_
  intro p e s m args below meth c s₁ B hml ht hv
  obtain ⟨rfl, ⟨⟨hsz, hR, hK, hSt, hN⟩, hO⟩, hNN⟩ := hv
  subst hsz
  have hx := B.exec
  have hb := B.bytes
  have hown : s.vm.findClass RL = some m.cls := findClass_of_methodNamed B.named
  have hws : ∀ w ∈ wsLl, w.before _ s = true := atoms_spec (ws := wsLl) B.pre
  have hts : ∀ w ∈ xT, w.before _ s = true := fun w hw => hws w (List.mem_cons_of_mem _ hw)
  have hlv := lv_entry [.ref (α 0), .int x1, .ref o] (n := 4) (Nat.le_of_ble_eq_true rfl)
  rw [lg_entry_eq]
  generalize (lg_sl [.ref (α 0), .int x1, .ref o] ++ List.replicate (4 - (lg_sl [.ref (α 0), .int x1, .ref o]).length) Slot.unset).toArray = ls at hlv ⊢
  have hl : lv_has ls 4 [(0, .ref (α 0)), (1, .int x1), (2, .ref o)] := hlv
  refine lv_aload_n hx hb dL_led_0 rfl (lv_at hl 2 rfl) ?_
  refine lv_iconst (v := 0) hx hb dL_led_1 (by decide) ?_
  refine lv_aload_n hx hb dL_led_2 rfl (lv_at hl 0 rfl) ?_
  refine lv_iload_n hx hb dL_led_3 rfl (lv_at hl 1 rfl) ?_
  obtain ⟨⟨r0, q0, cell, q1, q2, q3, q4⟩, -⟩ := hR.1 0 _ h0 rfl
  have hcls : r0.1 = RX7 := by
    have : (vwCl[7]?).map (fun q => q.1) = some RX7 := rfl
    rw [q0] at this
    exact Option.some.inj this
  have hgood : ∀ ws : List Cond, (∀ w ∈ ws, w ∈ xT) → GoodIn xT ws := fun ws h w hw => ⟨h w hw, xgood (h w hw)⟩
  obtain ⟨⟨c1, c2, c3, c4⟩, c5, c6, c7⟩ := kL_7
  have hpre : ∀ U : State, U.heap = s.heap → s.WarmedH U.vm → va_Pc [.ref (α 0), .int x1] (fun U => xPre xks D α s.heap.size h U ∧ nseN U) (Value.ref (α 0) :: [.int x1]).toArray U := by
    intro U hU hW
    refine ⟨rfl, ⟨by rw [hU], ?_, va_K.moved hW.alike hK, hSt.to (fun k hk => rfl) va_S.rf hU hW (fun q h => h), hN.to hW⟩, hNN.to hW⟩
    rw [hU]
    exact hR.moved hW.alike
  have hbl : FrameBlind (va_Pc [.ref (α 0), .int x1] (fun U => xPre xks D α s.heap.size h U ∧ nseN U)) := by
    intro a U g mk hq
    obtain ⟨e, h1, h2⟩ := hq
    exact ⟨e, (xblind a U g mk ⟨e, h1⟩).2, h2.same rfl⟩
  have hrun := vx_runV (p := p) (l := l) (e := e) (R := xrm 40 1 6) (s := s) (m := m) (below := below) (meth := meth) (c := c) (H := s.heap) (locs := []) (cells := 0) (slots := 0) (cc := cL_led) (nL := 4) (Ts := xT) (own := RL) (index := 7) (g := F0 m 4 ls [.int x1, .ref (α 0), .int 0, .ref o]) (C := RX7) (bytes := cX7_led) (maxL := 4) (ret := some .int) (ws := xws YX7_led) (b := α 0) (As := [.int x1]) (rest := [.int 0, .ref o]) (n := 1) ⟨hx, hb, hml, hown, hts⟩ hM
    (cwV (ws' := xT) 1 hts (hgood _ (fun w hw => by
      simp only [wsV, List.cons_append, List.nil_append, List.mem_cons] at hw
      rcases hw with rfl | rfl | rfl | rfl | hw
      · exact c5
      · exact c6
      · exact c7
      · exact c2
      · exact xws_in c1 w hw)) rfl rfl rfl ⟨rfl, c4⟩ ⟨by decide, by decide⟩)
    ⟨hbl, ⟨cell, q1, by rw [q3]; rfl, by rw [q2, ← hcls]; exact (hK.1 7 r0 q0).2.1⟩, hpre⟩ rfl rfl hl.1 rfl (Nat.le_of_ble_eq_true rfl) dL_led_4 ⟨by decide, by decide⟩
  intro T hT X
  rcases hrun T hT X with ⟨v, st₀, t, T', L', g0, X', hL', e1, e2, hF, -⟩ | ⟨q, st₀, t, T', L', E, ce, g0, X', hL', e1, e2, ⟨rfl, hF, hR1⟩, hce, hcv, hcl, stp⟩
  · exact hF.elim
  replace hF : s.heap.size ≤ t.heap.size ∧ ∀ q : Nat, q < s.heap.size → ¬ xA α h s.heap.size q → t.heap[q]? = s.heap[q]? := by rw [← g0]; rw [← g0] at hF; exact hF
  have hal : s.vm.Alike t.vm := by rw [← e2]; exact X'.warmed.alike
  have hOt : outAt o f s t.heap := by
    obtain ⟨cA, o1, o2⟩ := hO
    refine ⟨cA, ?_, o2⟩
    rw [hF.2 o hos (fun z => ?_)]
    · exact o1
    · rcases z with ⟨i, c', z1, z2, z3⟩ | z
      · exact hdis i c' z1 z2 z3.symm
      · omega
  have hRs : xR D s α (lA α h s.heap.size o) h t.heap := (hR1.moved hal.symm).mono (fun q z => Or.inl z)
  have hS2 : va_S (lA α h s.heap.size o) s.heap t.heap ([] ++ L') := ⟨hF.1, fun q z1 z2 => hF.2 q z1 (fun z => z2 (Or.inl z)), fun q z => Or.inl (hL' q z)⟩
  have k : vx_W p l e (xrm 40 1 6) s m [.ref (α 0), .int x1, .ref o].toArray below meth c t.heap ([] ++ L') (0 + 1) (0 + 6) (MQ below (fun _ st oc t => oc = .returned (some (.int 1)) ∧ va_F (lA α h s.heap.size o) st t ∧ xR D t α (lA α h s.heap.size o) h t.heap ∧ outAt o f t t.heap) [.ref (α 0), .int x1, .ref o].toArray s 1 6 (lA α h s.heap.size o)) (F0 m 4 ls [.int 0, .ref o]) q := by
    refine y_catch (own := RL) (name := nse) (E := nse) (x := ⟨0, 9, 12, 13⟩) hown ht (by decide) (by decide) (hts _ nse_kL) (va_Nw.use rfl hNN.2.2.2) hce hcv hcl ?_
    refine lv_astore_n hx hb dL_led_12 rfl hl (by decide) rfl fun ls' hl' => ?_
    refine lv_iconst (v := 1) hx hb dL_led_13 (by decide) ?_
    exact W.iret hx hb B.returns (fun t2 ht2 hW2 => ⟨rfl, va_S.F hS2 ht2, by rw [ht2]; exact hRs.moved hW2.alike, by rw [ht2]; exact hOt.moved hW2.alike⟩) hS2.2.2 dL_led_14 B.notSynchronized
  obtain ⟨t2, a1, b1⟩ := k T' e1 X'
  exact ⟨t2, stp.trans a1, b1⟩
end LLED
