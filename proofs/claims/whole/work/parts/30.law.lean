/-! the law's side: worlds beside each other, a call that changes one of them -/
/-- no live cell of the one lies where a live cell of the other lies -/
def ydis (α : Nat → Nat) (h : xH) (β : Nat → Nat) (k : xH) : Prop := ∀ (i j : Nat) (c c' : xC), h[i]? = some c → k[j]? = some c' → xlive c = true → xlive c' = true → α i ≠ β j
theorem ydis.symm {α β : Nat → Nat} {h k : xH} (hd : ydis α h β k) : ydis β k α h := fun i j c c' h1 h2 l1 l2 e => hd j i c' c h2 h1 l2 l1 e.symm
theorem xSt.congr {ks : List xSK} {α β : Nat → Nat} {A : Nat → Prop} {s : State} (h : xSt ks α A s) (hb : ∀ k, 1000 ≤ k → β k = α k) : xSt ks β A s := by
  obtain ⟨h0, g1, g2, g3, g4⟩ := h
  refine ⟨fun k q hk => ?_, g1, ?_, g3, g4⟩
  · rw [hb (1000 + k) (by omega), hb (2000 + k) (by omega)]
    exact h0 k q hk
  · rw [hb 3000 (by omega)]
    exact g2
/-- a world that a call leaves alone -/
theorem xR.stay {D : va_G} {s : State} {α β : Nat → Nat} {A : Nat → Prop} {h k : xH} {H H1 : Heap} (hR2 : xR D s β A k H) (hd : ydis α h β k) (hk : ∀ q : Nat, q < H.size → ¬ xA α h H.size q → H1[q]? = H[q]?) : xR D s β A k H1 := by
  refine ⟨fun i c hi hl => ?_, hR2.2⟩
  obtain ⟨h1, h2⟩ := hR2.1 i c hi hl
  refine ⟨h1.kept (hk _ h1.lt fun z => ?_), h2⟩
  rcases z with ⟨j, c', hj, hl', e⟩ | z
  · exact hd j i c' c hj hi hl' hl e.symm
  · have := h1.lt
    omega
/-- what the law's frame has at all times -/
def yCx (p : Program) (l : Launch) (s : State) (m : MethodId) (args : Array Value) (meth : Method) (c : Code) (D : va_G) (A : Nat → Prop) : Prop :=
  p.tables.exec = Jvm.exec ∧ c.code = code ∧ c.maxLocals = 7 ∧ s.vm.findClass RL = some m.cls ∧ (∀ w ∈ lw_tbl, w.before args s = true) ∧ l.stackTraces = false ∧ va_K D vwCl [] s ∧ (∀ q, s.heap.size ≤ q → A q) ∧ xNw s
theorem xT_in {w : Cond} (h : w ∈ xT) : w ∈ lw_tbl := (List.mem_filter.mp h).1
theorem y_call {p : Program} {l : Launch} {e : Env} {s : State} {m : MethodId} {args : Array Value} {below : List Frame} {meth : Method} {c : Code} {D : va_G} {A : Nat → Prop} {H : Heap} {locs : List Loc} {cells slots : Nat} {Q : State → Prop} {ls : Array Slot} {pc : Nat} {rest st0 : List Value}
    {Y' : xY} {d mc' ms' n idx ci : Nat} {as fs : List Value} {h h1 h2 h3 : xH} {r1 : Option Value} {α α2 α3 : Nat → Nat}
    (C : yCx p l s m args meth c D A) (hSt : xSt xks α A s) (hM : xMet xks Y' d mc' ms' (.ref 0 :: as) h r1 h1) (hc : xCv RL idx n Y') (hd : decode code pc = .ok (.invokevirtual idx, 3)) (hh : h[0]? = some (.inr (ci, fs))) (hl : xlive (.inr (ci, fs)) = true) (hcl : (vwCl[ci]?).map (fun q => q.1) = some Y'.1.cls)
    (has : as.map (xv α) = as) (hn : as.length = n) (hst : st0 = as.reverse ++ .ref (α 0) :: rest) (hr : (rest.map fun v => v.category).sum ≤ 8) (hsz : ls.size = 7) (hdp : d + 1 ≤ 1000) (hf : cells + mc' ≤ 601024 ∧ slots + ms' ≤ 7293034) (hle : h1.length ≤ 1000)
    (hR : xR D s α A h H) (hR2 : xR D s α2 A h2 H) (hR3 : xR D s α3 A h3 H) (d12 : ydis α h α2 h2) (d13 : ydis α h α3 h3) (hS : va_S A s.heap H locs)
    (k : ∀ (β : Nat → Nat) (H1 : Heap) (locs1 : List Loc), xE α β h.length h1.length → xR D s β A h1 H1 → xR D s α2 A h2 H1 → xR D s α3 A h3 H1 → ydis β h1 α2 h2 → ydis β h1 α3 h3 → xSt xks β A s → va_S A s.heap H1 locs1 →
      W p l e room_1 s m args below meth c H1 locs1 (cells + mc') (slots + ms') Q (F0 m (pc + 3) ls ((r1.map (xv β)).toList ++ rest))) :
    W p l e room_1 s m args below meth c H locs cells slots Q (F0 m pc ls st0) := by
  obtain ⟨hx, hb, hml, hown, hts, hlt, hK, hAll, hN⟩ := C
  obtain ⟨⟨c1, c2, c3, c4⟩, c5, c6, c7⟩ := hc
  obtain ⟨⟨r0, q0, cell, q1, q2, q3, q4⟩, -⟩ := hR.1 0 _ hh hl
  have hcls : r0.1 = Y'.1.cls := by rw [q0] at hcl; exact Option.some.inj hcl
  have hsub : ∀ q, xA α h H.size q → A q := by
    intro q hq
    rcases hq with ⟨i, c, h1, h2, rfl⟩ | hq
    · exact (hR.1 i c h1 h2).2
    · exact hAll q (Nat.le_trans hS.1 hq)
  have hgood : ∀ ws : List Cond, (∀ w ∈ ws, w ∈ xT) → GoodIn lw_tbl ws := fun ws h w hw => ⟨xT_in (h w hw), xgood (h w hw)⟩
  have hpre : ∀ U : State, U.heap = H → s.WarmedH U.vm → va_Pc (.ref (α 0) :: as) (xPre xks D α H.size h) (Value.ref (α 0) :: as).toArray U := by
    intro U hU hW
    refine ⟨rfl, by rw [hU], ?_, va_K.moved hW.alike hK, hSt.to (fun k hk => rfl) hS hU hW hsub, hN.to hW⟩
    rw [hU]
    exact ⟨fun i c hi hl => ⟨((hR.1 i c hi hl).1).moved hW.alike, Or.inl ⟨i, c, hi, hl, rfl⟩⟩, hR.2⟩
  have hM2 := hM l hlt D α H.size
  have eas : (Value.ref 0 :: as).map (xv α) = .ref (α 0) :: as := by rw [List.map_cons, has]; rfl
  rw [eas] at hM2
  have hrun := va_runV (p := p) (l := l) (e := e) (R := room_1) (s := s) (m := m) (args := args) (below := below) (meth := meth) (c := c) (H := H) (locs := locs) (cells := cells) (slots := slots) (cc := code) (nL := 7) (Ts := lw_tbl) (own := RL) (index := idx) (g := F0 m pc ls st0) (C := Y'.1.cls) (bytes := Y'.2.1) (maxL := Y'.2.2.1) (ret := Y'.2.2.2) (ws := xws Y') (b := α 0) (As := as) (rest := rest) (n := n) ⟨hx, hb, hml, hown, hts⟩ hM2
    (cwV (ws' := xT) n hts (hgood _ (fun w hw => by
      simp only [wsV, List.cons_append, List.nil_append, List.mem_cons] at hw
      rcases hw with rfl | rfl | rfl | rfl | hw
      · exact c5
      · exact c6
      · exact c7
      · exact c2
      · exact xws_in c1 w hw)) rfl rfl rfl ⟨rfl, c4⟩ ⟨by show d + 1 ≤ 2048; omega, by show 8 + (Y'.2.2.1 + 11) + 64 * d ≤ 84000; omega⟩)
    ⟨xblind, ⟨cell, q1, by rw [q3]; rfl, by rw [q2, ← hcls]; exact (hK.1 ci r0 q0).2.1⟩, hpre⟩ rfl hn hsz hst (lv_room (m := m) (pc := pc) (ls := ls) (rest := []) hr) hd hf
  intro T hT X
  obtain ⟨v, st₀, t, T', L', g0, X', hL', e1, e2, ⟨⟨β, hv, hE, hR1⟩, hz, hk⟩, stp⟩ := hrun T hT X
  cases hv
  rw [g0] at hz hk
  have hal : t.vm.Alike s.vm := by rw [← e2]; exact X'.warmed.alike.symm
  have hk' : ∀ q : Nat, q < H.size → ¬ xA α h H.size q → T'.heap[q]? = H[q]? := fun q h1 h2 => by rw [e1]; exact hk q h1 h2
  have hRn : xR D s β A h1 T'.heap := by rw [e1]; exact (hR1.moved hal).mono hsub
  have fresh : ∀ (γ : Nat → Nat) (k : xH), xR D s γ A k H → ydis α h γ k → ydis β h1 γ k := by
    intro γ k hRk hdk i j ci cj hi hj li lj e
    have hAi := (hR1.1 i ci hi li).2
    have hlt := (hRk.1 j cj hj lj).1.lt
    rcases hAi with ⟨i', c', h1', h2', e'⟩ | hge
    · exact hdk i' j c' cj h1' hj h2' lj (e'.symm.trans e)
    · omega
  have hS1 : va_S A s.heap T'.heap (locs ++ L') := ⟨Nat.le_trans hS.1 (by rw [e1]; exact hz), fun q h1 h2 => by rw [e1, hk q (Nat.lt_of_lt_of_le h1 hS.1) (fun z => h2 (hsub q z))]; exact hS.2.1 q h1 h2, fun q hq => by
    rcases List.mem_append.mp hq with h | h
    · exact hS.2.2 q h
    · exact hsub _ (hL' q h)⟩
  obtain ⟨t2, a1, b1⟩ := k β T'.heap (locs ++ L') hE hRn (hR2.stay d12 hk') (hR3.stay d13 hk') (fresh α2 h2 hR2 d12) (fresh α3 h3 hR3 d13) (hSt.congr (fun k hk => hE.2 k (by omega))) hS1 T' rfl X'
  exact ⟨t2, stp t2 a1, b1⟩
