/-! the law from its entry: two objects, a row, the loop -/
theorem y_callI {p : Program} {l : Launch} {e : Env} {s : State} {m : MethodId} {args : Array Value} {below : List Frame} {meth : Method} {c : Code} {D : va_G} {A : Nat → Prop} {H : Heap} {locs : List Loc} {cells slots : Nat} {Q : State → Prop} {ls : Array Slot} {pc : Nat} {rest st0 : List Value}
    {Y' : xY} {d mc' ms' n idx : Nat} {as : List Value} {h h1 h2 h3 : xH} {α α2 α3 : Nat → Nat}
    (C : yCx p l s m args meth c D A) (hSt : xSt xks α A s) (hM : xMet xks Y' d mc' ms' (.ref 0 :: as) h none h1) (hc : xCi RL idx n Y') (hlk : Cond.methodLink RL idx Y'.1 ∈ xT) (hd : decode code pc = .ok (.invokespecial idx, 3))
    (has : as.map (xv α) = as) (hn : as.length = n) (hst : st0 = as.reverse ++ .ref (α 0) :: rest) (hr : (rest.map fun v => v.category).sum ≤ 8) (hsz : ls.size = 7) (hdp : d + 1 ≤ 1000) (hf : cells + mc' ≤ 601024 ∧ slots + ms' ≤ 7293034) (hle : h1.length ≤ 1000)
    (hR : xR D s α A h H) (hR2 : xR D s α2 A h2 H) (hR3 : xR D s α3 A h3 H) (d12 : ydis α h α2 h2) (d13 : ydis α h α3 h3) (hS : va_S A s.heap H locs)
    (k : ∀ (β : Nat → Nat) (H1 : Heap) (locs1 : List Loc), xE α β h.length h1.length → xR D s β A h1 H1 → xR D s α2 A h2 H1 → xR D s α3 A h3 H1 → ydis β h1 α2 h2 → ydis β h1 α3 h3 → xSt xks β A s → va_S A s.heap H1 locs1 →
      W p l e room_1 s m args below meth c H1 locs1 (cells + mc') (slots + ms') Q (F0 m (pc + 3) ls rest)) :
    W p l e room_1 s m args below meth c H locs cells slots Q (F0 m pc ls st0) := by
  obtain ⟨hx, hb, hml, hown, hts, hlt, hK, hAll, hN⟩ := C
  obtain ⟨⟨c1, c2, c3, c4⟩, c8, c9, c6, -⟩ := hc
  have hws : xws Y' = Cond.code Y'.1 Y'.2.1 Y'.2.2.1 none :: xT := by rw [← c8]; rfl
  have hsub : ∀ q, xA α h H.size q → A q := by
    intro q hq
    rcases hq with ⟨i, c, h1, h2, rfl⟩ | hq
    · exact (hR.1 i c h1 h2).2
    · exact hAll q (Nat.le_trans hS.1 hq)
  have hgood : ∀ ws : List Cond, (∀ w ∈ ws, w ∈ xT) → GoodIn lw_tbl ws := fun ws h w hw => ⟨xT_in (h w hw), xgood (h w hw)⟩
  have hpre : ∀ U : State, U.heap = H → s.WarmedH U.vm → va_Pc (.ref (α 0) :: as) (xPre xks D α H.size h) (Value.ref (α 0) :: as).toArray U := by
    intro U hU hW
    refine ⟨rfl, by rw [hU], ?_, va_K.moved hW.alike hK, hSt.to (fun k hk => rfl) hS hU hW hsub, hN.to hW⟩
    rw [hU]
    exact ⟨fun i c hi hl => ⟨((hR.1 i c hi hl).1).moved hW.alike, Or.inl ⟨i, c, hi, hl, rfl⟩⟩, hR.2⟩
  have hM2 := hM l hlt D α H.size
  have eas : (Value.ref 0 :: as).map (xv α) = .ref (α 0) :: as := by rw [List.map_cons, has]; rfl
  rw [eas] at hM2
  have hrun := va_runI (p := p) (l := l) (e := e) (R := room_1) (s := s) (m := m) (args := args) (below := below) (meth := meth) (c := c) (H := H) (locs := locs) (cells := cells) (slots := slots) (cc := code) (nL := 7) (Ts := lw_tbl) (own := RL) (index := idx) (g := F0 m pc ls st0) (bytes := Y'.2.1) (maxL := Y'.2.2.1) (ws := xws Y') (b := α 0) (As := as) (rest := rest) (n := n) ⟨hx, hb, hml, hown, hts⟩ hM2
    (cwI (ws' := xT) n hts (hgood _ (xws_in c1)) hws rfl rfl (hts _ (xT_in c2)) (hts _ (xT_in hlk)) (hts _ (xT_in c6)) c9 c4 ⟨by show d + 1 ≤ 2048; omega, by show 8 + (Y'.2.2.1 + 11) + 64 * d ≤ 84000; omega⟩)
    ⟨xblind, hpre⟩ rfl hn hsz hst (lv_room (m := m) (pc := pc) (ls := ls) (rest := []) hr) hd hf
  intro T hT X
  obtain ⟨v, st₀, t, T', L', g0, X', hL', e1, e2, ⟨⟨β, hv, hE, hR1⟩, hz, hk⟩, stp⟩ := hrun T hT X
  cases hv
  rw [g0] at hz hk
  have hal : t.vm.Alike s.vm := by rw [← e2]; exact X'.warmed.alike.symm
  have hk' : ∀ q : Nat, q < H.size → ¬ xA α h H.size q → T'.heap[q]? = H[q]? := fun q h1 h2 => by rw [e1]; exact hk q h1 h2
  have hRn : xR D s β A h1 T'.heap := by rw [e1]; exact (hR1.moved hal).mono hsub
  have fresh : ∀ (γ : Nat → Nat) (k : xH), xR D s γ A k H → ydis α h γ k → ydis β h1 γ k := by
    intro γ k hRk hdk i j ci cj hi hj li lj e
    have hAi := (hR1.1 i ci hi li).2
    have hlt := (hRk.1 j cj hj lj).1.lt
    rcases hAi with ⟨i', c', h1', h2', e'⟩ | hge
    · exact hdk i' j c' cj h1' hj h2' lj (e'.symm.trans e)
    · omega
  have hS1 : va_S A s.heap T'.heap (locs ++ L') := ⟨Nat.le_trans hS.1 (by rw [e1]; exact hz), fun q h1 h2 => by rw [e1, hk q (Nat.lt_of_lt_of_le h1 hS.1) (fun z => h2 (hsub q z))]; exact hS.2.1 q h1 h2, fun q hq => by
    rcases List.mem_append.mp hq with h | h
    · exact hS.2.2 q h
    · exact hsub _ (hL' q h)⟩
  obtain ⟨t2, a1, b1⟩ := k β T'.heap (locs ++ L') hE hRn (hR2.stay d12 hk') (hR3.stay d13 hk') (fresh α2 h2 hR2 d12) (fresh α3 h3 hR3 d13) (hSt.congr (fun k hk => hE.2 k (by omega))) hS1 T' rfl X'
  exact ⟨t2, stp t2 a1, b1⟩
theorem xR.grow {D : va_G} {s : State} {α : Nat → Nat} {A : Nat → Prop} {h : xH} {H H1 : Heap} (hR : xR D s α A h H) (o1 : ∀ q, q < H.size → H1[q]? = H[q]?) : xR D s α A h H1 :=
  ⟨fun i c hi hl => ⟨((hR.1 i c hi hl).1).kept (o1 _ (hR.1 i c hi hl).1.lt), (hR.1 i c hi hl).2⟩, hR.2⟩
theorem xR_one {D : va_G} {s : State} {β : Nat → Nat} {A : Nat → Prop} {c : xC} {H : Heap} (h : xat D s β (β 0) c H) (hA : A (β 0)) : xR D s β A [c] H := by
  refine ⟨fun i c' hi hl => ?_, fun i j c' c2 hi hj _ _ _ => ?_⟩
  · cases i with
    | zero => cases hi; exact ⟨h, hA⟩
    | succ i => cases hi
  · cases i with
    | succ i => cases hi
    | zero => cases j with
      | succ j => cases hj
      | zero => rfl
theorem xR_nil {D : va_G} {s : State} {β : Nat → Nat} {A : Nat → Prop} {H : Heap} : xR D s β A [] H := ⟨fun i c hi => (nomatch hi), fun i j c c' hi => (nomatch hi)⟩
theorem ydis_nil {α β : Nat → Nat} {h : xH} : ydis α h β [] := fun i j c c' _ h2 => nomatch h2
theorem ydis_new {D : va_G} {s : State} {α β : Nat → Nat} {A : Nat → Prop} {c : xC} {h : xH} {H : Heap} (hR : xR D s β A h H) (e : α 0 = H.size) : ydis α [c] β h := by
  intro i j c1 c2 h1 h2 l1 l2 z
  cases i with
  | succ i => cases h1
  | zero =>
    have := (hR.1 j c2 h2 l2).1.lt
    omega
section LNEW
variable {p : Program} {l : Launch} {e : Env} {s : State} {m : MethodId} {args : Array Value} {below : List Frame} {meth : Method} {c : Code} {D : va_G} {A : Nat → Prop} {H : Heap} {locs : List Loc} {cells slots : Nat} {Q : State → Prop} {ls : Array Slot} {rest : List Value} {pc : Nat}
theorem y_newc {idx ci N : Nat} {fs : List Value} (C : yCx p l s m args meth c D A) (hf : xNc RL idx ci N fs) (hfz : ∀ β : Nat → Nat, fs.map (xv β) = fs) (hd : decode code pc = .ok (.new idx, 3)) (hS : va_S A s.heap H locs) (hf2 : cells + 1 ≤ 601024 ∧ slots + N ≤ 7293034)
    (kk : ∀ H1 : Heap, H1.size = H.size + 1 → (∀ q, q < H.size → H1[q]? = H[q]?) → (∀ β : Nat → Nat, β 0 = H.size → xR D s β A [.inr (ci, fs)] H1) → va_S A s.heap H1 locs → W p l e room_1 s m args below meth c H1 locs (cells + 1) (slots + N) Q (F0 m (pc + 3) ls (.ref H.size :: rest))) :
    W p l e room_1 s m args below meth c H locs cells slots Q (F0 m pc ls rest) := by
  obtain ⟨hx, hb, hml, hown, hts, hlt, hK, hAll, hN⟩ := C
  obtain ⟨C1, T, ty0, hc, hin, hty, hcl, hinst, hini, hfs⟩ := hf
  have hKn := hK.1 ci _ hc
  refine W.newcK hx hb hown (hts _ (xT_in hcl)) (hts _ (xT_in hinst)) (hts _ (xT_in hini)) rfl hd hf2.1 hf2.2 hKn.2.1 rfl fun H1 kC hkC e1 z1 o1 => ?_
  refine kk H1 z1 o1 (fun β hβ => ?_) ⟨Nat.le_trans hS.1 (by omega), fun q h1 h2 => (o1 q (Nat.lt_of_lt_of_le h1 hS.1)).trans (hS.2.1 q h1 h2), hS.2.2⟩
  refine xR_one ⟨_, hc, ?_⟩ (by rw [hβ]; exact hAll _ hS.1)
  show t_OB _ _ _ _ _ (vp_V (fs.map (xv β)))
  rw [hfz, hβ]
  exact (u_born ty0 (fun w hw => hts w (xT_in hw)) hin hKn hkC e1 hty).to hfs
end LNEW
noncomputable def hN0 : xH := hN 0 0 (-1) 0 0 0 0 0 0 0 0 0 0 0 0 0 0 0 0 (fun _ => 0) (fun _ => 0) (fun _ => 0) (fun _ => 0) (fun _ => 0) (fun _ => 0) (fun _ => 0) (fun _ => 0) (fun _ => 0) (fun _ => 0) 0 .null .null
theorem hN0_of : ∀ j, j < 27 → ∀ c : xC, hN0[j]? = some c → xlive c = true → hc_177[j]? = some c := all_succ (all_succ (all_succ (all_succ (all_succ (all_succ (all_succ (all_succ (all_succ (all_succ (all_succ (all_succ (all_succ (all_succ (all_succ (all_succ (all_succ (all_succ (all_succ (all_succ (all_succ (all_succ (all_succ (all_succ (all_succ (all_succ (all_succ (all_zero) (fun _ h _ => h)) (fun _ h _ => h)) (fun _ h _ => h)) (fun _ h _ => h)) (fun _ h _ => h)) (fun _ h _ => h)) (fun _ h _ => h)) (fun _ h _ => h)) (fun _ h _ => h)) (fun _ h _ => h)) (fun _ h _ => h)) (fun c h hl => by cases h; exact absurd hl (by decide))) (fun c h hl => by cases h; exact absurd hl (by decide))) (fun c h hl => by cases h; exact absurd hl (by decide))) (fun c h hl => by cases h; exact absurd hl (by decide))) (fun c h hl => by cases h; exact absurd hl (by decide))) (fun c h hl => by cases h; exact absurd hl (by decide))) (fun c h hl => by cases h; exact absurd hl (by decide))) (fun c h hl => by cases h; exact absurd hl (by decide))) (fun c h hl => by cases h; exact absurd hl (by decide))) (fun c h hl => by cases h; exact absurd hl (by decide))) (fun c h hl => by cases h; exact absurd hl (by decide))) (fun c h hl => by cases h; exact absurd hl (by decide))) (fun c h hl => by cases h; exact absurd hl (by decide))) (fun c h hl => by cases h; exact absurd hl (by decide))) (fun c h hl => by cases h; exact absurd hl (by decide))) (fun c h hl => by cases h; exact absurd hl (by decide))
theorem hN0_R {D : va_G} {s : State} {α : Nat → Nat} {A : Nat → Prop} {H : Heap} (hR : xR D s α A hc_177 H) : xR D s α A hN0 H := by
  have lt : ∀ (i : Nat) (c : xC), hN0[i]? = some c → i < 27 := fun i c h => (List.getElem?_eq_some_iff.mp h).1
  exact ⟨fun i c hi hl => hR.1 i c (hN0_of i (lt i c hi) c hi hl) hl, fun i j c c' hi hj h1 h2 e => hR.2 i j c c' (hN0_of i (lt i c hi) c hi h1) (hN0_of j (lt j c' hj) c' hj h2) h1 h2 e⟩
theorem Inv0 : Inv hc_155 hN0 := by
  rw [hc_A]
  exact Or.inl (InvN.mk (tp := 0) (rb := 0) ⟨⟨by omega, fun k h => absurd h (by omega)⟩, fun k h => rfl, fun k h => rfl, whr_ne (by decide)⟩)
set_option maxHeartbeats 4000000 in
set_option maxRecDepth 100000 in
/-- from the entry, for every script of at most 3072 ints, the law comes to its end with true -/
theorem whole_start {p : Program} {e : Env} {s : State} {m : MethodId} {below : List Frame} {meth : Method} {c : Code} (l : Launch) (hlt : l.stackTraces = false) {b L : Nat} {xs : Nat → Int32} (hL : L ≤ 3072) (C0 : lw_At p s m meth c b L xs) : W p l e room_1 s m #[Value.ref b] below meth c s.heap [] 0 0 (lw_Z below #[Value.ref b] s) (entryFrame m ([Value.ref b] : List Value).toArray 7) := by
  obtain ⟨hx, hb, hr, hml, hown, hts, hX, hbl, hlocks, hgv⟩ := C0
  obtain ⟨α, hSt⟩ := y_St (A := fun q => s.heap.size ≤ q) hts (flat_of_before _ hgv) (fun a h => Nat.not_le.mpr h)
  obtain ⟨D, hK⟩ := y_K hts
  have C : yCx p l s m #[Value.ref b] meth c D (fun q => s.heap.size ≤ q) := ⟨hx, hb, hml, hown, hts, hlt, hK, fun q h => h, y_Nw hts⟩
  have hlv := lv_entry [.ref b] (n := 7) (Nat.le_of_ble_eq_true rfl)
  rw [lg_entry_eq]
  generalize (lg_sl [.ref b] ++ List.replicate (7 - (lg_sl [.ref b]).length) Slot.unset).toArray = ls at hlv ⊢
  have hl : lv_has ls 7 [(0, .ref b)] := hlv
  refine y_newc C nL_8 (fun β => rfl) dL_law_0 va_S.rf ⟨by decide, by decide⟩ (fun H1 z1 o1 R1 S1 => ?_)
  refine lv_dup hx hb dL_law_3 rfl ?_
  refine y_callI (d := 40) (as := []) (rest := [.ref s.heap.size]) (h := hc_1) (h2 := []) (h3 := []) (α2 := α) (α3 := α) (α := fun i => if i = 0 then s.heap.size else α i) C (hSt.congr (fun k hk => if_neg (by omega))) ((t_newA 36).up rfl) kL_15 (xt_1 24 rfl rfl) dL_law_4 rfl rfl rfl (Nat.le_of_ble_eq_true rfl) hl.1 (by decide) ⟨by decide, by decide⟩ (Nat.le_of_ble_eq_true rfl) (R1 _ rfl) xR_nil xR_nil ydis_nil ydis_nil S1 (fun βA H2 locs2 hE2 RA2 _ _ _ _ SA2 S2 => ?_)
  have eA : βA 0 = s.heap.size := (hE2.2 0 (Or.inl (by decide))).trans rfl
  refine lv_astore_n (lv' := [(1, .ref s.heap.size), (0, .ref b)]) hx hb dL_law_7 rfl hl (by decide) rfl (fun ls1 hl1 => ?_)
  refine y_newc C nL_16 (fun β => rfl) dL_law_8 S2 ⟨by decide, by decide⟩ (fun H3 z3 o3 R3 S3 => ?_)
  refine lv_dup hx hb dL_law_11 rfl ?_
  refine y_callI (d := 40) (as := []) (rest := [.ref H2.size]) (h := hc_156) (h2 := hc_155) (h3 := []) (α2 := βA) (α3 := α) (α := fun i => if i = 0 then H2.size else α i) C (hSt.congr (fun k hk => if_neg (by omega))) ((t_newB 39).up rfl) kL_18 (xt_5 42 rfl rfl) dL_law_12 rfl rfl rfl (Nat.le_of_ble_eq_true rfl) hl1.1 (by decide) ⟨by decide, by decide⟩ (Nat.le_of_ble_eq_true rfl) (R3 _ rfl) (RA2.grow o3) xR_nil (ydis_new RA2 rfl) ydis_nil S3 (fun βB H4 locs4 hE4 RB4 RA4 _ dBA4 _ SB4 S4 => ?_)
  have eB : βB 0 = H2.size := (hE4.2 0 (Or.inl (by decide))).trans rfl
  refine lv_astore_n (lv' := [(2, .ref H2.size), (1, .ref s.heap.size), (0, .ref b)]) hx hb dL_law_15 rfl hl1 (by decide) rfl (fun ls2 hl2 => ?_)
  refine lv_iconst (v := 1) hx hb dL_law_16 (by decide) ?_
  refine va_newaK (atype := .long) (h := H4.size) (N := 1) hx hb (hts _ (xT_in kA_long)) rfl dL_law_17 rfl (by decide) (by decide) (by decide) (by decide) (by decide) rfl fun H5 cA e5 z5 o5 hAr _ => ?_
  have S5 : va_S (fun q => s.heap.size ≤ q) s.heap H5 locs4 := ⟨Nat.le_trans S4.1 (by omega), fun q h1 h2 => (o5 q (Nat.lt_of_lt_of_le h1 S4.1)).trans (S4.2.1 q h1 h2), S4.2.2⟩
  have RO5 : xR D s (fun _ => H4.size) (fun q => s.heap.size ≤ q) [.inl (1, 1, .inr (.inl (fun _ => 0)))] H5 := xR_one ⟨cA, e5, hAr⟩ S4.1
  have RB5 := hN0_R RB4
  refine lv_astore_n (pc := 19) (lv' := [(3, .ref H4.size), (2, .ref H2.size), (1, .ref s.heap.size), (0, .ref b)]) hx hb dL_law_19 rfl hl2 (by decide) rfl (fun ls3 hl3 => ?_)
  refine lv_iconst (v := 0) hx hb dL_law_20 (by decide) ?_
  refine lv_istore (lv' := [(4, .int 0), (3, .ref H4.size), (2, .ref H2.size), (1, .ref s.heap.size), (0, .ref b)]) hx hb dL_law_21 hl3 (by decide) rfl (fun ls4 hl4 => ?_)
  refine law_loop (x := s.heap.size) (y := H2.size) (o := H4.size) C hr hlocks (fun q h => h) hX hbl hL 513 0 _ _ H5 locs4 ls4 (by omega) (by omega) (by decide) (by decide) ⟨βA, βB, fun _ => H4.size, hc_155, hN0, fun _ => 0, Inv0, eA, eB, rfl, RA4.grow o5, RB5.grow o5, RO5, ?_, ?_, ?_, SA2, SB4⟩ S5 (lv_sub hl4 [4, 3, 2, 1, 0] rfl)
  · intro i j c1 c2 h1 h2 l1 l2 z
    exact dBA4 j i c2 c1 (hN0_of j (List.getElem?_eq_some_iff.mp h2).1 c2 h2 l2) h1 l2 l1 z.symm
  · exact (ydis_new (α := fun _ => H4.size) RA4 rfl).symm
  · exact (ydis_new (α := fun _ => H4.size) RB5 rfl).symm
