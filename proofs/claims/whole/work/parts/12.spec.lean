/-! String constants, natives and the JDK's methods over the layer -/
def xks : List xSK := [
  ("UmbrellaHeir", 289, "no such umbrella that nobody has", [110, 111, 32, 115, 117, 99, 104, 32, 117, 109, 98, 114, 101, 108, 108, 97, 32, 116, 104, 97, 116, 32, 110, 111, 98, 111, 100, 121, 32, 104, 97, 115]),
  ("UmbrellaHeir$Reader", 108, "county person umbrella lent left changed rain claims", [99, 111, 117, 110, 116, 121, 32, 112, 101, 114, 115, 111, 110, 32, 117, 109, 98, 114, 101, 108, 108, 97, 32, 108, 101, 110, 116, 32, 108, 101, 102, 116, 32, 99, 104, 97, 110, 103, 101, 100, 32, 114, 97, 105, 110, 32, 99, 108, 97, 105, 109, 115]),
  ("UmbrellaHeir$Reader", 134, "lapse", [108, 97, 112, 115, 101]),
  ("UmbrellaHeir$Reader", 142, "gust", [103, 117, 115, 116]),
  ("UmbrellaHeir$Reader", 146, "rains", [114, 97, 105, 110, 115]),
  ("UmbrellaHeir$Reader", 153, "plain child careless", [112, 108, 97, 105, 110, 32, 99, 104, 105, 108, 100, 32, 99, 97, 114, 101, 108, 101, 115, 115]),
  ("UmbrellaHeir$Reader", 163, "silk cotton stick parasol", [115, 105, 108, 107, 32, 99, 111, 116, 116, 111, 110, 32, 115, 116, 105, 99, 107, 32, 112, 97, 114, 97, 115, 111, 108]),
  ("UmbrellaHeir$Reader", 168, "lands", [108, 97, 110, 100, 115]),
  ("UmbrellaHeir$Reader", 172, "ribs", [114, 105, 98, 115]),
  ("UmbrellaHeir$Reader", 179, "with", [119, 105, 116, 104]),
  ("UmbrellaHeir$Reader", 199, "day", [100, 97, 121]),
  ("UmbrellaHeirModel", 136, "county", [99, 111, 117, 110, 116, 121]),
  ("UmbrellaHeirModel", 138, "person", [112, 101, 114, 115, 111, 110]),
  ("UmbrellaHeirModel", 140, "umbrella", [117, 109, 98, 114, 101, 108, 108, 97]),
  ("UmbrellaHeirModel", 142, "lent", [108, 101, 110, 116]),
  ("UmbrellaHeirModel", 144, "left", [108, 101, 102, 116]),
  ("UmbrellaHeirModel", 146, "changed", [99, 104, 97, 110, 103, 101, 100]),
  ("UmbrellaHeirModel", 148, "rain", [114, 97, 105, 110]),
  ("UmbrellaHeirModel", 150, "claims", [99, 108, 97, 105, 109, 115]),
  ("UmbrellaHeirModel", 221, "lapse", [108, 97, 112, 115, 101]),
  ("UmbrellaHeirModel", 226, "gust", [103, 117, 115, 116]),
  ("UmbrellaHeirModel", 228, "rains", [114, 97, 105, 110, 115]),
  ("UmbrellaHeirModel", 242, "plain", [112, 108, 97, 105, 110]),
  ("UmbrellaHeirModel", 244, "child", [99, 104, 105, 108, 100]),
  ("UmbrellaHeirModel", 246, "careless", [99, 97, 114, 101, 108, 101, 115, 115]),
  ("UmbrellaHeirModel", 253, "silk", [115, 105, 108, 107]),
  ("UmbrellaHeirModel", 255, "cotton", [99, 111, 116, 116, 111, 110]),
  ("UmbrellaHeirModel", 257, "stick", [115, 116, 105, 99, 107]),
  ("UmbrellaHeirModel", 259, "parasol", [112, 97, 114, 97, 115, 111, 108]),
  ("UmbrellaHeirModel", 261, "lands", [108, 97, 110, 100, 115]),
  ("UmbrellaHeirModel", 263, "ribs", [114, 105, 98, 115]),
  ("UmbrellaHeirModel", 265, "with", [119, 105, 116, 104]),
  ("UmbrellaHeirModel", 285, "day", [100, 97, 121])]
def xsy (k : Nat) : List Int32 := (xks.getD k ("", 0, "", [])).2.2.2
/-- the char at j -/
def xch (s : List Int32) (j : Int32) : Int32 := ((s.getD j.toNatClampNeg 0 &&& 255).toUInt32 % 65536).toInt32
/-- Integer.bitCount, as its bytecode has it -/
def xbc1 (i : Int32) : Int32 := i - ((i.toUInt32 >>> ((1 : Int32).toUInt32 &&& Int32.toUInt32 31)).toInt32 &&& 1431655765)
def xbc2 (i : Int32) : Int32 := (i &&& 858993459) + ((i.toUInt32 >>> ((2 : Int32).toUInt32 &&& Int32.toUInt32 31)).toInt32 &&& 858993459)
def xbc3 (i : Int32) : Int32 := (i + (i.toUInt32 >>> ((4 : Int32).toUInt32 &&& Int32.toUInt32 31)).toInt32) &&& 252645135
def xbc4 (i : Int32) : Int32 := i + (i.toUInt32 >>> ((8 : Int32).toUInt32 &&& Int32.toUInt32 31)).toInt32
def xbc5 (i : Int32) : Int32 := i + (i.toUInt32 >>> ((16 : Int32).toUInt32 &&& Int32.toUInt32 31)).toInt32
def xbc (i : Int32) : Int32 := xbc5 (xbc4 (xbc3 (xbc2 (xbc1 i)))) &&& 63
section XSPEC
variable {ks : List xSK} {Y : xY} {d mc ms n0 : Nat} {Z : xEnd} {kc kz pc : Nat} {pl : List (Option Value)} {st : List Value} {h : xH}
theorem x_aload_nN {i : Fin 4} (hd : decode Y.2.1 pc = .ok (.aload_n i, 1)) (hl : pl[i.val]? = some (some .null)) (k : xW ks Y d mc ms n0 Z kc kz (pc + 1) pl (.null :: st) h) : xW ks Y d mc ms n0 Z kc kz pc pl st h :=
  fun p l e s m args below meth c D A α0 α H locs cells slots ls C E R S L B => lv_aload_nN C.1 C.2.1 hd rfl (xl_get L hl) (k p l e s m args below meth c D A α0 α H locs cells slots ls C E R S L B)
theorem x_aloadN {i : Nat} (hd : decode Y.2.1 pc = .ok (.aload i, 2)) (hl : pl[i]? = some (some .null)) (k : xW ks Y d mc ms n0 Z kc kz (pc + 2) pl (.null :: st) h) : xW ks Y d mc ms n0 Z kc kz pc pl st h :=
  fun p l e s m args below meth c D A α0 α H locs cells slots ls C E R S L B => lv_aloadN C.1 C.2.1 hd (xl_get L hl) (k p l e s m args below meth c D A α0 α H locs cells slots ls C E R S L B)
theorem x_st {k : Nat} {q : xSK} (hk : ks[k]? = some q) {p : Program} {l : Launch} {s : State} {m : MethodId} {args : Array Value} {meth : Method} {c : Code} {D : va_G} {A : Nat → Prop} {α0 α : Nat → Nat} (C : xCx ks Y p l s m args meth c D A α0) (E : xE α0 α n0 h.length ∧ h.length ≤ 1000) : vk_R q.1 q.2.1 q.2.2.1 (α (1000 + k)) s ∧ va_O "java/lang/String" (α (1000 + k)) A s s.heap ∧ va_OF "java/lang/String" "coder" "B" (.int 0) (α (1000 + k)) A s s.heap ∧ va_OF "java/lang/String" "value" "[B" (.ref (α (2000 + k))) (α (1000 + k)) A s s.heap ∧ va_T .byte (α (2000 + k)) q.2.2.2.length (fun j => .int (q.2.2.2.getD j 0)) A s s.heap := by
  rw [E.1.2 (1000 + k) (by omega), E.1.2 (2000 + k) (by omega)]
  exact C.2.2.2.2.2.2.2.2.2.2.1.1 k q hk
theorem x_ldcS {k idx : Nat} {q : xSK} (hk : ks[k]? = some q) (ho : q.1 = Y.1.cls) (hi : q.2.1 = idx) (hd : decode Y.2.1 pc = .ok (.ldc idx, 2)) (k9 : xW ks Y d mc ms n0 Z kc kz (pc + 2) pl (.ref (1000 + k) :: st) h) : xW ks Y d mc ms n0 Z kc kz pc pl st h := by
  intro p l e s m args below meth c D A α0 α H locs cells slots ls C E R S L B
  have h1 := (x_st hk C E).1
  rw [ho, hi] at h1
  exact va_ldcS C.1 C.2.1 C.2.2.2.2.1 h1 hd (k9 p l e s m args below meth c D A α0 α H locs cells slots ls C E R S L B)
theorem x_sval {k idx : Nat} {q : xSK} (hk : ks[k]? = some q) (hw : Cond.fieldLink Y.1.cls idx "java/lang/String" "value" "[B" ∈ xT) (hd : decode Y.2.1 pc = .ok (.getfield idx, 3)) (k9 : xW ks Y d mc ms n0 Z kc kz (pc + 3) pl (.ref (2000 + k) :: st) h) : xW ks Y d mc ms n0 Z kc kz pc pl (.ref (1000 + k) :: st) h := by
  intro p l e s m args below meth c D A α0 α H locs cells slots ls C E R S L B
  exact vk_getf C.1 C.2.1 (x_st hk C E).2.2.2.1 S C.2.2.2.2.1 (x_in _ hw C) (fun x hx => hx) hd (k9 p l e s m args below meth c D A α0 α H locs cells slots ls C E R S L B)
theorem x_scod {k idx : Nat} {q : xSK} (hk : ks[k]? = some q) (hw : Cond.fieldLink Y.1.cls idx "java/lang/String" "coder" "B" ∈ xT) (hd : decode Y.2.1 pc = .ok (.getfield idx, 3)) (k9 : xW ks Y d mc ms n0 Z kc kz (pc + 3) pl (.int 0 :: st) h) : xW ks Y d mc ms n0 Z kc kz pc pl (.ref (1000 + k) :: st) h := by
  intro p l e s m args below meth c D A α0 α H locs cells slots ls C E R S L B
  exact vk_getf C.1 C.2.1 (x_st hk C E).2.2.1 S C.2.2.2.2.1 (x_in _ hw C) (fun x hx => hx) hd (k9 p l e s m args below meth c D A α0 α H locs cells slots ls C E R S L B)
theorem x_sale {k : Nat} {q : xSK} (hk : ks[k]? = some q) (hd : decode Y.2.1 pc = .ok (.arraylength, 1)) (k9 : xW ks Y d mc ms n0 Z kc kz (pc + 1) pl (.int (Int32.ofNat q.2.2.2.length) :: st) h) : xW ks Y d mc ms n0 Z kc kz pc pl (.ref (2000 + k) :: st) h := by
  intro p l e s m args below meth c D A α0 α H locs cells slots ls C E R S L B
  exact va_tlen C.1 C.2.1 (x_st hk C E).2.2.2.2 S rfl hd (k9 p l e s m args below meth c D A α0 α H locs cells slots ls C E R S L B)
theorem x_sbald {k : Nat} {q : xSK} {j : Int32} (hk : ks[k]? = some q) (hj : vp_in j q.2.2.2.length) (hd : decode Y.2.1 pc = .ok (.baload, 1)) (k9 : xW ks Y d mc ms n0 Z kc kz (pc + 1) pl (.int (q.2.2.2.getD j.toNatClampNeg 0) :: st) h) : xW ks Y d mc ms n0 Z kc kz pc pl (.int j :: .ref (2000 + k) :: st) h := by
  intro p l e s m args below meth c D A α0 α H locs cells slots ls C E R S L B
  exact va_tb C.1 C.2.1 (x_st hk C E).2.2.2.2 S hj rfl hd (k9 p l e s m args below meth c D A α0 α H locs cells slots ls C E R S L B)
theorem x_gcomp {idx : Nat} (hw : Cond.fieldLink Y.1.cls idx "java/lang/String" "COMPACT_STRINGS" "Z" ∈ xT) (hd : decode Y.2.1 pc = .ok (.getstatic idx, 3)) (k9 : xW ks Y d mc ms n0 Z kc kz (pc + 3) pl (.int 1 :: st) h) : xW ks Y d mc ms n0 Z kc kz pc pl st h := by
  intro p l e s m args below meth c D A α0 α H locs cells slots ls C E R S L B
  exact va_gets C.1 C.2.1 C.2.2.2.2.2.2.2.2.2.2.1.2.1 S C.2.2.2.2.1 (x_in _ hw C) (fun x hx => hx) hd (k9 p l e s m args below meth c D A α0 α H locs cells slots ls C E R S L B)
theorem x_gsio {idx : Nat} (hw : Cond.fieldLink Y.1.cls idx "jdk/internal/util/Preconditions" "SIOOBE_FORMATTER" "Ljava/util/function/BiFunction;" ∈ xT) (hd : decode Y.2.1 pc = .ok (.getstatic idx, 3)) (k1 : xW ks Y d mc ms n0 Z kc kz (pc + 3) pl (.null :: st) h) (k2 : xW ks Y d mc ms n0 Z kc kz (pc + 3) pl (.ref 3000 :: st) h) : xW ks Y d mc ms n0 Z kc kz pc pl st h := by
  intro p l e s m args below meth c D A α0 α H locs cells slots ls C E R S L B
  rcases C.2.2.2.2.2.2.2.2.2.2.1.2.2.1 with hz | hz
  · exact va_gets C.1 C.2.1 hz S C.2.2.2.2.1 (x_in _ hw C) (fun x hx => hx) hd (k1 p l e s m args below meth c D A α0 α H locs cells slots ls C E R S L B)
  · rw [← E.1.2 3000 (by omega)] at hz
    exact va_gets C.1 C.2.1 hz S C.2.2.2.2.1 (x_in _ hw C) (fun x hx => hx) hd (k2 p l e s m args below meth c D A α0 α H locs cells slots ls C E R S L B)
theorem x_callVS {idx n k mc' ms' kc2 kz2 : Nat} {q : xSK} {Y' : xY} {as st0 : List Value} {r1 : Option Value} {h1 : xH} (hk : ks[k]? = some q) (hM : xMet ks Y' d mc' ms' (.ref (1000 + k) :: as) h r1 h1) (hc : xCv Y.1.cls idx n Y') (hcl : Y'.1.cls = "java/lang/String") (hd : decode Y.2.1 pc = .ok (.invokevirtual idx, 3)) (hst : st0 = as.reverse ++ .ref (1000 + k) :: st) (hn : as.length = n) (hr : (st.map fun v => v.category).sum ≤ 8)
    (hle : h1.length ≤ 1000) (hkc : kc = kc2 + mc') (hkz : kz = kz2 + ms') (hok : h1.length = h.length ∨ (xloL h.length h1.length pl = true ∧ st.all (xlo h.length h1.length) = true)) (k9 : xW ks Y (d + 1) mc ms n0 Z kc2 kz2 (pc + 3) pl (r1.toList ++ st) h1) : xW ks Y (d + 1) mc ms n0 Z kc kz pc pl st0 h := by
  intro p l e s m args below meth c D A α0 α H locs cells slots ls C E R S L B
  obtain ⟨⟨c1, c2, c3, c4⟩, c5, c6, c7⟩ := hc
  refine x_behind C E R S L B hle hkc hkz hok (a := (Value.ref (α (1000 + k)) :: as.map (xv α)).toArray) ?_ k9
  obtain ⟨cell, q1, q2, q3, -⟩ := (x_st hk C E).2.1.kept S.2.1
  refine va_runV (C := Y'.1.cls) (bytes := Y'.2.1) (maxL := Y'.2.2.1) (ret := Y'.2.2.2) (ws := xws Y') (b := α (1000 + k)) (As := as.map (xv α)) (rest := st.map (xv α)) (n := n) ⟨C.1, C.2.1, C.2.2.2.1, C.2.2.2.2.1, C.2.2.2.2.2.1⟩ (hM l C.2.2.2.2.2.2.2.2.2.2.2.2 D α H.size) (cwV (ws' := xT) n C.2.2.2.2.2.1 (xgoodIn ?_) rfl rfl rfl ⟨rfl, c4⟩ ⟨Nat.le_refl _, ?_⟩) ⟨xblind, ⟨cell, q1, q2, by rw [hcl]; exact q3⟩, ?_⟩ rfl (by rw [List.length_map]; exact hn) L.1 ?_ ?_ hd ⟨?_, ?_⟩
  · intro w hw
    simp only [wsV, List.cons_append, List.nil_append, List.mem_cons] at hw
    rcases hw with rfl | rfl | rfl | rfl | hw
    · exact c5
    · exact c6
    · exact c7
    · exact c2
    · exact xws_in c1 w hw
  · show 8 + (Y'.2.2.1 + 11) + 64 * d ≤ 64 * (d + 1)
    omega
  · exact xpre_of C E R S
  · rw [hst]
    show List.map (xv α) _ = _
    rw [List.map_append, List.map_reverse]
    rfl
  · exact lv_room (m := m) (pc := pc) (ls := ls) (rest := []) (by rw [xcat_sum]; exact hr)
  · show cells + mc' ≤ mc
    omega
  · show slots + ms' ≤ ms
    omega
theorem x_copyi {i0 i1 N0 N1 idx : Nat} {f g : Nat → Int32} {zs zd zn : Int32} {h2 : xH} {sp dp n : Nat} (hd : decode Y.2.1 pc = .ok (.invokestatic idx, 3)) (hw : Cond.methodLink Y.1.cls idx arraycopyName ∈ xT) (hh0 : h[i0]? = some (.inl (0, N0, .inl f))) (hh1 : h[i1]? = some (.inl (0, N1, .inl g))) (e1 : zs = Int32.ofNat sp ∧ sp < 2 ^ 31) (e2 : zd = Int32.ofNat dp ∧ dp < 2 ^ 31) (e3 : zn = Int32.ofNat n ∧ n < 2 ^ 31) (h4 : sp + n ≤ N0) (h5 : dp + n ≤ N1) (h1 : 1 ≤ d) (hr : (st.map fun v => v.category).sum ≤ 8) (hs : h.set i1 (.inl (0, N1, .inl (va_cpy f g sp dp n))) = h2) (k : xW ks Y d mc ms n0 Z kc kz (pc + 3) pl st h2) : xW ks Y d mc ms n0 Z kc kz pc pl (.int zn :: .int zd :: .ref i1 :: .int zs :: .ref i0 :: st) h := by
  have nz : ∀ (z : Int32) (q : Nat), z = Int32.ofNat q ∧ q < 2 ^ 31 → ¬ z < 0 ∧ z.toNatClampNeg = q ∧ z.toInt = (q : Int) := fun z q hz => by
    rw [hz.1]
    exact ⟨nI_pos hz.2, nI_clamp hz.2, nI_toInt hz.2⟩
  obtain ⟨s1, s2, s3⟩ := nz zs sp e1
  obtain ⟨t1, t2, t3⟩ := nz zd dp e2
  obtain ⟨u1, u2, u3⟩ := nz zn n e3
  intro p l e s m args below meth c D A α0 α H locs cells slots ls C E R S L B
  obtain ⟨⟨c0, hc0, ht0⟩, -⟩ := R.1 i0 _ hh0 rfl
  obtain ⟨⟨c1, hc1, ht1⟩, hA⟩ := R.1 i1 _ hh1 rfl
  obtain ⟨-, k0, hk0, cm0, hkk0⟩ := ht0 N0 (fun j => .int (f j))
  obtain ⟨-, k1, hk1, cm1, hkk1⟩ := ht1 N1 (fun j => .int (g j))
  have hc0 : H[α i0]? = some (vp_cell c0 (N0, .inl f)) := hc0
  have hc1 : H[α i1]? = some (vp_cell c1 (N1, .inl g)) := hc1
  intro T hT X
  obtain ⟨vm', X', step⟩ := X.arraycopy C.1 C.2.2.2.2.1 (x_in _ hw C) (x_in _ kS_n C) (x_in _ kS_s C) (x_in _ kS_i C) (src := α i0) (dst := α i1) (cs := vp_cell c0 (N0, .inl f)) (cd := vp_cell c1 (N1, .inl g)) (srcPos := zs) (destPos := zd) (n := zn) (by rw [hT]; exact hc0) (by rw [hT]; exact hc1)
    (fun _ h => by cases h) (fun _ h => by cases h) (fun h => by cases h) (fun h => by cases h) hk0 hk1 hkk0 hkk1 (by simp [refKind, xty]) s1 t1 u1
    (by rw [s3, u3]; show ¬ _ > ((arrV c0 N0 (fun j => .int (f j))).slots.size : Int); rw [arrV_size]; omega)
    (by rw [t3, u3]; show ¬ _ > ((arrV c1 N1 (fun j => .int (g j))).slots.size : Int); rw [arrV_size]; omega)
    (fun vm₁ _ i hi => by
      have e : (vp_cell c0 (N0, .inl f)).slots.getD (zs.toNatClampNeg + i) .null = .int (f (zs.toNatClampNeg + i)) := by
        show (arrV c0 N0 (fun j => .int (f j))).slots.getD _ _ = _
        rw [Array.getD_eq_getD_getElem?, arrV_read _ _ (by rw [u2] at hi; rw [s2]; omega)]
        rfl
      refine ⟨?_, ?_⟩
      · rw [e]
        rfl
      · rw [e]
        exact trivial)
    (g := F0 m pc ls (.int zn :: .int zd :: .ref (α i1) :: .int zs :: .ref (α i0) :: st.map (xv α))) rfl (by show ls.size = _; rw [L.1]; exact C.2.2.2.1.symm) (rest := st.map (xv α)) rfl (by rw [C.2.1]; exact hd) h1 (by
      show 2 * 0 + _ + _ ≤ 64 * d
      rw [xcat_sum]
      have : nativeFrameWords "java/lang/System" "arraycopy" 5 + 11 ≤ 50 := by decide
      omega)
  have e9 : copied (vp_cell c0 (N0, .inl f)) (vp_cell c1 (N1, .inl g)) zs zd zn = vp_cell c1 (N1, .inl (va_cpy f g sp dp n)) := by
    have := va_copied (fun z => .int z) c0 c1 (n0 := N0) (n1 := N1) (sp := sp) (dp := dp) (n := n) f g h4
    rw [← s2, ← t2, ← u2] at this ⊢
    exact this
  rw [e9] at X' step
  have hl : α i1 < H.size := (Array.getElem?_eq_some_iff.mp hc1).1
  have hheap : ((T.setVm vm').setCell (α i1) (vp_cell c1 (N1, .inl (va_cpy f g sp dp n)))).heap = H.setIfInBounds (α i1) (vp_cell c1 (N1, .inl (va_cpy f g sp dp n))) := by rw [← hT]; rfl
  have oq : ∀ q : Nat, q ≠ α i1 → (H.setIfInBounds (α i1) (vp_cell c1 (N1, .inl (va_cpy f g sp dp n))))[q]? = H[q]? := fun q hq => by simp [Array.getElem?_setIfInBounds, Ne.symm hq]
  have hR2 := R.set (c := .inl (0, N1, .inl (va_cpy f g sp dp n))) hh1 rfl ⟨c1, show (H.setIfInBounds (α i1) _)[α i1]? = some _ by simp [Array.getElem?_setIfInBounds, hl], ht1⟩ oq
  rw [hs] at hR2
  have hlen : h2.length = h.length := by rw [← hs, List.length_set]
  obtain ⟨t, a1, b1⟩ := k p l e s m args below meth c D A α0 α _ _ cells slots ls C (by rw [hlen]; exact E) hR2 ⟨by simp; exact S.1, fun q g1 g2 => by
      rw [oq q (fun e => g2 (by rw [e]; exact hA))]
      exact S.2.1 q g1 g2, fun q hq => by
      rcases List.mem_append.mp hq with h | h
      · exact S.2.2 q h
      · obtain ⟨z, -, hz⟩ := List.mem_map.mp h
        rw [← hz]
        exact hA⟩ L B _ hheap X'
  exact ⟨t, step t a1, b1⟩
theorem x_copyl {i0 i1 N0 N1 idx : Nat} {f g : Nat → Int64} {zs zd zn : Int32} {h2 : xH} {sp dp n : Nat} (hd : decode Y.2.1 pc = .ok (.invokestatic idx, 3)) (hw : Cond.methodLink Y.1.cls idx arraycopyName ∈ xT) (hh0 : h[i0]? = some (.inl (1, N0, .inr (.inl f)))) (hh1 : h[i1]? = some (.inl (1, N1, .inr (.inl g)))) (e1 : zs = Int32.ofNat sp ∧ sp < 2 ^ 31) (e2 : zd = Int32.ofNat dp ∧ dp < 2 ^ 31) (e3 : zn = Int32.ofNat n ∧ n < 2 ^ 31) (h4 : sp + n ≤ N0) (h5 : dp + n ≤ N1) (h1 : 1 ≤ d) (hr : (st.map fun v => v.category).sum ≤ 8) (hs : h.set i1 (.inl (1, N1, .inr (.inl (va_cpy f g sp dp n)))) = h2) (k : xW ks Y d mc ms n0 Z kc kz (pc + 3) pl st h2) : xW ks Y d mc ms n0 Z kc kz pc pl (.int zn :: .int zd :: .ref i1 :: .int zs :: .ref i0 :: st) h := by
  have nz : ∀ (z : Int32) (q : Nat), z = Int32.ofNat q ∧ q < 2 ^ 31 → ¬ z < 0 ∧ z.toNatClampNeg = q ∧ z.toInt = (q : Int) := fun z q hz => by
    rw [hz.1]
    exact ⟨nI_pos hz.2, nI_clamp hz.2, nI_toInt hz.2⟩
  obtain ⟨s1, s2, s3⟩ := nz zs sp e1
  obtain ⟨t1, t2, t3⟩ := nz zd dp e2
  obtain ⟨u1, u2, u3⟩ := nz zn n e3
  intro p l e s m args below meth c D A α0 α H locs cells slots ls C E R S L B
  obtain ⟨⟨c0, hc0, ht0⟩, -⟩ := R.1 i0 _ hh0 rfl
  obtain ⟨⟨c1, hc1, ht1⟩, hA⟩ := R.1 i1 _ hh1 rfl
  obtain ⟨-, k0, hk0, cm0, hkk0⟩ := ht0 N0 (fun j => .long (f j))
  obtain ⟨-, k1, hk1, cm1, hkk1⟩ := ht1 N1 (fun j => .long (g j))
  have hc0 : H[α i0]? = some (vp_cell c0 (N0, .inr (.inl f))) := hc0
  have hc1 : H[α i1]? = some (vp_cell c1 (N1, .inr (.inl g))) := hc1
  intro T hT X
  obtain ⟨vm', X', step⟩ := X.arraycopy C.1 C.2.2.2.2.1 (x_in _ hw C) (x_in _ kS_n C) (x_in _ kS_s C) (x_in _ kS_i C) (src := α i0) (dst := α i1) (cs := vp_cell c0 (N0, .inr (.inl f))) (cd := vp_cell c1 (N1, .inr (.inl g))) (srcPos := zs) (destPos := zd) (n := zn) (by rw [hT]; exact hc0) (by rw [hT]; exact hc1)
    (fun _ h => by cases h) (fun _ h => by cases h) (fun h => by cases h) (fun h => by cases h) hk0 hk1 hkk0 hkk1 (by simp [refKind, xty]) s1 t1 u1
    (by rw [s3, u3]; show ¬ _ > ((arrV c0 N0 (fun j => .long (f j))).slots.size : Int); rw [arrV_size]; omega)
    (by rw [t3, u3]; show ¬ _ > ((arrV c1 N1 (fun j => .long (g j))).slots.size : Int); rw [arrV_size]; omega)
    (fun vm₁ _ i hi => by
      have e : (vp_cell c0 (N0, .inr (.inl f))).slots.getD (zs.toNatClampNeg + i) .null = .long (f (zs.toNatClampNeg + i)) := by
        show (arrV c0 N0 (fun j => .long (f j))).slots.getD _ _ = _
        rw [Array.getD_eq_getD_getElem?, arrV_read _ _ (by rw [u2] at hi; rw [s2]; omega)]
        rfl
      refine ⟨?_, ?_⟩
      · rw [e]
        rfl
      · rw [e]
        exact trivial)
    (g := F0 m pc ls (.int zn :: .int zd :: .ref (α i1) :: .int zs :: .ref (α i0) :: st.map (xv α))) rfl (by show ls.size = _; rw [L.1]; exact C.2.2.2.1.symm) (rest := st.map (xv α)) rfl (by rw [C.2.1]; exact hd) h1 (by
      show 2 * 0 + _ + _ ≤ 64 * d
      rw [xcat_sum]
      have : nativeFrameWords "java/lang/System" "arraycopy" 5 + 11 ≤ 50 := by decide
      omega)
  have e9 : copied (vp_cell c0 (N0, .inr (.inl f))) (vp_cell c1 (N1, .inr (.inl g))) zs zd zn = vp_cell c1 (N1, .inr (.inl (va_cpy f g sp dp n))) := by
    have := va_copied (fun z => .long z) c0 c1 (n0 := N0) (n1 := N1) (sp := sp) (dp := dp) (n := n) f g h4
    rw [← s2, ← t2, ← u2] at this ⊢
    exact this
  rw [e9] at X' step
  have hl : α i1 < H.size := (Array.getElem?_eq_some_iff.mp hc1).1
  have hheap : ((T.setVm vm').setCell (α i1) (vp_cell c1 (N1, .inr (.inl (va_cpy f g sp dp n))))).heap = H.setIfInBounds (α i1) (vp_cell c1 (N1, .inr (.inl (va_cpy f g sp dp n)))) := by rw [← hT]; rfl
  have oq : ∀ q : Nat, q ≠ α i1 → (H.setIfInBounds (α i1) (vp_cell c1 (N1, .inr (.inl (va_cpy f g sp dp n)))))[q]? = H[q]? := fun q hq => by simp [Array.getElem?_setIfInBounds, Ne.symm hq]
  have hR2 := R.set (c := .inl (1, N1, .inr (.inl (va_cpy f g sp dp n)))) hh1 rfl ⟨c1, show (H.setIfInBounds (α i1) _)[α i1]? = some _ by simp [Array.getElem?_setIfInBounds, hl], ht1⟩ oq
  rw [hs] at hR2
  have hlen : h2.length = h.length := by rw [← hs, List.length_set]
  obtain ⟨t, a1, b1⟩ := k p l e s m args below meth c D A α0 α _ _ cells slots ls C (by rw [hlen]; exact E) hR2 ⟨by simp; exact S.1, fun q g1 g2 => by
      rw [oq q (fun e => g2 (by rw [e]; exact hA))]
      exact S.2.1 q g1 g2, fun q hq => by
      rcases List.mem_append.mp hq with h | h
      · exact S.2.2 q h
      · obtain ⟨z, -, hz⟩ := List.mem_map.mp h
        rw [← hz]
        exact hA⟩ L B _ hheap X'
  exact ⟨t, step t a1, b1⟩
end XSPEC
