/-! arrays, new cells, returns, the entry -/
section XARR
variable {ks : List xSK} {Y : xY} {d mc ms n0 : Nat} {Z : xEnd} {kc kz pc : Nat} {pl : List (Option Value)} {st : List Value} {h : xH}
theorem x_iald {i n : Nat} {f : Nat → Int32} {j : Int32} (hd : decode Y.2.1 pc = .ok (.iaload, 1)) (hh : h[i]? = some (.inl (0, n, .inl f))) (hj : vp_in j n) (k : xW ks Y d mc ms n0 Z kc kz (pc + 1) pl (.int (f j.toNatClampNeg) :: st) h) : xW ks Y d mc ms n0 Z kc kz pc pl (.int j :: .ref i :: st) h := by
  intro p l e s m args below meth c D A α0 α H locs cells slots ls C E R S L B
  obtain ⟨⟨cA, h1, h2⟩, -⟩ := R.1 i _ hh rfl
  have hlt : j.toNatClampNeg < n := Nat.not_le.mp fun q => hj (Or.inr q)
  exact W.iald (v := .int (f j.toNatClampNeg)) C.1 C.2.1 h1 (h2 n (fun j => .int (f j))) (fun q => by cases q) (by show ¬ (j < 0 ∨ (arrV _ _ _).slots.size ≤ _); rw [arrV_size]; exact hj) (by show (arrV _ _ _).slots[_]? = _; rw [arrV_read _ _ hlt]) rfl rfl hd (k p l e s m args below meth c D A α0 α H locs cells slots ls C E R S L B)
theorem x_bald {i n : Nat} {f : Nat → Int32} {j : Int32} (hd : decode Y.2.1 pc = .ok (.baload, 1)) (hh : h[i]? = some (.inl (2, n, .inl f))) (hj : vp_in j n) (k : xW ks Y d mc ms n0 Z kc kz (pc + 1) pl (.int (f j.toNatClampNeg) :: st) h) : xW ks Y d mc ms n0 Z kc kz pc pl (.int j :: .ref i :: st) h := by
  intro p l e s m args below meth c D A α0 α H locs cells slots ls C E R S L B
  obtain ⟨⟨cA, h1, h2⟩, -⟩ := R.1 i _ hh rfl
  have hlt : j.toNatClampNeg < n := Nat.not_le.mp fun q => hj (Or.inr q)
  exact W.bald (v := .int (f j.toNatClampNeg)) C.1 C.2.1 h1 (h2 n (fun j => .int (f j))) (fun q => by cases q) (by show ¬ (j < 0 ∨ (arrV _ _ _).slots.size ≤ _); rw [arrV_size]; exact hj) (by show (arrV _ _ _).slots[_]? = _; rw [arrV_read _ _ hlt]) rfl rfl hd (k p l e s m args below meth c D A α0 α H locs cells slots ls C E R S L B)
theorem x_lald {i n : Nat} {f : Nat → Int64} {j : Int32} (hd : decode Y.2.1 pc = .ok (.laload, 1)) (hh : h[i]? = some (.inl (1, n, .inr (.inl f)))) (hj : vp_in j n) (k : xW ks Y d mc ms n0 Z kc kz (pc + 1) pl (.long (f j.toNatClampNeg) :: st) h) : xW ks Y d mc ms n0 Z kc kz pc pl (.int j :: .ref i :: st) h := by
  intro p l e s m args below meth c D A α0 α H locs cells slots ls C E R S L B
  obtain ⟨⟨cA, h1, h2⟩, -⟩ := R.1 i _ hh rfl
  have hlt : j.toNatClampNeg < n := Nat.not_le.mp fun q => hj (Or.inr q)
  exact W.lald (v := .long (f j.toNatClampNeg)) C.1 C.2.1 h1 (h2 n (fun j => .long (f j))) (fun q => by cases q) (by show ¬ (j < 0 ∨ (arrV _ _ _).slots.size ≤ _); rw [arrV_size]; exact hj) (by show (arrV _ _ _).slots[_]? = _; rw [arrV_read _ _ hlt]) rfl rfl hd (k p l e s m args below meth c D A α0 α H locs cells slots ls C E R S L B)
theorem x_iast {i n : Nat} {f : Nat → Int32} {j x : Int32} {h2 : xH} (hd : decode Y.2.1 pc = .ok (.iastore, 1)) (hh : h[i]? = some (.inl (0, n, .inl f))) (hj : vp_in j n) (hs : h.set i (.inl (0, n, .inl (upd f j.toNatClampNeg x))) = h2) (k : xW ks Y d mc ms n0 Z kc kz (pc + 1) pl st h2) : xW ks Y d mc ms n0 Z kc kz pc pl (.int x :: .int j :: .ref i :: st) h := by
  intro p l e s m args below meth c D A α0 α H locs cells slots ls C E R S L B
  obtain ⟨⟨cA, h1, h3⟩, hA⟩ := R.1 i _ hh rfl
  refine W.iast C.1 C.2.1 h1 (h3 n (fun j => .int (f j))) (fun q => by cases q) (by show ¬ (j < 0 ∨ (arrV _ _ _).slots.size ≤ _); rw [arrV_size]; exact hj) rfl rfl hd fun H1 e1 z oq => ?_
  have hR2 : xR D s α A (h.set i (.inl (0, n, .inl (upd f j.toNatClampNeg x)))) H1 := by
    refine R.set hh rfl ⟨cA, ?_, h3⟩ oq
    rw [e1]
    show some ((vp_cell cA (n, .inl f)).setSlot _ _) = some (vp_cell cA (n, .inl (upd f j.toNatClampNeg x)))
    rw [vp_cell_i, vp_cell_i, arrV_store]
    congr 2
    funext q
    by_cases hq : q = j.toNatClampNeg
    · subst hq
      simp [updV, upd]
    · simp [updV, upd, hq]
  rw [hs] at hR2
  have hlen : h2.length = h.length := by rw [← hs, List.length_set]
  exact k p l e s m args below meth c D A α0 α H1 _ cells slots ls C (by rw [hlen]; exact E) hR2 (S.put z oq hA) L B
theorem x_bast {i n : Nat} {f : Nat → Int32} {j x : Int32} {h2 : xH} (hd : decode Y.2.1 pc = .ok (.bastore, 1)) (hh : h[i]? = some (.inl (2, n, .inl f))) (hj : vp_in j n) (hs : h.set i (.inl (2, n, .inl (upd f j.toNatClampNeg (vp_nar .byte x)))) = h2) (k : xW ks Y d mc ms n0 Z kc kz (pc + 1) pl st h2) : xW ks Y d mc ms n0 Z kc kz pc pl (.int x :: .int j :: .ref i :: st) h := by
  intro p l e s m args below meth c D A α0 α H locs cells slots ls C E R S L B
  obtain ⟨⟨cA, h1, h3⟩, hA⟩ := R.1 i _ hh rfl
  refine W.bast C.1 C.2.1 h1 (h3 n (fun j => .int (f j))) (fun q => by cases q) (by show ¬ (j < 0 ∨ (arrV _ _ _).slots.size ≤ _); rw [arrV_size]; exact hj) rfl rfl hd fun H1 e1 z oq => ?_
  have hR2 : xR D s α A (h.set i (.inl (2, n, .inl (upd f j.toNatClampNeg (vp_nar .byte x))))) H1 := by
    refine R.set hh rfl ⟨cA, ?_, h3⟩ oq
    rw [e1]
    show some ((vp_cell cA (n, .inl f)).setSlot _ _) = some (vp_cell cA (n, .inl (upd f j.toNatClampNeg (vp_nar .byte x))))
    rw [vp_cell_i, vp_cell_i, arrV_store]
    congr 2
    funext q
    by_cases hq : q = j.toNatClampNeg
    · subst hq
      simp [updV, upd, vp_nar]
      try rfl
    · simp [updV, upd, hq]
  rw [hs] at hR2
  have hlen : h2.length = h.length := by rw [← hs, List.length_set]
  exact k p l e s m args below meth c D A α0 α H1 _ cells slots ls C (by rw [hlen]; exact E) hR2 (S.put z oq hA) L B
theorem x_last {i n : Nat} {f : Nat → Int64} {j : Int32} {x : Int64} {h2 : xH} (hd : decode Y.2.1 pc = .ok (.lastore, 1)) (hh : h[i]? = some (.inl (1, n, .inr (.inl f)))) (hj : vp_in j n) (hs : h.set i (.inl (1, n, .inr (.inl (vp_updL f j.toNatClampNeg x)))) = h2) (k : xW ks Y d mc ms n0 Z kc kz (pc + 1) pl st h2) : xW ks Y d mc ms n0 Z kc kz pc pl (.long x :: .int j :: .ref i :: st) h := by
  intro p l e s m args below meth c D A α0 α H locs cells slots ls C E R S L B
  obtain ⟨⟨cA, h1, h3⟩, hA⟩ := R.1 i _ hh rfl
  refine W.last C.1 C.2.1 h1 (h3 n (fun j => .long (f j))) (fun q => by cases q) (by show ¬ (j < 0 ∨ (arrV _ _ _).slots.size ≤ _); rw [arrV_size]; exact hj) rfl rfl hd fun H1 e1 z oq => ?_
  have hR2 : xR D s α A (h.set i (.inl (1, n, .inr (.inl (vp_updL f j.toNatClampNeg x))))) H1 := by
    refine R.set hh rfl ⟨cA, ?_, h3⟩ oq
    rw [e1]
    show some ((vp_cell cA (n, .inr (.inl f))).setSlot _ _) = some (vp_cell cA (n, .inr (.inl (vp_updL f j.toNatClampNeg x))))
    rw [vp_cell_l, vp_cell_l, arrV_store]
    congr 2
    funext q
    by_cases hq : q = j.toNatClampNeg
    · subst hq
      simp [updV, vp_updL]
    · simp [updV, vp_updL, hq]
  rw [hs] at hR2
  have hlen : h2.length = h.length := by rw [← hs, List.length_set]
  exact k p l e s m args below meth c D A α0 α H1 _ cells slots ls C (by rw [hlen]; exact E) hR2 (S.put z oq hA) L B
theorem x_alen {i t : Nat} {a : vp_A} (v : Int32) (hd : decode Y.2.1 pc = .ok (.arraylength, 1)) (hh : h[i]? = some (.inl (t, a))) (hv : Int32.ofNat a.1 = v) (k : xW ks Y d mc ms n0 Z kc kz (pc + 1) pl (.int v :: st) h) : xW ks Y d mc ms n0 Z kc kz pc pl (.ref i :: st) h := by
  intro p l e s m args below meth c D A α0 α H locs cells slots ls C E R S L B
  obtain ⟨⟨cA, h1, h2⟩, -⟩ := R.1 i _ hh rfl
  subst hv
  have hk := k p l e s m args below meth c D A α0 α H locs cells slots ls C E R S L B
  obtain ⟨n, f | f | f | f | f⟩ := a
  · exact W.alen (n := Int32.ofNat n) C.1 C.2.1 h1 (h2 n (fun j => .int (f j))) (by rw [vp_cell_i, arrV_size] <;> rfl) rfl rfl hd hk
  · exact W.alen (n := Int32.ofNat n) C.1 C.2.1 h1 (h2 n (fun j => .long (f j))) (by rw [vp_cell_l, arrV_size] <;> rfl) rfl rfl hd hk
  · exact W.alen (n := Int32.ofNat n) C.1 C.2.1 h1 (h2 n (fun j => .float (f j))) (by rw [vp_cell_f, arrV_size] <;> rfl) rfl rfl hd hk
  · exact W.alen (n := Int32.ofNat n) C.1 C.2.1 h1 (h2 n (fun j => .double (f j))) (by rw [vp_cell_d, arrV_size] <;> rfl) rfl rfl hd hk
  · exact W.alen (n := Int32.ofNat n) C.1 C.2.1 h1 (h2 n (fun j => va_rf (f j))) (by rw [vp_cell_q, arrV_size] <;> rfl) rfl rfl hd hk
/-- a class that can be made: what the tables say of it -/
def xNc (own : String) (idx ci N : Nat) (fs : List Value) : Prop :=
  ∃ (C : String) (T : u_T) (ty0 : Nat → FieldType), vwCl[ci]? = some (C, T, N) ∧ (∀ w ∈ u_ws C T N, w ∈ xT) ∧ (∀ k, k < N → parseFieldDescriptor (T k).2.2.1 = some (ty0 k)) ∧ Cond.classLink own idx C ∈ xT ∧ Cond.instantiable C N ∈ xT ∧ Cond.initialized C ∈ xT ∧ (∀ j, j < N → defaultValue (ty0 j) = vp_V fs j)
theorem x_new {idx ci N : Nat} {fs : List Value} {h2 : xH} {kc2 kz2 i : Nat} (hf : xNc Y.1.cls idx ci N fs) (hd : decode Y.2.1 pc = .ok (.new idx, 3)) (hn1 : xnrL h.length pl = true) (hn2 : st.all (xnr h.length) = true) (hn3 : xnrH h.length h = true) (hz : fs.map (xv id) = fs) (hfz : fs.all (fun v => match v with | .ref _ => false | _ => true) = true) (hle : h.length + 1 ≤ 1000) (hi : h.length = i) (hs : h ++ [.inr (ci, fs)] = h2) (hkc : kc = kc2 + 1) (hkz : kz = kz2 + N)
    (k : xW ks Y d mc ms n0 Z kc2 kz2 (pc + 3) pl (.ref i :: st) h2) : xW ks Y d mc ms n0 Z kc kz pc pl st h := by
  intro p l e s m args below meth c D A α0 α H locs cells slots ls C E R S L B
  obtain ⟨C1, T, ty0, hc, hin, hty, hcl, hinst, hini, hfs⟩ := hf
  have hK := x_K C
  have hts := x_hts C
  have hKn := hK.1 ci _ hc
  subst hi
  subst hs
  have hcl2 := x_in _ hcl C
  refine W.newcK C.1 C.2.1 C.2.2.2.2.1 hcl2 (x_in _ hinst C) (x_in _ hini C) rfl hd (by show cells + 1 ≤ mc; omega) (by show slots + N ≤ ms; omega) hKn.2.1 rfl fun H1 kC hkC e1 z1 o1 => ?_
  have hb : ∀ j : Nat, j ≠ h.length → (fun q => if q = h.length then H.size else α q) j = α j := fun j hj => by simp [hj]
  have em : st.map (xv α) = st.map (xv (fun q => if q = h.length then H.size else α q)) := (xmap_eq fun v hv => xv_nr hb (List.all_eq_true.mp hn2 v hv)).symm
  have el : xas (fun q => if q = h.length then H.size else α q) 0 pl = xas α 0 pl := xas_eq fun v hv => xv_nr hb (xnrL_of hn1 hv)
  have ef : fs.map (xv (fun q => if q = h.length then H.size else α q)) = fs := by
    have : fs.map (xv (fun q => if q = h.length then H.size else α q)) = fs.map (fun v => v) := List.map_congr_left fun v hv => by
      have := List.all_eq_true.mp hfz v hv
      cases v with
      | ref i => simp at this
      | _ => rfl
    rw [this]; simp
  have hR2 := R.push (c := .inr (ci, fs)) hn3 o1 (x_A C _ S.1) (by
    refine ⟨_, hc, ?_⟩
    show t_OB _ _ _ _ _ (vp_V (fs.map _))
    rw [ef]
    exact (u_born ty0 hts hin hKn hkC e1 hty).to hfs)
  have hk := k p l e s m args below meth c D A α0 (fun q => if q = h.length then H.size else α q) H1 locs (cells + 1) (slots + N) ls C ⟨⟨by rw [List.length_append]; exact Nat.le_trans E.1.1 (Nat.le_add_right _ _), fun j hj => by
    rw [List.length_append] at hj
    simp only [List.length_cons, List.length_nil] at hj
    have h1 := E.1.1
    have hne : j ≠ h.length := by omega
    simp only [hne, if_false]
    exact E.1.2 j (by omega)⟩, by rw [List.length_append]; simpa using hle⟩ hR2 ⟨Nat.le_trans S.1 (by omega), fun x h1 h2 => (o1 x (Nat.lt_of_lt_of_le h1 S.1)).trans (S.2.1 x h1 h2), S.2.2⟩ (by rw [el]; exact L) (by omega)
  have e5 : (Value.ref h.length :: st).map (xv (fun q => if q = h.length then H.size else α q)) = .ref H.size :: st.map (xv α) := by
    rw [List.map_cons, ← em]
    simp [xv]
  rw [e5] at hk
  exact hk
/-- the kind of an array that is made -/
def xat0 (t : Nat) (n : Nat) : vp_A := match t with
  | 1 => (n, .inr (.inl (fun _ => 0)))
  | _ => (n, .inl (fun _ => 0))
theorem x_newa {at_ : ArrayType} {t : Nat} {n : Int32} {N : Nat} {h2 : xH} {kc2 kz2 i : Nat} (hd : decode Y.2.1 pc = .ok (.newarray at_, 2)) (ht : newarray.typeOf at_ = xty t) (hw : Cond.arrayClass (newarray.typeOf at_) ∈ xT) (ha : ∀ cA : ClassId, vp_cell cA (xat0 t N) = arrV cA N (fun _ => defaultValue (xty t))) (hn : ¬ n < 0) (hN : n.toNatClampNeg = N) (hbytes : N * componentBytes (newarray.typeOf at_) ≤ 536870912)
    (hn1 : xnrL h.length pl = true) (hn2 : st.all (xnr h.length) = true) (hn3 : xnrH h.length h = true) (hle : h.length + 1 ≤ 1000) (hi : h.length = i) (hs : h ++ [.inl (t, xat0 t N)] = h2) (hkc : kc = kc2 + 1) (hkz : kz = kz2 + N)
    (k : xW ks Y d mc ms n0 Z kc2 kz2 (pc + 2) pl (.ref i :: st) h2) : xW ks Y d mc ms n0 Z kc kz pc pl (.int n :: st) h := by
  intro p l e s m args below meth c D A α0 α H locs cells slots ls C E R S L B
  subst hi
  subst hs
  refine va_newaK C.1 C.2.1 (x_in _ hw C) rfl hd rfl hn hN hbytes (by show cells + 1 ≤ mc; omega) (by show slots + N ≤ ms; omega) rfl fun H1 cA e1 z1 o1 hAr hNm => ?_
  have hb : ∀ j : Nat, j ≠ h.length → (fun q => if q = h.length then H.size else α q) j = α j := fun j hj => by simp [hj]
  have em : st.map (xv α) = st.map (xv (fun q => if q = h.length then H.size else α q)) := (xmap_eq fun v hv => xv_nr hb (List.all_eq_true.mp hn2 v hv)).symm
  have el : xas (fun q => if q = h.length then H.size else α q) 0 pl = xas α 0 pl := xas_eq fun v hv => xv_nr hb (xnrL_of hn1 hv)
  rw [ht] at hAr e1
  have hR2 := R.push (c := .inl (t, xat0 t N)) hn3 o1 (x_A C _ S.1) ⟨cA, by rw [ha]; exact e1, hAr⟩
  have hk := k p l e s m args below meth c D A α0 (fun q => if q = h.length then H.size else α q) H1 locs (cells + 1) (slots + N) ls C ⟨⟨by rw [List.length_append]; exact Nat.le_trans E.1.1 (Nat.le_add_right _ _), fun j hj => by
    rw [List.length_append] at hj
    simp only [List.length_cons, List.length_nil] at hj
    have h1 := E.1.1
    have hne : j ≠ h.length := by omega
    simp only [hne, if_false]
    exact E.1.2 j (by omega)⟩, by rw [List.length_append]; simpa using hle⟩ hR2 ⟨Nat.le_trans S.1 (by omega), fun x h1 h2 => (o1 x (Nat.lt_of_lt_of_le h1 S.1)).trans (S.2.1 x h1 h2), S.2.2⟩ (by rw [el]; exact L) (by omega)
  have e5 : (Value.ref h.length :: st).map (xv (fun q => if q = h.length then H.size else α q)) = .ref H.size :: st.map (xv α) := by
    rw [List.map_cons, ← em]
    simp [xv]
  rw [e5] at hk
  exact hk
/-- Object.<init> -/
theorem x_objInit {i idx : Nat} (hd : decode Y.2.1 pc = .ok (.invokespecial idx, 3)) (hw : Cond.methodLink Y.1.cls idx objectInit ∈ xT) (hi : Cond.instanceMethod objectInit ∈ xT) (hc : Cond.code objectInit ⟨#[0xb1]⟩ 1 none ∈ xT) (h1 : 1 ≤ d) (hr : (st.map fun v => v.category).sum ≤ 8) (k : xW ks Y d mc ms n0 Z kc kz (pc + 3) pl st h) : xW ks Y d mc ms n0 Z kc kz pc pl (.ref i :: st) h := by
  intro p l e s m args below meth c D A α0 α H locs cells slots ls C E R S L B
  refine W.objInit C.1 C.2.1 C.2.2.2.2.1 (x_in _ hw C) (x_in _ hi C) (x_in _ hc C) rfl (L.1.trans C.2.2.2.1.symm) rfl hd h1 ?_ (k p l e s m args below meth c D A α0 α H locs cells slots ls C E R S L B)
  have e : ((st.map (xv α)).map fun v => v.category) = st.map fun v => v.category := by
    rw [List.map_map]
    exact List.map_congr_left fun v _ => xv_cat α v
  show 2 * 0 + _ + 12 ≤ 64 * d
  rw [e]
  omega
theorem xQ_of {D : va_G} {s : State} {A : Nat → Prop} {α0 α : Nat → Nat} {H : Heap} {locs : List Loc} {args : Array Value} (E : xE α0 α n0 h.length ∧ h.length ≤ 1000) (R : xR D s α A h H) (S : va_S A s.heap H locs) {v : Option Value} : ∀ t : State, t.heap = H → s.WarmedH t.vm → xQ D α0 A n0 v h args s (.returned (v.map (xv α))) t := by
  intro t ht hW
  refine ⟨⟨α, rfl, E.1, ?_⟩, S.F ht⟩
  rw [ht]
  exact R.moved hW.alike
theorem x_iret {v : Int32} (hd : decode Y.2.1 pc = .ok (.ireturn, 1)) (hr : Y.2.2.2 = some .int) {r : Option Value} {h' : xH} (hv : r = some (.int v)) (hh : h' = h) : xW ks Y d mc ms n0 (xZ mc ms n0 r h') kc kz pc pl [.int v] h := by
  intro p l e s m args below meth c D A α0 α H locs cells slots ls C E R S L B
  subst hv
  subst hh
  refine W.widen (k := mc) (n := ms) (by omega) (by omega) ?_
  exact W.iret C.1 C.2.1 (C.2.2.1.trans hr) (xQ_of E R S (v := some (.int v))) S.2.2 hd C.2.2.2.2.2.2.1
theorem x_zret {v : Int32} (hd : decode Y.2.1 pc = .ok (.ireturn, 1)) {ty : FieldType} (hr : Y.2.2.2 = some ty) (hn : narrow ty (.int v) = .int v) {r : Option Value} {h' : xH} (hv : r = some (.int v)) (hh : h' = h) : xW ks Y d mc ms n0 (xZ mc ms n0 r h') kc kz pc pl [.int v] h := by
  intro p l e s m args below meth c D A α0 α H locs cells slots ls C E R S L B
  subst hv
  subst hh
  refine W.widen (k := mc) (n := ms) (by omega) (by omega) ?_
  exact W.zret C.1 C.2.1 (C.2.2.1.trans hr) hn (xQ_of E R S (v := some (.int v))) S.2.2 hd C.2.2.2.2.2.2.1
theorem x_lret {v : Int64} (hd : decode Y.2.1 pc = .ok (.lreturn, 1)) (hr : Y.2.2.2 = some .long) {r : Option Value} {h' : xH} (hv : r = some (.long v)) (hh : h' = h) : xW ks Y d mc ms n0 (xZ mc ms n0 r h') kc kz pc pl [.long v] h := by
  intro p l e s m args below meth c D A α0 α H locs cells slots ls C E R S L B
  subst hv
  subst hh
  refine W.widen (k := mc) (n := ms) (by omega) (by omega) ?_
  exact W.lret C.1 C.2.1 (C.2.2.1.trans hr) (xQ_of E R S (v := some (.long v))) S.2.2 hd C.2.2.2.2.2.2.1
theorem x_vret (hd : decode Y.2.1 pc = .ok (.return_, 1)) (hr : Y.2.2.2 = none) {r : Option Value} {h' : xH} (hv : r = none) (hh : h' = h) : xW ks Y d mc ms n0 (xZ mc ms n0 r h') kc kz pc pl [] h := by
  intro p l e s m args below meth c D A α0 α H locs cells slots ls C E R S L B
  subst hv
  subst hh
  refine W.widen (k := mc) (n := ms) (by omega) (by omega) ?_
  exact W.vret C.1 C.2.1 (C.2.2.1.trans hr) (xQ_of E R S (v := none)) S.2.2 hd C.2.2.2.2.2.2.1
theorem x_aret {i : Nat} {nm : String} (hd : decode Y.2.1 pc = .ok (.areturn, 1)) (hr : Y.2.2.2 = some (.object nm)) {r : Option Value} {h' : xH} (hv : r = some (.ref i)) (hh : h' = h) : xW ks Y d mc ms n0 (xZ mc ms n0 r h') kc kz pc pl [.ref i] h := by
  intro p l e s m args below meth c D A α0 α H locs cells slots ls C E R S L B
  subst hv
  subst hh
  refine W.widen (k := mc) (n := ms) (by omega) (by omega) ?_
  exact W.aret C.1 C.2.1 (C.2.2.1.trans hr) (Or.inl ⟨nm, rfl⟩) (Or.inr ⟨_, rfl⟩) (xQ_of E R S (v := some (.ref i))) S.2.2 hd C.2.2.2.2.2.2.1
end XARR
/-- the locals at the entry -/
def xpl : List Value → List (Option Value)
  | [] => []
  | v :: t => match v with
    | .long x => some (.long x) :: none :: xpl t
    | .double x => some (.double x) :: none :: xpl t
    | w => some w :: xpl t
theorem xpl_len (α : Nat → Nat) : ∀ as : List Value, (lg_sl (as.map (xv α))).length = (xpl as).length
  | [] => rfl
  | v :: t => by
    have ih := xpl_len α t
    have e : lg_sl ((v :: t).map (xv α)) = (if (xv α v).category = 2 then [Slot.val (xv α v), Slot.second] else [Slot.val (xv α v)]) ++ lg_sl (t.map (xv α)) := rfl
    rw [e, List.length_append, ih]
    cases v <;> simp [xpl, xv, Value.category] <;> omega
theorem xpl_in (α : Nat → Nat) : ∀ (as : List Value) (k n : Nat) (q : Nat × Value), q ∈ xas α k (xpl as ++ List.replicate n none) → q ∈ lv_args k (as.map (xv α))
  | [], k, n, q, h => by
    exfalso
    obtain ⟨i, v, h1, -⟩ := xas_of h
    simp only [xpl, List.nil_append] at h1
    rw [List.getElem?_replicate] at h1
    split at h1 <;> simp at h1
  | v :: t, k, n, q, h => by
    have ih := xpl_in α t
    cases v <;> simp only [xpl, List.cons_append, xas, List.mem_cons, List.map_cons, lv_args, xv, Value.category] at h ⊢
    all_goals first
      | (rcases h with h | h
         · exact Or.inl h
         · exact Or.inr (by simpa using ih _ n q h))
theorem xMet_of {ks : List xSK} {Y : xY} {d mc ms : Nat} {as : List Value} {h : xH} {r : Option Value} {h' : xH} {pl : List (Option Value)} (hy : plainName Y.1.cls = true) (hle : h.length ≤ 1000) (hp : xpl as ++ List.replicate (Y.2.2.1 - (xpl as).length) none = pl) (hl : (xpl as).length ≤ Y.2.2.1)
    (k : xW ks Y d mc ms h.length (xZ mc ms h.length r h') mc ms 0 pl [] h) : xMet ks Y d mc ms as h r h' := by
  intro l hlt D α sz
  refine Met.ofW (cc := Y.2.1) (maxL := Y.2.2.1) (ret := Y.2.2.2) (ws' := xT) hy rfl ?_
  intro p e s m args below meth c s₁ B hml hv
  obtain ⟨rfl, hsz, hR, hK, hSt, hN⟩ := hv
  subst hsz
  have hin := (name_of_methodNamed B.named B.method).1
  have C : xCx ks Y p l s m (as.map (xv α)).toArray meth c D (xA α h s.heap.size) α := ⟨B.exec, B.bytes, B.returns, hml, findClass_of_methodNamed B.named, atoms_spec (ws := xws Y) B.pre, B.notSynchronized, hin, hK, fun q hq => Or.inr hq, hSt, hN, hlt⟩
  have hlv := lv_entry (as.map (xv α)) (n := Y.2.2.1) (by rw [xpl_len]; exact hl)
  rw [lg_entry_eq]
  generalize (lg_sl (as.map (xv α)) ++ List.replicate (Y.2.2.1 - (lg_sl (as.map (xv α))).length) Slot.unset).toArray = ls at hlv ⊢
  have hL : lv_has ls Y.2.2.1 (xas α 0 pl) := ⟨hlv.1, hlv.2.1, fun q hq => hlv.2.2 q (by rw [← hp] at hq; exact xpl_in α as 0 _ q hq)⟩
  exact k p l e s m (as.map (xv α)).toArray below meth c D (xA α h s.heap.size) α α s.heap [] 0 0 ls C ⟨⟨Nat.le_refl _, fun _ _ => rfl⟩, hle⟩ hR va_S.rf hL (by omega)
