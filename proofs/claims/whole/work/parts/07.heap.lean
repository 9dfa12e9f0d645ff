/-! rows over the abstract heap: fields, arrays, new cells, calls, returns -/
theorem xat.kept {D : va_G} {s : State} {α : Nat → Nat} {a : Nat} {c : xC} {H H1 : Heap} (h : xat D s α a c H) (hq : H1[a]? = H[a]?) : xat D s α a c H1 := by
  cases c with
  | inl x =>
    obtain ⟨cA, h1, h2⟩ := h
    exact ⟨cA, hq.trans h1, h2⟩
  | inr o =>
    obtain ⟨r, h1, h2⟩ := h
    exact ⟨r, h1, h2.kept hq⟩
theorem xat.moved {D : va_G} {s t : State} {α : Nat → Nat} {a : Nat} {c : xC} {H : Heap} (hvm : s.vm.Alike t.vm) (h : xat D s α a c H) : xat D t α a c H := by
  cases c with
  | inl x =>
    obtain ⟨cA, h1, h2⟩ := h
    exact ⟨cA, h1, arrOfT_moved hvm h2⟩
  | inr o => exact h
theorem xat.lt {D : va_G} {s : State} {α : Nat → Nat} {a : Nat} {c : xC} {H : Heap} (h : xat D s α a c H) : a < H.size := by
  cases c with
  | inl x =>
    obtain ⟨cA, h1, h2⟩ := h
    exact (Array.getElem?_eq_some_iff.mp h1).1
  | inr o =>
    obtain ⟨r, h1, cell, h2, -⟩ := h
    exact (Array.getElem?_eq_some_iff.mp h2).1
theorem xR.moved {D : va_G} {s t : State} {α : Nat → Nat} {A : Nat → Prop} {h : xH} {H : Heap} (hvm : s.vm.Alike t.vm) (hR : xR D s α A h H) : xR D t α A h H :=
  ⟨fun i c hi hl => ⟨(hR.1 i c hi hl).1.moved hvm, (hR.1 i c hi hl).2⟩, hR.2⟩
theorem xR.mono {D : va_G} {s : State} {α : Nat → Nat} {A B : Nat → Prop} {h : xH} {H : Heap} (hAB : ∀ q, A q → B q) (hR : xR D s α A h H) : xR D s α B h H :=
  ⟨fun i c hi hl => ⟨(hR.1 i c hi hl).1, hAB _ (hR.1 i c hi hl).2⟩, hR.2⟩
theorem xR.set {D : va_G} {s : State} {α : Nat → Nat} {A : Nat → Prop} {h : xH} {H H1 : Heap} {i : Nat} {c0 c : xC} (hR : xR D s α A h H) (hi : h[i]? = some c0) (hl0 : xlive c0 = true) (hat : xat D s α (α i) c H1) (oq : ∀ q : Nat, q ≠ α i → H1[q]? = H[q]?) : xR D s α A (h.set i c) H1 := by
  have hlt := (List.getElem?_eq_some_iff.mp hi).1
  have key : ∀ (j : Nat) (c' : xC), (h.set i c)[j]? = some c' → xlive c' = true → (j = i ∧ c' = c) ∨ (j ≠ i ∧ h[j]? = some c') := by
    intro j c' hj hl
    by_cases e : j = i
    · subst e
      rw [List.getElem?_set_self hlt] at hj
      exact Or.inl ⟨rfl, (Option.some.inj hj).symm⟩
    · rw [List.getElem?_set_ne (Ne.symm e)] at hj
      exact Or.inr ⟨e, hj⟩
  refine ⟨fun j c' hj hl => ?_, fun j j2 c1 c2 h1 h2 l1 l2 he => ?_⟩
  · rcases key j c' hj hl with ⟨rfl, rfl⟩ | ⟨e, hj'⟩
    · exact ⟨hat, (hR.1 _ c0 hi hl0).2⟩
    · have := hR.1 j c' hj' hl
      exact ⟨this.1.kept (oq _ fun q => e (hR.2 j i c' c0 hj' hi hl hl0 q)), this.2⟩
  · rcases key j c1 h1 l1 with ⟨rfl, rfl⟩ | ⟨e, h1'⟩
    · rcases key j2 c2 h2 l2 with ⟨rfl, rfl⟩ | ⟨e2, h2'⟩
      · rfl
      · exact hR.2 _ _ c0 c2 hi h2' hl0 l2 he
    · rcases key j2 c2 h2 l2 with ⟨rfl, rfl⟩ | ⟨e2, h2'⟩
      · exact hR.2 _ _ c1 c0 h1' hi l1 hl0 he
      · exact hR.2 _ _ c1 c2 h1' h2' l1 l2 he
/-- a value that doesn't name the place n -/
def xnr (n : Nat) (v : Value) : Bool := match v with
  | .ref i => !(i == n)
  | _ => true
def xnrL (n : Nat) (pl : List (Option Value)) : Bool := pl.all fun o => match o with
  | some v => xnr n v
  | none => true
def xnrH (n : Nat) (h : xH) : Bool := h.all fun c => match c with
  | .inl _ => true
  | .inr o => o.2.all (xnr n)
/-- a value that names no place from n up to n' -/
def xlo (n n' : Nat) (v : Value) : Bool := match v with
  | .ref i => decide (i < n) || decide (n' ≤ i)
  | _ => true
def xloL (n n' : Nat) (pl : List (Option Value)) : Bool := pl.all fun o => match o with
  | some v => xlo n n' v
  | none => true
theorem xv_nr {α β : Nat → Nat} {n : Nat} (hb : ∀ i, i ≠ n → β i = α i) {v : Value} (h : xnr n v = true) : xv β v = xv α v := by
  cases v with
  | ref i =>
    simp only [xnr, Bool.not_eq_true', beq_eq_false_iff_ne] at h
    simp only [xv]
    rw [hb i h]
  | _ => rfl
theorem xv_lo {α β : Nat → Nat} {n n' : Nat} (hb : ∀ i : Nat, (i < n ∨ n' ≤ i) → β i = α i) {v : Value} (h : xlo n n' v = true) : xv β v = xv α v := by
  cases v with
  | ref i =>
    simp only [xlo, Bool.or_eq_true, decide_eq_true_eq] at h
    simp only [xv]
    rw [hb i h]
  | _ => rfl
theorem xmap_eq {α β : Nat → Nat} {l : List Value} (h : ∀ v ∈ l, xv β v = xv α v) : l.map (xv β) = l.map (xv α) := List.map_congr_left h
theorem xas_eq {α β : Nat → Nat} : ∀ {pl : List (Option Value)} {k : Nat}, (∀ v, some v ∈ pl → xv β v = xv α v) → xas β k pl = xas α k pl
  | [], _, _ => rfl
  | none :: t, k, h => by
    simp only [xas]
    exact xas_eq fun v hv => h v (List.mem_cons_of_mem _ hv)
  | some w :: t, k, h => by
    simp only [xas]
    rw [h w List.mem_cons_self, xas_eq fun v hv => h v (List.mem_cons_of_mem _ hv)]
theorem xnrL_of {n : Nat} {pl : List (Option Value)} (h : xnrL n pl = true) {v : Value} (hv : some v ∈ pl) : xnr n v = true := List.all_eq_true.mp h _ hv
theorem xloL_of {n n' : Nat} {pl : List (Option Value)} (h : xloL n n' pl = true) {v : Value} (hv : some v ∈ pl) : xlo n n' v = true := List.all_eq_true.mp h _ hv
/-- a cell that comes behind all others -/
theorem xR.push {D : va_G} {s : State} {α : Nat → Nat} {A : Nat → Prop} {h : xH} {H H1 : Heap} {c : xC} (hR : xR D s α A h H) (hn : xnrH h.length h = true) (o1 : ∀ q, q < H.size → H1[q]? = H[q]?) (hA : A H.size) (hat : xat D s (fun q => if q = h.length then H.size else α q) H.size c H1) :
    xR D s (fun q => if q = h.length then H.size else α q) A (h ++ [c]) H1 := by
  have key : ∀ (j : Nat) (c' : xC), (h ++ [c])[j]? = some c' → (j < h.length ∧ h[j]? = some c') ∨ (j = h.length ∧ c' = c) := by
    intro j c' hj
    by_cases hl : j < h.length
    · rw [List.getElem?_append_left hl] at hj
      exact Or.inl ⟨hl, hj⟩
    · rw [List.getElem?_append_right (by omega)] at hj
      have hz : j - h.length < 1 := (List.getElem?_eq_some_iff.mp hj).1
      have e : j = h.length := by omega
      subst e
      rw [Nat.sub_self] at hj
      exact Or.inr ⟨rfl, (Option.some.inj hj).symm⟩
  have tr : ∀ (j : Nat) (c' : xC), h[j]? = some c' → xlive c' = true → xat D s (fun q => if q = h.length then H.size else α q) (α j) c' H1 := by
    intro j c' hj hl
    have h0 := (hR.1 j c' hj hl).1
    have h1 := h0.kept (o1 _ h0.lt)
    cases c' with
    | inl x => exact h1
    | inr o =>
      obtain ⟨r, q1, q2⟩ := h1
      refine ⟨r, q1, ?_⟩
      have e : o.2.map (xv (fun q => if q = h.length then H.size else α q)) = o.2.map (xv α) := xmap_eq fun v hv => xv_nr (n := h.length) (fun i hi => by simp [hi]) (List.all_eq_true.mp (List.all_eq_true.mp hn _ (List.mem_of_getElem? hj)) v hv)
      rw [e]
      exact q2
  refine ⟨fun j c' hj hl => ?_, fun i j c1 c2 h1 h2 l1 l2 he => ?_⟩
  · rcases key j c' hj with ⟨hlt, hj'⟩ | ⟨rfl, rfl⟩
    · simp only [Nat.ne_of_lt hlt, if_false]
      exact ⟨tr j c' hj' hl, (hR.1 j c' hj' hl).2⟩
    · simp only [if_true]
      exact ⟨hat, hA⟩
  · rcases key i c1 h1 with ⟨hi, h1'⟩ | ⟨rfl, rfl⟩
    · have b1 := (hR.1 i c1 h1' l1).1.lt
      rcases key j c2 h2 with ⟨hj, h2'⟩ | ⟨rfl, rfl⟩
      · simp only [Nat.ne_of_lt hi, Nat.ne_of_lt hj, if_false] at he
        exact hR.2 i j c1 c2 h1' h2' l1 l2 he
      · simp only [Nat.ne_of_lt hi, if_false, if_true] at he
        omega
    · rcases key j c2 h2 with ⟨hj, h2'⟩ | ⟨rfl, rfl⟩
      · have b2 := (hR.1 j c2 h2' l2).1.lt
        simp only [Nat.ne_of_lt hj, if_false, if_true] at he
        omega
      · rfl
/-- a field of a class: what the tables say of it -/
def xFl (own : String) (idx ci kf : Nat) (fin : Bool) (ty : FieldType) : Prop :=
  ∃ (C : String) (T : u_T) (N : Nat) (ty0 : Nat → FieldType), vwCl[ci]? = some (C, T, N) ∧ kf < N ∧ (∀ w ∈ u_ws C T N, w ∈ xT) ∧ (∀ k, k < N → parseFieldDescriptor (T k).2.2.1 = some (ty0 k)) ∧ (∀ a, a < N → ∀ b, b < N → a ≠ b → (T a).2.1 ≠ (T b).2.1) ∧
    (T kf).2.2.2 = fin ∧ parseFieldDescriptor (T kf).2.2.1 = some ty ∧ (T kf).1 = C ∧ (Cond.fieldLink own idx (T kf).1 (T kf).2.1 (T kf).2.2.1 ∈ xT ∨ ∃ host : String, Cond.fieldLinkNest own idx (T kf).1 (T kf).2.1 (T kf).2.2.1 host ∈ xN)
/-- a final field, written in its own class's constructor -/
def xFf (own : String) (idx ci kf : Nat) (ty : FieldType) : Prop :=
  ∃ (T : u_T) (N : Nat) (ty0 : Nat → FieldType), vwCl[ci]? = some (own, T, N) ∧ kf < N ∧ (∀ w ∈ u_ws own T N, w ∈ xT) ∧ (∀ k, k < N → parseFieldDescriptor (T k).2.2.1 = some (ty0 k)) ∧ (∀ a, a < N → ∀ b, b < N → a ≠ b → (T a).2.1 ≠ (T b).2.1) ∧
    (T kf).2.2.2 = true ∧ parseFieldDescriptor (T kf).2.2.1 = some ty ∧ (T kf).1 = own ∧ Cond.fieldLink own idx (T kf).1 (T kf).2.1 (T kf).2.2.1 ∈ xT
theorem x_hts {ks : List xSK} {Y : xY} {p : Program} {l : Launch} {s : State} {m : MethodId} {args : Array Value} {meth : Method} {c : Code} {D : va_G} {A : Nat → Prop} {α0 : Nat → Nat} (C : xCx ks Y p l s m args meth c D A α0) : ∀ w ∈ xT, w.before args s = true := fun w hw => x_in w hw C
theorem x_nest {ks : List xSK} {Y : xY} {p : Program} {l : Launch} {s : State} {m : MethodId} {args : Array Value} {meth : Method} {c : Code} {D : va_G} {A : Nat → Prop} {α0 : Nat → Nat} (C : xCx ks Y p l s m args meth c D A α0) : xNw s := C.2.2.2.2.2.2.2.2.2.2.2.1
theorem x_K {ks : List xSK} {Y : xY} {p : Program} {l : Launch} {s : State} {m : MethodId} {args : Array Value} {meth : Method} {c : Code} {D : va_G} {A : Nat → Prop} {α0 : Nat → Nat} (C : xCx ks Y p l s m args meth c D A α0) : va_K D vwCl [] s := C.2.2.2.2.2.2.2.2.1
theorem x_A {ks : List xSK} {Y : xY} {p : Program} {l : Launch} {s : State} {m : MethodId} {args : Array Value} {meth : Method} {c : Code} {D : va_G} {A : Nat → Prop} {α0 : Nat → Nat} (C : xCx ks Y p l s m args meth c D A α0) : ∀ q, s.heap.size ≤ q → A q := C.2.2.2.2.2.2.2.2.2.1
section XHEAP
variable {ks : List xSK} {Y : xY} {d mc ms n0 : Nat} {Z : xEnd} {kc kz pc : Nat} {pl : List (Option Value)} {st : List Value} {h : xH}
theorem x_get {i idx ci kf : Nat} {fin : Bool} {ty : FieldType} {fs : List Value} {v : Value} (hf : xFl Y.1.cls idx ci kf fin ty) (hd : decode Y.2.1 pc = .ok (.getfield idx, 3)) (hh : h[i]? = some (.inr (ci, fs))) (hv : fs[kf]? = some v) (hl : xlive (.inr (ci, fs)) = true) (k : xW ks Y d mc ms n0 Z kc kz (pc + 3) pl (v :: st) h) : xW ks Y d mc ms n0 Z kc kz pc pl (.ref i :: st) h := by
  intro p l e s m args below meth c D A α0 α H locs cells slots ls C E R S L B
  obtain ⟨C1, T, N, ty0, hc, hN, hin, hty, hnm, -, -, -, hlink⟩ := hf
  have hk := k p l e s m args below meth c D A α0 α H locs cells slots ls C E R S L B
  have hat : va_P D vwCl [(α i, .inr (ci, fs.map (xv α)))] H := by
    intro q x hx
    cases q with
    | zero => cases hx; exact (R.1 i _ hh hl).1
    | succ q => simp at hx
  have hv' : (fs.map (xv α))[kf]? = some (xv α v) := by rw [List.getElem?_map, hv]; rfl
  rcases hlink with hlink | ⟨host, hlink⟩
  · exact va_get C.1 C.2.1 (x_hts C) hin C.2.2.2.2.1 (x_K C) hat 0 rfl hc kf hN (x_in _ hlink C) (fun x hx => hx) hv' hd hk
  · exact va_getN C.1 C.2.1 (x_hts C) hin C.2.2.2.2.1 (x_K C) hat 0 rfl hc kf hN (va_Nw.use rfl (x_nest C _ hlink)) (fun x hx => hx) hv' hd hk
theorem x_put {i idx ci kf : Nat} {ty : FieldType} {fs : List Value} {v : Value} {h2 : xH} (hf : xFl Y.1.cls idx ci kf false ty) (hd : decode Y.2.1 pc = .ok (.putfield idx, 3)) (hh : h[i]? = some (.inr (ci, fs))) (hl : xlive (.inr (ci, fs)) = true) (hk : kf < fs.length) (hn : ∀ α : Nat → Nat, narrow ty (xv α v) = xv α v ∧ fits ty (xv α v) = true) (hs : h.set i (.inr (ci, fs.set kf v)) = h2) (k : xW ks Y d mc ms n0 Z kc kz (pc + 3) pl st h2) : xW ks Y d mc ms n0 Z kc kz pc pl (v :: .ref i :: st) h := by
  intro p l e s m args below meth c D A α0 α H locs cells slots ls C E R S L B
  obtain ⟨C1, T, N, ty0, hc, hN, hin, hty, hnm, hfin, hd2, -, hlink⟩ := hf
  have hK := x_K C
  have hts := x_hts C
  have hap := va_apart (own := Y.1.cls) hts hin ty0 hty hnm hK hc
  obtain ⟨⟨r0, h1, cell, q1, q2, q3, q4⟩, hA⟩ := R.1 i _ hh hl
  have hr : r0 = (C1, T, N) := Option.some.inj (h1.symm.trans hc)
  subst hr
  obtain ⟨hS, hfc, kC, hkC, hkind⟩ := hK.1 ci _ hc
  obtain ⟨cf, kf2, fi, f, hi, hsl⟩ := hS kf hN
  have hlay := hts _ (hin _ (u_in_lay hN))
  unfold u_lay at hlay
  rw [if_neg (by rw [hfin]; decide)] at hlay
  have hst := (u_facts hfc hkC (u_lays hts hin hN) hi).1
  have h6 := u_store hfc hkC hkind hlay hi hd2 (hn α).1 (hn α).2
  have fin : ∀ (H1 : Heap) (kk : Nat), H1[α i]? = some (cell.setSlot (D.2 ci kf) (xv α v)) → H1.size = H.size → (∀ q, q ≠ α i → H1[q]? = H[q]?) → W p l e (xrm d mc ms) s m args below meth c H1 (locs ++ [⟨α i, kk⟩]) cells slots (Z s args below D A α0) (F0 m (pc + 3) ls (st.map (xv α))) := by
    intro H1 kk e1 e2 e3
    have hR2 : xR D s α A (h.set i (.inr (ci, fs.set kf v))) H1 := by
      refine R.set hh hl ?_ e3
      refine ⟨_, hc, ?_⟩
      have hkl : kf < (fs.map (xv α)).length := by rw [List.length_map]; exact hk
      have := t_OB.to (V := updV (vp_V (fs.map (xv α))) kf (xv α v)) (V' := vp_V ((fs.map (xv α)).set kf (xv α v))) ⟨_, e1, q2, q3, t_set q4 hap hN (xv α v)⟩ (fun j _ => vp_updV_set hkl (xv α v) j)
      rw [← List.map_set] at this
      exact this
    rw [hs] at hR2
    have hlen : h2.length = h.length := by rw [← hs, List.length_set]
    exact k p l e s m args below meth c D A α0 α H1 (locs ++ [⟨α i, kk⟩]) cells slots ls C (by rw [hlen]; exact E) hR2 (S.put e2 e3 hA) L B
  rcases hlink with hlink | ⟨host, hlink⟩
  · refine W.putK C.1 C.2.1 (f := f) ⟨C.2.2.2.2.1, x_in _ hlink C, ⟨_, _, _, hi⟩, hst⟩ (by rw [q2]; exact h6) q1 q3 (by rw [hsl]; exact k2_hasslot (q4 kf hN)) rfl rfl hd fun H1 e1 e2 e3 => ?_
    rw [hsl] at e1
    exact fin H1 _ e1 e2 e3
  · refine va_WputK C.1 C.2.1 (f := f) C.2.2.2.2.1 (va_Nw.use rfl (x_nest C _ hlink)) hi hst (by rw [q2]; exact h6) q1 q3 (by rw [hsl]; exact k2_hasslot (q4 kf hN)) rfl rfl hd fun H1 e1 e2 e3 => ?_
    rw [hsl] at e1
    exact fin H1 _ e1 e2 e3
theorem x_putF {i idx ci kf : Nat} {ty : FieldType} {fs : List Value} {v : Value} {h2 : xH} (hf : xFf Y.1.cls idx ci kf ty) (hni : Y.1.name = "<init>") (hd : decode Y.2.1 pc = .ok (.putfield idx, 3)) (hh : h[i]? = some (.inr (ci, fs))) (hl : xlive (.inr (ci, fs)) = true) (hk : kf < fs.length) (hn : ∀ α : Nat → Nat, narrow ty (xv α v) = xv α v ∧ fits ty (xv α v) = true) (hs : h.set i (.inr (ci, fs.set kf v)) = h2) (k : xW ks Y d mc ms n0 Z kc kz (pc + 3) pl st h2) : xW ks Y d mc ms n0 Z kc kz pc pl (v :: .ref i :: st) h := by
  intro p l e s m args below meth c D A α0 α H locs cells slots ls C E R S L B
  obtain ⟨T, N, ty0, hc, hN, hin, hty, hnm, hfin, hd2, hown, hlink⟩ := hf
  have hK := x_K C
  have hts := x_hts C
  have hap := va_apart (own := Y.1.cls) hts hin ty0 hty hnm hK hc
  obtain ⟨⟨r0, h1, cell, q1, q2, q3, q4⟩, hA⟩ := R.1 i _ hh hl
  have hr : r0 = (Y.1.cls, T, N) := Option.some.inj (h1.symm.trans hc)
  subst hr
  obtain ⟨hS, hfc, kC, hkC, hkind⟩ := hK.1 ci _ hc
  obtain ⟨cf, kf2, fi, f, hi, hsl⟩ := hS kf hN
  have hlay := hts _ (hin _ (u_in_lay hN))
  unfold u_lay at hlay
  rw [if_pos hfin] at hlay
  have hst := (u_facts hfc hkC (u_lays hts hin hN) hi).1
  have hcf : m.cls = cf := by
    obtain ⟨_, _, c', _, _, _, -, -, hf', -, -, -, hown2, -⟩ := Cond.laysFinal_spec hlay
    have e1 : c' = cf := by have := hi.symm.trans hf'; simp at this; exact this.1.symm
    rw [hown] at hown2
    rw [← e1]; exact Option.some.inj (C.2.2.2.2.1.symm.trans hown2)
  have h6 := u_fits hfc hkC hkind (Or.inr hlay) hi hd2 (hn α).1 (hn α).2
  refine W.putFinK C.1 C.2.1 C.2.2.2.2.1 (x_in _ hlink C) hi hst hcf (C.2.2.2.2.2.2.2.1.trans hni) (by rw [q2]; exact h6) q1 q3 (by rw [hsl]; exact k2_hasslot (q4 kf hN)) rfl rfl hd fun H1 e1 e2 e3 => ?_
  rw [hsl] at e1
  have hR2 : xR D s α A (h.set i (.inr (ci, fs.set kf v))) H1 := by
    refine R.set hh hl ?_ e3
    refine ⟨_, hc, ?_⟩
    have hkl : kf < (fs.map (xv α)).length := by rw [List.length_map]; exact hk
    have := t_OB.to (V := updV (vp_V (fs.map (xv α))) kf (xv α v)) (V' := vp_V ((fs.map (xv α)).set kf (xv α v))) ⟨_, e1, q2, q3, t_set q4 hap hN (xv α v)⟩ (fun j _ => vp_updV_set hkl (xv α v) j)
    rw [← List.map_set] at this
    exact this
  rw [hs] at hR2
  have hlen : h2.length = h.length := by rw [← hs, List.length_set]
  exact k p l e s m args below meth c D A α0 α H1 _ cells slots ls C (by rw [hlen]; exact E) hR2 (S.put e2 e3 hA) L B
end XHEAP
