/-! THE LAYER: abstract heaps (a list of cells, references are places in it), a method's contract over them, and a row an instruction -/
abbrev xC : Type := (Nat × vp_A) ⊕ (Nat × List Value)
abbrev xH : Type := List xC
abbrev xY : Type := MethodName × ByteArray × Nat × Option FieldType
/-- the words that every method may use -/
def xT : List Cond := lw_tbl.filter goodWord
/-- the words of nest mates -/
def xisN (w : Cond) : Bool := match w with
  | .fieldLinkNest _ _ _ _ _ _ => true
  | .methodLinkNest _ _ _ _ => true
  | _ => false
def xN : List Cond := lw_tbl.filter xisN
def xws (Y : xY) : List Cond := Cond.code Y.1 Y.2.1 Y.2.2.1 Y.2.2.2 :: xT
def xrm (d mc ms : Nat) : Room := { frames := d, cells := mc, slots := ms, locals := 64 * d }
def xv (α : Nat → Nat) (v : Value) : Value := match v with
  | .ref i => .ref (α i)
  | w => w
def xty (t : Nat) : FieldType := match t with
  | 0 => .int
  | 1 => .long
  | _ => .byte
def xlive (c : xC) : Bool := match c with
  | .inl _ => true
  | .inr o => !(o.1 == 99)
def xat (D : va_G) (s : State) (α : Nat → Nat) (a : Nat) (c : xC) (H : Heap) : Prop := match c with
  | .inl x => ∃ cA : ClassId, H[a]? = some (vp_cell cA x.2) ∧ ArrOfT s cA (xty x.1)
  | .inr o => ∃ r : vw_C, vwCl[o.1]? = some r ∧ t_OB a (D.1 o.1) r.2.2 (D.2 o.1) H (vp_V (o.2.map (xv α)))
def xR (D : va_G) (s : State) (α : Nat → Nat) (A : Nat → Prop) (h : xH) (H : Heap) : Prop :=
  (∀ (i : Nat) (c : xC), h[i]? = some c → xlive c = true → xat D s α (α i) c H ∧ A (α i)) ∧
  (∀ (i j : Nat) (c c' : xC), h[i]? = some c → h[j]? = some c' → xlive c = true → xlive c' = true → α i = α j → i = j)
def xE (α β : Nat → Nat) (n n' : Nat) : Prop := n ≤ n' ∧ ∀ i : Nat, (i < n ∨ n' ≤ i) → β i = α i
/-- which cells a method may change -/
def xA (α : Nat → Nat) (h : xH) (sz : Nat) : Nat → Prop := fun q => (∃ (i : Nat) (c : xC), h[i]? = some c ∧ xlive c = true ∧ q = α i) ∨ sz ≤ q
/-- the String constants: (class, entry, text, its bytes), the k-th is the reference 1000 + k, its bytes 2000 + k; statics that the JDK's methods read -/
abbrev xSK : Type := String × Nat × String × List Int32
def xSt (ks : List xSK) (α : Nat → Nat) (A : Nat → Prop) (s : State) : Prop :=
  (∀ (k : Nat) (q : xSK), ks[k]? = some q → vk_R q.1 q.2.1 q.2.2.1 (α (1000 + k)) s ∧ va_O "java/lang/String" (α (1000 + k)) A s s.heap ∧ va_OF "java/lang/String" "coder" "B" (.int 0) (α (1000 + k)) A s s.heap ∧
    va_OF "java/lang/String" "value" "[B" (.ref (α (2000 + k))) (α (1000 + k)) A s s.heap ∧ va_T .byte (α (2000 + k)) q.2.2.2.length (fun j => .int (q.2.2.2.getD j 0)) A s s.heap) ∧
  va_Z "java/lang/String" "COMPACT_STRINGS" "Z" (.int 1) A s s.heap ∧
  (va_Z "jdk/internal/util/Preconditions" "SIOOBE_FORMATTER" "Ljava/util/function/BiFunction;" .null A s s.heap ∨ va_Z "jdk/internal/util/Preconditions" "SIOOBE_FORMATTER" "Ljava/util/function/BiFunction;" (.ref (α 3000)) A s s.heap) ∧
  vx_Zq Bundle.tN "UNASSIGNED_STACK" Bundle.steD A s s.heap ∧ vx_Zq Bundle.tN "SUPPRESSED_SENTINEL" Bundle.listD A s s.heap
def xNw (s : State) : Prop := ∀ w ∈ xN, va_Nw w s
def xPre (ks : List xSK) (D : va_G) (α : Nat → Nat) (sz : Nat) (h : xH) (U : State) : Prop :=
  U.heap.size = sz ∧ xR D U α (xA α h sz) h U.heap ∧ va_K D vwCl [] U ∧ xSt ks α (xA α h sz) U ∧ xNw U
def xQ (D : va_G) (α : Nat → Nat) (A : Nat → Prop) (n : Nat) (r : Option Value) (h' : xH) : Array Value → State → Outcome → State → Prop := fun _ st oc t =>
  (∃ β : Nat → Nat, oc = .returned (r.map (xv β)) ∧ xE α β n h'.length ∧ xR D t β A h' t.heap) ∧ va_F A st t
/-- a method's contract: over the abstract heap h, with the arguments as, it answers r and leaves h' -/
def xMet (ks : List xSK) (Y : xY) (d mc ms : Nat) (as : List Value) (h : xH) (r : Option Value) (h' : xH) : Prop :=
  ∀ (l : Launch), l.stackTraces = false → ∀ (D : va_G) (α : Nat → Nat) (sz : Nat), Met l Y.1 (xws Y) (xrm d mc ms) (va_Pc (as.map (xv α)) (xPre ks D α sz h)) (xQ D α (xA α h sz) h.length r h') mc ms (xA α h sz)
/-- the locals, by their places -/
def xas (α : Nat → Nat) : Nat → List (Option Value) → List (Nat × Value)
  | _, [] => []
  | k, none :: t => xas α (k + 1) t
  | k, some v :: t => (k, xv α v) :: xas α (k + 1) t
def xCx (ks : List xSK) (Y : xY) (p : Program) (l : Launch) (s : State) (m : MethodId) (args : Array Value) (meth : Method) (c : Code) (D : va_G) (A : Nat → Prop) (α0 : Nat → Nat) : Prop :=
  p.tables.exec = Jvm.exec ∧ c.code = Y.2.1 ∧ meth.sig.returnType = Y.2.2.2 ∧ c.maxLocals = Y.2.2.1 ∧ s.vm.findClass Y.1.cls = some m.cls ∧ (∀ w ∈ xws Y, w.before args s = true) ∧ meth.locks = false ∧ meth.name = Y.1.name ∧ va_K D vwCl [] s ∧ (∀ q, s.heap.size ≤ q → A q) ∧ xSt ks α0 A s ∧ xNw s ∧ l.stackTraces = false
/-- where a method is to come to -/
abbrev xEnd : Type := State → Array Value → List Frame → va_G → (Nat → Prop) → (Nat → Nat) → State → Prop
/-- it returns r, and the heap is h' -/
def xZ (mc ms n0 : Nat) (r : Option Value) (h' : xH) : xEnd := fun s args below D A α0 => MQ below (xQ D α0 A n0 r h') args s mc ms A
/-- from here on: the method comes to Z -/
def xW (ks : List xSK) (Y : xY) (d mc ms n0 : Nat) (Z : xEnd) (kc kz pc : Nat) (pl : List (Option Value)) (st : List Value) (h : xH) : Prop :=
  ∀ (p : Program) (l : Launch) (e : Env) (s : State) (m : MethodId) (args : Array Value) (below : List Frame) (meth : Method) (c : Code) (D : va_G) (A : Nat → Prop) (α0 α : Nat → Nat) (H : Heap) (locs : List Loc) (cells slots : Nat) (ls : Array Slot),
    xCx ks Y p l s m args meth c D A α0 → (xE α0 α n0 h.length ∧ h.length ≤ 1000) → xR D s α A h H → va_S A s.heap H locs → lv_has ls Y.2.2.1 (xas α 0 pl) → (cells + kc ≤ mc ∧ slots + kz ≤ ms) →
    W p l e (xrm d mc ms) s m args below meth c H locs cells slots (Z s args below D A α0) (F0 m pc ls (st.map (xv α)))
theorem xas_mem {α : Nat → Nat} {pl : List (Option Value)} : ∀ {k i : Nat} {v : Value}, pl[i]? = some (some v) → (k + i, xv α v) ∈ xas α k pl := by
  induction pl with
  | nil => intro k i v h; simp at h
  | cons o t ih =>
    intro k i v h
    cases i with
    | zero =>
      simp at h
      subst h
      simp [xas]
    | succ i =>
      simp at h
      have := ih (k := k + 1) h
      have e : k + 1 + i = k + (i + 1) := by omega
      rw [e] at this
      cases o with
      | none => simpa [xas] using this
      | some w => simpa [xas] using this
theorem xas_of {α : Nat → Nat} {pl : List (Option Value)} : ∀ {k : Nat} {q : Nat × Value}, q ∈ xas α k pl → ∃ (i : Nat) (v : Value), pl[i]? = some (some v) ∧ q = (k + i, xv α v) := by
  induction pl with
  | nil => intro k q h; simp [xas] at h
  | cons o t ih =>
    intro k q h
    cases o with
    | none =>
      simp only [xas] at h
      obtain ⟨i, v, h1, h2⟩ := ih h
      exact ⟨i + 1, v, by simpa using h1, by rw [h2]; congr 1; omega⟩
    | some w =>
      simp only [xas, List.mem_cons] at h
      rcases h with h | h
      · exact ⟨0, w, by simp, by simpa using h⟩
      · obtain ⟨i, v, h1, h2⟩ := ih h
        exact ⟨i + 1, v, by simpa using h1, by rw [h2]; congr 1; omega⟩
theorem xl_get {α : Nat → Nat} {ls : Array Slot} {n : Nat} {pl : List (Option Value)} (L : lv_has ls n (xas α 0 pl)) {i : Nat} {v : Value} (h : pl[i]? = some (some v)) : ls[i]? = some (.val (xv α v)) := by
  have := L.2.2 _ (xas_mem (α := α) (k := 0) h)
  simpa using this
/-- a store of one word at i: a long that reaches into i is gone -/
def xst1 (pl : List (Option Value)) (i : Nat) (v : Value) : List (Option Value) := match i with
  | 0 => pl.set 0 (some v)
  | j + 1 => (match pl[j]? with
    | some (some (.long _)) => pl.set j none
    | some (some (.double _)) => pl.set j none
    | _ => pl).set (j + 1) (some v)
/-- a store of two words -/
def xst2 (pl : List (Option Value)) (i : Nat) (v : Value) : List (Option Value) := (xst1 pl i v).set (i + 1) none
theorem xv_cat (α : Nat → Nat) (v : Value) : (xv α v).category = v.category := by cases v <;> rfl
theorem xst1_of {pl : List (Option Value)} {i : Nat} {v : Value} {j : Nat} {w : Value} (h : (xst1 pl i v)[j]? = some (some w)) : (j = i ∧ w = v) ∨ (j ≠ i ∧ pl[j]? = some (some w) ∧ (j + 1 = i → w.category ≠ 2)) := by
  by_cases hj : j = i
  · subst hj
    left
    refine ⟨rfl, ?_⟩
    cases j with
    | zero =>
      simp only [xst1] at h
      rw [List.getElem?_set] at h
      simp at h
      exact h.2.symm
    | succ j =>
      simp only [xst1] at h
      rw [List.getElem?_set] at h
      simp at h
      exact h.2.symm
  · right
    refine ⟨hj, ?_⟩
    cases i with
    | zero =>
      simp only [xst1] at h
      rw [List.getElem?_set_ne (fun e => hj e.symm)] at h
      exact ⟨h, fun e => by omega⟩
    | succ i =>
      simp only [xst1] at h
      rw [List.getElem?_set_ne (fun e => hj e.symm)] at h
      by_cases hji : j = i
      · subst hji
        split at h
        · rename_i x hx
          rw [List.getElem?_set] at h
          simp at h
        · rename_i x hx
          rw [List.getElem?_set] at h
          simp at h
        · rename_i h1 h2
          refine ⟨h, fun _ => ?_⟩
          cases w with
          | long x => exact absurd h (h1 x)
          | double x => exact absurd h (h2 x)
          | _ => simp [Value.category]
      · have : pl[j]? = some (some w) := by
          split at h
          · rw [List.getElem?_set_ne (fun e => hji e.symm)] at h; exact h
          · rw [List.getElem?_set_ne (fun e => hji e.symm)] at h; exact h
          · exact h
        exact ⟨this, fun e => by omega⟩
theorem xl_st1 {α : Nat → Nat} {ls : Array Slot} {n i : Nat} {pl : List (Option Value)} {v : Value} (L : lv_has ls n ((i, xv α v) :: (xas α 0 pl).filter (fun q => !(q.1 == i) && !(q.1 + 1 == i && q.2.category == 2)))) : lv_has ls n (xas α 0 (xst1 pl i v)) := by
  refine ⟨L.1, L.2.1, fun q hq => L.2.2 q ?_⟩
  obtain ⟨j, w, h1, rfl⟩ := xas_of hq
  rcases xst1_of h1 with ⟨rfl, rfl⟩ | ⟨h2, h3, h4⟩
  · simp
  · refine List.mem_cons.mpr (Or.inr (List.mem_filter.mpr ⟨xas_mem h3, ?_⟩))
    simp only [Nat.zero_add, xv_cat]
    by_cases e : j + 1 = i
    · simp [h2, h4 e]
    · simp [h2, e]
theorem xl_st2 {α : Nat → Nat} {ls : Array Slot} {n i : Nat} {pl : List (Option Value)} {v : Value} (L : lv_has ls n ((i, xv α v) :: (xas α 0 pl).filter (fun q => !(q.1 == i) && (!(q.1 == i + 1) && !(q.1 + 1 == i && q.2.category == 2))))) : lv_has ls n (xas α 0 (xst2 pl i v)) := by
  refine ⟨L.1, L.2.1, fun q hq => L.2.2 q ?_⟩
  obtain ⟨j, w, h1, rfl⟩ := xas_of hq
  simp only [xst2] at h1
  rw [List.getElem?_set] at h1
  by_cases hji : i + 1 = j
  · rw [if_pos hji] at h1
    split at h1 <;> simp at h1
  · rw [if_neg hji] at h1
    rcases xst1_of h1 with ⟨rfl, rfl⟩ | ⟨h2, h3, h4⟩
    · simp
    · refine List.mem_cons.mpr (Or.inr (List.mem_filter.mpr ⟨xas_mem h3, ?_⟩))
      simp only [Nat.zero_add, xv_cat]
      have h5 : ¬ j = i + 1 := fun e => hji e.symm
      by_cases e : j + 1 = i
      · simp [h2, h4 e, h5]
      · simp [h2, e, h5]
