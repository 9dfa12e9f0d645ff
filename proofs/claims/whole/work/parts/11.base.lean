/-! what the printed functions are made of -/
def up {β : Type} (g : Nat → β) (k : Nat) (v : β) : Nat → β := fun i => bif Nat.beq i k then v else g i
/-- an index is looked at -/
def xix {R : Type} (j : Int32) (n : Nat) (k : Option R) : Option R := if j < 0 ∨ n ≤ j.toNatClampNeg then none else k
def xnz {R : Type} (b : Int32) (k : Option R) : Option R := if b = 0 then none else k
def xnzL {R : Type} (b : Int64) (k : Option R) : Option R := if b = 0 then none else k
/-- a boolean that is kept in a field: 0 or 1 -/
def xbo {R : Type} (b : Int32) (k : Option R) : Option R := if b = 0 then k else if b = 1 then k else none
theorem xix_of {R : Type} {j : Int32} {n : Nat} {k : Option R} {r : R} (h : xix j n k = some r) : vp_in j n ∧ k = some r := by
  unfold xix at h
  split at h
  · cases h
  · rename_i q
    exact ⟨q, h⟩
theorem xnz_of {R : Type} {b : Int32} {k : Option R} {r : R} (h : xnz b k = some r) : ¬ b = 0 ∧ k = some r := by
  unfold xnz at h
  split at h
  · cases h
  · rename_i q
    exact ⟨q, h⟩
theorem xnzL_of {R : Type} {b : Int64} {k : Option R} {r : R} (h : xnzL b k = some r) : ¬ b = 0 ∧ k = some r := by
  unfold xnzL at h
  split at h
  · cases h
  · rename_i q
    exact ⟨q, h⟩
theorem xbo_of {R : Type} {b : Int32} {k : Option R} {r : R} (h : xbo b k = some r) : (∀ α : Nat → Nat, narrow .boolean (xv α (.int b)) = xv α (.int b) ∧ fits .boolean (xv α (.int b)) = true) ∧ narrow .boolean (.int b) = .int b ∧ k = some r := by
  unfold xbo at h
  split at h
  · rename_i q
    subst q
    exact ⟨fun α => ⟨by rfl, by rfl⟩, by rfl, h⟩
  · split at h
    · rename_i q
      subst q
      exact ⟨fun α => ⟨by rfl, by rfl⟩, by rfl, h⟩
    · cases h
theorem xif_t {R : Type} {c : Prop} [Decidable c] {A B : Option R} {r : R} (q : c) (h : (if c then A else B) = some r) : A = some r := by rwa [if_pos q] at h
theorem xif_f {R : Type} {c : Prop} [Decidable c] {A B : Option R} {r : R} (q : ¬ c) (h : (if c then A else B) = some r) : B = some r := by rwa [if_neg q] at h
theorem xbind {α β : Type} {o : Option α} {f : α → Option β} {r : β} (h : o.bind f = some r) : ∃ x, o = some x ∧ f x = some r := by
  cases o with
  | none => cases h
  | some x => exact ⟨x, rfl, h⟩
/-- fewer locals are known -/
def xsb : List (Option Value) → List (Option Value) → Prop
  | [], _ => True
  | none :: t, _ :: u => xsb t u
  | none :: t, [] => xsb t []
  | some v :: t, o :: u => o = some v ∧ xsb t u
  | some _ :: _, [] => False
theorem xsb_get : ∀ {pl2 pl : List (Option Value)} {i : Nat} {v : Value}, xsb pl2 pl → pl2[i]? = some (some v) → pl[i]? = some (some v)
  | [], _, i, v, _, h => by simp at h
  | none :: t, o :: u, i, v, hs, h => by
    cases i with
    | zero => simp at h
    | succ i =>
      simp at h ⊢
      exact xsb_get (pl2 := t) (pl := u) hs h
  | none :: t, [], i, v, hs, h => by
    cases i with
    | zero => simp at h
    | succ i =>
      simp at h
      have := xsb_get (pl2 := t) (pl := []) hs h
      simp at this
  | some w :: t, o :: u, i, v, hs, h => by
    cases i with
    | zero =>
      simp at h ⊢
      rw [hs.1, h]
    | succ i =>
      simp at h ⊢
      exact xsb_get (pl2 := t) (pl := u) hs.2 h
theorem x_weak {ks : List xSK} {Y : xY} {d mc ms n0 : Nat} {Z : xEnd} {kc kz pc : Nat} {pl pl2 : List (Option Value)} {st : List Value} {h : xH} (hs : xsb pl2 pl) (k : xW ks Y d mc ms n0 Z kc kz pc pl2 st h) : xW ks Y d mc ms n0 Z kc kz pc pl st h := by
  intro p l e s m args below meth c D A α0 α H locs cells slots ls C E R S L B
  refine k p l e s m args below meth c D A α0 α H locs cells slots ls C E R S ⟨L.1, L.2.1, fun q hq => ?_⟩ B
  obtain ⟨i, v, h1, rfl⟩ := xas_of hq
  exact L.2.2 _ (xas_mem (xsb_get hs h1))
/-- another name of the same heap -/
theorem x_heap {ks : List xSK} {Y : xY} {d mc ms n0 : Nat} {Z : xEnd} {kc kz pc : Nat} {pl : List (Option Value)} {st : List Value} {h h2 : xH} (hs : h = h2) (k : xW ks Y d mc ms n0 Z kc kz pc pl st h2) : xW ks Y d mc ms n0 Z kc kz pc pl st h := by
  rw [hs]
  exact k
theorem x_tableK {ks : List xSK} {Y : xY} {d mc ms n0 : Nat} {Z : xEnd} {kc kz pc : Nat} {pl : List (Option Value)} {st : List Value} {h : xH} {dflt lo hi off : Int} {offs : Array Int} {len : Nat} {x kk : Int32} (tgt : Nat) (hx : x = kk) (hd : decode Y.2.1 pc = .ok (.tableswitch dflt lo hi offs, len)) (h1 : ¬ kk.toInt < lo) (h2 : ¬ hi < kk.toInt) (ho : offs[(kk.toInt - lo).toNat]? = some off) (ht : (pc : Int) + off = (tgt : Int)) (k : xW ks Y d mc ms n0 Z kc kz tgt pl st h) : xW ks Y d mc ms n0 Z kc kz pc pl (.int x :: st) h := by
  subst hx
  exact x_tableIn tgt hd h1 h2 ho ht k
theorem xMet.up {ks : List xSK} {Y : xY} {d mc ms : Nat} {as : List Value} {h : xH} {r : Option Value} {h' : xH} (k : xMet ks Y d mc ms as h r h') {d2 : Nat} (e : d = d2) : xMet ks Y d2 mc ms as h r h' := e ▸ k
theorem x_iret2 {ks : List xSK} {Y : xY} {d mc ms n0 : Nat} {Z : xEnd} {kc kz pc : Nat} {pl : List (Option Value)} {h : xH} {v : Int32} (hd : decode Y.2.1 pc = .ok (.ireturn, 1)) (hr : Y.2.2.2 = some .int) (hz : Z = xZ mc ms n0 (some (.int v)) h) : xW ks Y d mc ms n0 Z kc kz pc pl [.int v] h := by
  subst hz
  exact x_iret hd hr rfl rfl
theorem x_zret2 {ks : List xSK} {Y : xY} {d mc ms n0 : Nat} {Z : xEnd} {kc kz pc : Nat} {pl : List (Option Value)} {h : xH} {v : Int32} {ty : FieldType} (hd : decode Y.2.1 pc = .ok (.ireturn, 1)) (hr : Y.2.2.2 = some ty) (hn : narrow ty (.int v) = .int v) (hz : Z = xZ mc ms n0 (some (.int v)) h) : xW ks Y d mc ms n0 Z kc kz pc pl [.int v] h := by
  subst hz
  exact x_zret hd hr hn rfl rfl
theorem x_lret2 {ks : List xSK} {Y : xY} {d mc ms n0 : Nat} {Z : xEnd} {kc kz pc : Nat} {pl : List (Option Value)} {h : xH} {v : Int64} (hd : decode Y.2.1 pc = .ok (.lreturn, 1)) (hr : Y.2.2.2 = some .long) (hz : Z = xZ mc ms n0 (some (.long v)) h) : xW ks Y d mc ms n0 Z kc kz pc pl [.long v] h := by
  subst hz
  exact x_lret hd hr rfl rfl
theorem x_vret2 {ks : List xSK} {Y : xY} {d mc ms n0 : Nat} {Z : xEnd} {kc kz pc : Nat} {pl : List (Option Value)} {h : xH} (hd : decode Y.2.1 pc = .ok (.return_, 1)) (hr : Y.2.2.2 = none) (hz : Z = xZ mc ms n0 none h) : xW ks Y d mc ms n0 Z kc kz pc pl [] h := by
  subst hz
  exact x_vret hd hr rfl rfl
theorem x_aret2 {ks : List xSK} {Y : xY} {d mc ms n0 : Nat} {Z : xEnd} {kc kz pc : Nat} {pl : List (Option Value)} {h : xH} {i : Nat} {nm : String} (hd : decode Y.2.1 pc = .ok (.areturn, 1)) (hr : Y.2.2.2 = some (.object nm)) (hz : Z = xZ mc ms n0 (some (.ref i)) h) : xW ks Y d mc ms n0 Z kc kz pc pl [.ref i] h := by
  subst hz
  exact x_aret hd hr rfl rfl
