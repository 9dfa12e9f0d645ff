/-! rows found wanting later -/
theorem x_ldcSW {ks : List xSK} {Y : xY} {d mc ms n0 : Nat} {Z : xEnd} {kc kz pc : Nat} {pl : List (Option Value)} {st : List Value} {h : xH} {k idx : Nat} {q : xSK} (hk : ks[k]? = some q) (ho : q.1 = Y.1.cls) (hi : q.2.1 = idx) (hd : decode Y.2.1 pc = .ok (.ldc_w idx, 3)) (k9 : xW ks Y d mc ms n0 Z kc kz (pc + 3) pl (.ref (1000 + k) :: st) h) : xW ks Y d mc ms n0 Z kc kz pc pl st h := by
  intro p l e s m args below meth c D A α0 α H locs cells slots ls C E R S L B
  have h1 := (x_st hk C E).1
  rw [ho, hi] at h1
  have k8 := k9 p l e s m args below meth c D A α0 α H locs cells slots ls C E R S L B
  intro T hT X
  obtain ⟨t, a1, b1⟩ := k8 T hT X
  exact ⟨t, X.ldcStringW C.1 C.2.2.2.2.1 (text := q.2.2.1) (a := α (1000 + k)) h1.1 h1.2 (g := F0 m pc ls (st.map (xv α))) rfl (by rw [C.2.1]; exact hd) t a1, b1⟩
theorem xnrH_app {n : Nat} {P Q : xH} (h1 : xnrH n P = true) (h2 : xnrH n Q = true) : xnrH n (P ++ Q) = true := by
  unfold xnrH at h1 h2 ⊢
  rw [List.all_append, h1, h2]
  rfl
