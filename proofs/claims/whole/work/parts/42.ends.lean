/-! THE PURE PART: a day that ends, by the class (passDay) and by the reference (ends) -/
theorem nz10 : ((1 : Int32) = 0) = False := by decide
theorem nz01 : ((0 : Int32) = 1) = False := by decide
theorem zz : ((0 : Int32) = 0) = True := by decide
theorem oo : ((1 : Int32) = 1) = True := by decide
theorem m22 : ((-2 : Int32) = -2) = True := by decide
theorem d32 : ((3 : Int32) = 2) = False := by decide
theorem m2lt : ((-2 : Int32) < 0) = True := by decide
/-! well-formed rows -/
theorem wr.uh {np : Nat} {r : pA} {u : Nat} {v : Int32} (h : wr np r) (hu : u < 5) (hv : wv np v) : wr np (upd r u v) := by
  refine ⟨fun w hw => ?_, fun w hw => ?_, ?_⟩
  · by_cases e : w = u
    · subst e; rw [upd_at]; exact hv
    · rw [upd_ne _ _ e]; exact h.1 w hw
  · rw [upd_ne _ _ (by omega)]; exact h.2.1 w hw
  · rw [upd_ne _ _ (by omega)]; exact h.2.2
theorem wr.ut {np : Nat} {r : pA} {u : Nat} {v : Int32} (h : wr np r) (hu : u < 5) (hv : wv np v) : wr np (upd r (5 + u) v) := by
  refine ⟨fun w hw => ?_, fun w hw => ?_, ?_⟩
  · rw [upd_ne _ _ (by omega)]; exact h.1 w hw
  · by_cases e : w = u
    · subst e; rw [upd_at]; exact hv
    · rw [upd_ne _ _ (by omega)]; exact h.2.1 w hw
  · rw [upd_ne _ _ (by omega)]; exact h.2.2
theorem wr.ud {np : Nat} {r : pA} {d : Nat} (h : wr np r) (hd : d ≤ 30) : wr np (upd r 10 (nn d)) := by
  refine ⟨fun w hw => ?_, fun w hw => ?_, ?_⟩
  · rw [upd_ne _ _ (by omega)]; exact h.1 w hw
  · rw [upd_ne _ _ (by omega)]; exact h.2.1 w hw
  · exact ⟨d, hd, upd_at _ _ _⟩
theorem wv_none {np : Nat} : wv np (-2) := Or.inl rfl
theorem wv_p {np p : Nat} (h : p < np) : wv np (nn p) := Or.inr ⟨p, h, rfl⟩
theorem sTake_wr {np : Nat} {sort r : pA} {u : Nat} (h : wr np r) (hu : u < 5) : wr np (sTake sort r u) := by
  unfold sTake
  split
  · exact h
  · exact h.ut hu (h.1 u hu)
theorem sTitles_wr {np : Nat} {kind sort : pA} {rain : Int32} : ∀ (m k : Nat) (r : pA), k + m ≤ 5 → wr np r → wr np (sTitles kind sort rain m k r) := by
  intro m
  induction m with
  | zero => intro k r _ h; exact h
  | succ m ih =>
    intro k r hk h
    refine ih (k + 1) _ (by omega) ?_
    have := sTake_wr (sort := sort) h (show k < 5 by omega)
    (repeat' split) <;> assumption
theorem sLapse_wr {np : Nat} {kind : pA} : ∀ (m k : Nat) (r : pA), k + m ≤ 5 → wr np r → wr np (sLapse kind m k r) := by
  intro m
  induction m with
  | zero => intro k r _ h; exact h
  | succ m ih =>
    intro k r hk h
    refine ih (k + 1) _ (by omega) ?_
    have := h.ut (show k < 5 by omega) wv_none
    split <;> assumption
/-- the least is found where one is had -/
theorem sLeast_ok {lands r : pA} {p : Int32} : ∀ (m k : Nat) (least : Int32) (c : Nat), (least = -1 ∧ c = 0 ∨ ∃ j, j < k ∧ least = nn j) → (sLeast lands r p m k least = -1 ∧ sCount r p m k c = 0) ∨ ∃ j, j < k + m ∧ sLeast lands r p m k least = nn j := by
  intro m
  induction m with
  | zero =>
    intro k least c h
    rcases h with ⟨h1, h2⟩ | ⟨j, hj, e⟩
    · exact Or.inl ⟨h1, h2⟩
    · exact Or.inr ⟨j, by omega, e⟩
  | succ m ih =>
    intro k least c h
    have key : ((if r k = p then (if least = -1 then nn k else if lands least.toNatClampNeg ≤ lands k then least else nn k) else least) = -1 ∧ (if r k = p then c + 1 else c) = 0) ∨ ∃ j, j < k + 1 ∧ (if r k = p then (if least = -1 then nn k else if lands least.toNatClampNeg ≤ lands k then least else nn k) else least) = nn j := by
      by_cases q : r k = p
      · simp only [q, ↓reduceIte]
        right
        by_cases q2 : least = -1
        · exact ⟨k, by omega, by simp only [q2, ↓reduceIte]⟩
        · simp only [q2, ↓reduceIte]
          rcases h with ⟨h1, _⟩ | ⟨j, hj, e⟩
          · exact absurd h1 q2
          · split
            · exact ⟨j, by omega, e⟩
            · exact ⟨k, by omega, rfl⟩
      · simp only [q, ↓reduceIte]
        rcases h with h | ⟨j, hj, e⟩
        · exact Or.inl h
        · exact Or.inr ⟨j, by omega, e⟩
    have := ih (k + 1) _ _ key
    simp only [sLeast, sCount]
    rcases this with h | ⟨j, hj, e⟩
    · exact Or.inl h
    · exact Or.inr ⟨j, by omega, e⟩
theorem sForget_form {nu : Nat} {lands r : pA} {p : Int32} (hn : nu ≤ 5) : sForget nu lands r p = r ∨ ∃ j, j < nu ∧ (sLeast lands r p nu 0 (-1)) = nn j ∧ sForget nu lands r p = upd r j (-2) := by
  unfold sForget
  split
  · exact Or.inl rfl
  · rename_i q
    rcases sLeast_ok (lands := lands) (r := r) (p := p) nu 0 (-1) 0 (Or.inl ⟨rfl, rfl⟩) with ⟨_, h⟩ | ⟨j, hj, e⟩
    · omega
    · exact Or.inr ⟨j, by omega, e, by rw [e, nn_nat (by omega)]⟩
theorem sForget_wr {np nu : Nat} {lands r : pA} {p : Int32} (hn : nu ≤ 5) (h : wr np r) : wr np (sForget nu lands r p) := by
  rcases sForget_form (lands := lands) (r := r) (p := p) hn with e | ⟨j, hj, _, e⟩
  · rw [e]; exact h
  · rw [e]; exact h.uh (by omega) wv_none
theorem sForgets_wr {np nu : Nat} {sort lands : pA} (hn : nu ≤ 5) : ∀ (m k : Nat) (r : pA), wr np r → wr np (sForgets nu sort lands m k r) := by
  intro m
  induction m with
  | zero => intro k r h; exact h
  | succ m ih =>
    intro k r h
    refine ih (k + 1) _ ?_
    have := sForget_wr (lands := lands) (p := nn k) hn h
    split <;> assumption
theorem n30 : (30 : Int32) = nn 30 := rfl
theorem sDry_nn {rain : Int32} {d : Nat} (hd : d ≤ 30) : ∃ d', d' ≤ 30 ∧ sDry rain (nn d) = nn d' := by
  unfold sDry
  split
  · simp (disch := omega) only [n30, nn_le]
    split
    · exact ⟨d, hd, rfl⟩
    · exact ⟨d + 1, by omega, nn_succ d⟩
  · exact ⟨0, by omega, rfl⟩
theorem sPass_wr {np nu : Nat} {lapse rain : Int32} {kind sort r : pA} (hn : nu ≤ 5) (h : wr np r) : wr np (sPass nu lapse kind sort rain r) := by
  obtain ⟨d, hd, e⟩ := h.2.2
  obtain ⟨d', hd', e'⟩ := sDry_nn (rain := rain) hd
  have h1 : wr np (upd (sTitles kind sort rain nu 0 r) 10 (sDry rain (r 10))) := by
    rw [e, e']
    exact (sTitles_wr nu 0 r (by omega) h).ud hd'
  unfold sPass
  split
  · exact sLapse_wr nu 0 _ (by omega) h1
  · exact h1
theorem sEnds_wr {np nu : Nat} {lapse rain : Int32} {kind sort lands r : pA} (hn : nu ≤ 5) (h : wr np r) : wr np (sEnds nu np lapse kind sort lands rain r) := sForgets_wr hn np 0 _ (sPass_wr hn h)
/-! the reference -/
theorem qr_isChild {sort : pA} {p : Nat} (hp : p < 6) : e_hB_X9_isChild sort (nn p) = some (if sort p = 1 then 1 else 0) := by
  unfold e_hB_X9_isChild
  simp (disch := omega) only [xix_nn, nn_nat]
  split <;> rfl
theorem sTitles_h {kind sort : pA} {rain : Int32} : ∀ (m k : Nat) (r : pA) (u : Nat), u < 5 → sTitles kind sort rain m k r u = r u := by
  intro m
  induction m with
  | zero => intro k r u _; rfl
  | succ m ih =>
    intro k r u hu
    simp only [sTitles]
    rw [ih (k + 1) _ u hu]
    have h1 : sTake sort r k u = r u := by
      unfold sTake
      split
      · rfl
      · exact upd_ne _ _ (by omega)
    (repeat' split) <;> first | rfl | exact h1
theorem pr_ends_2 {nu np : Nat} (hn : nu ≤ 5) (hp : np ≤ 6) {lapse rain : Int32} {sort lands kind : pA} {K : Int32 → pA → Option pA} : ∀ (m k F : Nat) (r : pA), k + m = nu → m < F → (∀ u, u < 5 → wv np (r u)) → L_hB_X9_ends_2 (nn nu) lapse (nn np) sort lands kind rain K F (nn k) r = K (nn nu) (sTitles kind sort rain m k r) := by
  intro m
  induction m with
  | zero =>
    intro k F r e hF _
    obtain ⟨F, rfl⟩ : ∃ f, F = f + 1 := ⟨F - 1, by omega⟩
    obtain rfl : k = nu := by omega
    simp (disch := omega) only [L_hB_X9_ends_2, nn_le, Nat.le_refl, ↓reduceIte, sTitles]
  | succ m ih =>
    intro k F r e hF hw
    obtain ⟨F, rfl⟩ : ∃ f, F = f + 1 := ⟨F - 1, by omega⟩
    have hk : ¬ nu ≤ k := by omega
    simp only [sTitles]
    rw [← ih (k + 1) F _ (by omega) (by omega) (fun u hu => by
      have h1 := sTitles_h (kind := kind) (sort := sort) (rain := rain) 1 k r u hu
      simp only [sTitles] at h1
      rw [h1]
      exact hw u hu)]
    simp (disch := omega) only [L_hB_X9_ends_2, nn_le, hk, ↓reduceIte, xix_nn, nn_nat, nn_succ, nn_0add, nn_5add, nz10, zz]
    by_cases k3 : kind k = 3
    · have k2 : ¬ kind k = 2 := by rw [k3]; decide
      simp only [k3, d32, ↓reduceIte]
      by_cases q : rain = 0
      · simp only [q, ↓reduceIte, sTake]
        rcases hw k (by omega) with e1 | ⟨p, hpp, e1⟩
        · simp only [e1, ↓reduceIte, m22, true_or]
        · simp (disch := omega) only [e1, ↓reduceIte, nn_ne2, false_or, nn_nat, qr_isChild, Option.bind_some]
          by_cases s1 : sort p = 1
          · simp only [s1, ↓reduceIte, nz10]
          · simp only [s1, ↓reduceIte, zz]
      · simp only [q, ↓reduceIte]
    · simp only [k3, ↓reduceIte]
      by_cases q : rain = 0
      · simp only [q, ↓reduceIte, ite_self]
      · simp only [q, ↓reduceIte]
        by_cases k2 : kind k = 2
        · simp only [k2, ↓reduceIte]
        · simp only [k2, ↓reduceIte, sTake]
          rcases hw k (by omega) with e1 | ⟨p, hpp, e1⟩
          · simp only [e1, ↓reduceIte, m22, true_or]
          · simp (disch := omega) only [e1, ↓reduceIte, nn_ne2, false_or, nn_nat, qr_isChild, Option.bind_some]
            by_cases s1 : sort p = 1
            · simp only [s1, ↓reduceIte, nz10]
            · simp only [s1, ↓reduceIte, zz]
theorem pr_lapses {nu : Nat} (hn : nu ≤ 5) {kind : pA} {K : Int32 → pA → Option pA} : ∀ (m k F : Nat) (r : pA), k + m = nu → m < F → L_hB_X9_lapses_2 (nn nu) kind K F (nn k) r = K (nn nu) (sLapse kind m k r) := by
  intro m
  induction m with
  | zero =>
    intro k F r e hF
    obtain ⟨F, rfl⟩ : ∃ f, F = f + 1 := ⟨F - 1, by omega⟩
    obtain rfl : k = nu := by omega
    simp (disch := omega) only [L_hB_X9_lapses_2, nn_le, Nat.le_refl, ↓reduceIte, sLapse]
  | succ m ih =>
    intro k F r e hF
    obtain ⟨F, rfl⟩ : ∃ f, F = f + 1 := ⟨F - 1, by omega⟩
    have hk : ¬ nu ≤ k := by omega
    simp (disch := omega) only [L_hB_X9_lapses_2, nn_le, hk, ↓reduceIte, xix_nn, nn_nat, nn_succ, nn_5add, sLapse, ih]
    split <;> rfl
theorem qr_lapses {nu : Nat} (hn : nu ≤ 5) (kind r : pA) : e_hB_X9_lapses (nn nu) kind r = some (sLapse kind nu 0 r) := pr_lapses hn nu 0 200000 r (by omega) (by omega)
theorem qr_bits {nu : Nat} (hn : nu ≤ 5) (r : pA) (p : Int32) : e_hB_X9_bits (pHeld r p nu 0 0) = some (nn (sCount r p nu 0 0)) := by
  have hc : nu = 0 ∨ nu = 1 ∨ nu = 2 ∨ nu = 3 ∨ nu = 4 ∨ nu = 5 := by omega
  rcases hc with rfl | rfl | rfl | rfl | rfl | rfl
  all_goals
    simp only [pHeld, sCount]
    (repeat' split) <;> decide +kernel
theorem pr_forgets {nu : Nat} (hn : nu ≤ 5) {lands r : pA} {p : Int32} {K : Int32 → Int32 → Option pA} : ∀ (m k F : Nat) (least : Int32), k + m = nu → m < F → (least = -1 ∨ ∃ j, j < k ∧ least = nn j) → L_hB_X9_forgets_19 (nn nu) r lands p K F least (nn k) = K (sLeast lands r p m k least) (nn nu) := by
  intro m
  induction m with
  | zero =>
    intro k F least e hF _
    obtain ⟨F, rfl⟩ : ∃ f, F = f + 1 := ⟨F - 1, by omega⟩
    obtain rfl : k = nu := by omega
    simp (disch := omega) only [L_hB_X9_forgets_19, nn_le, Nat.le_refl, ↓reduceIte, sLeast]
  | succ m ih =>
    intro k F least e hF hl
    obtain ⟨F, rfl⟩ : ∃ f, F = f + 1 := ⟨F - 1, by omega⟩
    have hk : ¬ nu ≤ k := by omega
    have ihk : ∀ l2 : Int32, (l2 = -1 ∨ ∃ j, j < k + 1 ∧ l2 = nn j) → L_hB_X9_forgets_19 (nn nu) r lands p K F l2 (nn (k + 1)) = K (sLeast lands r p m (k + 1) l2) (nn nu) := fun l2 h2 => ih (k + 1) F l2 (by omega) (by omega) h2
    simp (disch := omega) only [L_hB_X9_forgets_19, nn_le, hk, ↓reduceIte, xix_nn, nn_nat, nn_succ, nn_0add, sLeast]
    by_cases q : r k = p
    · simp only [q, ↓reduceIte]
      rcases hl with rfl | ⟨j, hj, rfl⟩
      · simp only [↓reduceIte]
        exact ihk _ (Or.inr ⟨k, by omega, rfl⟩)
      · simp (disch := omega) only [nn_ne1, ↓reduceIte, xix_nn, nn_nat]
        by_cases q2 : lands j ≤ lands k
        · simp only [q2, ↓reduceIte]
          exact ihk _ (Or.inr ⟨j, by omega, rfl⟩)
        · simp only [q2, ↓reduceIte]
          exact ihk _ (Or.inr ⟨k, by omega, rfl⟩)
    · simp only [q, ↓reduceIte]
      exact ihk _ (hl.imp_right fun ⟨j, hj, e⟩ => ⟨j, by omega, e⟩)
theorem qr_forgets {nu : Nat} (hn : nu ≤ 5) (lands r : pA) (p : Int32) : e_hB_X9_forgets (nn nu) r lands p = some (sForget nu lands r p) := by
  unfold e_hB_X9_forgets
  rw [qr_hadBy hn, Option.bind_some, qr_bits hn, Option.bind_some]
  have hc : sCount r p nu 0 0 ≤ 5 := by
    have : ∀ (m k c : Nat), sCount r p m k c ≤ c + m := by
      intro m
      induction m with
      | zero => intro k c; exact Nat.le_refl _
      | succ m ih =>
        intro k c
        simp only [sCount]
        split
        · have := ih (k + 1) (c + 1); omega
        · have := ih (k + 1) c; omega
    have := this nu 0 0
    omega
  have h2 : ((2 : Int32) ≤ nn (sCount r p nu 0 0)) = (2 ≤ sCount r p nu 0 0) := nn_le (a := 2) (by omega) (by omega)
  simp only [h2]
  by_cases q : 2 ≤ sCount r p nu 0 0
  · rw [if_pos q]
    refine (pr_forgets hn nu 0 200000 (-1) (by omega) (by omega) (Or.inl rfl)).trans ?_
    rcases sForget_form (lands := lands) (r := r) (p := p) hn with e | ⟨j, hj, e1, e⟩
    · rcases sLeast_ok (lands := lands) (r := r) (p := p) nu 0 (-1) 0 (Or.inl ⟨rfl, rfl⟩) with ⟨_, h⟩ | ⟨j, hj, e1⟩
      · omega
      · simp (disch := omega) only [e1, nn_0add, xix_nn, nn_nat]
        unfold sForget
        rw [if_neg (by omega), e1, nn_nat (by omega)]
    · simp (disch := omega) only [e1, nn_0add, xix_nn, nn_nat, e]
  · rw [if_neg q]
    unfold sForget
    rw [if_pos (by omega)]
theorem pr_ends_153 {nu np : Nat} (hn : nu ≤ 5) (hp : np ≤ 6) {lapse : Int32} {sort lands kind : pA} {K : Int32 → pA → Option pA} : ∀ (m k F : Nat) (r : pA), k + m = np → m < F → L_hB_X9_ends_153 (nn nu) lapse (nn np) sort lands kind K F (nn k) r = K (nn np) (sForgets nu sort lands m k r) := by
  intro m
  induction m with
  | zero =>
    intro k F r e hF
    obtain ⟨F, rfl⟩ : ∃ f, F = f + 1 := ⟨F - 1, by omega⟩
    obtain rfl : k = np := by omega
    simp (disch := omega) only [L_hB_X9_ends_153, nn_le, Nat.le_refl, ↓reduceIte, sForgets]
  | succ m ih =>
    intro k F r e hF
    obtain ⟨F, rfl⟩ : ∃ f, F = f + 1 := ⟨F - 1, by omega⟩
    have hk : ¬ np ≤ k := by omega
    simp (disch := omega) only [L_hB_X9_ends_153, nn_le, hk, ↓reduceIte, xix_nn, nn_nat, nn_succ, sForgets, ih, qr_forgets, Option.bind_some]
    split <;> rfl
theorem upd_self (f : pA) (k : Nat) : upd f k (f k) = f := by
  funext j
  by_cases e : j = k
  · subst e; exact upd_at _ _ _
  · exact upd_ne _ _ e
theorem n10 : (10 : Int32).toNatClampNeg = 10 := rfl
theorem sTitles_d {kind sort : pA} {rain : Int32} : ∀ (m k : Nat) (r : pA), k + m ≤ 5 → sTitles kind sort rain m k r 10 = r 10 := by
  intro m
  induction m with
  | zero => intro k r _; rfl
  | succ m ih =>
    intro k r hk
    simp only [sTitles]
    rw [ih (k + 1) _ (by omega)]
    have h1 : sTake sort r k 10 = r 10 := by
      unfold sTake
      split
      · rfl
      · exact upd_ne _ _ (by omega)
    (repeat' split) <;> first | rfl | exact h1
theorem qr_ends {nu np : Nat} (hn : nu ≤ 5) (hp : np ≤ 6) {lapse rain : Int32} (hl : (0 : Int32) < lapse) {sort lands kind r : pA} (hw : ∀ u, u < 5 → wv np (r u)) : e_hB_X9_ends (nn nu) r lapse (nn np) sort lands kind rain = some (sEnds nu np lapse kind sort lands rain r) := by
  unfold e_hB_X9_ends
  refine (pr_ends_2 hn hp nu 0 200000 r (by omega) (by omega) hw).trans ?_
  have h153 : ∀ x : pA, L_hB_X9_ends_153 (nn nu) lapse (nn np) sort lands kind (fun _ y => some y) 200000 0 x = some (sForgets nu sort lands np 0 x) := fun x => pr_ends_153 hn hp np 0 200000 x (by omega) (by omega)
  simp only [n10, h153, qr_lapses hn, Option.bind_some, sTitles_d nu 0 r (by omega), upd_at]
  unfold sEnds sPass sDry
  by_cases q : rain = 0
  · simp only [q, ↓reduceIte, true_and]
    by_cases q2 : (30 : Int32) ≤ r 10
    · simp only [q2, ↓reduceIte]
      have e1 : upd (sTitles kind sort 0 nu 0 r) 10 (r 10) = sTitles kind sort 0 nu 0 r := by
        rw [← sTitles_d (kind := kind) (sort := sort) (rain := 0) nu 0 r (by omega)]
        exact upd_self _ _
      rw [e1]
      by_cases q3 : r 10 < lapse
      · simp only [q3, ↓reduceIte, not_true_eq_false]
      · simp only [q3, ↓reduceIte, not_false_eq_true]
    · simp only [q2, ↓reduceIte]
      by_cases q3 : r 10 + 1 < lapse
      · simp only [q3, ↓reduceIte, not_true_eq_false]
      · simp only [q3, ↓reduceIte, not_false_eq_true]
  · simp only [q, ↓reduceIte, false_and, hl]
