/-! THE PURE PART: copies, starts, what the log brings, a day -/
theorem sTake_congr {np u : Nat} {sort sort' r : pA} (hp : np ≤ 6) (hs : ∀ p, p < np → sort p = sort' p) (hw : wv np (r u)) : sTake sort r u = sTake sort' r u := by
  unfold sTake
  rcases hw with e | ⟨p, hpp, e⟩
  · rw [if_pos (Or.inl e), if_pos (Or.inl e)]
  · rw [e, nn_nat (by omega), hs p hpp]
theorem sTitles_congr {nu np : Nat} (hn : nu ≤ 5) (hp : np ≤ 6) {kind kind' sort sort' : pA} {rain : Int32} (hk : ∀ u, u < nu → kind u = kind' u) (hs : ∀ p, p < np → sort p = sort' p) : ∀ (m k : Nat) (r : pA), k + m ≤ nu → wr np r → sTitles kind sort rain m k r = sTitles kind' sort' rain m k r := by
  intro m
  induction m with
  | zero => intro k r _ _; rfl
  | succ m ih =>
    intro k r e hw
    simp only [sTitles]
    rw [hk k (by omega), sTake_congr hp hs (hw.1 k (by omega))]
    refine ih (k + 1) _ (by omega) ?_
    have := sTake_wr (sort := sort') hw (show k < 5 by omega)
    (repeat' split) <;> assumption
theorem sLapse_congr {nu : Nat} {kind kind' : pA} (hk : ∀ u, u < nu → kind u = kind' u) : ∀ (m k : Nat) (r : pA), k + m ≤ nu → sLapse kind m k r = sLapse kind' m k r := by
  intro m
  induction m with
  | zero => intro k r _; rfl
  | succ m ih =>
    intro k r e
    simp only [sLapse]
    rw [hk k (by omega), ih (k + 1) _ (by omega)]
theorem sLeast_congr {nu : Nat} (hn : nu ≤ 5) {lands lands' r : pA} {p : Int32} (hl : ∀ u, u < nu → lands u = lands' u) : ∀ (m k : Nat) (least : Int32), k + m ≤ nu → (least = -1 ∨ ∃ j, j < k ∧ least = nn j) → sLeast lands r p m k least = sLeast lands' r p m k least := by
  intro m
  induction m with
  | zero => intro k least _ _; rfl
  | succ m ih =>
    intro k least e h
    simp only [sLeast]
    by_cases q : r k = p
    · simp only [q, ↓reduceIte]
      rcases h with rfl | ⟨j, hj, rfl⟩
      · simp only [↓reduceIte]
        exact ih (k + 1) _ (by omega) (Or.inr ⟨k, by omega, rfl⟩)
      · simp (disch := omega) only [nn_ne1, nn_nat, ↓reduceIte, hl]
        split
        · exact ih (k + 1) _ (by omega) (Or.inr ⟨j, by omega, rfl⟩)
        · exact ih (k + 1) _ (by omega) (Or.inr ⟨k, by omega, rfl⟩)
    · simp only [q, ↓reduceIte]
      exact ih (k + 1) _ (by omega) (h.imp_right fun ⟨j, hj, e⟩ => ⟨j, by omega, e⟩)
theorem sForgets_congr {nu np : Nat} (hn : nu ≤ 5) {sort sort' lands lands' : pA} (hs : ∀ p, p < np → sort p = sort' p) (hl : ∀ u, u < nu → lands u = lands' u) : ∀ (m k : Nat) (r : pA), k + m ≤ np → sForgets nu sort lands m k r = sForgets nu sort' lands' m k r := by
  intro m
  induction m with
  | zero => intro k r _; rfl
  | succ m ih =>
    intro k r e
    simp only [sForgets]
    have : sForget nu lands r (nn k) = sForget nu lands' r (nn k) := by
      unfold sForget
      rw [sLeast_congr hn hl nu 0 (-1) (by omega) (Or.inl rfl)]
    rw [hs k (by omega), this, ih (k + 1) _ (by omega)]
theorem sEnds_congr {nu np : Nat} (hn : nu ≤ 5) (hp : np ≤ 6) {lapse rain : Int32} {kind kind' sort sort' lands lands' r : pA} (hk : ∀ u, u < nu → kind u = kind' u) (hs : ∀ p, p < np → sort p = sort' p) (hl : ∀ u, u < nu → lands u = lands' u) (hw : wr np r) : sEnds nu np lapse kind sort lands rain r = sEnds nu np lapse kind' sort' lands' rain r := by
  unfold sEnds sPass
  rw [sTitles_congr hn hp hk hs nu 0 r (by omega) hw, sLapse_congr hk nu 0 _ (by omega), sForgets_congr hn hs hl np 0 _ (by omega)]
/-! copies -/
theorem n5_ : (5 : Int32) = nn 5 := rfl
theorem n11_ : (11 : Int32) = nn 11 := rfl
theorem n41_ : (41 : Int32) = nn 41 := rfl
theorem pc_copyFrom {d d0 : Int32} {h t : pA} {K : Int32 → pA → pA → Option (Int32 × pA × pA)} : ∀ (m k F : Nat) (h1 t1 : pA), k + m = 5 → m < F → (∀ u, u < k → h1 u = h u ∧ t1 u = t u) → ∃ h' t', L_hA_X3_copyFrom_2 d d0 h t K F (nn k) h1 t1 = K (nn 5) h' t' ∧ ∀ u, u < 5 → h' u = h u ∧ t' u = t u := by
  intro m
  induction m with
  | zero =>
    intro k F h1 t1 e hF hh
    obtain ⟨F, rfl⟩ : ∃ f, F = f + 1 := ⟨F - 1, by omega⟩
    obtain rfl : k = 5 := by omega
    refine ⟨h1, t1, ?_, hh⟩
    simp (disch := omega) only [L_hA_X3_copyFrom_2, n5_, nn_le, Nat.le_refl, ↓reduceIte]
  | succ m ih =>
    intro k F h1 t1 e hF hh
    obtain ⟨F, rfl⟩ : ∃ f, F = f + 1 := ⟨F - 1, by omega⟩
    have hk : ¬ 5 ≤ k := by omega
    obtain ⟨h', t', g1, g2⟩ := ih (k + 1) F (upd h1 k (h k)) (upd t1 k (t k)) (by omega) (by omega) (fun u hu => by
      by_cases q : u = k
      · subst q; exact ⟨upd_at _ _ _, upd_at _ _ _⟩
      · rw [upd_ne _ _ q, upd_ne _ _ q]; exact hh u (by omega))
    refine ⟨h', t', ?_, g2⟩
    rw [← g1]
    simp (disch := omega) only [L_hA_X3_copyFrom_2, n5_, nn_le, hk, ↓reduceIte, xix_nn, nn_nat, nn_succ]
theorem qc_copyFrom (d d0 : Int32) (h h0 t t0 : pA) : ∃ h' t', e_hA_X3_copyFrom d d0 h h0 t t0 = some (d, h', t') ∧ mkr h' t' d = mkr h t d := by
  obtain ⟨h', t', g1, g2⟩ := pc_copyFrom (d := d) (d0 := d0) (h := h) (t := t) (K := fun _ a b => some (d, a, b)) 5 0 200000 h0 t0 (by omega) (by omega) (fun u hu => absurd hu (by omega))
  exact ⟨h', t', g1, mkr_congr (fun u hu => (g2 u hu).1) (fun u hu => (g2 u hu).2)⟩
theorem pr_tries {v : pA} (hv : cn v) {K : Int32 → pA → Option pA} : ∀ (m k F : Nat) (x : pA), k + m = 11 → m < F → cn x → (∀ u, u < k → x u = v u) → L_hB_X9_tries_2 v K F (nn k) x = K (nn 11) v := by
  intro m
  induction m with
  | zero =>
    intro k F x e hF hx hh
    obtain ⟨F, rfl⟩ : ∃ f, F = f + 1 := ⟨F - 1, by omega⟩
    obtain rfl : k = 11 := by omega
    obtain rfl : x = v := cn_eq hx hv hh
    simp (disch := omega) only [L_hB_X9_tries_2, n11_, nn_le, Nat.le_refl, ↓reduceIte]
  | succ m ih =>
    intro k F x e hF hx hh
    obtain ⟨F, rfl⟩ : ∃ f, F = f + 1 := ⟨F - 1, by omega⟩
    have hk : ¬ 11 ≤ k := by omega
    rw [← ih (k + 1) F (upd x k (v k)) (by omega) (by omega) (cn_upd hx (by omega)) (fun u hu => by
      by_cases q : u = k
      · subst q; exact upd_at _ _ _
      · rw [upd_ne _ _ q]; exact hh u (by omega))]
    simp (disch := omega) only [L_hB_X9_tries_2, n11_, nn_le, hk, ↓reduceIte, xix_nn, nn_nat, nn_succ]
theorem qr_tries {v x : pA} (hv : cn v) (hx : cn x) : e_hB_X9_tries v x = some v := pr_tries hv 11 0 200000 x (by omega) (by omega) hx (fun u hu => absurd hu (by omega))
/-! starts -/
def stH (nu : Nat) (w : pA) : pA := fun u => if u < nu then w u else -2
def stT (nu : Nat) (kind sort w : pA) : pA := fun u => if u < nu ∧ w u ≠ -2 ∧ kind u ≠ 2 ∧ sort (w u).toNatClampNeg ≠ 1 then w u else -2
def sStart (nu : Nat) (kind sort w : pA) : pA := mkr (stH nu w) (stT nu kind sort w) 0
theorem sStart_cn (nu : Nat) (kind sort w : pA) : cn (sStart nu kind sort w) := cn_mkr _ _ _
theorem sStart_wr {nu np : Nat} {kind sort w : pA} (hw : ∀ u, u < nu → wv np (w u)) : wr np (sStart nu kind sort w) := by
  refine ⟨fun u hu => ?_, fun u hu => ?_, 0, by omega, mkr_d⟩
  · unfold sStart
    rw [mkr_h hu]
    unfold stH
    split
    · exact hw u (by assumption)
    · exact wv_none
  · unfold sStart
    rw [mkr_t hu]
    unfold stT
    split
    · rename_i q; exact hw u q.1
    · exact wv_none
theorem sStart_congr {nu np : Nat} (hp : np ≤ 6) {kind kind' sort sort' w w' : pA} (hk : ∀ u, u < nu → kind u = kind' u) (hs : ∀ p, p < np → sort p = sort' p) (hw : ∀ u, u < nu → w u = w' u) (hv : ∀ u, u < nu → wv np (w u)) : sStart nu kind sort w = sStart nu kind' sort' w' := by
  unfold sStart
  refine mkr_congr (fun u _ => ?_) (fun u _ => ?_)
  · unfold stH
    split
    · exact hw u (by assumption)
    · rfl
  · unfold stT
    by_cases q : u < nu
    · rw [← hw u q, ← hk u q]
      rcases hv u q with e | ⟨p, hpp, e⟩
      · rw [e]; simp
      · rw [e, nn_nat (by omega), hs p hpp]
    · simp only [q, false_and, ↓reduceIte]
theorem pr_starts {nu np : Nat} (hn : nu ≤ 5) (hp : np ≤ 6) {kind sort w : pA} (hw : ∀ u, u < nu → wv np (w u)) {K : Int32 → pA → Option pA} : ∀ (m k F : Nat) (x : pA), k + m = 5 → m < F → cn x → x 10 = 0 → (∀ u, u < k → x u = stH nu w u ∧ x (5 + u) = stT nu kind sort w u) → L_hB_X9_starts_7 (nn nu) kind sort w K F (nn k) x = K (nn 5) (sStart nu kind sort w) := by
  intro m
  induction m with
  | zero =>
    intro k F x e hF hx h10 hh
    obtain ⟨F, rfl⟩ : ∃ f, F = f + 1 := ⟨F - 1, by omega⟩
    obtain rfl : k = 5 := by omega
    have ex : x = sStart nu kind sort w := by
      refine cn_eq hx (sStart_cn _ _ _ _) fun j hj => ?_
      unfold sStart
      by_cases q : j < 5
      · rw [mkr_h q]; exact (hh j q).1
      · by_cases q2 : j < 10
        · obtain ⟨u, rfl⟩ : ∃ u, j = 5 + u := ⟨j - 5, by omega⟩
          rw [mkr_t (by omega)]; exact (hh u (by omega)).2
        · obtain rfl : j = 10 := by omega
          rw [mkr_d]; exact h10
    simp (disch := omega) only [L_hB_X9_starts_7, n5_, nn_le, Nat.le_refl, ↓reduceIte, ex]
  | succ m ih =>
    intro k F x e hF hx h10 hh
    obtain ⟨F, rfl⟩ : ∃ f, F = f + 1 := ⟨F - 1, by omega⟩
    have hk : ¬ 5 ≤ k := by omega
    rw [← ih (k + 1) F (upd (upd x k (stH nu w k)) (5 + k) (stT nu kind sort w k)) (by omega) (by omega) (cn_upd (cn_upd hx (by omega)) (by omega)) (by rw [upd_ne _ _ (by omega), upd_ne _ _ (by omega)]; exact h10) (fun u hu => by
      by_cases q : u = k
      · subst q; exact ⟨by rw [upd_ne _ _ (by omega), upd_at], upd_at _ _ _⟩
      · rw [upd_ne _ _ (by omega), upd_ne _ _ (by omega), upd_ne _ _ (by omega), upd_ne _ _ (by omega)]; exact hh u (by omega))]
    by_cases q : nu ≤ k
    · have e1 : stH nu w k = -2 := if_neg (by omega)
      have e2 : stT nu kind sort w k = -2 := if_neg (fun z => by omega)
      simp (disch := omega) only [L_hB_X9_starts_7, n5_, nn_le, hk, q, ↓reduceIte, xix_nn, nn_nat, nn_succ, nn_0add, nn_add, e1, e2]
    · have e1 : stH nu w k = w k := if_pos (by omega)
      rcases hw k (by omega) with g | ⟨p, hpp, g⟩
      · have e2 : stT nu kind sort w k = -2 := if_neg (fun z => z.2.1 g)
        simp (disch := omega) only [L_hB_X9_starts_7, n5_, nn_le, hk, q, ↓reduceIte, xix_nn, nn_nat, nn_succ, nn_0add, nn_add, e1, e2, g]
      · by_cases k2 : kind k = 2
        · have e2 : stT nu kind sort w k = -2 := if_neg (fun z => z.2.2.1 k2)
          simp (disch := omega) only [L_hB_X9_starts_7, n5_, nn_le, hk, q, ↓reduceIte, xix_nn, nn_nat, nn_succ, nn_0add, nn_add, e1, e2, g, nn_ne2, k2]
        · by_cases s1 : sort p = 1
          · have e2 : stT nu kind sort w k = -2 := if_neg (fun z => z.2.2.2 (by rw [g, nn_nat (by omega)]; exact s1))
            simp (disch := omega) only [L_hB_X9_starts_7, n5_, nn_le, hk, q, ↓reduceIte, xix_nn, nn_nat, nn_succ, nn_0add, nn_add, e1, e2, g, nn_ne2, k2, qr_isChild, s1, Option.bind_some, nz10]
          · have e2 : stT nu kind sort w k = nn p := by
              unfold stT
              rw [if_pos ⟨by omega, by rw [g]; intro z; rw [nn_ne2 (by omega)] at z; exact z, k2, by rw [g, nn_nat (by omega)]; exact s1⟩, g]
            simp (disch := omega) only [L_hB_X9_starts_7, n5_, nn_le, hk, q, ↓reduceIte, xix_nn, nn_nat, nn_succ, nn_0add, nn_add, e1, e2, g, nn_ne2, k2, qr_isChild, s1, Option.bind_some, zz]
theorem qr_starts {nu np : Nat} (hn : nu ≤ 5) (hp : np ≤ 6) {kind sort w x : pA} (hw : ∀ u, u < nu → wv np (w u)) (hx : cn x) : e_hB_X9_starts x (nn nu) kind sort w = some (sStart nu kind sort w) := by
  unfold e_hB_X9_starts
  exact pr_starts hn hp hw 5 0 200000 _ (by omega) (by omega) (cn_upd hx (by decide)) (upd_at _ _ _) (fun u hu => absurd hu (by omega))
