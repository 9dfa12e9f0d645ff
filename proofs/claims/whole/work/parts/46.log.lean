/-! THE PURE PART: begin, the log, a day -/
theorem pc_begin {nu np : Nat} (hn : nu ≤ 5) (hp : np ≤ 6) {kind sort w : pA} (hw : ∀ u, u < nu → wv np (w u)) {K : Int32 → pA → pA → Option (Int32 × pA × pA)} : ∀ (m k F : Nat) (h t : pA), k + m = 5 → m < F → (∀ u, u < k → h u = stH nu w u ∧ t u = stT nu kind sort w u) → ∃ h' t', L_hA_X3_begin_7 0 (nn nu) kind sort w K F (nn k) h t = K (nn 5) h' t' ∧ mkr h' t' 0 = sStart nu kind sort w := by
  intro m
  induction m with
  | zero =>
    intro k F h t e hF hh
    obtain ⟨F, rfl⟩ : ∃ f, F = f + 1 := ⟨F - 1, by omega⟩
    obtain rfl : k = 5 := by omega
    refine ⟨h, t, ?_, mkr_congr (fun u hu => (hh u hu).1) (fun u hu => (hh u hu).2)⟩
    simp (disch := omega) only [L_hA_X3_begin_7, n5_, nn_le, Nat.le_refl, ↓reduceIte]
  | succ m ih =>
    intro k F h t e hF hh
    obtain ⟨F, rfl⟩ : ∃ f, F = f + 1 := ⟨F - 1, by omega⟩
    have hk : ¬ 5 ≤ k := by omega
    have key : ∀ t2 : pA, (∀ u, u ≠ k → t2 u = t u) → t2 k = stT nu kind sort w k → ∃ h' t', L_hA_X3_begin_7 0 (nn nu) kind sort w K F (nn (k + 1)) (upd h k (stH nu w k)) t2 = K (nn 5) h' t' ∧ mkr h' t' 0 = sStart nu kind sort w := fun t2 a1 a2 => ih (k + 1) F _ t2 (by omega) (by omega) (fun u hu => by
      by_cases q : u = k
      · subst q; exact ⟨upd_at _ _ _, a2⟩
      · rw [upd_ne _ _ q, a1 u q]; exact hh u (by omega))
    by_cases q : nu ≤ k
    · have e1 : stH nu w k = -2 := if_neg (by omega)
      have e2 : stT nu kind sort w k = -2 := if_neg (fun z => by omega)
      obtain ⟨h', t', g1, g2⟩ := key (upd t k (-2)) (fun u hu => upd_ne _ _ hu) (by rw [upd_at, e2])
      refine ⟨h', t', ?_, g2⟩
      rw [← g1, e1]
      simp (disch := omega) only [L_hA_X3_begin_7, n5_, nn_le, hk, q, ↓reduceIte, xix_nn, nn_nat, nn_succ]
    · have e1 : stH nu w k = w k := if_pos (by omega)
      by_cases k2 : kind k = 2
      · have e2 : stT nu kind sort w k = -2 := if_neg (fun z => z.2.2.1 k2)
        obtain ⟨h', t', g1, g2⟩ := key (upd t k (-2)) (fun u hu => upd_ne _ _ hu) (by rw [upd_at, e2])
        refine ⟨h', t', ?_, g2⟩
        rw [← g1, e1]
        simp (disch := omega) only [L_hA_X3_begin_7, n5_, nn_le, hk, q, ↓reduceIte, xix_nn, nn_nat, nn_succ, k2]
      · rcases hw k (by omega) with g | ⟨p, hpp, g⟩
        · have e2 : stT nu kind sort w k = -2 := if_neg (fun z => z.2.1 g)
          obtain ⟨h', t', g1, g2⟩ := key (upd t k (-2)) (fun u hu => upd_ne _ _ hu) (by rw [upd_at, e2])
          refine ⟨h', t', ?_, g2⟩
          rw [← g1, e1]
          simp (disch := omega) only [L_hA_X3_begin_7, n5_, nn_le, hk, q, ↓reduceIte, xix_nn, nn_nat, nn_succ, k2, e_hA_X3_takeTitle, upd_at, g, lt0_2, Option.bind_some]
        · by_cases s1 : sort p = 1
          · have e2 : stT nu kind sort w k = -2 := if_neg (fun z => z.2.2.2 (by rw [g, nn_nat (by omega)]; exact s1))
            obtain ⟨h', t', g1, g2⟩ := key (upd t k (-2)) (fun u hu => upd_ne _ _ hu) (by rw [upd_at, e2])
            refine ⟨h', t', ?_, g2⟩
            rw [← g1, e1]
            simp (disch := omega) only [L_hA_X3_begin_7, n5_, nn_le, hk, q, ↓reduceIte, xix_nn, nn_nat, nn_succ, k2, e_hA_X3_takeTitle, upd_at, g, nn_pos, s1, Option.bind_some]
          · have e2 : stT nu kind sort w k = nn p := by
              unfold stT
              rw [if_pos ⟨by omega, by rw [g]; intro z; rw [nn_ne2 (by omega)] at z; exact z, k2, by rw [g, nn_nat (by omega)]; exact s1⟩, g]
            obtain ⟨h', t', g1, g2⟩ := key (upd (upd t k (-2)) k (nn p)) (fun u hu => by rw [upd_ne _ _ hu, upd_ne _ _ hu]) (by rw [upd_at, e2])
            refine ⟨h', t', ?_, g2⟩
            rw [← g1, e1]
            simp (disch := omega) only [L_hA_X3_begin_7, n5_, nn_le, hk, q, ↓reduceIte, xix_nn, nn_nat, nn_succ, k2, e_hA_X3_takeTitle, upd_at, g, nn_pos, s1, Option.bind_some]
theorem qc_begin {nu np : Nat} (hn : nu ≤ 5) (hp : np ≤ 6) {kind sort w : pA} (hw : ∀ u, u < nu → wv np (w u)) (d : Int32) (h t : pA) : ∃ h' t', e_hA_X3_begin d (nn nu) h t kind sort w = some (0, h', t') ∧ mkr h' t' 0 = sStart nu kind sort w := by
  obtain ⟨h', t', g1, g2⟩ := pc_begin hn hp (kind := kind) (sort := sort) hw (K := fun _ a b => some (0, a, b)) 5 0 200000 h t (by omega) (by omega) (fun u hu => absurd hu (by omega))
  exact ⟨h', t', g1, g2⟩
theorem pc_begin_2 {nu np : Nat} (hn : nu ≤ 5) (hp : np ≤ 6) {kind sort w : pA} (hw : ∀ u, u < nu → wv np (w u)) {K : Int32 → pA → pA → Option (Int32 × pA × pA)} : ∀ (m k F : Nat) (h t : pA), k + m = 5 → m < F → (∀ u, u < k → h u = stH nu w u ∧ t u = stT nu kind sort w u) → ∃ h' t', L_hA_X3_begin_2_7 0 (nn nu) kind sort w K F (nn k) h t = K (nn 5) h' t' ∧ mkr h' t' 0 = sStart nu kind sort w := by
  intro m
  induction m with
  | zero =>
    intro k F h t e hF hh
    obtain ⟨F, rfl⟩ : ∃ f, F = f + 1 := ⟨F - 1, by omega⟩
    obtain rfl : k = 5 := by omega
    refine ⟨h, t, ?_, mkr_congr (fun u hu => (hh u hu).1) (fun u hu => (hh u hu).2)⟩
    simp (disch := omega) only [L_hA_X3_begin_2_7, n5_, nn_le, Nat.le_refl, ↓reduceIte]
  | succ m ih =>
    intro k F h t e hF hh
    obtain ⟨F, rfl⟩ : ∃ f, F = f + 1 := ⟨F - 1, by omega⟩
    have hk : ¬ 5 ≤ k := by omega
    have key : ∀ t2 : pA, (∀ u, u ≠ k → t2 u = t u) → t2 k = stT nu kind sort w k → ∃ h' t', L_hA_X3_begin_2_7 0 (nn nu) kind sort w K F (nn (k + 1)) (upd h k (stH nu w k)) t2 = K (nn 5) h' t' ∧ mkr h' t' 0 = sStart nu kind sort w := fun t2 a1 a2 => ih (k + 1) F _ t2 (by omega) (by omega) (fun u hu => by
      by_cases q : u = k
      · subst q; exact ⟨upd_at _ _ _, a2⟩
      · rw [upd_ne _ _ q, a1 u q]; exact hh u (by omega))
    by_cases q : nu ≤ k
    · have e1 : stH nu w k = -2 := if_neg (by omega)
      have e2 : stT nu kind sort w k = -2 := if_neg (fun z => by omega)
      obtain ⟨h', t', g1, g2⟩ := key (upd t k (-2)) (fun u hu => upd_ne _ _ hu) (by rw [upd_at, e2])
      refine ⟨h', t', ?_, g2⟩
      rw [← g1, e1]
      simp (disch := omega) only [L_hA_X3_begin_2_7, n5_, nn_le, hk, q, ↓reduceIte, xix_nn, nn_nat, nn_succ]
    · have e1 : stH nu w k = w k := if_pos (by omega)
      by_cases k2 : kind k = 2
      · have e2 : stT nu kind sort w k = -2 := if_neg (fun z => z.2.2.1 k2)
        obtain ⟨h', t', g1, g2⟩ := key (upd t k (-2)) (fun u hu => upd_ne _ _ hu) (by rw [upd_at, e2])
        refine ⟨h', t', ?_, g2⟩
        rw [← g1, e1]
        simp (disch := omega) only [L_hA_X3_begin_2_7, n5_, nn_le, hk, q, ↓reduceIte, xix_nn, nn_nat, nn_succ, k2]
      · rcases hw k (by omega) with g | ⟨p, hpp, g⟩
        · have e2 : stT nu kind sort w k = -2 := if_neg (fun z => z.2.1 g)
          obtain ⟨h', t', g1, g2⟩ := key (upd t k (-2)) (fun u hu => upd_ne _ _ hu) (by rw [upd_at, e2])
          refine ⟨h', t', ?_, g2⟩
          rw [← g1, e1]
          simp (disch := omega) only [L_hA_X3_begin_2_7, n5_, nn_le, hk, q, ↓reduceIte, xix_nn, nn_nat, nn_succ, k2, e_hA_X3_takeTitle, upd_at, g, lt0_2, Option.bind_some]
        · by_cases s1 : sort p = 1
          · have e2 : stT nu kind sort w k = -2 := if_neg (fun z => z.2.2.2 (by rw [g, nn_nat (by omega)]; exact s1))
            obtain ⟨h', t', g1, g2⟩ := key (upd t k (-2)) (fun u hu => upd_ne _ _ hu) (by rw [upd_at, e2])
            refine ⟨h', t', ?_, g2⟩
            rw [← g1, e1]
            simp (disch := omega) only [L_hA_X3_begin_2_7, n5_, nn_le, hk, q, ↓reduceIte, xix_nn, nn_nat, nn_succ, k2, e_hA_X3_takeTitle, upd_at, g, nn_pos, s1, Option.bind_some]
          · have e2 : stT nu kind sort w k = nn p := by
              unfold stT
              rw [if_pos ⟨by omega, by rw [g]; intro z; rw [nn_ne2 (by omega)] at z; exact z, k2, by rw [g, nn_nat (by omega)]; exact s1⟩, g]
            obtain ⟨h', t', g1, g2⟩ := key (upd (upd t k (-2)) k (nn p)) (fun u hu => by rw [upd_ne _ _ hu, upd_ne _ _ hu]) (by rw [upd_at, e2])
            refine ⟨h', t', ?_, g2⟩
            rw [← g1, e1]
            simp (disch := omega) only [L_hA_X3_begin_2_7, n5_, nn_le, hk, q, ↓reduceIte, xix_nn, nn_nat, nn_succ, k2, e_hA_X3_takeTitle, upd_at, g, nn_pos, s1, Option.bind_some]
theorem qc_begin_2 {nu np : Nat} (hn : nu ≤ 5) (hp : np ≤ 6) {kind sort w : pA} (hw : ∀ u, u < nu → wv np (w u)) (d : Int32) (h t : pA) : ∃ h' t', e_hA_X3_begin_2 d (nn nu) h t kind sort w = some (0, h', t') ∧ mkr h' t' 0 = sStart nu kind sort w := by
  obtain ⟨h', t', g1, g2⟩ := pc_begin_2 hn hp (kind := kind) (sort := sort) hw (K := fun _ a b => some (0, a, b)) 5 0 200000 h t (by omega) (by omega) (fun u hu => absurd hu (by omega))
  exact ⟨h', t', g1, g2⟩
/-! what the log brings -/
def sHap1 (wh on ot : pA) (k : Nat) (r : pA) : pA :=
  if wh k = 0 then upd r (on k).toNatClampNeg (ot k) else if wh k = 1 then upd r (on k).toNatClampNeg (-2) else if wh k = 2 then upd (upd r (on k).toNatClampNeg (r (ot k).toNatClampNeg)) (ot k).toNatClampNeg (r (on k).toNatClampNeg) else r
def sHap (wh on ot dy : pA) (day : Int32) : Nat → Nat → Int32 → pA → Int32 × pA
  | 0, _, rain, r => (rain, r)
  | m + 1, k, rain, r => if dy k = day then sHap wh on ot dy day m (k + 1) (if wh k = 3 then 1 else rain) (sHap1 wh on ot k r) else sHap wh on ot dy day m (k + 1) rain r
/-- a line of the log that is well told -/
def lgOk (nu np : Nat) (wh on ot : pA) (k : Nat) : Prop :=
  (wh k = 0 ∧ (∃ u, u < nu ∧ on k = nn u) ∧ ∃ p, p < np ∧ ot k = nn p) ∨ (wh k = 1 ∧ ∃ u, u < nu ∧ on k = nn u) ∨ (wh k = 2 ∧ (∃ u, u < nu ∧ on k = nn u) ∧ ∃ v, v < nu ∧ ot k = nn v) ∨ wh k = 3
theorem sHap1_wr {nu np k : Nat} (hn : nu ≤ 5) {wh on ot r : pA} (hk : lgOk nu np wh on ot k) (hw : wr np r) : wr np (sHap1 wh on ot k r) := by
  unfold sHap1
  rcases hk with ⟨a, ⟨u, hu, b⟩, p, hpp, c⟩ | ⟨a, u, hu, b⟩ | ⟨a, ⟨u, hu, b⟩, v, hv, c⟩ | a
  · rw [if_pos a, b, c, nn_nat (by omega)]; exact hw.uh (by omega) (wv_p hpp)
  · rw [a, if_neg (by decide), if_pos rfl, b, nn_nat (by omega)]; exact hw.uh (by omega) wv_none
  · rw [a, if_neg (by decide), if_neg (by decide), if_pos rfl, b, c, nn_nat (by omega), nn_nat (by omega)]
    exact (hw.uh (by omega) (hw.1 v (by omega))).uh (by omega) (hw.1 u (by omega))
  · rw [a, if_neg (by decide), if_neg (by decide), if_neg (by decide)]; exact hw
theorem sHap1_cn {nu np k : Nat} (hn : nu ≤ 5) {wh on ot r : pA} (hk : lgOk nu np wh on ot k) (hc : cn r) : cn (sHap1 wh on ot k r) := by
  unfold sHap1
  rcases hk with ⟨a, ⟨u, hu, b⟩, p, hpp, c⟩ | ⟨a, u, hu, b⟩ | ⟨a, ⟨u, hu, b⟩, v, hv, c⟩ | a
  · rw [if_pos a, b, c, nn_nat (by omega)]; exact cn_upd hc (by omega)
  · rw [a, if_neg (by decide), if_pos rfl, b, nn_nat (by omega)]; exact cn_upd hc (by omega)
  · rw [a, if_neg (by decide), if_neg (by decide), if_pos rfl, b, c, nn_nat (by omega), nn_nat (by omega)]
    exact cn_upd (cn_upd hc (by omega)) (by omega)
  · rw [a, if_neg (by decide), if_neg (by decide), if_neg (by decide)]; exact hc
theorem sHap_ok {nu np nl : Nat} (hn : nu ≤ 5) {wh on ot dy : pA} {day : Int32} (hk : ∀ k, k < nl → lgOk nu np wh on ot k) : ∀ (m k : Nat) (rain : Int32) (r : pA), k + m ≤ nl → (rain = 0 ∨ rain = 1) → wr np r → cn r → ((sHap wh on ot dy day m k rain r).1 = 0 ∨ (sHap wh on ot dy day m k rain r).1 = 1) ∧ wr np (sHap wh on ot dy day m k rain r).2 ∧ cn (sHap wh on ot dy day m k rain r).2 := by
  intro m
  induction m with
  | zero => intro k rain r _ h1 h2 h3; exact ⟨h1, h2, h3⟩
  | succ m ih =>
    intro k rain r e h1 h2 h3
    simp only [sHap]
    split
    · refine ih (k + 1) _ _ (by omega) ?_ (sHap1_wr hn (hk k (by omega)) h2) (sHap1_cn hn (hk k (by omega)) h3)
      split
      · exact Or.inr rfl
      · exact h1
    · exact ih (k + 1) _ _ (by omega) h1 h2 h3
/-- two logs that say the same -/
def lgEq (nl : Nat) (wh on ot dy wh' on' ot' dy' : pA) : Prop := ∀ k, k < nl → wh k = wh' k ∧ dy k = dy' k ∧ (wh k ≠ 3 → on k = on' k) ∧ (wh k = 0 ∨ wh k = 2 → ot k = ot' k)
theorem sHap_congr {nl : Nat} {wh on ot dy wh' on' ot' dy' : pA} {day : Int32} (h : lgEq nl wh on ot dy wh' on' ot' dy') : ∀ (m k : Nat) (rain : Int32) (r : pA), k + m ≤ nl → sHap wh on ot dy day m k rain r = sHap wh' on' ot' dy' day m k rain r := by
  intro m
  induction m with
  | zero => intro k rain r _; rfl
  | succ m ih =>
    intro k rain r e
    obtain ⟨a, b, c, d⟩ := h k (by omega)
    have : sHap1 wh on ot k r = sHap1 wh' on' ot' k r := by
      unfold sHap1
      rw [← a]
      by_cases q0 : wh k = 0
      · rw [if_pos q0, if_pos q0, c (by rw [q0]; decide), d (Or.inl q0)]
      · rw [if_neg q0, if_neg q0]
        by_cases q1 : wh k = 1
        · rw [if_pos q1, if_pos q1, c (by rw [q1]; decide)]
        · rw [if_neg q1, if_neg q1]
          by_cases q2 : wh k = 2
          · rw [if_pos q2, if_pos q2, c (by rw [q2]; decide), d (Or.inr q2)]
          · rw [if_neg q2, if_neg q2]
    simp only [sHap]
    rw [← a, ← b, this, ih (k + 1) _ _ (by omega), ih (k + 1) _ _ (by omega)]
def sDay (nu np : Nat) (lapse : Int32) (kind sort lands : pA) (nl : Nat) (wh on ot dy : pA) (day : Int32) (r : pA) : pA :=
  sEnds nu np lapse kind sort lands (sHap wh on ot dy day nl 0 0 r).1 (sHap wh on ot dy day nl 0 0 r).2
theorem sDay_ok {nu np nl : Nat} (hn : nu ≤ 5) (hp : np ≤ 6) {lapse : Int32} (hl : (0 : Int32) < lapse) {kind sort lands wh on ot dy : pA} (hk : ∀ k, k < nl → lgOk nu np wh on ot k) {day : Int32} {r : pA} (hw : wr np r) (hc : cn r) : wr np (sDay nu np lapse kind sort lands nl wh on ot dy day r) ∧ cn (sDay nu np lapse kind sort lands nl wh on ot dy day r) := by
  obtain ⟨h1, h2, h3⟩ := sHap_ok (day := day) (dy := dy) hn hk nl 0 0 r (by omega) (Or.inl rfl) hw hc
  exact ⟨sEnds_wr hn h2, sEnds_cn hn hp hl h1 h2 h3⟩
theorem sDay_congr {nu np nl : Nat} (hn : nu ≤ 5) (hp : np ≤ 6) {lapse : Int32} {kind sort lands wh on ot dy kind' sort' lands' wh' on' ot' dy' : pA} (hk : ∀ u, u < nu → kind u = kind' u) (hs : ∀ p, p < np → sort p = sort' p) (hl : ∀ u, u < nu → lands u = lands' u) (hg : lgEq nl wh on ot dy wh' on' ot' dy') (hok : ∀ k, k < nl → lgOk nu np wh on ot k) {day : Int32} {r : pA} (hw : wr np r) (hc : cn r) : sDay nu np lapse kind sort lands nl wh on ot dy day r = sDay nu np lapse kind' sort' lands' nl wh' on' ot' dy' day r := by
  unfold sDay
  rw [← sHap_congr hg nl 0 0 r (by omega)]
  exact sEnds_congr hn hp hk hs hl (sHap_ok hn hok nl 0 0 r (by omega) (Or.inl rfl) hw hc).2.1
theorem lgOk_congr {nu np nl : Nat} {wh on ot dy wh' on' ot' dy' : pA} (hg : lgEq nl wh on ot dy wh' on' ot' dy') (hok : ∀ k, k < nl → lgOk nu np wh on ot k) : ∀ k, k < nl → lgOk nu np wh' on' ot' k := by
  intro k hk
  obtain ⟨a, b, c, d⟩ := hg k hk
  rcases hok k hk with ⟨x, y, z⟩ | ⟨x, y⟩ | ⟨x, y, z⟩ | x
  · exact Or.inl ⟨by rw [← a]; exact x, by rw [← c (by rw [x]; decide)]; exact y, by rw [← d (Or.inl x)]; exact z⟩
  · exact Or.inr (Or.inl ⟨by rw [← a]; exact x, by rw [← c (by rw [x]; decide)]; exact y⟩)
  · exact Or.inr (Or.inr (Or.inl ⟨by rw [← a]; exact x, by rw [← c (by rw [x]; decide)]; exact y, by rw [← d (Or.inr x)]; exact z⟩))
  · exact Or.inr (Or.inr (Or.inr (by rw [← a]; exact x)))
/-! the reference -/
theorem t3 : ((3 : Int32).toInt < 0 ∨ 2 < (3 : Int32).toInt) = True := by decide
theorem t0 : ((0 : Int32).toInt < 0 ∨ 2 < (0 : Int32).toInt) = False := by decide
theorem t1 : ((1 : Int32).toInt < 0 ∨ 2 < (1 : Int32).toInt) = False := by decide
theorem t2 : ((2 : Int32).toInt < 0 ∨ 2 < (2 : Int32).toInt) = False := by decide
theorem k10 : ((1 : Int32) = 0) = False := by decide
theorem k20 : ((2 : Int32) = 0) = False := by decide
theorem k21 : ((2 : Int32) = 1) = False := by decide
theorem k30 : ((3 : Int32) = 0) = False := by decide
theorem k31 : ((3 : Int32) = 1) = False := by decide
theorem k32 : ((3 : Int32) = 2) = False := by decide
theorem k03 : ((0 : Int32) = 3) = False := by decide
theorem k13 : ((1 : Int32) = 3) = False := by decide
theorem k23 : ((2 : Int32) = 3) = False := by decide
theorem pr_happens {nu np nl : Nat} (hn : nu ≤ 5) (hl : nl ≤ 16) {wh on ot dy : pA} {day : Int32} (hk : ∀ k, k < nl → lgOk nu np wh on ot k) {K : Int32 → Int32 → pA → Option (Int32 × pA)} : ∀ (m k F : Nat) (rain : Int32) (r : pA), k + m = nl → m < F → L_hB_X9_happens_4 (nn nl) dy on wh ot day K F rain (nn k) r = K (sHap wh on ot dy day m k rain r).1 (nn nl) (sHap wh on ot dy day m k rain r).2 := by
  intro m
  induction m with
  | zero =>
    intro k F rain r e hF
    obtain ⟨F, rfl⟩ : ∃ f, F = f + 1 := ⟨F - 1, by omega⟩
    obtain rfl : k = nl := by omega
    simp (disch := omega) only [L_hB_X9_happens_4, nn_le, Nat.le_refl, ↓reduceIte, sHap]
  | succ m ih =>
    intro k F rain r e hF
    obtain ⟨F, rfl⟩ : ∃ f, F = f + 1 := ⟨F - 1, by omega⟩
    have hkk : ¬ nl ≤ k := by omega
    simp only [sHap]
    by_cases q : dy k = day
    · simp only [q, ↓reduceIte]
      rw [← ih (k + 1) F _ _ (by omega) (by omega)]
      unfold sHap1
      rcases hk k (by omega) with ⟨a, ⟨u, hu, b⟩, p, hpp, c⟩ | ⟨a, u, hu, b⟩ | ⟨a, ⟨u, hu, b⟩, v, hv, c⟩ | a
      · simp (disch := omega) only [L_hB_X9_happens_4, nn_le, hkk, ↓reduceIte, xix_nn, nn_nat, nn_succ, nn_0add, q, a, b, c, t0, k03]
      · simp (disch := omega) only [L_hB_X9_happens_4, nn_le, hkk, ↓reduceIte, xix_nn, nn_nat, nn_succ, nn_0add, q, a, b, t1, k10, k13]
      · simp (disch := omega) only [L_hB_X9_happens_4, nn_le, hkk, ↓reduceIte, xix_nn, nn_nat, nn_succ, nn_0add, q, a, b, c, t2, k20, k21, k23, e_hB_X9_changes, Option.bind_some]
      · simp (disch := omega) only [L_hB_X9_happens_4, nn_le, hkk, ↓reduceIte, xix_nn, nn_nat, nn_succ, q, a, t3, k30, k31, k32]
    · simp only [q, ↓reduceIte]
      rw [← ih (k + 1) F _ _ (by omega) (by omega)]
      simp (disch := omega) only [L_hB_X9_happens_4, nn_le, hkk, ↓reduceIte, xix_nn, nn_nat, nn_succ, q]
theorem xbo_01 {R : Type} {b : Int32} {k : Option R} (h : b = 0 ∨ b = 1) : xbo b k = k := by
  unfold xbo
  rcases h with rfl | rfl
  · rfl
  · rw [if_neg (by decide), if_pos rfl]
theorem qr_goesBy {nu np nl : Nat} (hn : nu ≤ 5) (hp : np ≤ 6) (hl : nl ≤ 16) {lapse : Int32} (hla : (0 : Int32) < lapse) {kind sort lands wh on ot dy : pA} (hk : ∀ k, k < nl → lgOk nu np wh on ot k) {day : Int32} {r : pA} (hw : wr np r) (hc : cn r) : e_hB_X9_goesBy (nn nl) dy on wh ot r (nn nu) lapse (nn np) sort lands kind day = some (sDay nu np lapse kind sort lands nl wh on ot dy day r) := by
  obtain ⟨h1, h2, h3⟩ := sHap_ok (day := day) (dy := dy) hn hk nl 0 0 r (by omega) (Or.inl rfl) hw hc
  unfold e_hB_X9_goesBy e_hB_X9_happens
  rw [show (0 : Int32) = nn 0 from rfl, pr_happens hn hl hk nl 0 200000 _ r (by omega) (by omega)]
  rw [show nn 0 = (0 : Int32) from rfl, xbo_01 h1, Option.bind_some]
  simp only [qr_ends hn hp hla h2.1, Option.bind_some]
  rfl
/-! the class -/
theorem qc_happen {nu np k : Nat} (hn : nu ≤ 5) {wh on ot h t : pA} {d : Int32} (hk : lgOk nu np wh on ot k) : ∃ h', e_hA_X3_happen h (wh k) (on k) (ot k) = some h' ∧ mkr h' t d = sHap1 wh on ot k (mkr h t d) := by
  unfold sHap1 e_hA_X3_happen
  rcases hk with ⟨a, ⟨u, hu, b⟩, p, hpp, c⟩ | ⟨a, u, hu, b⟩ | ⟨a, ⟨u, hu, b⟩, v, hv, c⟩ | a
  · refine ⟨upd h u (nn p), ?_, ?_⟩
    · simp (disch := omega) only [a, b, c, ↓reduceIte, xix_nn, nn_nat]
    · simp (disch := omega) only [a, b, c, ↓reduceIte, nn_nat, mkr_uh]
  · refine ⟨upd h u (-2), ?_, ?_⟩
    · simp (disch := omega) only [a, b, ↓reduceIte, xix_nn, nn_nat, k10]
    · simp (disch := omega) only [a, b, ↓reduceIte, nn_nat, mkr_uh, k10]
  · refine ⟨upd (upd h u (h v)) v (h u), ?_, ?_⟩
    · simp (disch := omega) only [a, b, c, ↓reduceIte, xix_nn, nn_nat, k20, k21, e_hA_X3_swap, Option.bind_some]
    · simp (disch := omega) only [a, b, c, ↓reduceIte, nn_nat, mkr_uh, k20, k21, mkr_h]
  · refine ⟨h, ?_, ?_⟩
    · simp (disch := omega) only [a, ↓reduceIte, k30, k31, k32]
    · simp (disch := omega) only [a, ↓reduceIte, k30, k31, k32]
theorem pc_runDay {nu np nl : Nat} (hn : nu ≤ 5) (hl : nl ≤ 16) {lapse dry : Int32} {kind sort lands wh on ot dy t : pA} {day : Int32} (hk : ∀ k, k < nl → lgOk nu np wh on ot k) {K : Int32 → Int32 → pA → Option (Int32 × pA × pA)} : ∀ (m k F : Nat) (rain : Int32) (h : pA), k + m = nl → m < F → (rain = 0 ∨ rain = 1) → ∃ h', L_hA_X0_runDay_11 (nn nl) (nn nu) dry (nn np) sort lands lapse kind t dy wh on ot day K F rain (nn k) h = K (sHap wh on ot dy day m k rain (mkr h t dry)).1 (nn nl) h' ∧ mkr h' t dry = (sHap wh on ot dy day m k rain (mkr h t dry)).2 := by
  intro m
  induction m with
  | zero =>
    intro k F rain h e hF _
    obtain ⟨F, rfl⟩ : ∃ f, F = f + 1 := ⟨F - 1, by omega⟩
    obtain rfl : k = nl := by omega
    refine ⟨h, ?_, rfl⟩
    simp (disch := omega) only [L_hA_X0_runDay_11, nn_le, Nat.le_refl, ↓reduceIte, sHap]
  | succ m ih =>
    intro k F rain h e hF hb
    obtain ⟨F, rfl⟩ : ∃ f, F = f + 1 := ⟨F - 1, by omega⟩
    have hkk : ¬ nl ≤ k := by omega
    simp only [sHap]
    by_cases q : dy k = day
    · simp only [q, ↓reduceIte]
      obtain ⟨h2, e1, e2⟩ := qc_happen (h := h) (t := t) (d := dry) hn (hk k (by omega))
      rw [← e2]
      obtain ⟨h', g1, g2⟩ := ih (k + 1) F (if wh k = 3 then 1 else rain) h2 (by omega) (by omega) (by
        split
        · exact Or.inr rfl
        · exact hb)
      refine ⟨h', ?_, g2⟩
      rw [← g1]
      rcases hb with rfl | rfl
      · by_cases q3 : wh k = 3
        · simp (disch := omega) only [L_hA_X0_runDay_11, nn_le, hkk, ↓reduceIte, xix_nn, nn_nat, nn_succ, q, q3, q3 ▸ e1, Option.bind_some]
        · simp (disch := omega) only [L_hA_X0_runDay_11, nn_le, hkk, ↓reduceIte, xix_nn, nn_nat, nn_succ, q, q3, e1, Option.bind_some]
      · simp (disch := omega) only [L_hA_X0_runDay_11, nn_le, hkk, ↓reduceIte, xix_nn, nn_nat, nn_succ, q, e1, Option.bind_some, nz10, ite_self]
    · simp only [q, ↓reduceIte]
      obtain ⟨h', g1, g2⟩ := ih (k + 1) F rain h (by omega) (by omega) hb
      refine ⟨h', ?_, g2⟩
      rw [← g1]
      simp (disch := omega) only [L_hA_X0_runDay_11, nn_le, hkk, ↓reduceIte, xix_nn, nn_nat, nn_succ, q]
theorem qc_runDay {nu np nl : Nat} (hn : nu ≤ 5) (hp : np ≤ 6) (hl : nl ≤ 16) {lapse dry : Int32} (hla : (0 : Int32) < lapse) {kind sort lands wh on ot dy h t : pA} (hk : ∀ k, k < nl → lgOk nu np wh on ot k) {day : Int32} (hw : wr np (mkr h t dry)) : ∃ d' h' t', e_hA_X0_runDay (nn nl) (nn nu) dry (nn np) sort h lands lapse kind t dy wh on ot day = some (d', h', t') ∧ mkr h' t' d' = sDay nu np lapse kind sort lands nl wh on ot dy day (mkr h t dry) := by
  obtain ⟨h1, h2, h3⟩ := sHap_ok (day := day) (dy := dy) hn hk nl 0 0 (mkr h t dry) (by omega) (Or.inl rfl) hw (cn_mkr _ _ _)
  unfold e_hA_X0_runDay sDay
  obtain ⟨h', g1, g2⟩ := pc_runDay hn hl (lapse := lapse) (dry := dry) (kind := kind) (sort := sort) (lands := lands) (t := t) (day := day) (dy := dy) hk (K := fun l4_11 l5_11 ma32_11 => ((e_hA_X3_passDay (nn nu) dry (nn np) sort ma32_11 lands lapse kind t l4_11).bind fun z95 => some (z95.1, z95.2.1, z95.2.2))) nl 0 200000 0 h (by omega) (by omega) (Or.inl rfl)
  rw [← nn_0] at g1
  rw [g1]
  rw [← g2] at h2 ⊢
  obtain ⟨d2, hh2, tt2, f1, f2⟩ := qc_pass (lands := lands) (sort := sort) (kind := kind) hn hp hla h1 h2
  refine ⟨d2, hh2, tt2, ?_, f2⟩
  rw [f1, Option.bind_some]
