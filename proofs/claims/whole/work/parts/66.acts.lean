/-! THE PURE PART: acts, undoing, marks -/
theorem eqL_rlapse : @L_hB_X9_lapses_2_2 = @L_hB_X9_lapses_2 := by
  funext a b K n
  induction n with
  | zero => rfl
  | succ n ih =>
    funext x y
    simp only [L_hB_X9_lapses_2_2, L_hB_X9_lapses_2, ih]
theorem eq_rlapse : @e_hB_X9_lapses_2 = @e_hB_X9_lapses := by
  unfold e_hB_X9_lapses_2 e_hB_X9_lapses
  rw [eqL_rlapse]
theorem eqL_rends2 : @L_hB_X9_ends_2_2 = @L_hB_X9_ends_2 := by
  funext a b c d e f g K n
  induction n with
  | zero => rfl
  | succ n ih =>
    funext x y
    simp only [L_hB_X9_ends_2_2, L_hB_X9_ends_2, ih]
theorem eqL_rends153 : @L_hB_X9_ends_2_153 = @L_hB_X9_ends_153 := by
  funext a b c d e f K n
  induction n with
  | zero => rfl
  | succ n ih =>
    funext x y
    simp only [L_hB_X9_ends_2_153, L_hB_X9_ends_153, ih]
theorem eq_rends : @e_hB_X9_ends_2 = @e_hB_X9_ends := by
  unfold e_hB_X9_ends_2 e_hB_X9_ends
  rw [eqL_rends2, eqL_rends153, eq_rlapse]
theorem nn_mul11 (n : Nat) : (11 : Int32) * nn n = nn (11 * n) := nn_mul 11 n
theorem rowAt_at {f : pA} {i k : Nat} (hk : k < 11) : rowAt f i k = f (11 * i + k) := if_pos hk
theorem rowAt_cn (f : pA) (i : Nat) : cn (rowAt f i) := fun k hk => if_neg (by omega)
theorem rowAt_congr {f g : pA} {i : Nat} (h : ∀ k, k < 11 → f (11 * i + k) = g (11 * i + k)) : rowAt f i = rowAt g i := by
  funext k
  unfold rowAt
  split
  · exact h k (by assumption)
  · rfl
/-- a row laid down at place n -/
def lay (A v : pA) (n : Nat) : pA := fun j => if 11 * n ≤ j ∧ j < 11 * n + 11 then v (j - 11 * n) else A j
theorem lay_row {A v : pA} {n : Nat} (hv : cn v) : rowAt (lay A v n) n = v := by
  refine cn_eq (rowAt_cn _ _) hv fun k hk => ?_
  rw [rowAt_at hk]
  unfold lay
  rw [if_pos ⟨by omega, by omega⟩]
  congr 1
  omega
theorem lay_ne {A v : pA} {n i : Nat} (h : i ≠ n) : rowAt (lay A v n) i = rowAt A i := rowAt_congr fun k hk => by
  unfold lay
  rw [if_neg]
  intro z
  omega
theorem pr_rem51 {v : pA} {n : Nat} (hn : n < 16) {K : Int32 → pA → Option (Int32 × pA)} : ∀ (m k F : Nat) (A A0 : pA), k + m = 11 → m < F → (∀ j, A j = if 11 * n ≤ j ∧ j < 11 * n + k then v (j - 11 * n) else A0 j) → L_hB_X9_remembers_51 (nn n) v K F (nn k) A = K (nn 11) (lay A0 v n) := by
  intro m
  induction m with
  | zero =>
    intro k F A A0 e hF hA
    obtain ⟨F, rfl⟩ : ∃ f, F = f + 1 := ⟨F - 1, by omega⟩
    obtain rfl : k = 11 := by omega
    have : A = lay A0 v n := funext hA
    simp (disch := omega) only [L_hB_X9_remembers_51, n11_, nn_le, Nat.le_refl, ↓reduceIte, this]
  | succ m ih =>
    intro k F A A0 e hF hA
    obtain ⟨F, rfl⟩ : ∃ f, F = f + 1 := ⟨F - 1, by omega⟩
    have hk : ¬ 11 ≤ k := by omega
    rw [← ih (k + 1) F (upd A (11 * n + k) (v k)) A0 (by omega) (by omega) (fun j => by
      by_cases q : j = 11 * n + k
      · rw [q, upd_at, if_pos ⟨by omega, by omega⟩]; congr 1; omega
      · rw [upd_ne _ _ q, hA j]
        by_cases q2 : 11 * n ≤ j ∧ j < 11 * n + k
        · rw [if_pos q2, if_pos ⟨q2.1, by omega⟩]
        · rw [if_neg q2, if_neg (fun z => q2 ⟨z.1, by omega⟩)])]
    simp (disch := omega) only [L_hB_X9_remembers_51, n11_, nn_mul, nn_add, nn_le, hk, ↓reduceIte, xix_nn, nn_nat, nn_succ]
/-- all rows one place down -/
def shf (A : pA) : pA := fun j => if j < 165 then A (j + 11) else A j
theorem pr_rem11 {v : pA} {p0 : Int32} {K : Int32 → pA → Option (Int32 × pA)} : ∀ (m k F : Nat) (A A0 : pA), k + m = 165 → m < F → (∀ j, A j = if j < k then A0 (j + 11) else A0 j) → L_hB_X9_remembers_11 p0 v K F (nn k) A = K (nn 165) (shf A0) := by
  intro m
  induction m with
  | zero =>
    intro k F A A0 e hF hA
    obtain ⟨F, rfl⟩ : ∃ f, F = f + 1 := ⟨F - 1, by omega⟩
    obtain rfl : k = 165 := by omega
    have : A = shf A0 := funext hA
    simp (disch := omega) only [L_hB_X9_remembers_11, show (165 : Int32) = nn 165 from rfl, nn_le, Nat.le_refl, ↓reduceIte, this]
  | succ m ih =>
    intro k F A A0 e hF hA
    obtain ⟨F, rfl⟩ : ∃ f, F = f + 1 := ⟨F - 1, by omega⟩
    have hk : ¬ 165 ≤ k := by omega
    have e1 : A (k + 11) = A0 (k + 11) := by rw [hA, if_neg (by omega)]
    rw [← ih (k + 1) F (upd A k (A (k + 11))) A0 (by omega) (by omega) (fun j => by
      by_cases q : j = k
      · rw [q, upd_at, if_pos (by omega), e1]
      · rw [upd_ne _ _ q, hA j]
        by_cases q2 : j < k
        · rw [if_pos q2, if_pos (by omega)]
        · rw [if_neg q2, if_neg (by omega)])]
    simp (disch := omega) only [L_hB_X9_remembers_11, show (165 : Int32) = nn 165 from rfl, n11_, nn_add, nn_le, hk, ↓reduceIte, xix_nn, nn_nat, nn_succ]
theorem shf_row {A : pA} {i : Nat} (hi : i < 15) : rowAt (shf A) i = rowAt A (i + 1) := by
  funext k
  unfold rowAt
  split
  · unfold shf
    rw [if_pos (by omega)]
    congr 1
    omega
  · rfl
/-- keep and remembers -/
theorem q_keep {np na : Nat} (hp : np ≤ 6) {h t A : pA} {d : Int32} {b : Nat → Int64} (hw : wr np (mkr h t d)) (hU : Und np na 16 b A) : ∃ b' A' na', e_hA_X7_keep (nn na) d h t b = some (b', nn na') ∧ e_hB_X9_remembers (nn na) (mkr h t d) A = some (nn na', A') ∧ Und np na' 16 b' A' := by
  obtain ⟨h16, hU⟩ := hU
  have ep := qc_packed hp hw
  by_cases q : na < 16
  · refine ⟨vp_updL b na (ll (pkR (mkr h t d))), lay A (mkr h t d) na, na + 1, ?_, ?_, by omega, fun i hi => ?_⟩
    · unfold e_hA_X7_keep
      rw [if_pos (by rw [show (16 : Int32) = nn 16 from rfl, nn_lt (by omega) (by omega)]; exact q), ep, Option.bind_some, xix_nn (by omega) (by omega), nn_nat (by omega), nn_succ]
    · unfold e_hB_X9_remembers
      rw [if_neg (by rw [show (16 : Int32) = nn 16 from rfl, nn_inj (by omega) (by omega)]; omega)]
      refine (pr_rem51 q 11 0 200000 A A (by omega) (by omega) (fun j => (if_neg (by omega)).symm)).trans ?_
      rw [nn_succ]
    · by_cases qi : i = na
      · subst qi
        rw [lay_row (cn_mkr _ _ _)]
        exact ⟨by simp [vp_updL], hw⟩
      · rw [lay_ne qi]
        simp only [vp_updL, if_neg qi]
        exact hU i (by omega)
  · obtain rfl : na = 16 := by omega
    refine ⟨vp_updL (va_cpy b b 1 0 15) 15 (ll (pkR (mkr h t d))), lay (shf A) (mkr h t d) 15, 16, ?_, ?_, by omega, fun i hi => ?_⟩
    · unfold e_hA_X7_keep
      rw [if_neg (by decide), ep, Option.bind_some]
      rfl
    · unfold e_hB_X9_remembers
      rw [if_pos (show nn 16 = (16 : Int32) from rfl)]
      refine (pr_rem11 165 0 200000 A A (by omega) (by omega) (fun j => (if_neg (by omega)).symm)).trans ?_
      exact (pr_rem51 (n := 15) (by omega) 11 0 200000 (shf A) (shf A) (by omega) (by omega) (fun j => (if_neg (by omega)).symm)).trans rfl
    · by_cases qi : i = 15
      · subst qi
        rw [lay_row (cn_mkr _ _ _)]
        exact ⟨by simp [vp_updL], hw⟩
      · rw [lay_ne qi, shf_row (by omega)]
        have := hU (i + 1) (by omega)
        refine ⟨?_, this.2⟩
        rw [← this.1]
        simp only [vp_updL, if_neg qi, va_cpy]
        rw [if_pos ⟨by omega, by omega⟩]
        congr 1
        omega
def pCh (t s : pA) : Nat → Nat → Int32 → Int32
  | 0, _, acc => acc
  | m + 1, k, acc => pCh t s m (k + 1) (if t k = s k then acc else acc + 1)
section ACTS
variable {np nu nl nc tp na nm : Nat} {la gu ra : Int32} {g7 g8 g9 g10 g11 g12 g13 g14 g15 g17 g18 g19 g20 g21 g22 g23 g24 g25 g26 g27 g28 g29 g30 g31 g32 g33 g34 : Int32} {a0 a1 a2 a3 a4 a5 a6 a7 a8 a9 a10 a11 a12 a13 a14 a15 a16 a17 a18 a19 a20 a21 a22 a23 a24 a25 a26 a27 a28 a29 a30 a31 a32 a33 a34 a35 a36 a37 a38 a39 : pA} {b0 b1 b2 b3 b4 : Nat → Int64} {w0 : Int64}
variable {G0 G2 G4 G5 G6 G7 G8 G10 G13 G14 G15 G16 G17 G18 G26 : Int32} {A0 A2 A3 A4 A5 A6 A7 A8 A9 A10 A11 A12 A13 A14 A15 A16 A17 A18 A19 A20 A21 A22 A23 : pA} {B0 : Nat → Int64} {W0 : Int64} {rb : Nat}
theorem IC.act (I : IC np nu nl nc tp na nm la gu ra g22 g25 g26 g33 g34 G2 a0 a1 a2 a3 a4 a5 a6 a7 a8 a10 a11 a12 a13 a27 a28 a31 b2 b3 b4 A0 A2 A3 A4 A10 A11 A12 A13 A14 A15 A16 A17 A18 A19 A20 A21) {na' : Nat} {b3' : Nat → Int64} {A3' a27' a28' A2' : pA} {g22' : Int32} (hU : Und np na' 16 b3' A3') (hw : wr np (mkr a27' a28' g22')) (h2 : cn A2') : IC np nu nl nc tp na' nm la gu ra g22' g25 g26 g33 0 (-1) a0 a1 a2 a3 a4 a5 a6 a7 a8 a10 a11 a12 a13 a27' a28' a31 b2 b3' b4 A0 A2' A3' A4 A10 A11 A12 A13 A14 A15 A16 A17 A18 A19 A20 A21 := ⟨I.1, I.2.1, hw, h2, hU, I.2.2.2.2.2.1, I.2.2.2.2.2.2.1, rfl⟩
theorem IC.no (I : IC np nu nl nc tp na nm la gu ra g22 g25 g26 g33 g34 G2 a0 a1 a2 a3 a4 a5 a6 a7 a8 a10 a11 a12 a13 a27 a28 a31 b2 b3 b4 A0 A2 A3 A4 A10 A11 A12 A13 A14 A15 A16 A17 A18 A19 A20 A21) {c : Int32} (hc : c ≠ 4) : IC np nu nl nc tp na nm la gu ra g22 g25 g26 g33 c (-1) a0 a1 a2 a3 a4 a5 a6 a7 a8 a10 a11 a12 a13 a27 a28 a31 b2 b3 b4 A0 A2 A3 A4 A10 A11 A12 A13 A14 A15 A16 A17 A18 A19 A20 A21 := I.ans hc I.2.2.2.1
theorem C_lend (I : IC np nu nl nc tp na nm la gu ra g22 g25 g26 g33 g34 G2 a0 a1 a2 a3 a4 a5 a6 a7 a8 a10 a11 a12 a13 a27 a28 a31 b2 b3 b4 A0 A2 A3 A4 A10 A11 A12 A13 A14 A15 A16 A17 A18 A19 A20 A21) (x1 x2 : Int32) : ∃ (v : Int32) (c : Int32) (b3' : (Nat → Int64)) (na' : Nat) (a27' : (Nat → Int32)) (A3' : (Nat → Int32)), e_hA_X7_lend (nn nu) g34 (nn np) a27 (nn na) g22 a28 b3 x1 x2 = some (v, c, b3', (nn na'), a27') ∧ e_hB_X9_lend G0 (nn nu) g34 G2 (nn np) (mkr a27 a28 g22) (nn na) A3 x1 x2 = some (v, 0, c, (-1), (nn na'), A3', (mkr a27' a28 g22)) ∧ IC np nu nl nc tp na' nm la gu ra g22 g25 g26 g33 c (-1) a0 a1 a2 a3 a4 a5 a6 a7 a8 a10 a11 a12 a13 a27' a28 a31 b2 b3' b4 A0 A2 A3' A4 A10 A11 A12 A13 A14 A15 A16 A17 A18 A19 A20 A21 := by
  obtain ⟨⟨hp1, hp, hn1, hn, hl, hc⟩, ⟨hla, hgu, hra⟩, eS, eK, eL, eR, eW, bL, bR, wW, eG, oG, eC⟩ := I.1
  rcases isU_cases hn x1 with ⟨h1, h2⟩ | ⟨u, hu, rfl, h1, h2⟩
  · exact ⟨0, 1, b3, na, a27, A3, by unfold e_hA_X7_lend; rw [h1]; rfl, by unfold e_hB_X9_lend; rw [h2]; rfl, I.no (by decide)⟩
  · rcases isP_cases hp x2 with ⟨h3, h4⟩ | ⟨p, hpp, rfl, h3, h4⟩
    · exact ⟨0, 1, b3, na, a27, A3, by unfold e_hA_X7_lend; rw [h1, Option.bind_some, if_neg (by decide), h3]; rfl, by unfold e_hB_X9_lend; rw [h2, Option.bind_some, if_neg (by decide), h4]; rfl, I.no (by decide)⟩
    · by_cases q : a27 u = nn p
      · exact ⟨0, 5, b3, na, a27, A3, by unfold e_hA_X7_lend; rw [h1, Option.bind_some, if_neg (by decide), h3, Option.bind_some, if_neg (by decide), xix_nn (by omega) (by omega), nn_nat (by omega), if_pos q]; rfl, by unfold e_hB_X9_lend; rw [h2, Option.bind_some, if_neg (by decide), h4, Option.bind_some, if_neg (by decide), nn_0add, xix_nn (by omega) (by omega), nn_nat (by omega), mkr_h (by omega), if_pos q]; rfl, I.no (by decide)⟩
      · obtain ⟨b', A', na', k1, k2, k3⟩ := q_keep hp I.2.2.1 I.2.2.2.2.1
        refine ⟨1, 0, b', na', upd a27 u (nn p), A', ?_, ?_, I.act k3 ?_ I.2.2.2.1⟩
        · unfold e_hA_X7_lend; rw [h1, Option.bind_some, if_neg (by decide), h3, Option.bind_some, if_neg (by decide), xix_nn (by omega) (by omega), nn_nat (by omega), if_neg q, k1, Option.bind_some, xix_nn (by omega) (by omega)]; rfl
        · unfold e_hB_X9_lend; rw [h2, Option.bind_some, if_neg (by decide), h4, Option.bind_some, if_neg (by decide), nn_0add, xix_nn (by omega) (by omega), nn_nat (by omega), mkr_h (by omega), if_neg q, k2, Option.bind_some, xix_nn (by omega) (by omega), mkr_uh (by omega)]; rfl
        · rw [mkr_uh (by omega)]; exact I.2.2.1.uh (by omega) (wv_p hpp)
theorem C_leave (I : IC np nu nl nc tp na nm la gu ra g22 g25 g26 g33 g34 G2 a0 a1 a2 a3 a4 a5 a6 a7 a8 a10 a11 a12 a13 a27 a28 a31 b2 b3 b4 A0 A2 A3 A4 A10 A11 A12 A13 A14 A15 A16 A17 A18 A19 A20 A21) (x1 : Int32) : ∃ (v : Int32) (b3' : (Nat → Int64)) (na' : Nat) (a27' : (Nat → Int32)) (c : Int32) (A3' : (Nat → Int32)), e_hA_X7_leave (nn nu) a27 (nn na) g22 a28 b3 g34 x1 = some (v, b3', (nn na'), a27', c) ∧ e_hB_X9_leave G0 (nn nu) (mkr a27 a28 g22) (nn na) A3 g34 G2 x1 = some (v, 0, (nn na'), A3', (mkr a27' a28 g22), c, (-1)) ∧ IC np nu nl nc tp na' nm la gu ra g22 g25 g26 g33 c (-1) a0 a1 a2 a3 a4 a5 a6 a7 a8 a10 a11 a12 a13 a27' a28 a31 b2 b3' b4 A0 A2 A3' A4 A10 A11 A12 A13 A14 A15 A16 A17 A18 A19 A20 A21 := by
  obtain ⟨⟨hp1, hp, hn1, hn, hl, hc⟩, ⟨hla, hgu, hra⟩, eS, eK, eL, eR, eW, bL, bR, wW, eG, oG, eC⟩ := I.1
  rcases isU_cases hn x1 with ⟨h1, h2⟩ | ⟨u, hu, rfl, h1, h2⟩
  · exact ⟨0, b3, na, a27, 1, A3, by unfold e_hA_X7_leave; rw [h1]; rfl, by unfold e_hB_X9_leave; rw [h2]; rfl, I.no (by decide)⟩
  · by_cases q : a27 u = -2
    · exact ⟨0, b3, na, a27, 5, A3, by unfold e_hA_X7_leave; rw [h1, Option.bind_some, if_neg (by decide), xix_nn (by omega) (by omega), nn_nat (by omega), if_pos q]; rfl, by unfold e_hB_X9_leave; rw [h2, Option.bind_some, if_neg (by decide), nn_0add, xix_nn (by omega) (by omega), nn_nat (by omega), mkr_h (by omega), if_pos q]; rfl, I.no (by decide)⟩
    · obtain ⟨b', A', na', k1, k2, k3⟩ := q_keep hp I.2.2.1 I.2.2.2.2.1
      refine ⟨1, b', na', upd a27 u (-2), 0, A', ?_, ?_, I.act k3 ?_ I.2.2.2.1⟩
      · unfold e_hA_X7_leave; rw [h1, Option.bind_some, if_neg (by decide), xix_nn (by omega) (by omega), nn_nat (by omega), if_neg q, k1, Option.bind_some, xix_nn (by omega) (by omega)]; rfl
      · unfold e_hB_X9_leave; rw [h2, Option.bind_some, if_neg (by decide), nn_0add, xix_nn (by omega) (by omega), nn_nat (by omega), mkr_h (by omega), if_neg q, k2, Option.bind_some, xix_nn (by omega) (by omega), mkr_uh (by omega)]; rfl
      · rw [mkr_uh (by omega)]; exact I.2.2.1.uh (by omega) wv_none
theorem C_exchange (I : IC np nu nl nc tp na nm la gu ra g22 g25 g26 g33 g34 G2 a0 a1 a2 a3 a4 a5 a6 a7 a8 a10 a11 a12 a13 a27 a28 a31 b2 b3 b4 A0 A2 A3 A4 A10 A11 A12 A13 A14 A15 A16 A17 A18 A19 A20 A21) (x1 x2 : Int32) : ∃ (v : Int32) (c : Int32) (b3' : (Nat → Int64)) (na' : Nat) (a27' : (Nat → Int32)) (A3' : (Nat → Int32)), e_hA_X7_exchange (nn nu) g34 a27 (nn na) g22 a28 b3 x1 x2 = some (v, c, b3', (nn na'), a27') ∧ e_hB_X9_exchange G0 (nn nu) g34 G2 (mkr a27 a28 g22) (nn na) A3 x1 x2 = some (v, 0, c, (-1), (nn na'), A3', (mkr a27' a28 g22)) ∧ IC np nu nl nc tp na' nm la gu ra g22 g25 g26 g33 c (-1) a0 a1 a2 a3 a4 a5 a6 a7 a8 a10 a11 a12 a13 a27' a28 a31 b2 b3' b4 A0 A2 A3' A4 A10 A11 A12 A13 A14 A15 A16 A17 A18 A19 A20 A21 := by
  obtain ⟨⟨hp1, hp, hn1, hn, hl, hc⟩, ⟨hla, hgu, hra⟩, eS, eK, eL, eR, eW, bL, bR, wW, eG, oG, eC⟩ := I.1
  rcases isU_cases hn x1 with ⟨h1, h2⟩ | ⟨u, hu, rfl, h1, h2⟩
  · exact ⟨0, 1, b3, na, a27, A3, by unfold e_hA_X7_exchange; rw [h1]; rfl, by unfold e_hB_X9_exchange; rw [h2]; rfl, I.no (by decide)⟩
  · rcases isU_cases hn x2 with ⟨h3, h4⟩ | ⟨v, hv, rfl, h3, h4⟩
    · exact ⟨0, 1, b3, na, a27, A3, by unfold e_hA_X7_exchange; rw [h1, Option.bind_some, if_neg (by decide), h3]; rfl, by unfold e_hB_X9_exchange; rw [h2, Option.bind_some, if_neg (by decide), h4]; rfl, I.no (by decide)⟩
    · by_cases q0 : nn u = nn v
      · exact ⟨0, 1, b3, na, a27, A3, by unfold e_hA_X7_exchange; rw [h1, Option.bind_some, if_neg (by decide), h3, Option.bind_some, if_neg (by decide), if_pos q0]; rfl, by unfold e_hB_X9_exchange; rw [h2, Option.bind_some, if_neg (by decide), h4, Option.bind_some, if_neg (by decide), if_pos q0]; rfl, I.no (by decide)⟩
      · by_cases q : a27 u = a27 v
        · have e0 : e_hB_X9_canExchange (mkr a27 a28 g22) (nn u) (nn v) = some 0 := by
            unfold e_hB_X9_canExchange
            rw [if_neg q0, nn_0add, nn_0add, xix_nn (by omega) (by omega), xix_nn (by omega) (by omega), nn_nat (by omega), nn_nat (by omega), mkr_h (by omega), mkr_h (by omega), if_pos q]
          exact ⟨0, 5, b3, na, a27, A3, by unfold e_hA_X7_exchange; rw [h1, Option.bind_some, if_neg (by decide), h3, Option.bind_some, if_neg (by decide), if_neg q0, xix_nn (by omega) (by omega), xix_nn (by omega) (by omega), nn_nat (by omega), nn_nat (by omega), if_pos q]; rfl, by unfold e_hB_X9_exchange; rw [h2, Option.bind_some, if_neg (by decide), h4, Option.bind_some, if_neg (by decide), if_neg q0, e0]; rfl, I.no (by decide)⟩
        · have e0 : e_hB_X9_canExchange (mkr a27 a28 g22) (nn u) (nn v) = some 1 := by
            unfold e_hB_X9_canExchange
            rw [if_neg q0, nn_0add, nn_0add, xix_nn (by omega) (by omega), xix_nn (by omega) (by omega), nn_nat (by omega), nn_nat (by omega), mkr_h (by omega), mkr_h (by omega), if_neg q]
          have e1 : e_hB_X9_changes (mkr a27 a28 g22) (nn u) (nn v) = some (mkr (upd (upd a27 u (a27 v)) v (a27 u)) a28 g22) := by
            unfold e_hB_X9_changes
            simp (disch := omega) only [nn_0add, xix_nn, nn_nat, mkr_uh, mkr_h]
          have e2 : e_hA_X3_swap a27 (nn u) (nn v) = some (upd (upd a27 u (a27 v)) v (a27 u)) := by
            unfold e_hA_X3_swap
            simp (disch := omega) only [xix_nn, nn_nat]
          obtain ⟨b', A', na', k1, k2, k3⟩ := q_keep hp I.2.2.1 I.2.2.2.2.1
          refine ⟨1, 0, b', na', upd (upd a27 u (a27 v)) v (a27 u), A', ?_, ?_, I.act k3 ?_ I.2.2.2.1⟩
          · unfold e_hA_X7_exchange; rw [h1, Option.bind_some, if_neg (by decide), h3, Option.bind_some, if_neg (by decide), if_neg q0, xix_nn (by omega) (by omega), xix_nn (by omega) (by omega), nn_nat (by omega), nn_nat (by omega), if_neg q, k1, Option.bind_some, e2]; rfl
          · unfold e_hB_X9_exchange; rw [h2, Option.bind_some, if_neg (by decide), h4, Option.bind_some, if_neg (by decide), if_neg q0, e0, Option.bind_some, if_neg (by decide), k2, Option.bind_some, e1]; rfl
          · rw [mkr_uh (by omega), mkr_uh (by omega)]; exact (I.2.2.1.uh (by omega) (wr_h I.2.2.1 v (by omega))).uh (by omega) (wr_h I.2.2.1 u (by omega))
theorem pc_day (hn : nu ≤ 5) {q1 q2 q6 q9 q12 q14 : Int32} {q3 t q7 s q10 q11 q13 : pA} {q5 : Nat → Int64} {K : Int32 → Int32 → Option (Int32 × (Nat → Int64) × Int32 × Int32 × pA × pA × Int32 × pA × pA × Int32)} : ∀ (m k F : Nat) (acc : Int32), k + m = nu → m < F → L_hA_X7_day_44 (nn nu) q1 q2 q3 t q5 q6 q7 s q9 q10 q11 q12 q13 q14 K F acc (nn k) = K (pCh t s m k acc) (nn nu) := by
  intro m
  induction m with
  | zero =>
    intro k F acc e hF
    obtain ⟨F, rfl⟩ : ∃ f, F = f + 1 := ⟨F - 1, by omega⟩
    obtain rfl : k = nu := by omega
    simp (disch := omega) only [L_hA_X7_day_44, nn_le, Nat.le_refl, ↓reduceIte, pCh]
  | succ m ih =>
    intro k F acc e hF
    obtain ⟨F, rfl⟩ : ∃ f, F = f + 1 := ⟨F - 1, by omega⟩
    have hk : ¬ nu ≤ k := by omega
    simp (disch := omega) only [L_hA_X7_day_44, nn_le, hk, ↓reduceIte, xix_nn, nn_nat, nn_succ, Int32.add_zero, pCh, ih]
    split <;> rfl
theorem pr_day (hn : nu ≤ 5) {q0 q1 q6 q7 q11 q12 d d' : Int32} {q3 h t h' s q8 q9 q10 : pA} {K : Int32 → Int32 → Option (Int32 × Int32 × Int32 × pA × pA × pA × Int32 × Int32)} : ∀ (m k F : Nat) (acc : Int32), k + m = nu → m < F → L_hB_X9_day_39 q0 q1 (mkr h t d) q3 (mkr h' s d') (nn nu) q6 q7 q8 q9 q10 q11 q12 K F acc (nn k) = K (pCh t s m k acc) (nn nu) := by
  intro m
  induction m with
  | zero =>
    intro k F acc e hF
    obtain ⟨F, rfl⟩ : ∃ f, F = f + 1 := ⟨F - 1, by omega⟩
    obtain rfl : k = nu := by omega
    simp (disch := omega) only [L_hB_X9_day_39, nn_le, Nat.le_refl, ↓reduceIte, pCh]
  | succ m ih =>
    intro k F acc e hF
    obtain ⟨F, rfl⟩ : ∃ f, F = f + 1 := ⟨F - 1, by omega⟩
    have hk : ¬ nu ≤ k := by omega
    simp (disch := omega) only [L_hB_X9_day_39, nn_le, hk, ↓reduceIte, xix_nn, nn_nat, nn_succ, nn_5add, mkr_t, Int32.add_zero, pCh, ih]
    split <;> rfl
theorem C_day (I : IC np nu nl nc tp na nm la gu ra g22 g25 g26 g33 g34 G2 a0 a1 a2 a3 a4 a5 a6 a7 a8 a10 a11 a12 a13 a27 a28 a31 b2 b3 b4 A0 A2 A3 A4 A10 A11 A12 A13 A14 A15 A16 A17 A18 A19 A20 A21) (x1 : Int32) (hb : x1 = 0 ∨ x1 = 1) : ∃ (v : Int32) (b3' : (Nat → Int64)) (na' : Nat) (g23' : Int32) (a29' : (Nat → Int32)) (a30' : (Nat → Int32)) (g22' : Int32) (a27' : (Nat → Int32)) (a28' : (Nat → Int32)) (c : Int32) (A3' : (Nat → Int32)) (A2' : (Nat → Int32)), e_hA_X7_day (nn nu) (nn na) g22 a27 a28 b3 g23 a29 a30 (nn np) a0 a2 la a1 g34 x1 = some (v, b3', (nn na'), g23', a29', a30', g22', a27', a28', c) ∧ e_hB_X9_day G0 (nn na) (mkr a27 a28 g22) A3 A2 (nn nu) la (nn np) A10 A12 A11 g34 G2 x1 = some (v, 0, (nn na'), A3', A2', (mkr a27' a28' g22'), c, (-1)) ∧ IC np nu nl nc tp na' nm la gu ra g22' g25 g26 g33 c (-1) a0 a1 a2 a3 a4 a5 a6 a7 a8 a10 a11 a12 a13 a27' a28' a31 b2 b3' b4 A0 A2' A3' A4 A10 A11 A12 A13 A14 A15 A16 A17 A18 A19 A20 A21 := by
  obtain ⟨⟨hp1, hp, hn1, hn, hl, hc⟩, ⟨hla, hgu, hra⟩, eS, eK, eL, eR, eW, bL, bR, wW, eG, oG, eC⟩ := I.1
  obtain ⟨b', A', na', k1, k2, k3⟩ := q_keep hp I.2.2.1 I.2.2.2.2.1
  obtain ⟨hh, tt, c1, c2⟩ := qc_copyFrom g22 g23 a27 a29 a28 a30
  obtain ⟨d', h', t', e1, e2, e3⟩ := cE I.1 hb I.2.2.1
  rw [eq_passDay_3, ← eq_passDay_4] at e1
  refine ⟨pCh t' tt nu 0 0, b', na', g22, hh, tt, d', h', t', 0, A', mkr hh tt g22, ?_, ?_, I.act k3 e3 (cn_mkr _ _ _)⟩
  · unfold e_hA_X7_day
    rw [isT1 hn1 hn, Option.bind_some, if_neg (by decide), k1, Option.bind_some, c1, Option.bind_some, e1, Option.bind_some]
    exact pc_day hn nu 0 200000 0 (by omega) (by omega)
  · unfold e_hB_X9_day
    rw [k2, Option.bind_some, qr_tries (cn_mkr _ _ _) I.2.2.2.1, Option.bind_some, eq_rends, rE I.1 I.2.2.1, Option.bind_some, ← e2, ← c2]
    exact pr_day hn nu 0 200000 0 (by omega) (by omega)
theorem pr_undo {A : pA} {n : Nat} (hn : n < 16) {p0 p2 p3 : Int32} {K : Int32 → pA → Option (Int32 × Int32 × Int32 × Int32 × Int32 × pA)} : ∀ (m k F : Nat) (v : pA), k + m = 11 → m < F → cn v → (∀ j, j < k → v j = rowAt A n j) → L_hB_X9_undo_38 p0 (nn n) p2 p3 A K F (nn k) v = K (nn 11) (rowAt A n) := by
  intro m
  induction m with
  | zero =>
    intro k F v e hF hv hh
    obtain ⟨F, rfl⟩ : ∃ f, F = f + 1 := ⟨F - 1, by omega⟩
    obtain rfl : k = 11 := by omega
    obtain rfl : v = rowAt A n := cn_eq hv (rowAt_cn _ _) hh
    simp (disch := omega) only [L_hB_X9_undo_38, n11_, nn_le, Nat.le_refl, ↓reduceIte]
  | succ m ih =>
    intro k F v e hF hv hh
    obtain ⟨F, rfl⟩ : ∃ f, F = f + 1 := ⟨F - 1, by omega⟩
    have hk : ¬ 11 ≤ k := by omega
    rw [← ih (k + 1) F (upd v k (A (11 * n + k))) (by omega) (by omega) (cn_upd hv (by omega)) (fun j hj => by
      by_cases q : j = k
      · subst q; rw [upd_at, rowAt_at (by omega)]
      · rw [upd_ne _ _ q]; exact hh j (by omega))]
    simp (disch := omega) only [L_hB_X9_undo_38, n11_, nn_mul, nn_add, nn_le, hk, ↓reduceIte, xix_nn, nn_nat, nn_succ]
theorem pr_back {A : pA} {n : Nat} (hn : n < 3) {p0 p1 p2 p3 p4 : Int32} {K : Int32 → pA → Option (Int32 × Int32 × Int32 × Int32 × Int32 × pA)} : ∀ (m k F : Nat) (v : pA), k + m = 11 → m < F → cn v → (∀ j, j < k → v j = rowAt A n j) → L_hB_X9_back_32 p0 p1 p2 p3 p4 A (nn n) K F (nn k) v = K (nn 11) (rowAt A n) := by
  intro m
  induction m with
  | zero =>
    intro k F v e hF hv hh
    obtain ⟨F, rfl⟩ : ∃ f, F = f + 1 := ⟨F - 1, by omega⟩
    obtain rfl : k = 11 := by omega
    obtain rfl : v = rowAt A n := cn_eq hv (rowAt_cn _ _) hh
    simp (disch := omega) only [L_hB_X9_back_32, n11_, nn_le, Nat.le_refl, ↓reduceIte]
  | succ m ih =>
    intro k F v e hF hv hh
    obtain ⟨F, rfl⟩ : ∃ f, F = f + 1 := ⟨F - 1, by omega⟩
    have hk : ¬ 11 ≤ k := by omega
    rw [← ih (k + 1) F (upd v k (A (11 * n + k))) (by omega) (by omega) (cn_upd hv (by omega)) (fun j hj => by
      by_cases q : j = k
      · subst q; rw [upd_at, rowAt_at (by omega)]
      · rw [upd_ne _ _ q]; exact hh j (by omega))]
    simp (disch := omega) only [L_hB_X9_back_32, n11_, nn_mul, nn_add, nn_le, hk, ↓reduceIte, xix_nn, nn_nat, nn_succ]
theorem C_undo (I : IC np nu nl nc tp na nm la gu ra g22 g25 g26 g33 g34 G2 a0 a1 a2 a3 a4 a5 a6 a7 a8 a10 a11 a12 a13 a27 a28 a31 b2 b3 b4 A0 A2 A3 A4 A10 A11 A12 A13 A14 A15 A16 A17 A18 A19 A20 A21) : ∃ (v : Int32) (na' : Nat) (g22' : Int32) (a28' : (Nat → Int32)) (a27' : (Nat → Int32)) (c : Int32), e_hA_X7_undo (nn na) b3 g22 a28 a27 g34 = some (v, (nn na'), g22', a28', a27', c) ∧ e_hB_X9_undo G0 (nn na) g34 G2 A3 (mkr a27 a28 g22) = some (v, 0, (nn na'), c, (-1), (mkr a27' a28' g22')) ∧ IC np nu nl nc tp na' nm la gu ra g22' g25 g26 g33 c (-1) a0 a1 a2 a3 a4 a5 a6 a7 a8 a10 a11 a12 a13 a27' a28' a31 b2 b3 b4 A0 A2 A3 A4 A10 A11 A12 A13 A14 A15 A16 A17 A18 A19 A20 A21 := by
  obtain ⟨⟨hp1, hp, hn1, hn, hl, hc⟩, ⟨hla, hgu, hra⟩, eS, eK, eL, eR, eW, bL, bR, wW, eG, oG, eC⟩ := I.1
  obtain ⟨h16, hU⟩ := I.2.2.2.2.1
  by_cases q : na = 0
  · subst q
    exact ⟨0, 0, g22, a28, a27, 6, rfl, rfl, I.no (by decide)⟩
  · obtain ⟨n, rfl⟩ : ∃ n, na = n + 1 := ⟨na - 1, by omega⟩
    obtain ⟨u1, u2⟩ := hU n (by omega)
    obtain ⟨d', t', h', e1, e2⟩ := qc_unpack hp (p0 := g22) (t0 := a28) (h0 := a27) u2 (rowAt_cn _ _)
    have es : nn (n + 1) - (1 : Int32) = nn n := nn_sub (b := 1) (by omega)
    refine ⟨1, n, d', t', h', 0, ?_, ?_, I.act ⟨by omega, fun i hi => hU i (by omega)⟩ (by rw [e2]; exact u2) I.2.2.2.1⟩
    · unfold e_hA_X7_undo
      rw [if_pos (by rw [show (0 : Int32) = nn 0 from rfl, nn_lt (by omega) (by omega)]; omega), es, xix_nn (by omega) (by omega), nn_nat (by omega), eq_unpack_2, u1, e1]
      rfl
    · unfold e_hB_X9_undo
      rw [if_neg (by rw [show (0 : Int32) = nn 0 from rfl, nn_inj (by omega) (by omega)]; omega), es, e2]
      exact (pr_undo (by omega) 11 0 200000 _ (by omega) (by omega) (cn_mkr _ _ _) (fun j hj => absurd hj (by omega))).trans rfl
theorem pr_mark {v : pA} {n : Nat} (hn : n < 3) {p0 p2 p3 : Int32} {K : Int32 → pA → Option (Int32 × Int32 × Int32 × Int32 × Int32 × pA)} : ∀ (m k F : Nat) (A A0 : pA), k + m = 11 → m < F → (∀ j, A j = if 11 * n ≤ j ∧ j < 11 * n + k then v (j - 11 * n) else A0 j) → L_hB_X9_mark_34 p0 (nn n) p2 p3 v K F (nn k) A = K (nn 11) (lay A0 v n) := by
  intro m
  induction m with
  | zero =>
    intro k F A A0 e hF hA
    obtain ⟨F, rfl⟩ : ∃ f, F = f + 1 := ⟨F - 1, by omega⟩
    obtain rfl : k = 11 := by omega
    have : A = lay A0 v n := funext hA
    simp (disch := omega) only [L_hB_X9_mark_34, n11_, nn_le, Nat.le_refl, ↓reduceIte, this]
  | succ m ih =>
    intro k F A A0 e hF hA
    obtain ⟨F, rfl⟩ : ∃ f, F = f + 1 := ⟨F - 1, by omega⟩
    have hk : ¬ 11 ≤ k := by omega
    rw [← ih (k + 1) F (upd A (11 * n + k) (v k)) A0 (by omega) (by omega) (fun j => by
      by_cases q : j = 11 * n + k
      · rw [q, upd_at, if_pos ⟨by omega, by omega⟩]; congr 1; omega
      · rw [upd_ne _ _ q, hA j]
        by_cases q2 : 11 * n ≤ j ∧ j < 11 * n + k
        · rw [if_pos q2, if_pos ⟨q2.1, by omega⟩]
        · rw [if_neg q2, if_neg (fun z => q2 ⟨z.1, by omega⟩)])]
    simp (disch := omega) only [L_hB_X9_mark_34, n11_, nn_mul, nn_add, nn_le, hk, ↓reduceIte, xix_nn, nn_nat, nn_succ]
theorem C_mark (I : IC np nu nl nc tp na nm la gu ra g22 g25 g26 g33 g34 G2 a0 a1 a2 a3 a4 a5 a6 a7 a8 a10 a11 a12 a13 a27 a28 a31 b2 b3 b4 A0 A2 A3 A4 A10 A11 A12 A13 A14 A15 A16 A17 A18 A19 A20 A21) : ∃ (v : Int32) (b4' : (Nat → Int64)) (nm' : Nat) (c : Int32) (A4' : (Nat → Int32)), e_hA_X7_mark (nn nu) (nn nm) g22 a27 a28 b4 g34 = some (v, b4', (nn nm'), c) ∧ e_hB_X9_mark G0 (nn nm) g34 G2 (mkr a27 a28 g22) A4 = some (v, 0, (nn nm'), c, (-1), A4') ∧ IC np nu nl nc tp na nm' la gu ra g22 g25 g26 g33 c (-1) a0 a1 a2 a3 a4 a5 a6 a7 a8 a10 a11 a12 a13 a27 a28 a31 b2 b3 b4' A0 A2 A3 A4' A10 A11 A12 A13 A14 A15 A16 A17 A18 A19 A20 A21 := by
  obtain ⟨⟨hp1, hp, hn1, hn, hl, hc⟩, ⟨hla, hgu, hra⟩, eS, eK, eL, eR, eW, bL, bR, wW, eG, oG, eC⟩ := I.1
  obtain ⟨h3, hU⟩ := I.2.2.2.2.2.1
  by_cases q : nm = 3
  · subst q
    exact ⟨-1, b4, 3, 3, A4, by unfold e_hA_X7_mark; rw [isT1 hn1 hn, Option.bind_some, if_neg (by decide), if_neg (by decide)]; rfl, rfl, I.no (by decide)⟩
  · have ep := qc_packed hp I.2.2.1
    have es : nn (nm + 1) - (1 : Int32) = nn nm := nn_sub (b := 1) (by omega)
    refine ⟨nn nm, vp_updL b4 nm (ll (pkR (mkr a27 a28 g22))), nm + 1, 0, lay A4 (mkr a27 a28 g22) nm, ?_, ?_, ⟨I.1, I.2.1, I.2.2.1, I.2.2.2.1, I.2.2.2.2.1, ⟨by omega, fun i hi => ?_⟩, I.2.2.2.2.2.2.1, rfl⟩⟩
    · unfold e_hA_X7_mark
      rw [isT1 hn1 hn, Option.bind_some, if_neg (by decide), if_pos (by rw [show (3 : Int32) = nn 3 from rfl, nn_lt (by omega) (by omega)]; omega), ep, Option.bind_some, xix_nn (by omega) (by omega), nn_nat (by omega), nn_succ, es]
      rfl
    · unfold e_hB_X9_mark
      rw [if_neg (by rw [show (3 : Int32) = nn 3 from rfl, nn_inj (by omega) (by omega)]; omega), nn_succ, es]
      exact (pr_mark (by omega) 11 0 200000 A4 A4 (by omega) (by omega) (fun j => (if_neg (by omega)).symm)).trans rfl
    · by_cases qi : i = nm
      · subst qi
        rw [lay_row (cn_mkr _ _ _)]
        exact ⟨by simp [vp_updL], I.2.2.1⟩
      · rw [lay_ne qi]
        simp only [vp_updL, if_neg qi]
        exact hU i (by omega)
theorem C_back (I : IC np nu nl nc tp na nm la gu ra g22 g25 g26 g33 g34 G2 a0 a1 a2 a3 a4 a5 a6 a7 a8 a10 a11 a12 a13 a27 a28 a31 b2 b3 b4 A0 A2 A3 A4 A10 A11 A12 A13 A14 A15 A16 A17 A18 A19 A20 A21) (x1 : Int32) : ∃ (v : Int32) (c : Int32) (g22' : Int32) (a28' : (Nat → Int32)) (a27' : (Nat → Int32)) (na' : Nat), e_hA_X7_back g34 (nn nm) b4 g22 a28 a27 (nn na) x1 = some (v, c, g22', a28', a27', (nn na')) ∧ e_hB_X9_back G0 g34 G2 (nn nm) (nn na) A4 (mkr a27 a28 g22) x1 = some (v, 0, c, (-1), (nn na'), (mkr a27' a28' g22')) ∧ IC np nu nl nc tp na' nm la gu ra g22' g25 g26 g33 c (-1) a0 a1 a2 a3 a4 a5 a6 a7 a8 a10 a11 a12 a13 a27' a28' a31 b2 b3 b4 A0 A2 A3 A4 A10 A11 A12 A13 A14 A15 A16 A17 A18 A19 A20 A21 := by
  obtain ⟨⟨hp1, hp, hn1, hn, hl, hc⟩, ⟨hla, hgu, hra⟩, eS, eK, eL, eR, eW, bL, bR, wW, eG, oG, eC⟩ := I.1
  obtain ⟨h3, hU⟩ := I.2.2.2.2.2.1
  by_cases q1 : x1 < 0
  · exact ⟨0, 1, g22, a28, a27, na, by unfold e_hA_X7_back; rw [if_pos q1]; rfl, by unfold e_hB_X9_back; rw [if_pos q1]; rfl, I.no (by decide)⟩
  · by_cases q2 : x1 < nn nm
    · obtain ⟨n, hn', rfl⟩ := nn_of (Int32.not_lt.mp q1) q2 (by omega)
      obtain ⟨u1, u2⟩ := hU n hn'
      obtain ⟨d', t', h', e1, e2⟩ := qc_unpack hp (p0 := g22) (t0 := a28) (h0 := a27) u2 (rowAt_cn _ _)
      refine ⟨1, 0, d', t', h', 0, ?_, ?_, I.act ⟨by omega, fun i hi => absurd hi (by omega)⟩ (by rw [e2]; exact u2) I.2.2.2.1⟩
      · unfold e_hA_X7_back
        rw [if_neg q1, if_pos q2, xix_nn (by omega) (by omega), nn_nat (by omega), eq_unpack_2, u1, e1]
        rfl
      · unfold e_hB_X9_back
        rw [if_neg q1, if_pos q2, e2]
        exact (pr_back (by omega) 11 0 200000 _ (by omega) (by omega) (cn_mkr _ _ _) (fun j hj => absurd hj (by omega))).trans rfl
    · exact ⟨0, 1, g22, a28, a27, na, by unfold e_hA_X7_back; rw [if_neg q1, if_neg q2]; rfl, by unfold e_hB_X9_back; rw [if_neg q1, if_neg q2]; rfl, I.no (by decide)⟩
end ACTS
