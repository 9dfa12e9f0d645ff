/-! THE PURE PART: feed -/
/-- a byte of a number -/
def byt (x : Int32) (k : Nat) : Int32 := vp_nar .byte (x >>> (nn (24 - 8 * k) &&& 31)).toInt8.toInt32
theorem byt_ok (x : Int32) (k : Nat) : bt (byt x k) := by
  unfold byt
  generalize (x >>> (nn (24 - 8 * k) &&& 31)).toInt8 = y
  have h1 : vp_nar .byte y.toInt32 = y.toInt32 := by
    show y.toInt32.toInt8.toInt32 = y.toInt32
    rw [Int8.toInt8_toInt32]
  rw [h1]
  have h2 := Int8.toInt_toInt32 y
  have h3 := Int8.minValue_le_toInt y
  have h4 := Int8.toInt_le y
  have c1 : (-128 : Int32).toInt = -128 := rfl
  have c2 : (127 : Int32).toInt = 127 := rfl
  have c3 : Int8.minValue.toInt = -128 := rfl
  have c4 : Int8.maxValue.toInt = 127 := rfl
  refine ⟨?_, ?_⟩
  · rw [Int32.le_iff_toInt_le]; omega
  · rw [Int32.le_iff_toInt_le]; omega
/-- four bytes laid behind place t -/
def put4 (A : pA) (t : Nat) (x : Int32) : pA := upd (upd (upd (upd A t (byt x 0)) (t + 1) (byt x 1)) (t + 2) (byt x 2)) (t + 3) (byt x 3)
theorem n1000_ : (1000 : Int32) = nn 1000 := rfl
theorem pn_step {A : pA} {t F k : Nat} {x : Int32} {K : Int32 → pA → Int32 → Option (pA × Int32)} (hk : k < 4) (ht : t < 1000) : L_hA_X5_putNumber_3 x K (F + 1) (nn (24 - 8 * k)) A (nn t) = L_hA_X5_putNumber_3 x K F (nn (24 - 8 * k) + (-8 : Int32)) (upd A t (byt x k)) (nn (t + 1)) := by
  have i1 : ¬ (1000 : Int32) ≤ nn t := by rw [n1000_, nn_le (by omega) (by omega)]; omega
  have i2 : ¬ nn (24 - 8 * k) < (0 : Int32) := by rw [nn_pos (by omega)]; exact fun z => z
  rw [L_hA_X5_putNumber_3, if_neg i2, if_neg i1, xix_nn (by omega) (by omega), nn_nat (by omega), nn_succ]
  rfl
theorem qc_put {A : pA} {t : Nat} {x : Int32} (ht : t + 4 ≤ 1000) : e_hA_X5_putNumber (nn t) A x = some (put4 A t x, nn (t + 4)) := by
  have stp : ∀ (F : Nat) (K : Int32 → pA → Int32 → Option (pA × Int32)), L_hA_X5_putNumber_3 x K (F + 1 + 1 + 1 + 1 + 1) (24 : Int32) A (nn t) = K (-8) (put4 A t x) (nn (t + 4)) := fun F K => by
    rw [show (24 : Int32) = nn (24 - 8 * 0) from rfl, pn_step (by omega) (by omega), show nn (24 - 8 * 0) + (-8 : Int32) = nn (24 - 8 * 1) from by decide, pn_step (by omega) (by omega), show nn (24 - 8 * 1) + (-8 : Int32) = nn (24 - 8 * 2) from by decide, pn_step (by omega) (by omega), show nn (24 - 8 * 2) + (-8 : Int32) = nn (24 - 8 * 3) from by decide, pn_step (by omega) (by omega), show nn (24 - 8 * 3) + (-8 : Int32) = -8 from by decide, L_hA_X5_putNumber_3, if_pos (by decide)]
    rfl
  exact stp 199995 _
def put20 (A : pA) (t : Nat) (x1 x2 x3 x4 x5 : Int32) : pA := put4 (put4 (put4 (put4 (put4 A t x1) (t + 4) x2) (t + 4 + 4) x3) (t + 4 + 4 + 4) x4) (t + 4 + 4 + 4 + 4) x5
theorem le1000 {t : Nat} (ht : t ≤ 1000) : (nn t + (20 : Int32) ≤ (1000 : Int32)) = (t + 20 ≤ 1000) := by
  rw [show (20 : Int32) = nn 20 from rfl, nn_add, n1000_, nn_le (by omega) (by omega)]
theorem qc_feed {A : pA} {t : Nat} (ht : t ≤ 1000) (x1 x2 x3 x4 x5 : Int32) : e_hA_X7_feed (nn t) A x1 x2 x3 x4 x5 = if t + 20 ≤ 1000 then some (nn (t + 20), put20 A t x1 x2 x3 x4 x5, nn (t + 20)) else some (-1, A, nn t) := by
  unfold e_hA_X7_feed
  by_cases q : t + 20 ≤ 1000
  · rw [if_pos (by rw [le1000 ht]; exact q), if_pos q, qc_put (by omega), Option.bind_some, qc_put (by omega), Option.bind_some, qc_put (by omega), Option.bind_some, qc_put (by omega), Option.bind_some, qc_put (by omega), Option.bind_some]
    rfl
  · rw [if_neg (by rw [le1000 ht]; exact q), if_neg q]
def pick (x1 x2 x3 x4 x5 : Int32) (k : Nat) : Int32 := if k < 4 then x1 else if k < 8 then x2 else if k < 12 then x3 else if k < 16 then x4 else x5
theorem put4_at {A : pA} {t j : Nat} {x : Int32} (hj : j < 4) : put4 A t x (t + j) = byt x j := by
  unfold put4
  have : j = 0 ∨ j = 1 ∨ j = 2 ∨ j = 3 := by omega
  rcases this with rfl | rfl | rfl | rfl
  · rw [upd_ne _ _ (by omega), upd_ne _ _ (by omega), upd_ne _ _ (by omega)]; exact upd_at _ _ _
  · rw [upd_ne _ _ (by omega), upd_ne _ _ (by omega), upd_at]
  · rw [upd_ne _ _ (by omega), upd_at]
  · rw [upd_at]
theorem put4_ne {A : pA} {t k : Nat} {x : Int32} (hk : k < t ∨ t + 4 ≤ k) : put4 A t x k = A k := by
  unfold put4
  rw [upd_ne _ _ (by omega), upd_ne _ _ (by omega), upd_ne _ _ (by omega), upd_ne _ _ (by omega)]
theorem put_at {A : pA} {t k : Nat} {x1 x2 x3 x4 x5 : Int32} (hk : k < 20) : put20 A t x1 x2 x3 x4 x5 (t + k) = byt (pick x1 x2 x3 x4 x5 k) (k % 4) := by
  unfold put20 pick
  by_cases q4 : k < 4
  · rw [put4_ne (by omega), put4_ne (by omega), put4_ne (by omega), put4_ne (by omega), put4_at q4, if_pos q4, Nat.mod_eq_of_lt q4]
  · by_cases q8 : k < 8
    · obtain ⟨j, rfl⟩ : ∃ j, k = 4 + j := ⟨k - 4, by omega⟩
      rw [put4_ne (by omega), put4_ne (by omega), put4_ne (by omega), show t + (4 + j) = t + 4 + j by omega, put4_at (by omega), if_neg q4, if_pos q8, show (4 + j) % 4 = j by omega]
    · by_cases q12 : k < 12
      · obtain ⟨j, rfl⟩ : ∃ j, k = 8 + j := ⟨k - 8, by omega⟩
        rw [put4_ne (by omega), put4_ne (by omega), show t + (8 + j) = t + 4 + 4 + j by omega, put4_at (by omega), if_neg q4, if_neg q8, if_pos q12, show (8 + j) % 4 = j by omega]
      · by_cases q16 : k < 16
        · obtain ⟨j, rfl⟩ : ∃ j, k = 12 + j := ⟨k - 12, by omega⟩
          rw [put4_ne (by omega), show t + (12 + j) = t + 4 + 4 + 4 + j by omega, put4_at (by omega), if_neg q4, if_neg q8, if_neg q12, if_pos q16, show (12 + j) % 4 = j by omega]
        · obtain ⟨j, rfl⟩ : ∃ j, k = 16 + j := ⟨k - 16, by omega⟩
          rw [show t + (16 + j) = t + 4 + 4 + 4 + 4 + j by omega, put4_at (by omega), if_neg q4, if_neg q8, if_neg q12, if_neg q16, show (16 + j) % 4 = j by omega]
theorem put_ne {A : pA} {t j : Nat} {x1 x2 x3 x4 x5 : Int32} (hj : j < t) : put20 A t x1 x2 x3 x4 x5 j = A j := by
  unfold put20
  rw [put4_ne (by omega), put4_ne (by omega), put4_ne (by omega), put4_ne (by omega), put4_ne (by omega)]
theorem pr_feed_hB {t : Nat} (ht : t + 20 ≤ 1000) {p0 x1 x2 x3 x4 x5 : Int32} {A0 : pA} {K : Int32 → pA → Int32 → Option (Int32 × Int32 × pA × Int32)} : ∀ (m k F : Nat) (A : pA), k + m = 20 → m < F → (∀ j, j < k → A (t + j) = byt (pick x1 x2 x3 x4 x5 j) (j % 4)) → (∀ j, j < t → A j = A0 j) → ∃ A', L_hB_X9_feed_23 p0 x1 x2 x3 x4 x5 K F (nn k) A (nn (t + k)) = K (nn 20) A' (nn (t + 20)) ∧ (∀ j, j < 20 → A' (t + j) = byt (pick x1 x2 x3 x4 x5 j) (j % 4)) ∧ (∀ j, j < t → A' j = A0 j) := by
  intro m
  induction m with
  | zero =>
    intro k F A e hF h1 h2
    obtain ⟨F, rfl⟩ : ∃ f, F = f + 1 := ⟨F - 1, by omega⟩
    obtain rfl : k = 20 := by omega
    refine ⟨A, ?_, h1, h2⟩
    rw [L_hB_X9_feed_23, if_pos (by decide)]
  | succ m ih =>
    intro k F A e hF h1 h2
    obtain ⟨F, rfl⟩ : ∃ f, F = f + 1 := ⟨F - 1, by omega⟩
    obtain ⟨A', e1, e2, e3⟩ := ih (k + 1) F (upd A (t + k) (byt (pick x1 x2 x3 x4 x5 k) (k % 4))) (by omega) (by omega) (fun j hj => by
      by_cases z : j = k
      · subst z; rw [upd_at]
      · rw [upd_ne _ _ (by omega)]; exact h1 j (by omega)) (fun j hj => by rw [upd_ne _ _ (by omega)]; exact h2 j hj)
    refine ⟨A', ?_, e2, e3⟩
    rw [← e1]
    have d1 : nn k - nn k / (4 : Int32) * (4 : Int32) = nn (k % 4) := nn_mod (b := 4) (by omega) (by omega)
    have d2 : (24 : Int32) - (8 : Int32) * nn (k % 4) = nn (24 - 8 * (k % 4)) := by
      rw [show (8 : Int32) = nn 8 from rfl, nn_mul, show (24 : Int32) = nn 24 from rfl, nn_sub (by omega)]
    have b20 : ¬ (20 : Int32) ≤ nn k := by rw [show (20 : Int32) = nn 20 from rfl, nn_le (by omega) (by omega)]; omega
    have c4 : ((4 : Int32) ≤ nn k) = (4 ≤ k) := nn_le (a := 4) (by omega) (by omega)
    have c8 : ((8 : Int32) ≤ nn k) = (8 ≤ k) := nn_le (a := 8) (by omega) (by omega)
    have c12 : ((12 : Int32) ≤ nn k) = (12 ≤ k) := nn_le (a := 12) (by omega) (by omega)
    have c16 : ((16 : Int32) ≤ nn k) = (16 ≤ k) := nn_le (a := 16) (by omega) (by omega)
    rw [L_hB_X9_feed_23, if_neg b20]
    simp only [c4, c8, c12, c16, d1, d2, xix_nn (show t + k < 1000 by omega) (by omega), nn_nat (show t + k < 2147483648 by omega), nn_succ]
    unfold pick byt
    by_cases q4 : 4 ≤ k
    · by_cases q8 : 8 ≤ k
      · by_cases q12 : 12 ≤ k
        · by_cases q16 : 16 ≤ k
          · simp only [q4, q8, q12, q16, ↓reduceIte, show ¬ k < 4 by omega, show ¬ k < 8 by omega, show ¬ k < 12 by omega, show ¬ k < 16 by omega]
            rfl
          · simp only [q4, q8, q12, q16, ↓reduceIte, show ¬ k < 4 by omega, show ¬ k < 8 by omega, show ¬ k < 12 by omega, show k < 16 by omega]
            rfl
        · simp only [q4, q8, q12, ↓reduceIte, show ¬ k < 4 by omega, show ¬ k < 8 by omega, show k < 12 by omega]
          rfl
      · simp only [q4, q8, ↓reduceIte, show ¬ k < 4 by omega, show k < 8 by omega]
        rfl
    · simp only [q4, ↓reduceIte, show k < 4 by omega]
      rfl
theorem q_feed_hB {t : Nat} {A A0 : pA} (hT : Tp t A A0) (g0 x1 x2 x3 x4 x5 : Int32) : ∃ v t' A' A0', e_hA_X7_feed (nn t) A x1 x2 x3 x4 x5 = some (v, A', nn t') ∧ e_hB_X9_feed g0 (nn t) A0 x1 x2 x3 x4 x5 = some (v, 0, A0', nn t') ∧ Tp t' A' A0' := by
  obtain ⟨ht, hA⟩ := hT
  rw [qc_feed ht]
  unfold e_hB_X9_feed
  by_cases q : t + 20 ≤ 1000
  · obtain ⟨A', e1, e2, e3⟩ := pr_feed_hB q (p0 := 0) (x1 := x1) (x2 := x2) (x3 := x3) (x4 := x4) (x5 := x5) (A0 := A0) (K := (fun l6_23 ma0_23 mg3_23 => some (mg3_23, (0 : Int32), ma0_23, mg3_23))) 20 0 200000 A0 (by omega) (by omega) (fun j hj => absurd hj (by omega)) (fun j hj => rfl)
    rw [if_pos q, if_pos (by rw [le1000 ht]; exact q)]
    refine ⟨nn (t + 20), t + 20, put20 A t x1 x2 x3 x4 x5, A', rfl, e1, q, fun k hk => ?_⟩
    by_cases z : k < t
    · rw [put_ne z, e3 k z]; exact hA k z
    · obtain ⟨j, rfl⟩ : ∃ j, k = t + j := ⟨k - t, by omega⟩
      rw [put_at (by omega), e2 j (by omega)]
      exact ⟨rfl, byt_ok _ _⟩
  · rw [if_neg q, if_neg (by rw [le1000 ht]; exact q)]
    exact ⟨-1, t, A, A0, rfl, rfl, ht, hA⟩
theorem pr_feed_hN {t : Nat} (ht : t + 20 ≤ 1000) {p0 x1 x2 x3 x4 x5 : Int32} {A0 : pA} {K : Int32 → pA → Int32 → Option (Int32 × Int32 × pA × Int32)} : ∀ (m k F : Nat) (A : pA), k + m = 20 → m < F → (∀ j, j < k → A (t + j) = byt (pick x1 x2 x3 x4 x5 j) (j % 4)) → (∀ j, j < t → A j = A0 j) → ∃ A', L_hN_X9_feed_23 p0 x1 x2 x3 x4 x5 K F (nn k) A (nn (t + k)) = K (nn 20) A' (nn (t + 20)) ∧ (∀ j, j < 20 → A' (t + j) = byt (pick x1 x2 x3 x4 x5 j) (j % 4)) ∧ (∀ j, j < t → A' j = A0 j) := by
  intro m
  induction m with
  | zero =>
    intro k F A e hF h1 h2
    obtain ⟨F, rfl⟩ : ∃ f, F = f + 1 := ⟨F - 1, by omega⟩
    obtain rfl : k = 20 := by omega
    refine ⟨A, ?_, h1, h2⟩
    rw [L_hN_X9_feed_23, if_pos (by decide)]
  | succ m ih =>
    intro k F A e hF h1 h2
    obtain ⟨F, rfl⟩ : ∃ f, F = f + 1 := ⟨F - 1, by omega⟩
    obtain ⟨A', e1, e2, e3⟩ := ih (k + 1) F (upd A (t + k) (byt (pick x1 x2 x3 x4 x5 k) (k % 4))) (by omega) (by omega) (fun j hj => by
      by_cases z : j = k
      · subst z; rw [upd_at]
      · rw [upd_ne _ _ (by omega)]; exact h1 j (by omega)) (fun j hj => by rw [upd_ne _ _ (by omega)]; exact h2 j hj)
    refine ⟨A', ?_, e2, e3⟩
    rw [← e1]
    have d1 : nn k - nn k / (4 : Int32) * (4 : Int32) = nn (k % 4) := nn_mod (b := 4) (by omega) (by omega)
    have d2 : (24 : Int32) - (8 : Int32) * nn (k % 4) = nn (24 - 8 * (k % 4)) := by
      rw [show (8 : Int32) = nn 8 from rfl, nn_mul, show (24 : Int32) = nn 24 from rfl, nn_sub (by omega)]
    have b20 : ¬ (20 : Int32) ≤ nn k := by rw [show (20 : Int32) = nn 20 from rfl, nn_le (by omega) (by omega)]; omega
    have c4 : ((4 : Int32) ≤ nn k) = (4 ≤ k) := nn_le (a := 4) (by omega) (by omega)
    have c8 : ((8 : Int32) ≤ nn k) = (8 ≤ k) := nn_le (a := 8) (by omega) (by omega)
    have c12 : ((12 : Int32) ≤ nn k) = (12 ≤ k) := nn_le (a := 12) (by omega) (by omega)
    have c16 : ((16 : Int32) ≤ nn k) = (16 ≤ k) := nn_le (a := 16) (by omega) (by omega)
    rw [L_hN_X9_feed_23, if_neg b20]
    simp only [c4, c8, c12, c16, d1, d2, xix_nn (show t + k < 1000 by omega) (by omega), nn_nat (show t + k < 2147483648 by omega), nn_succ]
    unfold pick byt
    by_cases q4 : 4 ≤ k
    · by_cases q8 : 8 ≤ k
      · by_cases q12 : 12 ≤ k
        · by_cases q16 : 16 ≤ k
          · simp only [q4, q8, q12, q16, ↓reduceIte, show ¬ k < 4 by omega, show ¬ k < 8 by omega, show ¬ k < 12 by omega, show ¬ k < 16 by omega]
            rfl
          · simp only [q4, q8, q12, q16, ↓reduceIte, show ¬ k < 4 by omega, show ¬ k < 8 by omega, show ¬ k < 12 by omega, show k < 16 by omega]
            rfl
        · simp only [q4, q8, q12, ↓reduceIte, show ¬ k < 4 by omega, show ¬ k < 8 by omega, show k < 12 by omega]
          rfl
      · simp only [q4, q8, ↓reduceIte, show ¬ k < 4 by omega, show k < 8 by omega]
        rfl
    · simp only [q4, ↓reduceIte, show k < 4 by omega]
      rfl
theorem q_feed_hN {t : Nat} {A A0 : pA} (hT : Tp t A A0) (g0 x1 x2 x3 x4 x5 : Int32) : ∃ v t' A' A0', e_hA_X7_feed (nn t) A x1 x2 x3 x4 x5 = some (v, A', nn t') ∧ e_hN_X9_feed g0 (nn t) A0 x1 x2 x3 x4 x5 = some (v, 0, A0', nn t') ∧ Tp t' A' A0' := by
  obtain ⟨ht, hA⟩ := hT
  rw [qc_feed ht]
  unfold e_hN_X9_feed
  by_cases q : t + 20 ≤ 1000
  · obtain ⟨A', e1, e2, e3⟩ := pr_feed_hN q (p0 := 0) (x1 := x1) (x2 := x2) (x3 := x3) (x4 := x4) (x5 := x5) (A0 := A0) (K := (fun l6_23 ma0_23 mg3_23 => some (mg3_23, (0 : Int32), ma0_23, mg3_23))) 20 0 200000 A0 (by omega) (by omega) (fun j hj => absurd hj (by omega)) (fun j hj => rfl)
    rw [if_pos q, if_pos (by rw [le1000 ht]; exact q)]
    refine ⟨nn (t + 20), t + 20, put20 A t x1 x2 x3 x4 x5, A', rfl, e1, q, fun k hk => ?_⟩
    by_cases z : k < t
    · rw [put_ne z, e3 k z]; exact hA k z
    · obtain ⟨j, rfl⟩ : ∃ j, k = t + j := ⟨k - t, by omega⟩
      rw [put_at (by omega), e2 j (by omega)]
      exact ⟨rfl, byt_ok _ _⟩
  · rw [if_neg q, if_neg (by rw [le1000 ht]; exact q)]
    exact ⟨-1, t, A, A0, rfl, rfl, ht, hA⟩
section FEED
variable {np nu nl nc tp na nm : Nat} {la gu ra : Int32} {g7 g8 g9 g10 g11 g12 g13 g14 g15 g17 g18 g19 g20 g21 g22 g23 g24 g25 g26 g27 g28 g29 g30 g31 g32 g33 g34 : Int32} {a0 a1 a2 a3 a4 a5 a6 a7 a8 a9 a10 a11 a12 a13 a14 a15 a16 a17 a18 a19 a20 a21 a22 a23 a24 a25 a26 a27 a28 a29 a30 a31 a32 a33 a34 a35 a36 a37 a38 a39 : pA} {b0 b1 b2 b3 b4 : Nat → Int64} {w0 : Int64}
variable {G0 G2 G4 G5 G6 G7 G8 G10 G13 G14 G15 G16 G17 G18 G26 : Int32} {A0 A2 A3 A4 A5 A6 A7 A8 A9 A10 A11 A12 A13 A14 A15 A16 A17 A18 A19 A20 A21 A22 A23 : pA} {B0 : Nat → Int64} {W0 : Int64} {rb : Nat}
theorem C_feed (I : IC np nu nl nc tp na nm la gu ra g22 g25 g26 g33 g34 G2 a0 a1 a2 a3 a4 a5 a6 a7 a8 a10 a11 a12 a13 a27 a28 a31 b2 b3 b4 A0 A2 A3 A4 A10 A11 A12 A13 A14 A15 A16 A17 A18 A19 A20 A21) (x1 x2 x3 x4 x5 : Int32) : ∃ (v : Int32) (a13' : (Nat → Int32)) (tp' : Nat) (A0' : (Nat → Int32)), e_hA_X7_feed (nn tp) a13 x1 x2 x3 x4 x5 = some (v, a13', (nn tp')) ∧ e_hB_X9_feed G0 (nn tp) A0 x1 x2 x3 x4 x5 = some (v, 0, A0', (nn tp')) ∧ IC np nu nl nc tp' na nm la gu ra g22 g25 g26 g33 g34 G2 a0 a1 a2 a3 a4 a5 a6 a7 a8 a10 a11 a12 a13' a27 a28 a31 b2 b3 b4 A0' A2 A3 A4 A10 A11 A12 A13 A14 A15 A16 A17 A18 A19 A20 A21 := by
  obtain ⟨v, t', A', A0', e1, e2, hT⟩ := q_feed_hB I.2.1 G0 x1 x2 x3 x4 x5
  exact ⟨v, A', t', A0', e1, e2, I.1, hT, I.2.2⟩
end FEED
section FEEDN
variable {tp : Nat} {g7 g8 g9 g10 g11 g12 g13 g14 g15 g17 g18 g19 g20 g21 g23 g24 g25 g26 g27 g28 g29 g30 g31 g32 g33 g34 : Int32} {a0 a1 a2 a3 a4 a5 a6 a7 a8 a9 a10 a11 a12 a13 a14 a15 a16 a17 a18 a19 a20 a21 a22 a23 a24 a25 a26 a27 a28 a29 a30 a31 a32 a33 a34 a35 a36 a37 a38 a39 : pA} {b0 b1 b2 b3 b4 : Nat → Int64} {w0 : Int64}
variable {G0 G2 G4 G5 G6 G7 G8 G10 G11 G12 G13 G14 G15 G16 G17 G18 : Int32} {A0 A1 A2 A3 A4 A5 A6 A7 A8 A9 : pA} {W0 : Int64} {rb : Nat}
theorem N_feed (I : IN tp g33 g34 G2 a13 A0 A1 A2) (x1 x2 x3 x4 x5 : Int32) : ∃ (v : Int32) (a13' : (Nat → Int32)) (tp' : Nat) (A0' : (Nat → Int32)), e_hA_X7_feed (nn tp) a13 x1 x2 x3 x4 x5 = some (v, a13', (nn tp')) ∧ e_hN_X9_feed G0 (nn tp) A0 x1 x2 x3 x4 x5 = some (v, 0, A0', (nn tp')) ∧ IN tp' g33 g34 G2 a13' A0' A1 A2 := by
  obtain ⟨v, t', A', A0', e1, e2, hT⟩ := q_feed_hN I.1 G0 x1 x2 x3 x4 x5
  exact ⟨v, A', t', A0', e1, e2, hT, I.2⟩
theorem gN_feed (I : IN tp g33 g34 G2 a13 A0 A1 A2) (x1 x2 x3 x4 x5 : Int32) : yBI YX7_feed YX9_feed [.int x1, .int x2, .int x3, .int x4, .int x5] (hA 0 0 0 0 0 0 0 g7 g8 g9 g10 g11 g12 g13 g14 g15 (nn tp) g17 g18 g19 g20 g21 0 g23 g24 g25 g26 g27 g28 g29 g30 g31 g32 g33 g34 0 0 a0 a1 a2 a3 a4 a5 a6 a7 a8 a9 a10 a11 a12 a13 a14 a15 a16 a17 a18 a19 a20 a21 a22 a23 a24 a25 a26 a27 a28 a29 a30 a31 a32 a33 a34 a35 a36 a37 a38 a39 b0 b1 b2 b3 b4 w0 (.ref 19) (.ref 1)) (hN G0 g34 G2 (nn tp) G4 G5 G6 G7 G8 g32 G10 G11 G12 G13 G14 G15 G16 G17 G18 A0 A1 A2 A3 A4 A5 A6 A7 A8 A9 W0 .null (xrv rb)) := by
  obtain ⟨v, a132, tp2, A02, e1, e2, q0⟩ := N_feed (G0 := G0) I x1 x2 x3 x4 x5
  exact ⟨_, _, _, _, _, 0, 0, by omega, by omega, ((t_hA_X7_feed x1 x2 x3 x4 x5 _ e1 38).up rfl), ((t_hN_X9_feed x1 x2 x3 x4 x5 _ e2 39).up rfl), hA_len, hN_len, yNorm.refl _, yNorm.refl _, Or.inl (InvN.mk q0)⟩
end FEEDN
