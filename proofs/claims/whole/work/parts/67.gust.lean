/-! THE PURE PART: gusts -/
theorem ll_inj {a b : Nat} (ha : a < 2 ^ 63) (hb : b < 2 ^ 63) (h : ll a = ll b) : a = b := by
  have := congrArg Int64.toNatClampNeg h
  unfold ll at this
  rwa [Int64.toNatClampNeg_ofNat_of_lt ha, Int64.toNatClampNeg_ofNat_of_lt hb] at this
theorem cmp0 {a : Nat} (ha : a < 2 ^ 63) : (lg_cmp (ll a) (0 : Int64) = (0 : Int32)) = (a = 0) := by
  refine propext ⟨fun h => ?_, fun h => ?_⟩
  · have e := h
    unfold lg_cmp at e
    rw [show (0 : Int64) = ll 0 from rfl] at e
    refine ll_inj ha (by omega) ?_
    split at e
    · exact absurd e (by decide)
    · split at e
      · rename_i h1 h2; exact h2
      · exact absurd e (by decide)
  · subst h; decide
theorem xnzL_ll {R : Type} {a : Nat} (h1 : 1 ≤ a) (ha : a < 2 ^ 63) (K : Option R) : xnzL (ll a) K = K := by
  unfold xnzL
  rw [if_neg]
  intro h
  have := ll_inj ha (by omega) (show ll a = ll 0 from h)
  omega
theorem mod_half {b c : Nat} (h0 : 0 < c) (h : c < b) : 2 * (b % c) < b := by
  have h1 := Nat.mod_lt b h0
  have h2 : b % c ≤ b - c := by
    rw [Nat.mod_eq_sub_mod (by omega)]
    exact Nat.mod_le _ _
  omega
theorem gcd_step (a b : Nat) : Nat.gcd a b = Nat.gcd b (a % b) := by
  rw [Nat.gcd_comm a b, Nat.gcd_rec, Nat.gcd_comm]
theorem pc_euc {f0 f2 : Int64} {f4 : Int32} {K : Int64 → Int64 → Int32 → Option Int64} (hK : ∀ x y j j', K x y j = K x y j') : ∀ (k a b F j : Nat), b < 2 ^ k → a < 2 ^ 62 → k ≤ 60 → 2 * k + 1 < F → j + 2 * k + 1 ≤ 900 → L_hA_X7_inLowestTerms_9 f0 f2 f4 K F (ll a) (ll b) (nn j) = K (ll (Nat.gcd a b)) 0 0 := by
  have n1000 : (1000 : Int32) = nn 1000 := rfl
  have stop : ∀ (a F j : Nat), j < 1000 → L_hA_X7_inLowestTerms_9 f0 f2 f4 K (F + 1) (ll a) (ll 0) (nn j) = K (ll a) 0 0 := by
    intro a F j hj
    have hjj : ¬ 1000 ≤ j := by omega
    simp (disch := omega) only [L_hA_X7_inLowestTerms_9, n1000, nn_le, hjj, cmp0, ↓reduceIte]
    exact hK _ _ _ _
  have step : ∀ (a b F j : Nat), j < 1000 → 1 ≤ b → b < 2 ^ 62 → a < 2 ^ 62 → L_hA_X7_inLowestTerms_9 f0 f2 f4 K (F + 1) (ll a) (ll b) (nn j) = L_hA_X7_inLowestTerms_9 f0 f2 f4 K F (ll b) (ll (a % b)) (nn (j + 1)) := by
    intro a b F j hj h1 h2 h3
    have hjj : ¬ 1000 ≤ j := by omega
    have hb0 : ¬ b = 0 := by omega
    simp (disch := omega) only [L_hA_X7_inLowestTerms_9, n1000, nn_le, hjj, cmp0, hb0, ↓reduceIte, xnzL_ll, ll_mod, nn_succ]
  intro k
  induction k with
  | zero =>
    intro a b F j hb ha hk hF hj
    obtain ⟨F, rfl⟩ : ∃ f, F = f + 1 := ⟨F - 1, by omega⟩
    obtain rfl : b = 0 := by omega
    rw [stop _ _ _ (by omega), Nat.gcd_zero_right]
  | succ k ih =>
    intro a b F j hb ha hk hF hj
    obtain ⟨F, rfl⟩ : ∃ f, F = f + 1 + 1 := ⟨F - 2, by omega⟩
    by_cases q : b = 0
    · subst q
      rw [stop _ _ _ (by omega), Nat.gcd_zero_right]
    · have hp : 2 ^ (k + 1) ≤ 2 ^ 60 := Nat.pow_le_pow_right (by omega) (by omega)
      have hm := Nat.mod_lt a (show b > 0 by omega)
      rw [step _ _ _ _ (by omega) (by omega) (by omega) ha, gcd_step]
      by_cases q2 : a % b = 0
      · rw [q2, stop _ _ _ (by omega), Nat.gcd_zero_right]
      · rw [step _ _ _ _ (by omega) (by omega) (by omega) (by omega), gcd_step b]
        have h2 := mod_half (show 0 < a % b by omega) hm
        rw [Nat.pow_succ] at hb
        exact ih _ _ _ _ (by omega) (by omega) (by omega) (by omega) (by omega)
theorem pr_euc {K : Int64 → Int64 → Option Int64} : ∀ (k a b F : Nat), b < 2 ^ k → a < 2 ^ 62 → k ≤ 60 → 2 * k + 1 < F → L_hB_X9_common_6 K F (ll a) (ll b) = K (ll (Nat.gcd a b)) 0 := by
  have stop : ∀ (a F : Nat), L_hB_X9_common_6 K (F + 1) (ll a) (ll 0) = K (ll a) 0 := by
    intro a F
    simp (disch := omega) only [L_hB_X9_common_6, cmp0, ↓reduceIte]
    rfl
  have step : ∀ (a b F : Nat), 1 ≤ b → b < 2 ^ 62 → a < 2 ^ 62 → L_hB_X9_common_6 K (F + 1) (ll a) (ll b) = L_hB_X9_common_6 K F (ll b) (ll (a % b)) := by
    intro a b F h1 h2 h3
    have hb0 : ¬ b = 0 := by omega
    simp (disch := omega) only [L_hB_X9_common_6, cmp0, hb0, ↓reduceIte, xnzL_ll, ll_mod]
  intro k
  induction k with
  | zero =>
    intro a b F hb ha hk hF
    obtain ⟨F, rfl⟩ : ∃ f, F = f + 1 := ⟨F - 1, by omega⟩
    obtain rfl : b = 0 := by omega
    rw [stop, Nat.gcd_zero_right]
  | succ k ih =>
    intro a b F hb ha hk hF
    obtain ⟨F, rfl⟩ : ∃ f, F = f + 1 + 1 := ⟨F - 2, by omega⟩
    by_cases q : b = 0
    · subst q
      rw [stop, Nat.gcd_zero_right]
    · have hp : 2 ^ (k + 1) ≤ 2 ^ 60 := Nat.pow_le_pow_right (by omega) (by omega)
      have hm := Nat.mod_lt a (show b > 0 by omega)
      rw [step _ _ _ (by omega) (by omega) ha, gcd_step]
      by_cases q2 : a % b = 0
      · rw [q2, stop, Nat.gcd_zero_right]
      · rw [step _ _ _ (by omega) (by omega) (by omega), gcd_step b]
        have h2 := mod_half (show 0 < a % b by omega) hm
        rw [Nat.pow_succ] at hb
        exact ih _ _ _ (by omega) (by omega) (by omega) (by omega)
/-- upper or lower WHOLE in lowest terms -/
def low (u w : Nat) (lower : Int32) : Int64 := ll ((if lower = 0 then u else w) / Nat.gcd u w)
theorem gcd_pos {u w : Nat} (hw : 1 ≤ w) : 1 ≤ Nat.gcd u w := Nat.gcd_pos_of_pos_right u (by omega)
theorem gcd_le {u w : Nat} (hw : 1 ≤ w) : Nat.gcd u w ≤ w := Nat.gcd_le_right u (by omega)
theorem qc_low {u w : Nat} {x4 : Int32} (hu : u < 2 ^ 59) (hw1 : 1 ≤ w) (hw : w < 2 ^ 59) : e_hA_X7_inLowestTerms (ll u) (ll w) x4 = some (low u w x4) := by
  have g1 := gcd_pos (u := u) hw1
  have g2 := gcd_le (u := u) hw1
  unfold e_hA_X7_inLowestTerms low
  refine (pc_euc (fun _ _ _ _ => rfl) 59 w u 200000 0 (by omega) (by omega) (by omega) (by omega) (by omega)).trans ?_
  rw [Nat.gcd_comm w u]
  have hz : ¬ Nat.gcd u w = 0 := by omega
  by_cases q : x4 = 0
  · simp (disch := omega) only [q, ↓reduceIte, cmp0, hz, xnzL_ll, ll_div]
  · simp (disch := omega) only [q, ↓reduceIte, cmp0, hz, xnzL_ll, ll_div]
theorem qr_low {u w : Nat} {p0 p1 x4 : Int32} (hu : u < 2 ^ 59) (hw1 : 1 ≤ w) (hw : w < 2 ^ 59) : e_hB_X9_fraction p0 p1 (ll u) (ll w) x4 = some (low u w x4, 0, -1) := by
  have g1 := gcd_pos (u := u) hw1
  have g2 := gcd_le (u := u) hw1
  have ec : e_hB_X9_common (ll u) (ll w) = some (ll (Nat.gcd u w)) := pr_euc 59 u w 200000 (by omega) (by omega) (by omega) (by omega)
  unfold e_hB_X9_fraction low e_hB_X9_good
  by_cases q : x4 = 0
  · simp (disch := omega) only [q, ↓reduceIte, ec, Option.bind_some, xnzL_ll, ll_div]
  · simp (disch := omega) only [q, ↓reduceIte, ec, Option.bind_some, xnzL_ll, ll_div]
theorem pw_le {h n k : Nat} (hh : h ≤ 100) (hn : n ≤ k) : h ^ n ≤ 100 ^ k := Nat.le_trans (Nat.pow_le_pow_left hh n) (Nat.pow_le_pow_right (by omega) hn)
theorem pr_power {h n : Nat} (hn : n ≤ 6) {K : Int64 → Int32 → Option Int64} : ∀ (m k F u : Nat), k + m = n → m < F → L_hB_X9_power_5 (ll h) (nn n) K F (ll u) (nn k) = K (ll (u * h ^ m)) (nn n) := by
  intro m
  induction m with
  | zero =>
    intro k F u e hF
    obtain ⟨F, rfl⟩ : ∃ f, F = f + 1 := ⟨F - 1, by omega⟩
    obtain rfl : k = n := by omega
    simp (disch := omega) only [L_hB_X9_power_5, nn_le, Nat.le_refl, ↓reduceIte, Nat.pow_zero, Nat.mul_one]
  | succ m ih =>
    intro k F u e hF
    obtain ⟨F, rfl⟩ : ∃ f, F = f + 1 := ⟨F - 1, by omega⟩
    have hk : ¬ n ≤ k := by omega
    rw [Nat.pow_succ, Nat.mul_comm (h ^ m) h, ← Nat.mul_assoc, ← ih (k + 1) F (u * h) (by omega) (by omega)]
    simp (disch := omega) only [L_hB_X9_power_5, nn_le, hk, ↓reduceIte, ll_mul, nn_succ]
theorem qr_power {h n : Nat} (hn : n ≤ 6) : e_hB_X9_power (ll h) (nn n) = some (ll (h ^ n)) := by
  refine (pr_power hn n 0 200000 1 (by omega) (by omega)).trans ?_
  rw [Nat.one_mul]
/-- in how many of 100 hours it holds -/
def hd (kind : pA) (g u : Nat) : Nat := if kind u = 0 then 100 - g / 2 else 100 - g
theorem hd_ok {kind : pA} {g u : Nat} (hg : g ≤ 99) : 1 ≤ hd kind g u ∧ hd kind g u ≤ 100 := by
  unfold hd
  split <;> omega
theorem qc_hd {kind : pA} {g u : Nat} (hg : g ≤ 99) (hu : u < 5) : e_hA_X1_holdsOf100 kind (nn g) (nn u) = some (nn (hd kind g u)) := by
  unfold e_hA_X1_holdsOf100 hd
  rw [xix_nn hu (by omega), nn_nat (by omega), show (2 : Int32) = nn 2 from rfl, nn_div (by omega) (by omega), show (100 : Int32) = nn 100 from rfl, nn_sub (by omega), nn_sub (by omega)]
  split <;> rfl
theorem qr_calm {kind : pA} {g u : Nat} (hg : g ≤ 99) (hu : u < 5) : e_hB_X9_calm kind (nn g) (nn u) = some (ll (hd kind g u)) := by
  unfold e_hB_X9_calm hd
  rw [xix_nn hu (by omega), nn_nat (by omega), show (2 : Int32) = nn 2 from rfl, nn_div (by omega) (by omega), show (100 : Int64) = ll 100 from rfl, nn_64 (by omega), nn_64 (by omega), ll_sub (by omega), ll_sub (by omega)]
  split <;> rfl
theorem pc_whole {kind : pA} {g u n : Nat} (hg : g ≤ 99) (hu : u < 5) (hn : n ≤ 6) {p0 p1 f3 : Int32} {K : Int64 → Int64 → Int32 → Option (Int64 × Int32)} : ∀ (m k F a b : Nat), k + m = n → m < F → L_hA_X7_whole_41 p0 p1 kind (nn g) (nn u) (nn n) f3 K F (ll a) (ll b) (nn k) = K (ll (a * hd kind g u ^ m)) (ll (b * 100 ^ m)) (nn n) := by
  intro m
  induction m with
  | zero =>
    intro k F a b e hF
    obtain ⟨F, rfl⟩ : ∃ f, F = f + 1 := ⟨F - 1, by omega⟩
    obtain rfl : k = n := by omega
    simp (disch := omega) only [L_hA_X7_whole_41, nn_le, Nat.le_refl, ↓reduceIte, Nat.pow_zero, Nat.mul_one]
  | succ m ih =>
    intro k F a b e hF
    obtain ⟨F, rfl⟩ : ∃ f, F = f + 1 := ⟨F - 1, by omega⟩
    have hk : ¬ n ≤ k := by omega
    have h1 := hd_ok (kind := kind) (u := u) hg
    rw [Nat.pow_succ, Nat.mul_comm (hd kind g u ^ m), ← Nat.mul_assoc, Nat.pow_succ, Nat.mul_comm (100 ^ m), ← Nat.mul_assoc, ← ih (k + 1) F (a * hd kind g u) (b * 100) (by omega) (by omega)]
    simp (disch := omega) only [L_hA_X7_whole_41, nn_le, hk, ↓reduceIte, qc_hd hg hu, Option.bind_some, nn_64, show (100 : Int64) = ll 100 from rfl, ll_mul, nn_succ]
theorem hd_congr {kind kind' : pA} {g u : Nat} (h : kind u = kind' u) : hd kind g u = hd kind' g u := by
  unfold hd
  rw [h]
/-- over all umbrellas that p has -/
def aw (h kind : pA) (g : Nat) (p : Int32) (n : Nat) : Nat → Nat → Nat → Nat → Nat × Nat
  | 0, _, a, b => (a, b)
  | m + 1, k, a, b => if h k = p then aw h kind g p n m (k + 1) (a * hd kind g k ^ n) (b * 100 ^ n) else aw h kind g p n m (k + 1) a b
theorem aw_congr {h kind kind' : pA} {g n nu : Nat} {p : Int32} (hk : ∀ u, u < nu → kind u = kind' u) : ∀ (m k a b : Nat), k + m ≤ nu → aw h kind g p n m k a b = aw h kind' g p n m k a b := by
  intro m
  induction m with
  | zero => intro k a b _; rfl
  | succ m ih =>
    intro k a b e
    simp only [aw]
    rw [hd_congr (hk k (by omega)), ih _ _ _ (by omega), ih _ _ _ (by omega)]
theorem aw_le {h kind : pA} {g n : Nat} {p : Int32} (hg : g ≤ 99) (hn : n ≤ 1) : ∀ (m k a b j : Nat), a ≤ 100 ^ j → b ≤ 100 ^ j → 1 ≤ b → (aw h kind g p n m k a b).1 ≤ 100 ^ (j + m) ∧ (aw h kind g p n m k a b).2 ≤ 100 ^ (j + m) ∧ 1 ≤ (aw h kind g p n m k a b).2 := by
  intro m
  induction m with
  | zero => intro k a b j h1 h2 h3; exact ⟨h1, h2, h3⟩
  | succ m ih =>
    intro k a b j h1 h2 h3
    simp only [aw]
    have hh := hd_ok (kind := kind) (u := k) hg
    have e : j + (m + 1) = (j + 1) + m := by omega
    have hp : (100 : Nat) ^ j ≤ 100 ^ (j + 1) := Nat.pow_le_pow_right (by omega) (by omega)
    rw [e]
    split
    · refine ih (k + 1) _ _ (j + 1) ?_ ?_ ?_
      · rw [Nat.pow_succ]
        exact Nat.mul_le_mul h1 (pw_le (k := 1) hh.2 hn)
      · rw [Nat.pow_succ]
        exact Nat.mul_le_mul h2 (pw_le (k := 1) (Nat.le_refl 100) hn)
      · exact Nat.mul_pos h3 (Nat.pow_pos (by omega))
    · exact ih (k + 1) _ _ (j + 1) (Nat.le_trans h1 hp) (Nat.le_trans h2 hp) h3
theorem pc_allWhole {h kind : pA} {g nu n : Nat} {p : Int32} (hg : g ≤ 99) (hnu : nu ≤ 5) (hn : n ≤ 1) {p0 p1 f3 : Int32} {K : Int64 → Int64 → Int32 → Option (Int64 × Int32)} : ∀ (m k F a b : Nat), k + m = nu → m < F → L_hA_X7_allWhole_40 p0 p1 (nn nu) h kind (nn g) p (nn n) f3 K F (ll a) (ll b) (nn k) = K (ll (aw h kind g p n m k a b).1) (ll (aw h kind g p n m k a b).2) (nn nu) := by
  have hc : n = 0 ∨ n = 1 := by omega
  intro m
  induction m with
  | zero =>
    intro k F a b e hF
    obtain ⟨F, rfl⟩ : ∃ f, F = f + 1 := ⟨F - 1, by omega⟩
    obtain rfl : k = nu := by omega
    simp (disch := omega) only [L_hA_X7_allWhole_40, nn_le, Nat.le_refl, ↓reduceIte, aw]
  | succ m ih =>
    intro k F a b e hF
    obtain ⟨F, rfl⟩ : ∃ f, F = f + 1 := ⟨F - 1, by omega⟩
    have hk : ¬ nu ≤ k := by omega
    have h1 := hd_ok (kind := kind) (u := k) hg
    have n1 : (1 : Int32) = nn 1 := rfl
    rcases hc with rfl | rfl
    · simp only [aw, Nat.pow_zero, Nat.mul_one, ite_self]
      rw [← ih (k + 1) F a b (by omega) (by omega)]
      have z : ¬ nn 0 = (1 : Int32) := by decide
      simp (disch := omega) only [L_hA_X7_allWhole_40, nn_le, hk, z, ↓reduceIte, nn_succ]
    · simp only [aw, Nat.pow_one]
      have z : nn 1 = (1 : Int32) := rfl
      by_cases q : h k = p
      · rw [if_pos q, ← ih (k + 1) F _ _ (by omega) (by omega)]
        simp (disch := omega) only [L_hA_X7_allWhole_40, nn_le, hk, z, ↓reduceIte, xix_nn, nn_nat, q, qc_hd hg, Option.bind_some, nn_64, show (100 : Int64) = ll 100 from rfl, ll_mul, nn_succ]
      · rw [if_neg q, ← ih (k + 1) F _ _ (by omega) (by omega)]
        simp (disch := omega) only [L_hA_X7_allWhole_40, nn_le, hk, z, ↓reduceIte, xix_nn, nn_nat, q, nn_succ]
theorem pr_allWhole {h t kind : pA} {g nu n : Nat} {p d : Int32} (hg : g ≤ 99) (hnu : nu ≤ 5) (hn : n ≤ 1) {p0 p1 p3 p4 f3 : Int32} {K : Int64 → Int64 → Int32 → Option (Int64 × Int32 × Int32 × Int32)} : ∀ (m k F a b : Nat), k + m = nu → m < F → L_hB_X9_allWhole_45 p0 p1 (nn nu) p3 p4 (mkr h t d) kind (nn g) p (nn n) f3 K F (ll a) (ll b) (nn k) = K (ll (aw h kind g p n m k a b).1) (ll (aw h kind g p n m k a b).2) (nn nu) := by
  intro m
  induction m with
  | zero =>
    intro k F a b e hF
    obtain ⟨F, rfl⟩ : ∃ f, F = f + 1 := ⟨F - 1, by omega⟩
    obtain rfl : k = nu := by omega
    simp (disch := omega) only [L_hB_X9_allWhole_45, nn_le, Nat.le_refl, ↓reduceIte, aw]
  | succ m ih =>
    intro k F a b e hF
    obtain ⟨F, rfl⟩ : ∃ f, F = f + 1 := ⟨F - 1, by omega⟩
    have hk : ¬ nu ≤ k := by omega
    simp only [aw]
    by_cases q : h k = p
    · rw [if_pos q, ← ih (k + 1) F _ _ (by omega) (by omega)]
      simp (disch := omega) only [L_hB_X9_allWhole_45, nn_le, hk, ↓reduceIte, nn_0add, xix_nn, nn_nat, mkr_h, q, qr_calm hg, Option.bind_some, show (100 : Int64) = ll 100 from rfl, qr_power, ll_mul, nn_succ]
    · rw [if_neg q, ← ih (k + 1) F _ _ (by omega) (by omega)]
      simp (disch := omega) only [L_hB_X9_allWhole_45, nn_le, hk, ↓reduceIte, nn_0add, xix_nn, nn_nat, mkr_h, q, nn_succ]
section GUST
variable {np nu nl nc tp na nm : Nat} {la gu ra : Int32} {g7 g8 g9 g10 g11 g12 g13 g14 g15 g17 g18 g19 g20 g21 g22 g23 g24 g25 g26 g27 g28 g29 g30 g31 g32 g33 g34 : Int32} {a0 a1 a2 a3 a4 a5 a6 a7 a8 a9 a10 a11 a12 a13 a14 a15 a16 a17 a18 a19 a20 a21 a22 a23 a24 a25 a26 a27 a28 a29 a30 a31 a32 a33 a34 a35 a36 a37 a38 a39 : pA} {b0 b1 b2 b3 b4 : Nat → Int64} {w0 : Int64}
variable {G0 G2 G4 G5 G6 G7 G8 G10 G13 G14 G15 G16 G17 G18 G26 : Int32} {A0 A2 A3 A4 A5 A6 A7 A8 A9 A10 A11 A12 A13 A14 A15 A16 A17 A18 A19 A20 A21 A22 A23 : pA} {B0 : Nat → Int64} {W0 : Int64} {rb : Nat}
theorem C_whole (I : IC np nu nl nc tp na nm la gu ra g22 g25 g26 g33 g34 G2 a0 a1 a2 a3 a4 a5 a6 a7 a8 a10 a11 a12 a13 a27 a28 a31 b2 b3 b4 A0 A2 A3 A4 A10 A11 A12 A13 A14 A15 A16 A17 A18 A19 A20 A21) (x1 x2 x3 : Int32) (hb : x3 = 0 ∨ x3 = 1) : ∃ (v : Int64) (c : Int32), e_hA_X7_whole (nn nu) g34 a1 gu x1 x2 x3 = some (v, c) ∧ e_hB_X9_whole G0 (nn nu) g34 G2 A11 gu x1 x2 x3 = some (v, 0, c, (-1)) ∧ c ≠ 4 := by
  obtain ⟨⟨hp1, hp, hn1, hn, hl, hc⟩, ⟨hla, hgu, hra⟩, eS, eK, eL, eR, eW, bL, bR, wW, eG, oG, eC⟩ := I.1
  obtain ⟨g, hg, rfl⟩ := hgu
  rcases isU_cases hn x1 with ⟨h1, h2⟩ | ⟨u, hu, rfl, h1, h2⟩
  · exact ⟨-1, 1, by unfold e_hA_X7_whole; rw [h1]; rfl, by unfold e_hB_X9_whole; rw [h2]; rfl, by decide⟩
  · by_cases q1 : x2 < 0
    · exact ⟨-1, 2, by unfold e_hA_X7_whole; rw [h1, Option.bind_some, if_neg (by decide), if_pos q1]; rfl, by unfold e_hB_X9_whole e_hB_X9_in; rw [h2, Option.bind_some, if_neg (by decide), if_pos q1]; rfl, by decide⟩
    · by_cases q2 : (6 : Int32) < x2
      · exact ⟨-1, 2, by unfold e_hA_X7_whole; rw [h1, Option.bind_some, if_neg (by decide), if_neg q1, if_neg (Int32.not_le.mpr q2)]; rfl, by unfold e_hB_X9_whole e_hB_X9_in; rw [h2, Option.bind_some, if_neg (by decide), if_neg q1, if_pos q2]; rfl, by decide⟩
      · obtain ⟨n, hn6, rfl⟩ := nn_of_le (n := 6) (Int32.not_lt.mp q1) (Int32.not_lt.mp q2) (by omega)
        have hh := hd_ok (kind := a1) (u := u) hg
        have b1 : hd a1 g u ^ n ≤ 100 ^ 6 := pw_le hh.2 hn6
        have b2 : 100 ^ n ≤ 100 ^ 6 := pw_le (Nat.le_refl 100) hn6
        have b3 : 1 ≤ 100 ^ n := Nat.pow_pos (by omega)
        refine ⟨low (hd a1 g u ^ n) (100 ^ n) x3, 0, ?_, ?_, by decide⟩
        · unfold e_hA_X7_whole
          rw [h1, Option.bind_some, if_neg (by decide), if_neg q1, if_pos (Int32.not_lt.mp q2)]
          refine (pc_whole hg (by omega) hn6 n 0 200000 1 1 (by omega) (by omega)).trans ?_
          rw [Nat.one_mul, Nat.one_mul, qc_low (by omega) b3 (by omega)]
          rfl
        · unfold e_hB_X9_whole e_hB_X9_in
          rw [h2, Option.bind_some, if_neg (by decide), if_neg q1, if_neg q2, Option.bind_some, if_neg (by decide), qr_calm hg (by omega), Option.bind_some, qr_power hn6, Option.bind_some, show (100 : Int64) = ll 100 from rfl, qr_power hn6, Option.bind_some, ← hd_congr (eK u hu), qr_low (by omega) b3 (by omega)]
          rfl
theorem C_allWhole (I : IC np nu nl nc tp na nm la gu ra g22 g25 g26 g33 g34 G2 a0 a1 a2 a3 a4 a5 a6 a7 a8 a10 a11 a12 a13 a27 a28 a31 b2 b3 b4 A0 A2 A3 A4 A10 A11 A12 A13 A14 A15 A16 A17 A18 A19 A20 A21) (x1 x2 x3 : Int32) (hb : x3 = 0 ∨ x3 = 1) : ∃ (v : Int64) (c : Int32), e_hA_X7_allWhole (nn np) g34 (nn nu) a27 a1 gu x1 x2 x3 = some (v, c) ∧ e_hB_X9_allWhole G0 (nn np) (nn nu) g34 G2 (mkr a27 a28 g22) A11 gu x1 x2 x3 = some (v, 0, c, (-1)) ∧ c ≠ 4 := by
  obtain ⟨⟨hp1, hp, hn1, hn, hl, hc⟩, ⟨hla, hgu, hra⟩, eS, eK, eL, eR, eW, bL, bR, wW, eG, oG, eC⟩ := I.1
  obtain ⟨g, hg, rfl⟩ := hgu
  rcases isP_cases hp x1 with ⟨h1, h2⟩ | ⟨p, hpp, rfl, h1, h2⟩
  · exact ⟨-1, 1, by unfold e_hA_X7_allWhole; rw [h1]; rfl, by unfold e_hB_X9_allWhole; rw [h2]; rfl, by decide⟩
  · by_cases q1 : x2 < 0
    · exact ⟨-1, 2, by unfold e_hA_X7_allWhole; rw [h1, Option.bind_some, if_neg (by decide), if_pos q1]; rfl, by unfold e_hB_X9_allWhole e_hB_X9_in; rw [h2, Option.bind_some, if_neg (by decide), if_pos q1]; rfl, by decide⟩
    · by_cases q2 : (1 : Int32) < x2
      · exact ⟨-1, 2, by unfold e_hA_X7_allWhole; rw [h1, Option.bind_some, if_neg (by decide), if_neg q1, if_neg (Int32.not_le.mpr q2)]; rfl, by unfold e_hB_X9_allWhole e_hB_X9_in; rw [h2, Option.bind_some, if_neg (by decide), if_neg q1, if_pos q2]; rfl, by decide⟩
      · obtain ⟨n, hn6, rfl⟩ := nn_of_le (n := 1) (Int32.not_lt.mp q1) (Int32.not_lt.mp q2) (by omega)
        obtain ⟨b1, b2, b3⟩ := aw_le (h := a27) (kind := a1) (p := nn p) hg hn6 nu 0 1 1 0 (by omega) (by omega) (by omega)
        have b4 : 100 ^ (0 + nu) ≤ 100 ^ 5 := Nat.pow_le_pow_right (by omega) (by omega)
        refine ⟨low (aw a27 a1 g (nn p) n nu 0 1 1).1 (aw a27 a1 g (nn p) n nu 0 1 1).2 x3, 0, ?_, ?_, by decide⟩
        · unfold e_hA_X7_allWhole
          rw [h1, Option.bind_some, if_neg (by decide), if_neg q1, if_pos (Int32.not_lt.mp q2)]
          refine (pc_allWhole hg hn hn6 nu 0 200000 1 1 (by omega) (by omega)).trans ?_
          rw [qc_low (by omega) b3 (by omega)]
          rfl
        · unfold e_hB_X9_allWhole e_hB_X9_in
          rw [h2, Option.bind_some, if_neg (by decide), if_neg q1, if_neg q2, Option.bind_some, if_neg (by decide)]
          refine (pr_allWhole hg hn hn6 nu 0 200000 1 1 (by omega) (by omega)).trans ?_
          rw [← aw_congr eK nu 0 1 1 (by omega), qr_low (by omega) b3 (by omega)]
          rfl
end GUST
