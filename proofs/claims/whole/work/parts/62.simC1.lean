/-! THE PURE PART: the small questions -/
theorem isU_cases {nu : Nat} (hn : nu ≤ 5) (x : Int32) : (e_hA_X7_isUmbrella (nn nu) x = some 0 ∧ e_hB_X9_isUmbrella (nn nu) x = some 0) ∨ ∃ u, u < nu ∧ x = nn u ∧ e_hA_X7_isUmbrella (nn nu) x = some 1 ∧ e_hB_X9_isUmbrella (nn nu) x = some 1 := by
  unfold e_hA_X7_isUmbrella e_hB_X9_isUmbrella
  by_cases q : x < 0
  · left; simp only [q, ↓reduceIte, and_self]
  · by_cases q2 : nn nu ≤ x
    · left; simp only [q, q2, ↓reduceIte, and_self]
    · right
      obtain ⟨u, hu, e⟩ := nn_of (Int32.not_lt.mp q) (Int32.not_le.mp q2) (by omega)
      exact ⟨u, hu, e, by simp only [q, q2, ↓reduceIte, and_self]⟩
theorem isP_cases {np : Nat} (hn : np ≤ 6) (x : Int32) : (e_hA_X7_isPerson (nn np) x = some 0 ∧ e_hB_X9_isPerson (nn np) x = some 0) ∨ ∃ u, u < np ∧ x = nn u ∧ e_hA_X7_isPerson (nn np) x = some 1 ∧ e_hB_X9_isPerson (nn np) x = some 1 := by
  unfold e_hA_X7_isPerson e_hB_X9_isPerson
  by_cases q : x < 0
  · left; simp only [q, ↓reduceIte, and_self]
  · by_cases q2 : nn np ≤ x
    · left; simp only [q, q2, ↓reduceIte, and_self]
    · right
      obtain ⟨u, hu, e⟩ := nn_of (Int32.not_lt.mp q) (Int32.not_le.mp q2) (by omega)
      exact ⟨u, hu, e, by simp only [q, q2, ↓reduceIte, and_self]⟩
theorem isT1 {nu : Nat} (h1 : 1 ≤ nu) (h5 : nu ≤ 5) : e_hA_X7_isTold (nn nu) = some 1 := by
  unfold e_hA_X7_isTold
  simp (disch := omega) only [show (0 : Int32) = nn 0 from rfl, nn_le]
  rw [if_neg (by omega)]
theorem isD_cases (x : Int32) : (e_hA_X7_isDay x = some 0 ∧ e_hB_X9_in x 0 40 = some 0) ∨ ∃ d, d < 41 ∧ x = nn d ∧ e_hA_X7_isDay x = some 1 ∧ e_hB_X9_in x 0 40 = some 1 := by
  unfold e_hA_X7_isDay e_hB_X9_in
  by_cases q : x < 0
  · left; simp only [q, ↓reduceIte, and_self]
  · by_cases q2 : (41 : Int32) ≤ x
    · left
      have q3 : (40 : Int32) < x := by
        rw [Int32.lt_iff_toInt_lt]; rw [Int32.le_iff_toInt_le] at q2
        have a1 : (41 : Int32).toInt = 41 := rfl
        have a2 : (40 : Int32).toInt = 40 := rfl
        omega
      simp only [q, q2, q3, ↓reduceIte, and_self]
    · right
      obtain ⟨u, hu, e⟩ := nn_of (n := 41) (Int32.not_lt.mp q) (Int32.not_le.mp q2) (by omega)
      have q3 : ¬ (40 : Int32) < x := by
        rw [e, show (40 : Int32) = nn 40 from rfl, nn_lt (by omega) (by omega)]; omega
      exact ⟨u, hu, e, by simp only [q, q2, q3, ↓reduceIte, and_self]⟩
theorem pHeld_mkr {nu : Nat} (hn : nu ≤ 5) {h t : pA} {d p : Int32} : pHeld (mkr h t d) p nu 0 0 = pHeld h p nu 0 0 := pHeld_congr nu 0 0 fun u hu => mkr_h (by omega)
theorem pLands_mkr {nu : Nat} (hn : nu ≤ 5) {h t l l' : pA} {d p : Int32} (hl : ∀ u, u < nu → l u = l' u) : pLands (tR (mkr h t d)) l' p nu 0 0 = pLands t l p nu 0 0 := pLands_congr nu 0 0 fun u hu => ⟨mkr_t (by omega), (hl u (by omega)).symm⟩
theorem pRight_mkr {nu : Nat} (hn : nu ≤ 5) {h t : pA} {d : Int32} : pRight (mkr h t d) (tR (mkr h t d)) nu 0 0 = pRight h t nu 0 0 := pRight_congr nu 0 0 fun u hu => ⟨mkr_h (by omega), mkr_t (by omega)⟩
def pAlike (kind ribs : pA) (u : Nat) : Nat → Nat → Int32 → Int32
  | 0, _, acc => acc
  | m + 1, k, acc => pAlike kind ribs u m (k + 1) (if k ≠ u ∧ kind u = kind k ∧ ribs u = ribs k then acc ||| ((1 : Int32) <<< (nn k &&& 31)) else acc)
theorem pAlike_congr {kind ribs kind' ribs' : pA} {nu u : Nat} (hu : u < nu) (hk : ∀ j, j < nu → kind j = kind' j) (hr : ∀ j, j < nu → ribs j = ribs' j) : ∀ (m k : Nat) (acc : Int32), k + m ≤ nu → pAlike kind ribs u m k acc = pAlike kind' ribs' u m k acc := by
  intro m
  induction m with
  | zero => intro k acc _; rfl
  | succ m ih =>
    intro k acc e
    simp only [pAlike]
    rw [hk u hu, hr u hu, hk k (by omega), hr k (by omega), ih (k + 1) _ (by omega)]
theorem pc_alike {nu u : Nat} (hn : nu ≤ 5) (hu : u < nu) {g : Int32} {kind ribs : pA} {K : Int32 → Int32 → Option (Int32 × Int32)} : ∀ (m k F : Nat) (acc : Int32), k + m = nu → m < F → L_hA_X7_alike_18 (nn nu) g kind ribs (nn u) K F acc (nn k) = K (pAlike kind ribs u m k acc) (nn nu) := by
  intro m
  induction m with
  | zero =>
    intro k F acc e hF
    obtain ⟨F, rfl⟩ : ∃ f, F = f + 1 := ⟨F - 1, by omega⟩
    obtain rfl : k = nu := by omega
    simp (disch := omega) only [L_hA_X7_alike_18, nn_le, Nat.le_refl, ↓reduceIte, pAlike]
  | succ m ih =>
    intro k F acc e hF
    obtain ⟨F, rfl⟩ : ∃ f, F = f + 1 := ⟨F - 1, by omega⟩
    have hk : ¬ nu ≤ k := by omega
    simp only [pAlike]
    rw [← ih (k + 1) F _ (by omega) (by omega)]
    by_cases q : k = u
    · subst q
      simp (disch := omega) only [L_hA_X7_alike_18, nn_le, hk, ↓reduceIte, nn_succ, ne_eq, not_true_eq_false, false_and]
    · by_cases q1 : kind u = kind k
      · by_cases q2 : ribs u = ribs k
        · simp (disch := omega) only [L_hA_X7_alike_18, e_hA_X1_areAlike, nn_le, hk, ↓reduceIte, xix_nn, nn_nat, nn_succ, nn_inj, q, q1, q2, ne_eq, not_false_eq_true, and_self, Option.bind_some, nz10]
        · simp (disch := omega) only [L_hA_X7_alike_18, e_hA_X1_areAlike, nn_le, hk, ↓reduceIte, xix_nn, nn_nat, nn_succ, nn_inj, q, q1, q2, and_false, Option.bind_some]
      · simp (disch := omega) only [L_hA_X7_alike_18, e_hA_X1_areAlike, nn_le, hk, ↓reduceIte, xix_nn, nn_nat, nn_succ, nn_inj, q, q1, false_and, and_false, Option.bind_some]
theorem pr_alike {nu u : Nat} (hn : nu ≤ 5) (hu : u < nu) {g0 g g2 : Int32} {kind ribs : pA} {K : Int32 → Int32 → Option (Int32 × Int32 × Int32 × Int32)} : ∀ (m k F : Nat) (acc : Int32), k + m = nu → m < F → L_hB_X9_alike_23 g0 (nn nu) g g2 kind ribs (nn u) K F acc (nn k) = K (pAlike kind ribs u m k acc) (nn nu) := by
  intro m
  induction m with
  | zero =>
    intro k F acc e hF
    obtain ⟨F, rfl⟩ : ∃ f, F = f + 1 := ⟨F - 1, by omega⟩
    obtain rfl : k = nu := by omega
    simp (disch := omega) only [L_hB_X9_alike_23, nn_le, Nat.le_refl, ↓reduceIte, pAlike]
  | succ m ih =>
    intro k F acc e hF
    obtain ⟨F, rfl⟩ : ∃ f, F = f + 1 := ⟨F - 1, by omega⟩
    have hk : ¬ nu ≤ k := by omega
    simp only [pAlike]
    rw [← ih (k + 1) F _ (by omega) (by omega)]
    by_cases q : k = u
    · subst q
      simp (disch := omega) only [L_hB_X9_alike_23, e_hB_X8_areAlike, nn_le, hk, ↓reduceIte, nn_succ, ne_eq, not_true_eq_false, false_and, Option.bind_some, Int32.or_zero]
    · have q' : ¬ u = k := fun z => q z.symm
      by_cases q1 : kind u = kind k
      · by_cases q2 : ribs u = ribs k
        · simp (disch := omega) only [L_hB_X9_alike_23, e_hB_X8_areAlike, nn_le, hk, ↓reduceIte, xix_nn, nn_nat, nn_succ, nn_inj, q, q', q1, q2, ne_eq, not_false_eq_true, and_self, Option.bind_some, nz10]
        · simp (disch := omega) only [L_hB_X9_alike_23, e_hB_X8_areAlike, nn_le, hk, ↓reduceIte, xix_nn, nn_nat, nn_succ, nn_inj, q', q1, q2, and_false, Option.bind_some, Int32.or_zero]
      · simp (disch := omega) only [L_hB_X9_alike_23, e_hB_X8_areAlike, nn_le, hk, ↓reduceIte, xix_nn, nn_nat, nn_succ, nn_inj, q', q1, false_and, and_false, Option.bind_some, Int32.or_zero]
def pRich (t l : pA) (nu : Nat) : Nat → Nat → Int32 → Int32 → Int32
  | 0, _, best, _ => best
  | m + 1, k, best, most => if most < pLands t l (nn k) nu 0 0 then pRich t l nu m (k + 1) (nn k) (pLands t l (nn k) nu 0 0) else pRich t l nu m (k + 1) best most
theorem pRich_congr {nu : Nat} {t t' l l' : pA} (h : ∀ p, pLands t l p nu 0 0 = pLands t' l' p nu 0 0) : ∀ (m k : Nat) (best most : Int32), pRich t l nu m k best most = pRich t' l' nu m k best most := by
  intro m
  induction m with
  | zero => intro k best most; rfl
  | succ m ih =>
    intro k best most
    simp only [pRich]
    rw [h, ih, ih]
theorem pc_richest {nu np : Nat} (hn : nu ≤ 5) (hp : np ≤ 6) {g : Int32} {t l : pA} {K : Int32 → Int32 → Int32 → Option (Int32 × Int32)} (hK : ∀ a b b' c, K a b c = K a b' c) : ∀ (m k F : Nat) (best most : Int32), k + m = np → m < F → L_hA_X7_richest_20 (nn nu) (nn np) g t l K F best most (nn k) = K (pRich t l nu m k best most) 0 (nn np) := by
  intro m
  induction m with
  | zero =>
    intro k F best most e hF
    obtain ⟨F, rfl⟩ : ∃ f, F = f + 1 := ⟨F - 1, by omega⟩
    obtain rfl : k = np := by omega
    simp (disch := omega) only [L_hA_X7_richest_20, nn_le, Nat.le_refl, ↓reduceIte, pRich]
    exact hK _ _ _ _
  | succ m ih =>
    intro k F best most e hF
    obtain ⟨F, rfl⟩ : ∃ f, F = f + 1 := ⟨F - 1, by omega⟩
    have hk : ¬ np ≤ k := by omega
    simp (disch := omega) only [L_hA_X7_richest_20, nn_le, hk, ↓reduceIte, nn_succ, qc_landsFor hn, Option.bind_some, pRich, ih]
    by_cases q : most < pLands t l (nn k) nu 0 0
    · simp only [q, ↓reduceIte, Int32.not_le.mpr q]
    · simp only [q, ↓reduceIte, Int32.not_lt.mp q]
theorem pr_richest {nu np : Nat} (hn : nu ≤ 5) (hp : np ≤ 6) {g0 g g2 : Int32} {r l : pA} {K : Int32 → Int32 → Int32 → Option (Int32 × Int32 × Int32 × Int32)} (hK : ∀ a b b' c, K a b c = K a b' c) : ∀ (m k F : Nat) (best most : Int32), k + m = np → m < F → L_hB_X9_richest_25 g0 (nn np) g g2 (nn nu) r l K F best most (nn k) = K (pRich (tR r) l nu m k best most) 0 (nn np) := by
  intro m
  induction m with
  | zero =>
    intro k F best most e hF
    obtain ⟨F, rfl⟩ : ∃ f, F = f + 1 := ⟨F - 1, by omega⟩
    obtain rfl : k = np := by omega
    simp (disch := omega) only [L_hB_X9_richest_25, nn_le, Nat.le_refl, ↓reduceIte, pRich]
    exact hK _ _ _ _
  | succ m ih =>
    intro k F best most e hF
    obtain ⟨F, rfl⟩ : ∃ f, F = f + 1 := ⟨F - 1, by omega⟩
    have hk : ¬ np ≤ k := by omega
    simp (disch := omega) only [L_hB_X9_richest_25, nn_le, hk, ↓reduceIte, nn_succ, qr_landsIn hn, Option.bind_some, pRich, ih]
    split <;> rfl
def pOwe (h t : pA) (p o : Int32) : Nat → Nat → Int32 → Int32
  | 0, _, acc => acc
  | m + 1, k, acc => pOwe h t p o m (k + 1) (if t k = p ∧ h k = o then acc ||| ((1 : Int32) <<< (nn k &&& 31)) else acc)
theorem pc_owing {nu : Nat} (hn : nu ≤ 5) {np g p o : Int32} {h t : pA} {K : Int32 → Int32 → Option (Int32 × Int32)} : ∀ (m k F : Nat) (acc : Int32), k + m = nu → m < F → L_hA_X7_owing_32 np g (nn nu) t h p o K F acc (nn k) = K (pOwe h t p o m k acc) (nn nu) := by
  intro m
  induction m with
  | zero =>
    intro k F acc e hF
    obtain ⟨F, rfl⟩ : ∃ f, F = f + 1 := ⟨F - 1, by omega⟩
    obtain rfl : k = nu := by omega
    simp (disch := omega) only [L_hA_X7_owing_32, nn_le, Nat.le_refl, ↓reduceIte, pOwe]
  | succ m ih =>
    intro k F acc e hF
    obtain ⟨F, rfl⟩ : ∃ f, F = f + 1 := ⟨F - 1, by omega⟩
    have hk : ¬ nu ≤ k := by omega
    simp (disch := omega) only [L_hA_X7_owing_32, nn_le, hk, ↓reduceIte, nn_succ, xix_nn, nn_nat, pOwe, ih]
    by_cases q : t k = p
    · by_cases q2 : h k = o
      · simp only [q, q2, ↓reduceIte, and_self]
      · simp only [q, q2, ↓reduceIte, and_false]
    · simp only [q, ↓reduceIte, false_and]
theorem pr_owing {nu : Nat} (hn : nu ≤ 5) {g0 np g g2 p o : Int32} {h t : pA} {d : Int32} {K : Int32 → Int32 → Option (Int32 × Int32 × Int32 × Int32)} : ∀ (m k F : Nat) (acc : Int32), k + m = nu → m < F → L_hB_X9_owing_37 g0 np g g2 (nn nu) (mkr h t d) p o K F acc (nn k) = K (pOwe h t p o m k acc) (nn nu) := by
  intro m
  induction m with
  | zero =>
    intro k F acc e hF
    obtain ⟨F, rfl⟩ : ∃ f, F = f + 1 := ⟨F - 1, by omega⟩
    obtain rfl : k = nu := by omega
    simp (disch := omega) only [L_hB_X9_owing_37, nn_le, Nat.le_refl, ↓reduceIte, pOwe]
  | succ m ih =>
    intro k F acc e hF
    obtain ⟨F, rfl⟩ : ∃ f, F = f + 1 := ⟨F - 1, by omega⟩
    have hk : ¬ nu ≤ k := by omega
    simp (disch := omega) only [L_hB_X9_owing_37, nn_le, hk, ↓reduceIte, nn_succ, xix_nn, nn_nat, nn_0add, nn_5add, mkr_h, mkr_t, pOwe, ih, Int32.or_zero]
    by_cases q : t k = p
    · by_cases q2 : h k = o
      · simp only [q, q2, ↓reduceIte, and_self]
      · simp only [q, q2, ↓reduceIte, and_false]
    · simp only [q, ↓reduceIte, false_and]
/-! rests -/
def inh (l x y : Int32) : Int32 := if x ≤ y then if x = y then (l / 2) - (2 * x) else 0 - (2 * x) else l - (2 * x)
theorem qc_inh (l x y : Int32) : e_hA_X7_inherits l x y = some (inh l x y) := by
  unfold e_hA_X7_inherits inh
  (repeat' split) <;> rfl
theorem qr_inh (l x y : Int32) : e_hB_X9_gets l x y = some (inh l x y) := by
  unfold e_hB_X9_gets inh
  (repeat' split) <;> rfl
def rR (l a b : Int32) : Nat → Nat → Int32
  | 0, _ => 1
  | m + 1, k => if inh l a b < inh l (nn k) b then 0 else if inh l (nn k) a ≤ inh l b a then rR l a b m (k + 1) else 0
theorem pc_isRest {l a b : Int32} : ∀ (m k F : Nat), k + m = 7 → m < F → L_hA_X7_isRest_18 l a b (inh l a b) (inh l b a) (fun _ => some 1) F (nn k) = some (rR l a b m k) := by
  intro m
  induction m with
  | zero =>
    intro k F e hF
    obtain ⟨F, rfl⟩ : ∃ f, F = f + 1 := ⟨F - 1, by omega⟩
    obtain rfl : k = 7 := by omega
    rfl
  | succ m ih =>
    intro k F e hF
    obtain ⟨F, rfl⟩ : ∃ f, F = f + 1 := ⟨F - 1, by omega⟩
    have hk : ¬ 6 < k := by omega
    simp (disch := omega) only [L_hA_X7_isRest_18, show (6 : Int32) = nn 6 from rfl, nn_lt, hk, ↓reduceIte, nn_succ, qc_inh, Option.bind_some, rR, ih]
    (repeat' split) <;> rfl
theorem qc_isRest (l a b : Int32) : e_hA_X7_isRest l a b = some (rR l a b 7 0) := by
  unfold e_hA_X7_isRest
  rw [qc_inh, Option.bind_some, qc_inh, Option.bind_some]
  exact pc_isRest 7 0 200000 (by omega) (by omega)
theorem pr_isRest {l a b : Int32} : ∀ (m k F : Nat), k + m = 7 → m < F → L_hB_X9_isRest_2 l a b (fun _ => some 1) F (nn k) = some (rR l a b m k) := by
  intro m
  induction m with
  | zero =>
    intro k F e hF
    obtain ⟨F, rfl⟩ : ∃ f, F = f + 1 := ⟨F - 1, by omega⟩
    obtain rfl : k = 7 := by omega
    rfl
  | succ m ih =>
    intro k F e hF
    obtain ⟨F, rfl⟩ : ∃ f, F = f + 1 := ⟨F - 1, by omega⟩
    have hk : ¬ 7 ≤ k := by omega
    simp (disch := omega) only [L_hB_X9_isRest_2, show (7 : Int32) = nn 7 from rfl, nn_le, hk, ↓reduceIte, nn_succ, qr_inh, Option.bind_some, rR, ih]
    (repeat' split) <;> rfl
theorem qr_isRest (l a b : Int32) : e_hB_X9_isRest l a b = some (rR l a b 7 0) := pr_isRest 7 0 200000 (by omega) (by omega)
def fR (l : Int32) (k : Nat) : Int32 := rR l (nn (k / 7)) (nn (k % 7)) 7 0
def cntR (l : Int32) : Nat → Nat → Int32 → Int32
  | 0, _, acc => acc
  | m + 1, k, acc => cntR l m (k + 1) (if fR l k = 0 then acc else acc + 1)
theorem cntR_add (l : Int32) : ∀ (a b k : Nat) (acc : Int32), cntR l (a + b) k acc = cntR l b (k + a) (cntR l a k acc) := by
  intro a
  induction a with
  | zero => intro b k acc; rw [Nat.zero_add]; rfl
  | succ a ih =>
    intro b k acc
    rw [show a + 1 + b = (a + b) + 1 by omega]
    simp only [cntR]
    rw [ih b (k + 1), show k + 1 + a = k + (a + 1) by omega]
theorem pc_rests39 {l p0 p1 : Int32} {i : Nat} (hi : i < 7) {K : Int32 → Int32 → Option (Int32 × Int32)} : ∀ (m j F : Nat) (acc : Int32), j + m = 7 → m < F → L_hA_X7_rests_39 p0 p1 l (nn i) K F acc (nn j) = K (cntR l m (7 * i + j) acc) (nn 7) := by
  intro m
  induction m with
  | zero =>
    intro j F acc e hF
    obtain ⟨F, rfl⟩ : ∃ f, F = f + 1 := ⟨F - 1, by omega⟩
    obtain rfl : j = 7 := by omega
    rfl
  | succ m ih =>
    intro j F acc e hF
    obtain ⟨F, rfl⟩ : ∃ f, F = f + 1 := ⟨F - 1, by omega⟩
    have hk : ¬ 6 < j := by omega
    have ef : fR l (7 * i + j) = rR l (nn i) (nn j) 7 0 := by
      unfold fR
      rw [show (7 * i + j) / 7 = i by omega, show (7 * i + j) % 7 = j by omega]
    simp (disch := omega) only [L_hA_X7_rests_39, show (6 : Int32) = nn 6 from rfl, nn_lt, hk, ↓reduceIte, nn_succ, qc_isRest, Option.bind_some, cntR, ih, ef, Int32.add_zero]
    rw [show 7 * i + j + 1 = 7 * i + (j + 1) by omega]
    split <;> rfl
theorem pc_rests30 {l p0 p1 : Int32} {K : Int32 → Int32 → Option (Int32 × Int32)} : ∀ (m i F : Nat) (acc : Int32), i + m = 7 → m < F → L_hA_X7_rests_30 p0 p1 l K F acc (nn i) = K (cntR l (7 * m) (7 * i) acc) (nn 7) := by
  intro m
  induction m with
  | zero =>
    intro j F acc e hF
    obtain ⟨F, rfl⟩ : ∃ f, F = f + 1 := ⟨F - 1, by omega⟩
    obtain rfl : j = 7 := by omega
    rfl
  | succ m ih =>
    intro i F acc e hF
    obtain ⟨F, rfl⟩ : ∃ f, F = f + 1 := ⟨F - 1, by omega⟩
    have hk : ¬ 6 < i := by omega
    simp (disch := omega) only [L_hA_X7_rests_30, show (6 : Int32) = nn 6 from rfl, nn_lt, hk, ↓reduceIte, nn_succ]
    rw [show (0 : Int32) = nn 0 from rfl, pc_rests39 (by omega) 7 0 200000 acc (by omega) (by omega), ih (i + 1) F _ (by omega) (by omega), show 7 * (m + 1) = 7 + 7 * m by omega, cntR_add]
    rfl
theorem nn_div {a b : Nat} (ha : a < 2147483648) (hb : b < 2147483648) : nn a / nn b = nn (a / b) := (Int32.ofNat_div ha hb).symm
theorem nn_mul (a b : Nat) : nn a * nn b = nn (a * b) := (Int32.ofNat_mul a b).symm
theorem nn_sub {a b : Nat} (h : b ≤ a) : nn a - nn b = nn (a - b) := (Int32.ofNat_sub a b h).symm
theorem nn_mod {a b : Nat} (ha : a < 2147483648) (hb : b < 2147483648) : nn a - nn a / nn b * nn b = nn (a % b) := by
  have h1 : a / b * b ≤ a := Nat.div_mul_le_self a b
  rw [nn_div ha hb, nn_mul, nn_sub h1]
  congr 1
  have := Nat.div_add_mod a b
  rw [Nat.mul_comm] at this
  omega
theorem nn_mod2 {a b : Nat} (ha : a < 2147483648) (hb : b < 2147483648) : nn a - nn (a / b) * nn b = nn (a % b) := by rw [← nn_div ha hb]; exact nn_mod ha hb
theorem pr_rests {l p0 p1 p2 : Int32} {K : Int32 → Int32 → Option (Int32 × Int32 × Int32 × Int32)} : ∀ (m k F : Nat) (acc : Int32), k + m = 49 → m < F → L_hB_X9_rests_26 p0 p1 p2 l K F acc (nn k) = K (cntR l m k acc) (nn 49) := by
  intro m
  induction m with
  | zero =>
    intro k F acc e hF
    obtain ⟨F, rfl⟩ : ∃ f, F = f + 1 := ⟨F - 1, by omega⟩
    obtain rfl : k = 49 := by omega
    rfl
  | succ m ih =>
    intro k F acc e hF
    obtain ⟨F, rfl⟩ : ∃ f, F = f + 1 := ⟨F - 1, by omega⟩
    have hk : ¬ 49 ≤ k := by omega
    simp (disch := omega) only [L_hB_X9_rests_26, show (49 : Int32) = nn 49 from rfl, show (7 : Int32) = nn 7 from rfl, nn_le, hk, ↓reduceIte, nn_succ, nn_mod2, nn_div, qr_isRest, Option.bind_some, cntR, ih, fR, Int32.add_zero]
    by_cases q : rR l (nn (k / 7)) (nn (k % 7)) 7 0 = 0
    · simp only [q, ↓reduceIte]
    · simp only [q, ↓reduceIte]
/-- the first rest from k on -/
def fstR (l : Int32) : Nat → Nat → Int32
  | 0, _ => -2
  | m + 1, k => if fR l k = 0 then fstR l m (k + 1) else nn (10 * (k / 7) + k % 7)
theorem pc_rest36 {l p0 p1 : Int32} {i mm : Nat} (hi : i < 7) {K : Int32 → Option (Int32 × Int32)} (hK : ∀ z, K z = some (fstR l mm (7 * (i + 1)), 0)) : ∀ (m j F : Nat), j + m = 7 → m < F → L_hA_X7_rest_36 p0 p1 l (nn i) K F (nn j) = some (fstR l (m + mm) (7 * i + j), 0) := by
  intro m
  induction m with
  | zero =>
    intro j F e hF
    obtain ⟨F, rfl⟩ : ∃ f, F = f + 1 := ⟨F - 1, by omega⟩
    obtain rfl : j = 7 := by omega
    simp only [L_hA_X7_rest_36]
    rw [if_pos (by decide), hK, Nat.zero_add, show 7 * i + 7 = 7 * (i + 1) by omega]
  | succ m ih =>
    intro j F e hF
    obtain ⟨F, rfl⟩ : ∃ f, F = f + 1 := ⟨F - 1, by omega⟩
    have hk : ¬ 6 < j := by omega
    have ef : fR l (7 * i + j) = rR l (nn i) (nn j) 7 0 := by
      unfold fR
      rw [show (7 * i + j) / 7 = i by omega, show (7 * i + j) % 7 = j by omega]
    rw [show m + 1 + mm = (m + mm) + 1 by omega]
    simp (disch := omega) only [L_hA_X7_rest_36, show (6 : Int32) = nn 6 from rfl, show (10 : Int32) = nn 10 from rfl, nn_lt, hk, ↓reduceIte, nn_succ, nn_mul, nn_add, qc_isRest, Option.bind_some, fstR, ih, ef]
    rw [show 7 * i + j + 1 = 7 * i + (j + 1) by omega, show (7 * i + j) / 7 = i by omega, show (7 * i + j) % 7 = j by omega]
    (repeat' split) <;> first | rfl | contradiction
theorem pc_rest28 {l p0 p1 : Int32} : ∀ (m i F : Nat), i + m = 7 → m < F → L_hA_X7_rest_28 p0 p1 l (fun _ => some (-2, 0)) F (nn i) = some (fstR l (7 * m) (7 * i), 0) := by
  intro m
  induction m with
  | zero =>
    intro j F e hF
    obtain ⟨F, rfl⟩ : ∃ f, F = f + 1 := ⟨F - 1, by omega⟩
    obtain rfl : j = 7 := by omega
    rfl
  | succ m ih =>
    intro i F e hF
    obtain ⟨F, rfl⟩ : ∃ f, F = f + 1 := ⟨F - 1, by omega⟩
    have hk : ¬ 6 < i := by omega
    simp (disch := omega) only [L_hA_X7_rest_28, show (6 : Int32) = nn 6 from rfl, nn_lt, hk, ↓reduceIte, nn_succ]
    refine (pc_rest36 (mm := 7 * m) (by omega) (fun z => ih (i + 1) F (by omega) (by omega)) 7 0 200000 (by omega) (by omega)).trans ?_
    rw [show 7 * (m + 1) = 7 + 7 * m by omega]
    rfl
theorem pr_rest {l p1 p2 : Int32} : ∀ (m k F : Nat), k + m = 49 → m < F → L_hB_X9_rest_23 0 p1 p2 l (fun _ => some (-2, 0, 0, -1)) F (nn k) = some (fstR l m k, 0, 0, -1) := by
  intro m
  induction m with
  | zero =>
    intro k F e hF
    obtain ⟨F, rfl⟩ : ∃ f, F = f + 1 := ⟨F - 1, by omega⟩
    obtain rfl : k = 49 := by omega
    rfl
  | succ m ih =>
    intro k F e hF
    obtain ⟨F, rfl⟩ : ∃ f, F = f + 1 := ⟨F - 1, by omega⟩
    have hk : ¬ 49 ≤ k := by omega
    simp (disch := omega) only [L_hB_X9_rest_23, show (49 : Int32) = nn 49 from rfl, show (7 : Int32) = nn 7 from rfl, nn_le, hk, ↓reduceIte, nn_succ, nn_div, nn_mod2, qr_isRest, Option.bind_some, fstR, ih, fR]
    rw [← nn_add, ← nn_mul]
    by_cases q : rR l (nn (k / 7)) (nn (k % 7)) 7 0 = 0
    · simp only [q, ↓reduceIte]
    · simp only [q, ↓reduceIte]
      rfl
theorem in_eq_land (x : Int32) : e_hA_X7_isLand x = e_hB_X9_in x 0 99 := rfl
theorem in_eq_close (x : Int32) : e_hA_X7_isClose x = e_hB_X9_in x 0 6 := rfl
theorem in_01 (x a b : Int32) : e_hB_X9_in x a b = some 0 ∨ e_hB_X9_in x a b = some 1 := by
  unfold e_hB_X9_in
  (repeat' split) <;> simp
section SIMC1
variable {np nu nl nc tp na nm : Nat} {la gu ra : Int32} {g7 g8 g9 g10 g11 g12 g13 g14 g15 g17 g18 g19 g20 g21 g22 g23 g24 g25 g26 g27 g28 g29 g30 g31 g32 g33 g34 : Int32} {a0 a1 a2 a3 a4 a5 a6 a7 a8 a9 a10 a11 a12 a13 a14 a15 a16 a17 a18 a19 a20 a21 a22 a23 a24 a25 a26 a27 a28 a29 a30 a31 a32 a33 a34 a35 a36 a37 a38 a39 : pA} {b0 b1 b2 b3 b4 : Nat → Int64} {w0 : Int64}
variable {G0 G2 G4 G5 G6 G7 G8 G10 G13 G14 G15 G16 G17 G18 G26 : Int32} {A0 A2 A3 A4 A5 A6 A7 A8 A9 A10 A11 A12 A13 A14 A15 A16 A17 A18 A19 A20 A21 A22 A23 : pA} {B0 : Nat → Int64} {W0 : Int64} {rb : Nat}
theorem C_fault (I : IC np nu nl nc tp na nm la gu ra g22 g25 g26 g33 g34 G2 a0 a1 a2 a3 a4 a5 a6 a7 a8 a10 a11 a12 a13 a27 a28 a31 b2 b3 b4 A0 A2 A3 A4 A10 A11 A12 A13 A14 A15 A16 A17 A18 A19 A20 A21) : ∃ (v : Int32), e_hA_X7_fault g32 = some v ∧ e_hB_X9_fault G0 g32 = some (v, 0) := ⟨_, rfl, rfl⟩
theorem C_trouble (I : IC np nu nl nc tp na nm la gu ra g22 g25 g26 g33 g34 G2 a0 a1 a2 a3 a4 a5 a6 a7 a8 a10 a11 a12 a13 a27 a28 a31 b2 b3 b4 A0 A2 A3 A4 A10 A11 A12 A13 A14 A15 A16 A17 A18 A19 A20 A21) : ∃ (v : Int32), e_hA_X7_trouble g34 = some v ∧ e_hB_X9_trouble G0 g34 = some (v, 0) := ⟨_, rfl, rfl⟩
theorem C_where (I : IC np nu nl nc tp na nm la gu ra g22 g25 g26 g33 g34 G2 a0 a1 a2 a3 a4 a5 a6 a7 a8 a10 a11 a12 a13 a27 a28 a31 b2 b3 b4 A0 A2 A3 A4 A10 A11 A12 A13 A14 A15 A16 A17 A18 A19 A20 A21) : ∃ (v : Int32), e_hA_X7_where g34 g33 = some v ∧ e_hB_X9_where G0 G2 = some (v, 0) := by
  refine ⟨G2, ?_, rfl⟩
  rw [I.2.2.2.2.2.2.2]
  unfold e_hA_X7_where whr
  split <;> rfl
theorem C_size (I : IC np nu nl nc tp na nm la gu ra g22 g25 g26 g33 g34 G2 a0 a1 a2 a3 a4 a5 a6 a7 a8 a10 a11 a12 a13 a27 a28 a31 b2 b3 b4 A0 A2 A3 A4 A10 A11 A12 A13 A14 A15 A16 A17 A18 A19 A20 A21) (x1 : Int32) : ∃ (v : Int32), e_hA_X7_size la gu ra (nn np) (nn nu) (nn nl) (nn nc) g22 (nn na) (nn nm) (nn tp) x1 = some v ∧ e_hB_X9_size G0 (nn nm) la gu ra (nn np) (nn nu) (nn nl) (nn nc) (mkr a27 a28 g22) (nn na) (nn tp) x1 = some (v, 0) := by
  rcases sz_cases x1 with ⟨a, b, c⟩ | rfl | rfl | rfl | rfl | rfl | rfl | rfl | rfl | rfl | rfl | rfl
  · refine ⟨-1, if_pos a, ?_⟩
    unfold e_hB_X9_size e_hB_X9_in
    rw [if_neg b]
    rcases c with c | c
    · rw [if_pos c]; rfl
    · by_cases c2 : x1 < 0
      · rw [if_pos c2]; rfl
      · rw [if_neg c2, if_pos c]; rfl
  · exact ⟨_, rfl, rfl⟩
  · exact ⟨_, rfl, rfl⟩
  · exact ⟨_, rfl, rfl⟩
  · exact ⟨_, rfl, rfl⟩
  · exact ⟨_, rfl, rfl⟩
  · exact ⟨_, rfl, rfl⟩
  · exact ⟨_, rfl, rfl⟩
  · exact ⟨_, rfl, rfl⟩
  · exact ⟨_, rfl, rfl⟩
  · exact ⟨_, rfl, rfl⟩
  · exact ⟨_, rfl, rfl⟩
theorem C_umbrella (I : IC np nu nl nc tp na nm la gu ra g22 g25 g26 g33 g34 G2 a0 a1 a2 a3 a4 a5 a6 a7 a8 a10 a11 a12 a13 a27 a28 a31 b2 b3 b4 A0 A2 A3 A4 A10 A11 A12 A13 A14 A15 A16 A17 A18 A19 A20 A21) (x1 x2 : Int32) : ∃ (v : Int32) (c : Int32), e_hA_X7_umbrella (nn nu) g34 a1 a2 a3 a27 a28 x1 x2 = some (v, c) ∧ e_hB_X9_umbrella G0 (nn nu) g34 G2 (mkr a27 a28 g22) A11 A12 A13 x1 x2 = some (v, 0, c, (-1)) ∧ c ≠ 4 := by
  obtain ⟨⟨hp1, hp, hn1, hn, hl, hc⟩, ⟨hla, hgu, hra⟩, eS, eK, eL, eR, eW, bL, bR, wW, eG, oG, eC⟩ := I.1
  rcases isU_cases hn x1 with ⟨h1, h2⟩ | ⟨u, hu, rfl, h1, h2⟩
  · exact ⟨-1, 1, by unfold e_hA_X7_umbrella; rw [h1]; rfl, by unfold e_hB_X9_umbrella; rw [h2]; rfl, by decide⟩
  · have h5 : u < 5 := by omega
    by_cases w : x2 = 0 ∨ x2 = 1 ∨ x2 = 2 ∨ x2 = 3 ∨ x2 = 4
    · rcases w with rfl | rfl | rfl | rfl | rfl
      · refine ⟨a1 u, 0, ?_, ?_, by decide⟩
        · unfold e_hA_X7_umbrella; rw [h1, Option.bind_some, if_neg (by decide), if_neg (by decide), if_pos rfl, xix_nn h5 (by omega), nn_nat (by omega)]; rfl
        · unfold e_hB_X9_umbrella; rw [h2, Option.bind_some, if_neg (by decide), eK u hu]; simp only [show e_hB_X9_in 0 0 4 = some 1 from rfl, Option.bind_some]; rw [if_neg (by decide), if_neg (by decide), if_pos trivial, xix_nn h5 (by omega), nn_nat (by omega)]; rfl
      · refine ⟨a2 u, 0, ?_, ?_, by decide⟩
        · unfold e_hA_X7_umbrella; rw [h1, Option.bind_some, if_neg (by decide), if_neg (by decide), if_neg (by decide), if_pos rfl, xix_nn h5 (by omega), nn_nat (by omega)]; rfl
        · unfold e_hB_X9_umbrella; rw [h2, Option.bind_some, if_neg (by decide), eL u hu]; simp only [show e_hB_X9_in 1 0 4 = some 1 from rfl, Option.bind_some]; rw [if_neg (by decide), if_neg (by decide), if_neg (by decide), if_pos trivial, xix_nn h5 (by omega), nn_nat (by omega)]; rfl
      · refine ⟨a3 u, 0, ?_, ?_, by decide⟩
        · unfold e_hA_X7_umbrella; rw [h1, Option.bind_some, if_neg (by decide), if_neg (by decide), if_neg (by decide), if_neg (by decide), if_pos rfl, xix_nn h5 (by omega), nn_nat (by omega)]; rfl
        · unfold e_hB_X9_umbrella; rw [h2, Option.bind_some, if_neg (by decide), eR u hu]; simp only [show e_hB_X9_in 2 0 4 = some 1 from rfl, Option.bind_some]; rw [if_neg (by decide), if_neg (by decide), if_neg (by decide), if_neg (by decide), if_pos trivial, xix_nn h5 (by omega), nn_nat (by omega)]; rfl
      · refine ⟨a27 u, 0, ?_, ?_, by decide⟩
        · unfold e_hA_X7_umbrella; rw [h1, Option.bind_some, if_neg (by decide), if_neg (by decide), if_neg (by decide), if_neg (by decide), if_neg (by decide), if_pos rfl, xix_nn h5 (by omega), nn_nat (by omega)]; rfl
        · unfold e_hB_X9_umbrella; rw [h2, Option.bind_some, if_neg (by decide)]; simp only [show e_hB_X9_in 3 0 4 = some 1 from rfl, Option.bind_some]; rw [if_neg (by decide), if_neg (by decide), if_neg (by decide), if_neg (by decide), if_neg (by decide), if_pos trivial, nn_0add, xix_nn (by omega) (by omega), nn_nat (by omega), mkr_h h5]; rfl
      · refine ⟨a28 u, 0, ?_, ?_, by decide⟩
        · unfold e_hA_X7_umbrella; rw [h1, Option.bind_some, if_neg (by decide), if_neg (by decide), if_neg (by decide), if_neg (by decide), if_neg (by decide), if_neg (by decide), if_pos rfl, xix_nn h5 (by omega), nn_nat (by omega)]; rfl
        · unfold e_hB_X9_umbrella; rw [h2, Option.bind_some, if_neg (by decide)]; simp only [show e_hB_X9_in 4 0 4 = some 1 from rfl, Option.bind_some]; rw [if_neg (by decide), if_pos (by decide), nn_5add, xix_nn (by omega) (by omega), nn_nat (by omega), mkr_t h5]; rfl
    · have w0 : (x2.toInt < 0 ∨ 4 < x2.toInt) ∧ e_hB_X9_in x2 0 4 = some 0 := by
        rcases sz_cases x2 with ⟨a, b, c⟩ | rfl | rfl | rfl | rfl | rfl | rfl | rfl | rfl | rfl | rfl | rfl
        · refine ⟨by omega, ?_⟩
          unfold e_hB_X9_in
          rcases c with c | c
          · rw [if_pos c]
          · by_cases c2 : x2 < 0
            · rw [if_pos c2]
            · rw [if_neg c2, if_pos]
              rw [Int32.lt_iff_toInt_lt] at c ⊢
              have a1 : (9 : Int32).toInt = 9 := rfl
              have a2 : (4 : Int32).toInt = 4 := rfl
              omega
        all_goals first | exact absurd (by decide) w | exact ⟨by decide, by decide⟩
      refine ⟨-1, 1, ?_, ?_, by decide⟩
      · unfold e_hA_X7_umbrella; rw [h1, Option.bind_some, if_neg (by decide), if_pos w0.1]; rfl
      · unfold e_hB_X9_umbrella; rw [h2, Option.bind_some, if_neg (by decide), w0.2]; rfl
theorem C_person (I : IC np nu nl nc tp na nm la gu ra g22 g25 g26 g33 g34 G2 a0 a1 a2 a3 a4 a5 a6 a7 a8 a10 a11 a12 a13 a27 a28 a31 b2 b3 b4 A0 A2 A3 A4 A10 A11 A12 A13 A14 A15 A16 A17 A18 A19 A20 A21) (x1 x2 : Int32) : ∃ (v : Int32) (c : Int32), e_hA_X7_person (nn np) g34 a0 (nn nu) a27 a28 a2 x1 x2 = some (v, c) ∧ e_hB_X9_person G0 (nn np) g34 G2 (nn nu) (mkr a27 a28 g22) A12 A10 x1 x2 = some (v, 0, c, (-1)) ∧ c ≠ 4 := by
  obtain ⟨⟨hp1, hp, hn1, hn, hl, hc⟩, ⟨hla, hgu, hra⟩, eS, eK, eL, eR, eW, bL, bR, wW, eG, oG, eC⟩ := I.1
  rcases isP_cases hp x1 with ⟨h1, h2⟩ | ⟨u, hu, rfl, h1, h2⟩
  · exact ⟨-1, 1, by unfold e_hA_X7_person; rw [h1]; rfl, by unfold e_hB_X9_person; rw [h2]; rfl, by decide⟩
  · by_cases w : x2 = 0 ∨ x2 = 1 ∨ x2 = 2
    · rcases w with rfl | rfl | rfl
      · refine ⟨a0 u, 0, ?_, ?_, by decide⟩
        · unfold e_hA_X7_person; rw [h1, Option.bind_some, if_neg (by decide), if_neg (by decide), if_pos rfl, xix_nn (by omega) (by omega), nn_nat (by omega)]; rfl
        · unfold e_hB_X9_person; rw [h2, Option.bind_some, if_neg (by decide), eS u hu]; simp only [show e_hB_X9_in 0 0 2 = some 1 from rfl, Option.bind_some]; rw [if_neg (by decide), if_pos trivial, xix_nn (by omega) (by omega), nn_nat (by omega)]; rfl
      · refine ⟨pHeld a27 (nn u) nu 0 0, 0, ?_, ?_, by decide⟩
        · unfold e_hA_X7_person; rw [h1, Option.bind_some, if_neg (by decide), if_neg (by decide), if_neg (by decide), if_pos rfl, qc_heldBy hn]; rfl
        · unfold e_hB_X9_person; rw [h2, Option.bind_some, if_neg (by decide)]; simp only [show e_hB_X9_in 1 0 2 = some 1 from rfl, Option.bind_some]; rw [if_neg (by decide), if_neg (by decide), if_pos trivial, qr_hadBy hn, pHeld_mkr hn]; rfl
      · refine ⟨pLands a28 a2 (nn u) nu 0 0, 0, ?_, ?_, by decide⟩
        · unfold e_hA_X7_person; rw [h1, Option.bind_some, if_neg (by decide), if_neg (by decide), if_neg (by decide), if_neg (by decide), if_pos rfl, qc_landsFor hn]; rfl
        · unfold e_hB_X9_person; rw [h2, Option.bind_some, if_neg (by decide)]; simp only [show e_hB_X9_in 2 0 2 = some 1 from rfl, Option.bind_some]; rw [if_neg (by decide), if_neg (by decide), if_neg (by decide), qr_landsIn hn, pLands_mkr hn eL]; rfl
    · have w0 : (x2.toInt < 0 ∨ 2 < x2.toInt) ∧ e_hB_X9_in x2 0 2 = some 0 := by
        rcases sz_cases x2 with ⟨a, b, c⟩ | rfl | rfl | rfl | rfl | rfl | rfl | rfl | rfl | rfl | rfl | rfl
        · refine ⟨by omega, ?_⟩
          unfold e_hB_X9_in
          rcases c with c | c
          · rw [if_pos c]
          · by_cases c2 : x2 < 0
            · rw [if_pos c2]
            · rw [if_neg c2, if_pos]
              rw [Int32.lt_iff_toInt_lt] at c ⊢
              have a1 : (9 : Int32).toInt = 9 := rfl
              have a2 : (2 : Int32).toInt = 2 := rfl
              omega
        all_goals first | exact absurd (by decide) w | exact ⟨by decide, by decide⟩
      refine ⟨-1, 1, ?_, ?_, by decide⟩
      · unfold e_hA_X7_person; rw [h1, Option.bind_some, if_neg (by decide), if_pos w0.1]; rfl
      · unfold e_hB_X9_person; rw [h2, Option.bind_some, if_neg (by decide), w0.2]; rfl
theorem C_alike (I : IC np nu nl nc tp na nm la gu ra g22 g25 g26 g33 g34 G2 a0 a1 a2 a3 a4 a5 a6 a7 a8 a10 a11 a12 a13 a27 a28 a31 b2 b3 b4 A0 A2 A3 A4 A10 A11 A12 A13 A14 A15 A16 A17 A18 A19 A20 A21) (x1 : Int32) : ∃ (v : Int32) (c : Int32), e_hA_X7_alike (nn nu) g34 a1 a3 x1 = some (v, c) ∧ e_hB_X9_alike G0 (nn nu) g34 G2 A11 A13 x1 = some (v, 0, c, (-1)) ∧ c ≠ 4 := by
  obtain ⟨⟨hp1, hp, hn1, hn, hl, hc⟩, ⟨hla, hgu, hra⟩, eS, eK, eL, eR, eW, bL, bR, wW, eG, oG, eC⟩ := I.1
  rcases isU_cases hn x1 with ⟨h1, h2⟩ | ⟨u, hu, rfl, h1, h2⟩
  · exact ⟨-1, 1, by unfold e_hA_X7_alike; rw [h1]; rfl, by unfold e_hB_X9_alike; rw [h2]; rfl, by decide⟩
  · refine ⟨pAlike a1 a3 u nu 0 0, 0, ?_, ?_, by decide⟩
    · unfold e_hA_X7_alike; rw [h1, Option.bind_some, if_neg (by decide)]
      exact pc_alike hn hu nu 0 200000 0 (by omega) (by omega)
    · unfold e_hB_X9_alike; rw [h2, Option.bind_some, if_neg (by decide), pAlike_congr hu eK eR nu 0 0 (by omega)]
      exact pr_alike hn hu nu 0 200000 0 (by omega) (by omega)
theorem C_right (I : IC np nu nl nc tp na nm la gu ra g22 g25 g26 g33 g34 G2 a0 a1 a2 a3 a4 a5 a6 a7 a8 a10 a11 a12 a13 a27 a28 a31 b2 b3 b4 A0 A2 A3 A4 A10 A11 A12 A13 A14 A15 A16 A17 A18 A19 A20 A21) : ∃ (v : Int32) (c : Int32), e_hA_X7_right (nn nu) a28 a27 g34 = some (v, c) ∧ e_hB_X9_right G0 (nn nu) (mkr a27 a28 g22) g34 G2 = some (v, 0, c, (-1)) ∧ c ≠ 4 := by
  obtain ⟨⟨hp1, hp, hn1, hn, hl, hc⟩, ⟨hla, hgu, hra⟩, eS, eK, eL, eR, eW, bL, bR, wW, eG, oG, eC⟩ := I.1
  refine ⟨pRight a27 a28 nu 0 0, 0, ?_, ?_, by decide⟩
  · unfold e_hA_X7_right; rw [isT1 hn1 hn, Option.bind_some, if_neg (by decide), qc_rightOnes hn]; rfl
  · unfold e_hB_X9_right; rw [qr_rightIn hn, pRight_mkr hn]; rfl
theorem C_richest (I : IC np nu nl nc tp na nm la gu ra g22 g25 g26 g33 g34 G2 a0 a1 a2 a3 a4 a5 a6 a7 a8 a10 a11 a12 a13 a27 a28 a31 b2 b3 b4 A0 A2 A3 A4 A10 A11 A12 A13 A14 A15 A16 A17 A18 A19 A20 A21) : ∃ (v : Int32) (c : Int32), e_hA_X7_richest (nn nu) (nn np) g34 a28 a2 = some (v, c) ∧ e_hB_X9_richest G0 (nn np) g34 G2 (nn nu) (mkr a27 a28 g22) A12 = some (v, 0, c, (-1)) ∧ c ≠ 4 := by
  obtain ⟨⟨hp1, hp, hn1, hn, hl, hc⟩, ⟨hla, hgu, hra⟩, eS, eK, eL, eR, eW, bL, bR, wW, eG, oG, eC⟩ := I.1
  refine ⟨pRich a28 a2 nu np 0 (-2) 0, 0, ?_, ?_, by decide⟩
  · unfold e_hA_X7_richest; rw [isT1 hn1 hn, Option.bind_some, if_neg (by decide)]
    exact pc_richest hn hp (K := fun l1_20 _ _ => ((e_hA_X7_answer g34 l1_20).bind fun z64 => some (z64.1, z64.2))) (fun _ _ _ _ => rfl) np 0 200000 (-2) 0 (by omega) (by omega)
  · unfold e_hB_X9_richest
    rw [← pRich_congr (fun p => pLands_mkr (h := a27) (d := g22) (p := p) hn eL)]
    exact pr_richest hn hp (K := fun l1_25 _ _ => ((e_hB_X9_good g34 G2 l1_25).bind fun z72 => some (z72.1, (0 : Int32), z72.2.1, z72.2.2))) (fun _ _ _ _ => rfl) np 0 200000 (-2) 0 (by omega) (by omega)
theorem C_owing (I : IC np nu nl nc tp na nm la gu ra g22 g25 g26 g33 g34 G2 a0 a1 a2 a3 a4 a5 a6 a7 a8 a10 a11 a12 a13 a27 a28 a31 b2 b3 b4 A0 A2 A3 A4 A10 A11 A12 A13 A14 A15 A16 A17 A18 A19 A20 A21) (x1 x2 : Int32) : ∃ (v : Int32) (c : Int32), e_hA_X7_owing (nn np) g34 (nn nu) a28 a27 x1 x2 = some (v, c) ∧ e_hB_X9_owing G0 (nn np) g34 G2 (nn nu) (mkr a27 a28 g22) x1 x2 = some (v, 0, c, (-1)) ∧ c ≠ 4 := by
  obtain ⟨⟨hp1, hp, hn1, hn, hl, hc⟩, ⟨hla, hgu, hra⟩, eS, eK, eL, eR, eW, bL, bR, wW, eG, oG, eC⟩ := I.1
  rcases isP_cases hp x1 with ⟨h1, h2⟩ | ⟨u, hu, rfl, h1, h2⟩
  · exact ⟨-1, 1, by unfold e_hA_X7_owing; rw [h1]; rfl, by unfold e_hB_X9_owing; rw [h2]; rfl, by decide⟩
  · rcases isP_cases hp x2 with ⟨h3, h4⟩ | ⟨v, hv, rfl, h3, h4⟩
    · exact ⟨-1, 1, by unfold e_hA_X7_owing; rw [h1, Option.bind_some, if_neg (by decide), h3]; rfl, by unfold e_hB_X9_owing; rw [h2, Option.bind_some, if_neg (by decide), h4]; rfl, by decide⟩
    · by_cases q : nn u = nn v
      · exact ⟨-1, 1, by unfold e_hA_X7_owing; rw [h1, Option.bind_some, if_neg (by decide), h3, Option.bind_some, if_neg (by decide), if_pos q]; rfl, by unfold e_hB_X9_owing; rw [h2, Option.bind_some, if_neg (by decide), h4, Option.bind_some, if_neg (by decide), if_pos q]; rfl, by decide⟩
      · refine ⟨pOwe a27 a28 (nn u) (nn v) nu 0 0, 0, ?_, ?_, by decide⟩
        · unfold e_hA_X7_owing; rw [h1, Option.bind_some, if_neg (by decide), h3, Option.bind_some, if_neg (by decide), if_neg q]
          exact pc_owing hn nu 0 200000 0 (by omega) (by omega)
        · unfold e_hB_X9_owing; rw [h2, Option.bind_some, if_neg (by decide), h4, Option.bind_some, if_neg (by decide), if_neg q]
          exact pr_owing hn nu 0 200000 0 (by omega) (by omega)
theorem C_heirs (I : IC np nu nl nc tp na nm la gu ra g22 g25 g26 g33 g34 G2 a0 a1 a2 a3 a4 a5 a6 a7 a8 a10 a11 a12 a13 a27 a28 a31 b2 b3 b4 A0 A2 A3 A4 A10 A11 A12 A13 A14 A15 A16 A17 A18 A19 A20 A21) (x1 x2 x3 x4 : Int32) (hb : x4 = 0 ∨ x4 = 1) : ∃ (v : Int32) (c : Int32), e_hA_X7_heirs (nn nu) g34 x1 x2 x3 x4 = some (v, c) ∧ e_hB_X9_heirs G0 g34 G2 x1 x2 x3 x4 = some (v, 0, c, (-1)) ∧ c ≠ 4 := by
  obtain ⟨⟨hp1, hp, hn1, hn, hl, hc⟩, ⟨hla, hgu, hra⟩, eS, eK, eL, eR, eW, bL, bR, wW, eG, oG, eC⟩ := I.1
  have hT := isT1 hn1 hn
  rcases in_01 x1 0 99 with h1 | h1
  · exact ⟨-100, 2, by unfold e_hA_X7_heirs; rw [hT, Option.bind_some, if_neg (by decide), in_eq_land, h1]; rfl, by unfold e_hB_X9_heirs; rw [h1]; rfl, by decide⟩
  · rcases in_01 x2 0 6 with h2 | h2
    · exact ⟨-100, 2, by unfold e_hA_X7_heirs; rw [hT, Option.bind_some, if_neg (by decide), in_eq_land, h1, Option.bind_some, if_neg (by decide), in_eq_close, h2]; rfl, by unfold e_hB_X9_heirs; rw [h1, Option.bind_some, if_neg (by decide), h2]; rfl, by decide⟩
    · rcases in_01 x3 0 6 with h3 | h3
      · exact ⟨-100, 2, by unfold e_hA_X7_heirs; rw [hT, Option.bind_some, if_neg (by decide), in_eq_land, h1, Option.bind_some, if_neg (by decide), in_eq_close, h2, Option.bind_some, if_neg (by decide), in_eq_close, h3]; rfl, by unfold e_hB_X9_heirs; rw [h1, Option.bind_some, if_neg (by decide), h2, Option.bind_some, if_neg (by decide), h3]; rfl, by decide⟩
      · rcases hb with rfl | rfl
        · exact ⟨inh x1 x2 x3, 0, by unfold e_hA_X7_heirs; rw [hT, Option.bind_some, if_neg (by decide), in_eq_land, h1, Option.bind_some, if_neg (by decide), in_eq_close, h2, Option.bind_some, if_neg (by decide), in_eq_close, h3, Option.bind_some, if_neg (by decide), if_pos rfl, qc_inh]; rfl, by unfold e_hB_X9_heirs; rw [h1, Option.bind_some, if_neg (by decide), h2, Option.bind_some, if_neg (by decide), h3, Option.bind_some, if_neg (by decide), if_pos rfl, qr_inh]; rfl, by decide⟩
        · exact ⟨inh x1 x3 x2, 0, by unfold e_hA_X7_heirs; rw [hT, Option.bind_some, if_neg (by decide), in_eq_land, h1, Option.bind_some, if_neg (by decide), in_eq_close, h2, Option.bind_some, if_neg (by decide), in_eq_close, h3, Option.bind_some, if_neg (by decide), if_neg (by decide), qc_inh]; rfl, by unfold e_hB_X9_heirs; rw [h1, Option.bind_some, if_neg (by decide), h2, Option.bind_some, if_neg (by decide), h3, Option.bind_some, if_neg (by decide), if_neg (by decide), qr_inh]; rfl, by decide⟩
theorem C_rests (I : IC np nu nl nc tp na nm la gu ra g22 g25 g26 g33 g34 G2 a0 a1 a2 a3 a4 a5 a6 a7 a8 a10 a11 a12 a13 a27 a28 a31 b2 b3 b4 A0 A2 A3 A4 A10 A11 A12 A13 A14 A15 A16 A17 A18 A19 A20 A21) (x1 : Int32) : ∃ (v : Int32) (c : Int32), e_hA_X7_rests (nn nu) g34 x1 = some (v, c) ∧ e_hB_X9_rests G0 g34 G2 x1 = some (v, 0, c, (-1)) ∧ c ≠ 4 := by
  obtain ⟨⟨hp1, hp, hn1, hn, hl, hc⟩, ⟨hla, hgu, hra⟩, eS, eK, eL, eR, eW, bL, bR, wW, eG, oG, eC⟩ := I.1
  have hT := isT1 hn1 hn
  rcases in_01 x1 0 99 with h1 | h1
  · exact ⟨-1, 2, by unfold e_hA_X7_rests; rw [hT, Option.bind_some, if_neg (by decide), in_eq_land, h1]; rfl, by unfold e_hB_X9_rests e_hB_X9_refusesRests; rw [h1]; rfl, by decide⟩
  · refine ⟨cntR x1 (7 * 7) (7 * 0) 0, 0, ?_, ?_, by decide⟩
    · unfold e_hA_X7_rests; rw [hT, Option.bind_some, if_neg (by decide), in_eq_land, h1, Option.bind_some, if_neg (by decide)]
      exact (pc_rests30 7 0 200000 0 (by omega) (by omega)).trans rfl
    · unfold e_hB_X9_rests e_hB_X9_refusesRests; rw [h1, Option.bind_some, if_neg (by decide), Option.bind_some, if_pos (by decide)]
      exact (pr_rests (7 * 7) (7 * 0) 200000 0 (by omega) (by omega)).trans rfl
theorem C_rest (I : IC np nu nl nc tp na nm la gu ra g22 g25 g26 g33 g34 G2 a0 a1 a2 a3 a4 a5 a6 a7 a8 a10 a11 a12 a13 a27 a28 a31 b2 b3 b4 A0 A2 A3 A4 A10 A11 A12 A13 A14 A15 A16 A17 A18 A19 A20 A21) (x1 : Int32) : ∃ (v : Int32) (c : Int32), e_hA_X7_rest (nn nu) g34 x1 = some (v, c) ∧ e_hB_X9_rest G0 g34 G2 x1 = some (v, 0, c, (-1)) ∧ c ≠ 4 := by
  obtain ⟨⟨hp1, hp, hn1, hn, hl, hc⟩, ⟨hla, hgu, hra⟩, eS, eK, eL, eR, eW, bL, bR, wW, eG, oG, eC⟩ := I.1
  have hT := isT1 hn1 hn
  rcases in_01 x1 0 99 with h1 | h1
  · exact ⟨-1, 2, by unfold e_hA_X7_rest; rw [hT, Option.bind_some, if_neg (by decide), in_eq_land, h1]; rfl, by unfold e_hB_X9_rest e_hB_X9_refusesRests; rw [h1]; rfl, by decide⟩
  · refine ⟨fstR x1 (7 * 7) (7 * 0), 0, ?_, ?_, by decide⟩
    · unfold e_hA_X7_rest; rw [hT, Option.bind_some, if_neg (by decide), in_eq_land, h1, Option.bind_some, if_neg (by decide)]
      exact (pc_rest28 7 0 200000 (by omega) (by omega)).trans rfl
    · unfold e_hB_X9_rest e_hB_X9_refusesRests; rw [h1, Option.bind_some, if_neg (by decide), Option.bind_some, if_pos (by decide)]
      exact (pr_rest (7 * 7) (7 * 0) 200000 (by omega) (by omega)).trans rfl
theorem C_divided (I : IC np nu nl nc tp na nm la gu ra g22 g25 g26 g33 g34 G2 a0 a1 a2 a3 a4 a5 a6 a7 a8 a10 a11 a12 a13 a27 a28 a31 b2 b3 b4 A0 A2 A3 A4 A10 A11 A12 A13 A14 A15 A16 A17 A18 A19 A20 A21) (x1 x2 x3 : Int32) : ∃ (v : Int32) (c : Int32), e_hA_X7_divided (nn nu) g34 a2 x1 x2 x3 = some (v, c) ∧ e_hB_X9_divided G0 (nn nu) A12 g34 G2 x1 x2 x3 = some (v, 0, c, (-1)) ∧ c ≠ 4 := by
  obtain ⟨⟨hp1, hp, hn1, hn, hl, hc⟩, ⟨hla, hgu, hra⟩, eS, eK, eL, eR, eW, bL, bR, wW, eG, oG, eC⟩ := I.1
  rcases isU_cases hn x1 with ⟨h1, h2⟩ | ⟨u, hu, rfl, h1, h2⟩
  · exact ⟨-1, 1, by unfold e_hA_X7_divided; rw [h1]; rfl, by unfold e_hB_X9_divided; rw [h2]; rfl, by decide⟩
  · by_cases q1 : x2 < 1
    · exact ⟨-1, 2, by unfold e_hA_X7_divided; rw [h1, Option.bind_some, if_neg (by decide), if_pos q1]; rfl, by unfold e_hB_X9_divided; rw [h2, Option.bind_some, if_neg (by decide)]; unfold e_hB_X9_in; rw [if_pos q1]; rfl, by decide⟩
    · by_cases q2 : (9 : Int32) < x2
      · exact ⟨-1, 2, by unfold e_hA_X7_divided; rw [h1, Option.bind_some, if_neg (by decide), if_neg q1, if_neg (Int32.not_le.mpr q2)]; rfl, by unfold e_hB_X9_divided; rw [h2, Option.bind_some, if_neg (by decide)]; unfold e_hB_X9_in; rw [if_neg q1, if_pos q2]; rfl, by decide⟩
      · have q2' := Int32.not_lt.mp q2
        obtain ⟨m, hm, rfl⟩ := nn_of_le (n := 9) (x := x2) (Int32.le_trans (by decide) (Int32.not_lt.mp q1)) q2' (by omega)
        have hm1 : 1 ≤ m := by
          rw [show (1 : Int32) = nn 1 from rfl, nn_lt (by omega) (by omega)] at q1
          omega
        have hz : ¬ nn m = 0 := by
          rw [show (0 : Int32) = nn 0 from rfl, nn_inj (by omega) (by omega)]; omega
        have e1 : nn m - 1 = nn (m - 1) := nn_sub (b := 1) hm1
        by_cases q3 : x3 < 0
        · exact ⟨-1, 1, by unfold e_hA_X7_divided; rw [h1, Option.bind_some, if_neg (by decide), if_neg q1, if_pos q2', if_pos q3]; rfl, by unfold e_hB_X9_divided; rw [h2, Option.bind_some, if_neg (by decide)]; unfold e_hB_X9_in; rw [if_neg q1, if_neg q2, Option.bind_some, if_neg (by decide), if_pos q3]; rfl, by decide⟩
        · by_cases q4 : x3 < nn m
          · obtain ⟨j, hj, rfl⟩ := nn_of (Int32.not_lt.mp q3) q4 (by omega)
            have q5 : ¬ nn (m - 1) < nn j := by rw [nn_lt (by omega) (by omega)]; omega
            by_cases q6 : (a2 u - a2 u / nn m * nn m) ≤ nn j
            · refine ⟨a2 u / nn m + 0, 0, ?_, ?_, by decide⟩
              · unfold e_hA_X7_divided; rw [h1, Option.bind_some, if_neg (by decide), if_neg q1, if_pos q2', if_neg q3, if_pos q4, xix_nn (by omega) (by omega), nn_nat (by omega)]; unfold xnz; rw [if_neg hz, if_neg hz, if_pos q6]; rfl
              · unfold e_hB_X9_divided; rw [h2, Option.bind_some, if_neg (by decide)]; unfold e_hB_X9_in; rw [if_neg q1, if_neg q2, Option.bind_some, if_neg (by decide), if_neg q3, e1, if_neg q5, Option.bind_some, if_neg (by decide), xix_nn (by omega) (by omega), nn_nat (by omega), ← eL u hu]; unfold xnz; rw [if_neg hz, if_neg hz, xix_nn (by omega) (by omega), if_pos q6]; rfl
            · refine ⟨a2 u / nn m + 1, 0, ?_, ?_, by decide⟩
              · unfold e_hA_X7_divided; rw [h1, Option.bind_some, if_neg (by decide), if_neg q1, if_pos q2', if_neg q3, if_pos q4, xix_nn (by omega) (by omega), nn_nat (by omega)]; unfold xnz; rw [if_neg hz, if_neg hz, if_neg q6]; rfl
              · unfold e_hB_X9_divided; rw [h2, Option.bind_some, if_neg (by decide)]; unfold e_hB_X9_in; rw [if_neg q1, if_neg q2, Option.bind_some, if_neg (by decide), if_neg q3, e1, if_neg q5, Option.bind_some, if_neg (by decide), xix_nn (by omega) (by omega), nn_nat (by omega), ← eL u hu]; unfold xnz; rw [if_neg hz, if_neg hz, xix_nn (by omega) (by omega), if_neg q6]; rfl
          · have q5 : nn (m - 1) < x3 := by
              rw [Int32.lt_iff_toInt_lt, nn_int (by omega)]
              rw [Int32.lt_iff_toInt_lt, nn_int (by omega)] at q4
              omega
            exact ⟨-1, 1, by unfold e_hA_X7_divided; rw [h1, Option.bind_some, if_neg (by decide), if_neg q1, if_pos q2', if_neg q3, if_neg q4]; rfl, by unfold e_hB_X9_divided; rw [h2, Option.bind_some, if_neg (by decide)]; unfold e_hB_X9_in; rw [if_neg q1, if_neg q2, Option.bind_some, if_neg (by decide), if_neg q3, e1, if_pos q5]; rfl, by decide⟩
end SIMC1
