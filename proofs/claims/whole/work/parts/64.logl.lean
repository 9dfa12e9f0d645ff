/-! loops over the days -/
/-- goesBy, as it stands in the loops -/
def gb (nu np : Nat) (la : Int32) (kind sort lands : pA) (nl : Nat) (wh on ot dy : pA) (d : Nat) (r : pA) : pA := sDay nu np la kind sort lands nl wh on ot dy (nn d) r
def pPas (X : Nat → pA) (u : Nat) : Nat → Nat → Int32 → Int32
  | 0, _, n => n
  | m + 1, d, n => pPas X u m (d + 1) (if X (d + 1) (5 + u) = X d (5 + u) then n else n + 1)
theorem pc_passed {np nu u : Nat} (hp : np ≤ 6) (hn : nu ≤ 5) (hu : u < nu) {X : Nat → pA} (hX : ∀ d, wr np (X d) ∧ cn (X d)) {b : Nat → Int64} (hb : ∀ j, j ≤ 41 → b j = ll (pkR (X j))) {g : Int32} {K : Int32 → Int32 → Int32 → Int32 → pA → pA → Option (Int32 × Int32 × pA × pA × Int32)} : ∀ (m k F : Nat) (n g24 : Int32) (t h : pA), k + m = 41 → m < F → ∃ bf g24' t' h', L_hA_X7_passed_32 (nn nu) b g (nn u) K F (X k (5 + u)) n (nn k) g24 t h = K bf (pPas X u m k n) (nn 41) g24' t' h' := by
  intro m
  induction m with
  | zero =>
    intro k F n g24 t h e hF
    obtain ⟨F, rfl⟩ : ∃ f, F = f + 1 := ⟨F - 1, by omega⟩
    obtain rfl : k = 41 := by omega
    exact ⟨_, _, _, _, by simp (disch := omega) only [L_hA_X7_passed_32, n41_, nn_le, Nat.le_refl, ↓reduceIte, pPas]; rfl⟩
  | succ m ih =>
    intro k F n g24 t h e hF
    obtain ⟨F, rfl⟩ : ∃ f, F = f + 1 := ⟨F - 1, by omega⟩
    have hk : ¬ 41 ≤ k := by omega
    obtain ⟨d', t', h', e1, e2⟩ := qc_behind hp hX hb g24 t h (show k < 41 by omega)
    have e3 : t' u = X (k + 1) (5 + u) := by rw [← e2, mkr_t (by omega)]
    obtain ⟨bf, g2, t2, h2, ee⟩ := ih (k + 1) F (if X (k + 1) (5 + u) = X k (5 + u) then n else n + 1) d' t' h' (by omega) (by omega)
    refine ⟨bf, g2, t2, h2, ?_⟩
    simp only [pPas]
    rw [← ee]
    simp (disch := omega) only [L_hA_X7_passed_32, n41_, nn_le, hk, ↓reduceIte, e1, Option.bind_some, xix_nn, nn_nat, nn_succ, e3]
    split <;> rfl
theorem pr_passed {nu np nl u : Nat} (hn : nu ≤ 5) (hp : np ≤ 6) (hl : nl ≤ 16) {lapse : Int32} (hla : (0 : Int32) < lapse) {kind sort lands w wh on ot dy : pA} (hk : ∀ k, k < nl → lgOk nu np wh on ot k) (hw : ∀ u, u < nu → wv np (w u)) (hu : u < nu) {p0 g g2 : Int32} {K : Int32 → Int32 → pA → Option (Int32 × Int32 × pA × Int32 × Int32)} : ∀ (m k F : Nat) (n : Int32), k + m = 41 → m < F → L_hB_X9_passed_31 p0 (nn nu) kind sort w g g2 (nn nl) dy on wh ot lapse (nn np) lands (nn u) K F n (nn k) (morF nu np lapse kind sort lands w nl wh on ot dy cNo k) = K (pPas (morF nu np lapse kind sort lands w nl wh on ot dy cNo) u m k n) (nn 41) (morF nu np lapse kind sort lands w nl wh on ot dy cNo 41) := by
  intro m
  induction m with
  | zero =>
    intro k F n e hF
    obtain ⟨F, rfl⟩ : ∃ f, F = f + 1 := ⟨F - 1, by omega⟩
    obtain rfl : k = 41 := by omega
    simp (disch := omega) only [L_hB_X9_passed_31, n41_, nn_le, Nat.le_refl, ↓reduceIte, pPas]
  | succ m ih =>
    intro k F n e hF
    obtain ⟨F, rfl⟩ : ∃ f, F = f + 1 := ⟨F - 1, by omega⟩
    have hkk : ¬ 41 ≤ k := by omega
    have hok := morF_ok (kind := kind) (sort := sort) (lands := lands) (dy := dy) hn hp hla hk hw cNo_ok k
    have es : sDay nu np lapse kind sort lands nl wh on ot dy (nn k) (morF nu np lapse kind sort lands w nl wh on ot dy cNo k) = morF nu np lapse kind sort lands w nl wh on ot dy cNo (k + 1) := rfl
    simp (disch := omega) only [L_hB_X9_passed_31, n41_, nn_le, hkk, ↓reduceIte, nn_5add, xix_nn, nn_nat, nn_succ, qr_goesBy hn hp hl hla hk hok.1 hok.2, Option.bind_some, es, Int32.add_zero, pPas, ih]
    split <;> rfl
def pLong (X : Nat → pA) (u : Nat) : Nat → Nat → Nat → Nat → Int32 → Nat
  | 0, _, most, _, _ => most
  | m + 1, d, most, row, who => pLong X u m (d + 1) (max most (if X (d + 1) (5 + u) = -2 then 0 else if X (d + 1) (5 + u) = who then row + 1 else 1)) (if X (d + 1) (5 + u) = -2 then 0 else if X (d + 1) (5 + u) = who then row + 1 else 1) (X (d + 1) (5 + u))
theorem nn_max {a b : Nat} (ha : a < 2147483648) (hb : b < 2147483648) : (if nn a < nn b then nn b else nn a) = nn (max a b) := by
  simp (disch := omega) only [nn_lt]
  split
  · congr 1; omega
  · congr 1; omega
theorem pc_longest {np nu u : Nat} (hp : np ≤ 6) (hn : nu ≤ 5) (hu : u < nu) {X : Nat → pA} (hX : ∀ d, wr np (X d) ∧ cn (X d)) {b : Nat → Int64} (hb : ∀ j, j ≤ 41 → b j = ll (pkR (X j))) {g : Int32} {K : Int32 → Int32 → Int32 → Int32 → Int32 → pA → pA → Option (Int32 × Int32 × Int32 × pA × pA)} : ∀ (m k F most row : Nat) (who g24 : Int32) (t h : pA), k + m = 41 → m < F → most ≤ 100 → row ≤ k → ∃ r' w' g24' t' h', L_hA_X7_longest_25 (nn nu) g b (nn u) K F (nn most) (nn row) who (nn k) g24 t h = K (nn (pLong X u m k most row who)) r' w' (nn 41) g24' t' h' := by
  intro m
  induction m with
  | zero =>
    intro k F most row who g24 t h e hF _ _
    obtain ⟨F, rfl⟩ : ∃ f, F = f + 1 := ⟨F - 1, by omega⟩
    obtain rfl : k = 41 := by omega
    exact ⟨_, _, _, _, _, by simp (disch := omega) only [L_hA_X7_longest_25, n41_, nn_le, Nat.le_refl, ↓reduceIte, pLong]; rfl⟩
  | succ m ih =>
    intro k F most row who g24 t h e hF hm hr
    obtain ⟨F, rfl⟩ : ∃ f, F = f + 1 := ⟨F - 1, by omega⟩
    have hk : ¬ 41 ≤ k := by omega
    obtain ⟨d', t', h', e1, e2⟩ := qc_behind hp hX hb g24 t h (show k < 41 by omega)
    have e3 : t' u = X (k + 1) (5 + u) := by rw [← e2, mkr_t (by omega)]
    have n0 : (if nn most < (0 : Int32) then (0 : Int32) else nn most) = nn (max most 0) := nn_max (b := 0) (by omega) (by omega)
    have n1 : (if nn most < (1 : Int32) then (1 : Int32) else nn most) = nn (max most 1) := nn_max (b := 1) (by omega) (by omega)
    simp only [pLong]
    by_cases q : X (k + 1) (5 + u) = -2
    · obtain ⟨r2, w2, g2, t2, h2, ee⟩ := ih (k + 1) F (max most 0) 0 (X (k + 1) (5 + u)) d' t' h' (by omega) (by omega) (by omega) (by omega)
      refine ⟨r2, w2, g2, t2, h2, ?_⟩
      simp only [q, ↓reduceIte]
      rw [q] at ee
      rw [← ee, ← n0]
      simp (disch := omega) only [L_hA_X7_longest_25, n41_, nn_le, hk, ↓reduceIte, e1, Option.bind_some, xix_nn, nn_nat, nn_succ, e3, q]
      rfl
    · by_cases q2 : X (k + 1) (5 + u) = who
      · obtain ⟨r2, w2, g2, t2, h2, ee⟩ := ih (k + 1) F (max most (row + 1)) (row + 1) (X (k + 1) (5 + u)) d' t' h' (by omega) (by omega) (by omega) (by omega)
        refine ⟨r2, w2, g2, t2, h2, ?_⟩
        simp only [q, q2, ↓reduceIte]
        simp only [q2] at q
        simp only [q, ↓reduceIte]
        rw [q2] at ee
        rw [← ee, ← nn_max (by omega) (by omega)]
        simp (disch := omega) only [L_hA_X7_longest_25, n41_, nn_le, hk, ↓reduceIte, e1, Option.bind_some, xix_nn, nn_nat, nn_succ, e3, q, q2]
      · obtain ⟨r2, w2, g2, t2, h2, ee⟩ := ih (k + 1) F (max most 1) 1 (X (k + 1) (5 + u)) d' t' h' (by omega) (by omega) (by omega) (by omega)
        refine ⟨r2, w2, g2, t2, h2, ?_⟩
        simp only [q, q2, ↓reduceIte]
        rw [← ee, ← n1]
        simp (disch := omega) only [L_hA_X7_longest_25, n41_, nn_le, hk, ↓reduceIte, e1, Option.bind_some, xix_nn, nn_nat, nn_succ, e3, q, q2]
        rfl
theorem pr_longest {nu np nl u : Nat} (hn : nu ≤ 5) (hp : np ≤ 6) (hl : nl ≤ 16) {lapse : Int32} (hla : (0 : Int32) < lapse) {kind sort lands w wh on ot dy : pA} (hk : ∀ k, k < nl → lgOk nu np wh on ot k) (hw : ∀ u, u < nu → wv np (w u)) (hu : u < nu) {p0 g g2 : Int32} {K : Int32 → Int32 → Int32 → Int32 → pA → Option (Int32 × Int32 × pA × Int32 × Int32)} : ∀ (m k F most row many : Nat) (who : Int32), k + m = 41 → m < F → most ≤ 100 → many ≤ k → (who = -2 ∨ many = row) → ∃ r' w', L_hB_X9_longest_38 p0 (nn nu) kind sort w g g2 (nn nl) dy on wh ot lapse (nn np) lands (nn u) K F (nn most) (nn many) who (nn k) (morF nu np lapse kind sort lands w nl wh on ot dy cNo k) = K (nn (pLong (morF nu np lapse kind sort lands w nl wh on ot dy cNo) u m k most row who)) r' w' (nn 41) (morF nu np lapse kind sort lands w nl wh on ot dy cNo 41) := by
  intro m
  induction m with
  | zero =>
    intro k F most row many who e hF _ _ _
    obtain ⟨F, rfl⟩ : ∃ f, F = f + 1 := ⟨F - 1, by omega⟩
    obtain rfl : k = 41 := by omega
    exact ⟨_, _, by simp (disch := omega) only [L_hB_X9_longest_38, n41_, nn_le, Nat.le_refl, ↓reduceIte, pLong]; rfl⟩
  | succ m ih =>
    intro k F most row many who e hF hm hr hi
    obtain ⟨F, rfl⟩ : ∃ f, F = f + 1 := ⟨F - 1, by omega⟩
    have hkk : ¬ 41 ≤ k := by omega
    have hok := morF_ok (kind := kind) (sort := sort) (lands := lands) (dy := dy) hn hp hla hk hw cNo_ok k
    have es : sDay nu np lapse kind sort lands nl wh on ot dy (nn k) (morF nu np lapse kind sort lands w nl wh on ot dy cNo k) = morF nu np lapse kind sort lands w nl wh on ot dy cNo (k + 1) := rfl
    have step := L_hB_X9_longest_38.eq_2
    simp only [pLong]
    generalize hT : morF nu np lapse kind sort lands w nl wh on ot dy cNo (k + 1) (5 + u) = T
    have n1 : (1 : Int32) = nn 1 := rfl
    by_cases q : T = -2
    · subst q
      simp only [↓reduceIte]
      by_cases q2 : (-2 : Int32) = who
      · obtain ⟨r2, w2, ee⟩ := ih (k + 1) F (max most 0) 0 (many + 1) (-2) (by omega) (by omega) (by omega) (by omega) (Or.inl rfl)
        refine ⟨r2, w2, ?_⟩
        rw [← ee, show max most 0 = most by omega]
        subst q2
        simp (disch := omega) only [L_hB_X9_longest_38, n41_, nn_le, hkk, ↓reduceIte, nn_5add, xix_nn, nn_nat, nn_succ, qr_goesBy hn hp hl hla hk hok.1 hok.2, Option.bind_some, es, hT]
      · obtain ⟨r2, w2, ee⟩ := ih (k + 1) F (max most 0) 0 1 (-2) (by omega) (by omega) (by omega) (by omega) (Or.inl rfl)
        refine ⟨r2, w2, ?_⟩
        rw [← ee, show max most 0 = most by omega]
        simp (disch := omega) only [L_hB_X9_longest_38, n41_, nn_le, hkk, ↓reduceIte, nn_5add, xix_nn, nn_nat, nn_succ, qr_goesBy hn hp hl hla hk hok.1 hok.2, Option.bind_some, es, hT, q2]
        rfl
    · simp only [q, ↓reduceIte]
      by_cases q2 : T = who
      · subst q2
        obtain rfl : many = row := by
          rcases hi with hi | hi
          · exact absurd hi q
          · exact hi
        obtain ⟨r2, w2, ee⟩ := ih (k + 1) F (max most (many + 1)) (many + 1) (many + 1) T (by omega) (by omega) (by omega) (by omega) (Or.inr rfl)
        refine ⟨r2, w2, ?_⟩
        simp only [↓reduceIte]
        rw [← ee]
        by_cases q3 : many + 1 ≤ most
        · rw [show max most (many + 1) = most by omega]
          simp (disch := omega) only [L_hB_X9_longest_38, n41_, nn_le, hkk, ↓reduceIte, nn_5add, xix_nn, nn_nat, nn_succ, qr_goesBy hn hp hl hla hk hok.1 hok.2, Option.bind_some, es, hT, q, q3]
        · rw [show max most (many + 1) = many + 1 by omega]
          simp (disch := omega) only [L_hB_X9_longest_38, n41_, nn_le, hkk, ↓reduceIte, nn_5add, xix_nn, nn_nat, nn_succ, qr_goesBy hn hp hl hla hk hok.1 hok.2, Option.bind_some, es, hT, q, q3]
      · obtain ⟨r2, w2, ee⟩ := ih (k + 1) F (max most 1) 1 1 T (by omega) (by omega) (by omega) (by omega) (Or.inr rfl)
        refine ⟨r2, w2, ?_⟩
        simp only [q2, ↓reduceIte]
        rw [← ee]
        by_cases q3 : 1 ≤ most
        · rw [show max most 1 = most by omega]
          simp (disch := omega) only [L_hB_X9_longest_38, n41_, nn_le, hkk, ↓reduceIte, nn_5add, xix_nn, nn_nat, nn_succ, qr_goesBy hn hp hl hla hk hok.1 hok.2, Option.bind_some, es, hT, q, q2]
          simp only [show ((1 : Int32) ≤ nn most) = True from by rw [n1, nn_le (by omega) (by omega)]; simp [q3], ↓reduceIte]
          rfl
        · rw [show max most 1 = 1 by omega]
          simp (disch := omega) only [L_hB_X9_longest_38, n41_, nn_le, hkk, ↓reduceIte, nn_5add, xix_nn, nn_nat, nn_succ, qr_goesBy hn hp hl hla hk hok.1 hok.2, Option.bind_some, es, hT, q, q2]
          simp only [show ((1 : Int32) ≤ nn most) = False from by rw [n1, nn_le (by omega) (by omega)]; simp [q3], ↓reduceIte]
          rfl
def pWst (X : Nat → pA) (l : pA) (nu : Nat) : Nat → Nat → Int32 → Int32 → Int32
  | 0, _, best, _ => best
  | m + 1, d, best, most => if most < pLands (tR (X (d + 1))) l (-2) nu 0 0 then pWst X l nu m (d + 1) (nn d) (pLands (tR (X (d + 1))) l (-2) nu 0 0) else pWst X l nu m (d + 1) best most
theorem pWst_congr {X : Nat → pA} {l l' : pA} {nu : Nat} (h : ∀ u, u < nu → l u = l' u) : ∀ (m d : Nat) (best most : Int32), pWst X l nu m d best most = pWst X l' nu m d best most := by
  intro m
  induction m with
  | zero => intro d best most; rfl
  | succ m ih =>
    intro d best most
    simp only [pWst]
    rw [pLands_congr (l := l) (l' := l') (t' := tR (X (d + 1))) nu 0 0 (fun u hu => ⟨rfl, h u (by omega)⟩), ih, ih]
theorem pc_worstDay {np nu : Nat} (hp : np ≤ 6) (hn : nu ≤ 5) {X : Nat → pA} (hX : ∀ d, wr np (X d) ∧ cn (X d)) {b : Nat → Int64} (hb : ∀ j, j ≤ 41 → b j = ll (pkR (X j))) {g : Int32} {l : pA} {K : Int32 → Int32 → Int32 → Int32 → pA → pA → Option (Int32 × Int32 × Int32 × pA × pA)} : ∀ (m k F : Nat) (best most g24 : Int32) (t h : pA), k + m = 41 → m < F → ∃ m' g24' t' h', L_hA_X7_worstDay_19 (nn nu) g b l K F best most (nn k) g24 t h = K (pWst X l nu m k best most) m' (nn 41) g24' t' h' := by
  intro m
  induction m with
  | zero =>
    intro k F best most g24 t h e hF
    obtain ⟨F, rfl⟩ : ∃ f, F = f + 1 := ⟨F - 1, by omega⟩
    obtain rfl : k = 41 := by omega
    exact ⟨_, _, _, _, by simp (disch := omega) only [L_hA_X7_worstDay_19, n41_, nn_le, Nat.le_refl, ↓reduceIte, pWst]; rfl⟩
  | succ m ih =>
    intro k F best most g24 t h e hF
    obtain ⟨F, rfl⟩ : ∃ f, F = f + 1 := ⟨F - 1, by omega⟩
    have hk : ¬ 41 ≤ k := by omega
    obtain ⟨d', t', h', e1, e2⟩ := qc_behind hp hX hb g24 t h (show k < 41 by omega)
    have e3 : pLands t' l (-2) nu 0 0 = pLands (tR (X (k + 1))) l (-2) nu 0 0 := by rw [← e2]; exact (pLands_mkr hn (fun _ _ => rfl)).symm
    simp only [pWst]
    by_cases q : most < pLands (tR (X (k + 1))) l (-2) nu 0 0
    · obtain ⟨m2, g2, t2, h2, ee⟩ := ih (k + 1) F (nn k) (pLands (tR (X (k + 1))) l (-2) nu 0 0) d' t' h' (by omega) (by omega)
      refine ⟨m2, g2, t2, h2, ?_⟩
      rw [if_pos q, ← ee]
      simp (disch := omega) only [L_hA_X7_worstDay_19, n41_, nn_le, hk, ↓reduceIte, e1, Option.bind_some, qc_landsFor hn, nn_succ, e3, Int32.not_le.mpr q]
    · obtain ⟨m2, g2, t2, h2, ee⟩ := ih (k + 1) F best most d' t' h' (by omega) (by omega)
      refine ⟨m2, g2, t2, h2, ?_⟩
      rw [if_neg q, ← ee]
      simp (disch := omega) only [L_hA_X7_worstDay_19, n41_, nn_le, hk, ↓reduceIte, e1, Option.bind_some, qc_landsFor hn, nn_succ, e3, Int32.not_lt.mp q]
theorem pr_worstDay {nu np nl : Nat} (hn : nu ≤ 5) (hp : np ≤ 6) (hl : nl ≤ 16) {lapse : Int32} (hla : (0 : Int32) < lapse) {kind sort lands w wh on ot dy : pA} (hk : ∀ k, k < nl → lgOk nu np wh on ot k) (hw : ∀ u, u < nu → wv np (w u)) {p0 g g2 : Int32} {K : Int32 → Int32 → Int32 → pA → Option (Int32 × Int32 × pA × Int32 × Int32)} : ∀ (m k F : Nat) (best most : Int32), k + m = 41 → m < F → ∃ m', L_hB_X9_worstDay_32 p0 (nn nu) kind sort w g g2 (nn nl) dy on wh ot lapse (nn np) lands K F best most (nn k) (morF nu np lapse kind sort lands w nl wh on ot dy cNo k) = K (pWst (morF nu np lapse kind sort lands w nl wh on ot dy cNo) lands nu m k best most) m' (nn 41) (morF nu np lapse kind sort lands w nl wh on ot dy cNo 41) := by
  intro m
  induction m with
  | zero =>
    intro k F best most e hF
    obtain ⟨F, rfl⟩ : ∃ f, F = f + 1 := ⟨F - 1, by omega⟩
    obtain rfl : k = 41 := by omega
    exact ⟨_, by simp (disch := omega) only [L_hB_X9_worstDay_32, n41_, nn_le, Nat.le_refl, ↓reduceIte, pWst]; rfl⟩
  | succ m ih =>
    intro k F best most e hF
    obtain ⟨F, rfl⟩ : ∃ f, F = f + 1 := ⟨F - 1, by omega⟩
    have hkk : ¬ 41 ≤ k := by omega
    have hok := morF_ok (kind := kind) (sort := sort) (lands := lands) (dy := dy) hn hp hla hk hw cNo_ok k
    have es : sDay nu np lapse kind sort lands nl wh on ot dy (nn k) (morF nu np lapse kind sort lands w nl wh on ot dy cNo k) = morF nu np lapse kind sort lands w nl wh on ot dy cNo (k + 1) := rfl
    simp only [pWst]
    by_cases q : most < pLands (tR (morF nu np lapse kind sort lands w nl wh on ot dy cNo (k + 1))) lands (-2) nu 0 0
    · obtain ⟨m2, ee⟩ := ih (k + 1) F (nn k) (pLands (tR (morF nu np lapse kind sort lands w nl wh on ot dy cNo (k + 1))) lands (-2) nu 0 0) (by omega) (by omega)
      refine ⟨m2, ?_⟩
      rw [if_pos q, ← ee]
      simp (disch := omega) only [L_hB_X9_worstDay_32, n41_, nn_le, hkk, ↓reduceIte, nn_succ, qr_goesBy hn hp hl hla hk hok.1 hok.2, Option.bind_some, es, qr_landsIn hn, q]
    · obtain ⟨m2, ee⟩ := ih (k + 1) F best most (by omega) (by omega)
      refine ⟨m2, ?_⟩
      rw [if_neg q, ← ee]
      simp (disch := omega) only [L_hB_X9_worstDay_32, n41_, nn_le, hkk, ↓reduceIte, nn_succ, qr_goesBy hn hp hl hla hk hok.1 hok.2, Option.bind_some, es, qr_landsIn hn, q]
section LOGL
variable {np nu nl nc tp na nm : Nat} {la gu ra : Int32} {g7 g8 g9 g10 g11 g12 g13 g14 g15 g17 g18 g19 g20 g21 g22 g23 g24 g25 g26 g27 g28 g29 g30 g31 g32 g33 g34 : Int32} {a0 a1 a2 a3 a4 a5 a6 a7 a8 a9 a10 a11 a12 a13 a14 a15 a16 a17 a18 a19 a20 a21 a22 a23 a24 a25 a26 a27 a28 a29 a30 a31 a32 a33 a34 a35 a36 a37 a38 a39 : pA} {b0 b1 b2 b3 b4 : Nat → Int64} {w0 : Int64}
variable {G0 G2 G4 G5 G6 G7 G8 G10 G13 G14 G15 G16 G17 G18 G26 : Int32} {A0 A2 A3 A4 A5 A6 A7 A8 A9 A10 A11 A12 A13 A14 A15 A16 A17 A18 A19 A20 A21 A22 A23 : pA} {B0 : Nat → Int64} {W0 : Int64} {rb : Nat}
theorem C_passed (I : IC np nu nl nc tp na nm la gu ra g22 g25 g26 g33 g34 G2 a0 a1 a2 a3 a4 a5 a6 a7 a8 a10 a11 a12 a13 a27 a28 a31 b2 b3 b4 A0 A2 A3 A4 A10 A11 A12 A13 A14 A15 A16 A17 A18 A19 A20 A21) (x1 : Int32) : ∃ (v : Int32) (g24' : Int32) (a33' : (Nat → Int32)) (a32' : (Nat → Int32)) (c : Int32) (A2' : (Nat → Int32)), e_hA_X7_passed (nn nu) b2 g24 a33 a32 g34 x1 = some (v, g24', a33', a32', c) ∧ e_hB_X9_passed G0 (nn nu) A2 A11 A10 A14 g34 G2 (nn nl) A18 A16 A15 A17 la (nn np) A12 x1 = some (v, 0, A2', c, (-1)) ∧ c ≠ 4 ∧ cn A2' := by
  obtain ⟨⟨hp1, hp, hn1, hn, hl, hc⟩, ⟨hla, hgu, hra⟩, eS, eK, eL, eR, eW, bL, bR, wW, eG, oG, eC⟩ := I.1
  have hX := mor_ok I.1 (C := cNo) cNo_ok
  rcases isU_cases hn x1 with ⟨h1, h2⟩ | ⟨u, hu, rfl, h1, h2⟩
  · exact ⟨-1, g24, a33, a32, 1, A2, by unfold e_hA_X7_passed; rw [h1]; rfl, by unfold e_hB_X9_passed; rw [h2]; rfl, by decide, I.2.2.2.1⟩
  · obtain ⟨d', t', h', e1, e2⟩ := qc_atFirst hp hX I.2.2.2.2.2.2.1.1 g24 a33 a32
    have e3 : t' u = mor np nu nl la a0 a1 a2 a4 a5 a6 a7 a8 cNo 0 (5 + u) := by rw [← e2, mkr_t (by omega)]
    obtain ⟨bf, g2, t2, h2', ee⟩ := pc_passed hp hn hu hX I.2.2.2.2.2.2.1.1 (g := g34) (K := (fun l2_32 l3_32 l4_32 mg24_32 ma33_32 ma32_32 => ((e_hA_X7_answer g34 l3_32).bind fun z75 => some (z75.1, mg24_32, ma33_32, ma32_32, z75.2)))) 41 0 200000 0 d' t' h' (by omega) (by omega)
    refine ⟨pPas (mor np nu nl la a0 a1 a2 a4 a5 a6 a7 a8 cNo) u 41 0 0, g2, t2, h2', 0, mor np nu nl la a0 a1 a2 a4 a5 a6 a7 a8 cNo 41, ?_, ?_, by decide, (hX 41).2⟩
    · unfold e_hA_X7_passed
      rw [h1, Option.bind_some, if_neg (by decide), e1, Option.bind_some, xix_nn (by omega) (by omega), nn_nat (by omega)]
      rw [← e3] at ee
      exact ee
    · unfold e_hB_X9_passed
      rw [h2, Option.bind_some, if_neg (by decide), qr_starts hn hp (wWr I.1) I.2.2.2.1, Option.bind_some]
      refine (pr_passed hn hp hl (la_pos hla) (oGr I.1) (wWr I.1) hu 41 0 200000 0 (by omega) (by omega)).trans ?_
      rw [show morF nu np la A11 A10 A12 A14 nl A15 A16 A17 A18 cNo = mor np nu nl la a0 a1 a2 a4 a5 a6 a7 a8 cNo from funext (mor_eq I.1 cNo_ok)]
      rfl
theorem C_longest (I : IC np nu nl nc tp na nm la gu ra g22 g25 g26 g33 g34 G2 a0 a1 a2 a3 a4 a5 a6 a7 a8 a10 a11 a12 a13 a27 a28 a31 b2 b3 b4 A0 A2 A3 A4 A10 A11 A12 A13 A14 A15 A16 A17 A18 A19 A20 A21) (x1 : Int32) : ∃ (v : Int32) (c : Int32) (g24' : Int32) (a33' : (Nat → Int32)) (a32' : (Nat → Int32)) (A2' : (Nat → Int32)), e_hA_X7_longest (nn nu) g34 b2 g24 a33 a32 x1 = some (v, c, g24', a33', a32') ∧ e_hB_X9_longest G0 (nn nu) A2 A11 A10 A14 g34 G2 (nn nl) A18 A16 A15 A17 la (nn np) A12 x1 = some (v, 0, A2', c, (-1)) ∧ c ≠ 4 ∧ cn A2' := by
  obtain ⟨⟨hp1, hp, hn1, hn, hl, hc⟩, ⟨hla, hgu, hra⟩, eS, eK, eL, eR, eW, bL, bR, wW, eG, oG, eC⟩ := I.1
  have hX := mor_ok I.1 (C := cNo) cNo_ok
  rcases isU_cases hn x1 with ⟨h1, h2⟩ | ⟨u, hu, rfl, h1, h2⟩
  · exact ⟨-1, 1, g24, a33, a32, A2, by unfold e_hA_X7_longest; rw [h1]; rfl, by unfold e_hB_X9_longest; rw [h2]; rfl, by decide, I.2.2.2.1⟩
  · obtain ⟨r', w', g2, t2, h2', ee⟩ := pc_longest hp hn hu hX I.2.2.2.2.2.2.1.1 (g := g34) (K := (fun l2_25 l3_25 l4_25 l5_25 mg24_25 ma33_25 ma32_25 => ((e_hA_X7_answer g34 l2_25).bind fun z92 => some (z92.1, z92.2, mg24_25, ma33_25, ma32_25)))) 41 0 200000 0 0 (-2) g24 a33 a32 (by omega) (by omega) (by omega) (by omega)
    obtain ⟨r3, w3, ff⟩ := pr_longest hn hp hl (la_pos hla) (oGr I.1) (wWr I.1) hu (kind := A11) (sort := A10) (lands := A12) (dy := A18) (p0 := 0) (g := g34) (g2 := G2) (K := (fun l2_38 l3_38 l4_38 l5_38 ma2_38 => ((e_hB_X9_good g34 G2 l2_38).bind fun z104 => some (z104.1, (0 : Int32), ma2_38, z104.2.1, z104.2.2)))) 41 0 200000 0 0 0 (-2) (by omega) (by omega) (by omega) (by omega) (Or.inl rfl)
    refine ⟨nn (pLong (mor np nu nl la a0 a1 a2 a4 a5 a6 a7 a8 cNo) u 41 0 0 0 (-2)), 0, g2, t2, h2', mor np nu nl la a0 a1 a2 a4 a5 a6 a7 a8 cNo 41, ?_, ?_, by decide, (hX 41).2⟩
    · unfold e_hA_X7_longest
      rw [h1, Option.bind_some, if_neg (by decide)]
      exact ee
    · unfold e_hB_X9_longest
      rw [h2, Option.bind_some, if_neg (by decide), qr_starts hn hp (wWr I.1) I.2.2.2.1, Option.bind_some]
      rw [show morF nu np la A11 A10 A12 A14 nl A15 A16 A17 A18 cNo = mor np nu nl la a0 a1 a2 a4 a5 a6 a7 a8 cNo from funext (mor_eq I.1 cNo_ok)] at ff
      exact Eq.trans (by rw [← show morF nu np la A11 A10 A12 A14 nl A15 A16 A17 A18 cNo 0 = mor np nu nl la a0 a1 a2 a4 a5 a6 a7 a8 cNo 0 from mor_eq I.1 cNo_ok 0]; rfl) ff
theorem C_worstDay (I : IC np nu nl nc tp na nm la gu ra g22 g25 g26 g33 g34 G2 a0 a1 a2 a3 a4 a5 a6 a7 a8 a10 a11 a12 a13 a27 a28 a31 b2 b3 b4 A0 A2 A3 A4 A10 A11 A12 A13 A14 A15 A16 A17 A18 A19 A20 A21) : ∃ (v : Int32) (c : Int32) (g24' : Int32) (a33' : (Nat → Int32)) (a32' : (Nat → Int32)) (A2' : (Nat → Int32)), e_hA_X7_worstDay (nn nu) g34 b2 g24 a33 a32 a2 = some (v, c, g24', a33', a32') ∧ e_hB_X9_worstDay G0 A2 (nn nu) A11 A10 A14 g34 G2 (nn nl) A18 A16 A15 A17 la (nn np) A12 = some (v, 0, A2', c, (-1)) ∧ c ≠ 4 ∧ cn A2' := by
  obtain ⟨⟨hp1, hp, hn1, hn, hl, hc⟩, ⟨hla, hgu, hra⟩, eS, eK, eL, eR, eW, bL, bR, wW, eG, oG, eC⟩ := I.1
  have hX := mor_ok I.1 (C := cNo) cNo_ok
  obtain ⟨m', g2, t2, h2', ee⟩ := pc_worstDay hp hn hX I.2.2.2.2.2.2.1.1 (g := g34) (l := a2) (K := (fun l1_19 l2_19 l3_19 mg24_19 ma33_19 ma32_19 => ((e_hA_X7_answer g34 l1_19).bind fun z63 => some (z63.1, z63.2, mg24_19, ma33_19, ma32_19)))) 41 0 200000 0 (-1) g24 a33 a32 (by omega) (by omega)
  obtain ⟨m3, ff⟩ := pr_worstDay hn hp hl (la_pos hla) (oGr I.1) (wWr I.1) (kind := A11) (sort := A10) (lands := A12) (dy := A18) (p0 := 0) (g := g34) (g2 := G2) (K := (fun l1_32 l2_32 l3_32 ma2_32 => ((e_hB_X9_good g34 G2 l1_32).bind fun z81 => some (z81.1, (0 : Int32), ma2_32, z81.2.1, z81.2.2)))) 41 0 200000 0 (-1) (by omega) (by omega)
  refine ⟨pWst (mor np nu nl la a0 a1 a2 a4 a5 a6 a7 a8 cNo) a2 nu 41 0 0 (-1), 0, g2, t2, h2', mor np nu nl la a0 a1 a2 a4 a5 a6 a7 a8 cNo 41, ?_, ?_, by decide, (hX 41).2⟩
  · unfold e_hA_X7_worstDay
    rw [isT1 hn1 hn, Option.bind_some, if_neg (by decide)]
    exact ee
  · unfold e_hB_X9_worstDay
    rw [qr_starts hn hp (wWr I.1) I.2.2.2.1, Option.bind_some]
    rw [show morF nu np la A11 A10 A12 A14 nl A15 A16 A17 A18 cNo = mor np nu nl la a0 a1 a2 a4 a5 a6 a7 a8 cNo from funext (mor_eq I.1 cNo_ok), ← pWst_congr eL] at ff
    exact Eq.trans (by rw [← show morF nu np la A11 A10 A12 A14 nl A15 A16 A17 A18 cNo 0 = mor np nu nl la a0 a1 a2 a4 a5 a6 a7 a8 cNo 0 from mor_eq I.1 cNo_ok 0]; rfl) ff
end LOGL
