/-! THE PURE PART: from NOW -/
theorem eqL_lapse_3 : @L_hA_X3_lapse_3_2 = @L_hA_X3_lapse_2 := by
  funext a b K n
  induction n with
  | zero => rfl
  | succ n ih =>
    funext x y
    simp only [L_hA_X3_lapse_3_2, L_hA_X3_lapse_2, ih]
theorem eqL_lapse_4 : @L_hA_X3_lapse_4_2 = @L_hA_X3_lapse_2 := by
  funext a b K n
  induction n with
  | zero => rfl
  | succ n ih =>
    funext x y
    simp only [L_hA_X3_lapse_4_2, L_hA_X3_lapse_2, ih]
theorem eqL_pass2_3 : @L_hA_X3_passDay_3_2 = @L_hA_X3_passDay_2 := by
  funext a b c d e f g h i K n
  induction n with
  | zero => rfl
  | succ n ih =>
    funext x y
    simp only [L_hA_X3_passDay_3_2, L_hA_X3_passDay_2, ih]
theorem eqL_pass2_4 : @L_hA_X3_passDay_4_2 = @L_hA_X3_passDay_2 := by
  funext a b c d e f g h i K n
  induction n with
  | zero => rfl
  | succ n ih =>
    funext x y
    simp only [L_hA_X3_passDay_4_2, L_hA_X3_passDay_2, ih]
theorem eqL_pass96_3 : @L_hA_X3_passDay_3_96 = @L_hA_X3_passDay_96 := by
  funext a b c d e f g h K n
  induction n with
  | zero => rfl
  | succ n ih =>
    funext x y
    simp only [L_hA_X3_passDay_3_96, L_hA_X3_passDay_96, ih]
theorem eqL_pass96_4 : @L_hA_X3_passDay_4_96 = @L_hA_X3_passDay_96 := by
  funext a b c d e f g h K n
  induction n with
  | zero => rfl
  | succ n ih =>
    funext x y
    simp only [L_hA_X3_passDay_4_96, L_hA_X3_passDay_96, ih]
theorem eqL_unpack : @L_hA_X3_unpack_2_5 = @L_hA_X3_unpack_5 := by
  funext a K n
  induction n with
  | zero => rfl
  | succ n ih =>
    funext x y z w
    simp only [L_hA_X3_unpack_2_5, L_hA_X3_unpack_5, ih]
theorem eq_lapse_3 : @e_hA_X3_lapse_3 = @e_hA_X3_lapse := by
  unfold e_hA_X3_lapse_3 e_hA_X3_lapse
  rw [eqL_lapse_3]
theorem eq_lapse_4 : @e_hA_X3_lapse_4 = @e_hA_X3_lapse := by
  unfold e_hA_X3_lapse_4 e_hA_X3_lapse
  rw [eqL_lapse_4]
theorem eq_passDay_3 : @e_hA_X3_passDay_3 = @e_hA_X3_passDay := by
  unfold e_hA_X3_passDay_3 e_hA_X3_passDay
  rw [eqL_pass2_3, eqL_pass96_3, eq_lapse_3]
theorem eq_passDay_4 : @e_hA_X3_passDay_4 = @e_hA_X3_passDay := by
  unfold e_hA_X3_passDay_4 e_hA_X3_passDay
  rw [eqL_pass2_4, eqL_pass96_4, eq_lapse_4]
theorem eq_unpack_2 : @e_hA_X3_unpack_2 = @e_hA_X3_unpack := by
  unfold e_hA_X3_unpack_2 e_hA_X3_unpack
  rw [eqL_unpack]
theorem xnz_nn {R : Type} {k : Nat} (h1 : 1 ≤ k) (h : k < 2147483648) (K : Option R) : xnz (nn k) K = K := by
  unfold xnz
  rw [if_neg]
  rw [show (0 : Int32) = nn 0 from rfl, nn_inj h (by omega)]
  omega
theorem pLands_nn {t l : pA} {p : Int32} {nu : Nat} (hl : ∀ u, u < nu → ∃ k, k ≤ 99 ∧ l u = nn k) : ∀ (m k acc : Nat), k + m ≤ nu → ∃ q, q ≤ acc + 99 * m ∧ pLands t l p m k (nn acc) = nn q := by
  intro m
  induction m with
  | zero => intro k acc _; exact ⟨acc, by omega, rfl⟩
  | succ m ih =>
    intro k acc e
    simp only [pLands]
    split
    · obtain ⟨j, hj, ej⟩ := hl k (by omega)
      rw [ej, nn_add]
      obtain ⟨q, hq, eq⟩ := ih (k + 1) (acc + j) (by omega)
      exact ⟨q, by omega, eq⟩
    · rw [show nn acc + 0 = nn acc from Int32.add_zero _]
      obtain ⟨q, hq, eq⟩ := ih (k + 1) acc (by omega)
      exact ⟨q, by omega, eq⟩
/-- best and most, from k on -/
def pM (L : Nat → Int32) : Nat → Nat → Int32 → Int32 → Int32 × Int32
  | 0, _, b, m => (b, m)
  | j + 1, k, b, m => if m < L k then pM L j (k + 1) (nn k) (L k) else pM L j (k + 1) b m
def pX (L : Nat → Int32) : Nat → Nat → Int32 → Int32
  | 0, _, m => m
  | j + 1, k, m => pX L j (k + 1) (if m < L k then L k else m)
theorem pX_eq (L : Nat → Int32) : ∀ (j k : Nat) (b m : Int32), pX L j k m = (pM L j k b m).2 := by
  intro j
  induction j with
  | zero => intro k b m; rfl
  | succ j ih =>
    intro k b m
    simp only [pX, pM]
    split
    · exact ih _ _ _
    · exact ih _ _ _
def nx (s : Nat) : Nat := (75 * s + 74) % 65537
theorem nx_le (s : Nat) : nx s ≤ 65536 := by unfold nx; omega
theorem qc_nextSeed {s : Nat} (h : s ≤ 65536) : e_hA_X7_nextSeed (nn s) = some (nn (nx s)) := by
  unfold e_hA_X7_nextSeed nx
  rw [show (75 : Int32) = nn 75 from rfl, show (74 : Int32) = nn 74 from rfl, show (65537 : Int32) = nn 65537 from rfl, nn_mul, nn_add, nn_mod (by omega) (by omega)]
theorem ll_mul (a b : Nat) : ll a * ll b = ll (a * b) := (Int64.ofNat_mul a b).symm
theorem ll_add (a b : Nat) : ll a + ll b = ll (a + b) := (Int64.ofNat_add a b).symm
theorem ll_sub {a b : Nat} (h : b ≤ a) : ll a - ll b = ll (a - b) := (Int64.ofNat_sub a b h).symm
theorem ll_div {a b : Nat} (ha : a < 2 ^ 63) (hb : b < 2 ^ 63) : ll a / ll b = ll (a / b) := (Int64.ofNat_div ha hb).symm
theorem ll_mod {a b : Nat} (ha : a < 2 ^ 63) (hb : b < 2 ^ 63) : ll a - ll a / ll b * ll b = ll (a % b) := by
  have h1 : a / b * b ≤ a := Nat.div_mul_le_self a b
  rw [ll_div ha hb, ll_mul, ll_sub h1]
  congr 1
  have := Nat.div_add_mod a b
  rw [Nat.mul_comm] at this
  omega
theorem qr_draw {s q : Nat} (h : s ≤ 65536) (hq : 1 ≤ q) (hq2 : q ≤ 100) : e_hB_X9_draw (nn s) (nn q) = some (nn (nx s % q), nn (nx s)) := by
  unfold e_hB_X9_draw
  have := nx_le s
  rw [xnz_nn hq (by omega), show (75 : Int64) = ll 75 from rfl, show (74 : Int64) = ll 74 from rfl, show (65537 : Int64) = ll 65537 from rfl, nn_64 (by omega), ll_mul, ll_add, ll_mod (by omega) (by omega), ll_32]
  show some (nn (nx s) - nn (nx s) / nn q * nn q, nn (nx s)) = _
  rw [nn_mod (by omega) (by omega)]
section NOWQ
variable {np nu nl nc tp na nm : Nat} {la gu ra : Int32} {g7 g8 g9 g10 g11 g12 g13 g14 g15 g17 g18 g19 g20 g21 g22 g23 g24 g25 g26 g27 g28 g29 g30 g31 g32 g33 g34 : Int32} {a0 a1 a2 a3 a4 a5 a6 a7 a8 a9 a10 a11 a12 a13 a14 a15 a16 a17 a18 a19 a20 a21 a22 a23 a24 a25 a26 a27 a28 a29 a30 a31 a32 a33 a34 a35 a36 a37 a38 a39 : pA} {b0 b1 b2 b3 b4 : Nat → Int64} {w0 : Int64}
variable {G0 G2 G4 G5 G6 G7 G8 G10 G13 G14 G15 G16 G17 G18 G26 : Int32} {A0 A2 A3 A4 A5 A6 A7 A8 A9 A10 A11 A12 A13 A14 A15 A16 A17 A18 A19 A20 A21 A22 A23 : pA} {B0 : Nat → Int64} {W0 : Int64} {rb : Nat}
theorem cE (H : Cty np nu nl nc la gu ra a0 a1 a2 a3 a4 a5 a6 a7 a8 a10 a11 a12 A10 A11 A12 A13 A14 A15 A16 A17 A18 A19 A20 A21) {rain d : Int32} {h t : pA} (hb : rain = 0 ∨ rain = 1) (hw : wr np (mkr h t d)) : ∃ d' h' t', e_hA_X3_passDay_3 (nn nu) d (nn np) a0 h a2 la a1 t rain = some (d', h', t') ∧ mkr h' t' d' = sEnds nu np la a1 a0 a2 rain (mkr h t d) ∧ wr np (mkr h' t' d') := by
  obtain ⟨d', h', t', e1, e2⟩ := qc_pass (sort := a0) (lands := a2) (kind := a1) H.1.2.2.2.1 H.1.2.1 (la_pos H.2.1.1) hb hw
  refine ⟨d', h', t', ?_, e2, ?_⟩
  · rw [eq_passDay_3]; exact e1
  · rw [e2]; exact sEnds_wr H.1.2.2.2.1 hw
theorem rE (H : Cty np nu nl nc la gu ra a0 a1 a2 a3 a4 a5 a6 a7 a8 a10 a11 a12 A10 A11 A12 A13 A14 A15 A16 A17 A18 A19 A20 A21) {rain : Int32} {r : pA} (hw : wr np r) : e_hB_X9_ends (nn nu) r la (nn np) A10 A12 A11 rain = some (sEnds nu np la a1 a0 a2 rain r) := by
  rw [qr_ends H.1.2.2.2.1 H.1.2.1 (la_pos H.2.1.1) hw.1, sEnds_congr H.1.2.2.2.1 H.1.2.1 H.2.2.2.1 H.2.2.1 H.2.2.2.2.1 hw]
theorem oE (H : Cty np nu nl nc la gu ra a0 a1 a2 a3 a4 a5 a6 a7 a8 a10 a11 a12 A10 A11 A12 A13 A14 A15 A16 A17 A18 A19 A20 A21) {rain : Int32} {r : pA} (hb : rain = 0 ∨ rain = 1) (hw : wr np r) (hc : cn r) : wr np (sEnds nu np la a1 a0 a2 rain r) ∧ cn (sEnds nu np la a1 a0 a2 rain r) := ⟨sEnds_wr H.1.2.2.2.1 hw, sEnds_cn H.1.2.2.2.1 H.1.2.1 (la_pos H.2.1.1) hb hw hc⟩
theorem C_change (I : IC np nu nl nc tp na nm la gu ra g22 g25 g26 g33 g34 G2 a0 a1 a2 a3 a4 a5 a6 a7 a8 a10 a11 a12 a13 a27 a28 a31 b2 b3 b4 A0 A2 A3 A4 A10 A11 A12 A13 A14 A15 A16 A17 A18 A19 A20 A21) (x1 x2 : Int32) (hb : x2 = 0 ∨ x2 = 1) : ∃ (v : Int32) (g23' : Int32) (a29' : (Nat → Int32)) (a30' : (Nat → Int32)) (c : Int32) (A2' : (Nat → Int32)), e_hA_X7_change (nn np) g22 g23 a27 a29 a28 a30 (nn nu) a0 a2 la a1 g34 x1 x2 = some (v, g23', a29', a30', c) ∧ e_hB_X9_change G0 (nn np) (mkr a27 a28 g22) A2 (nn nu) la A10 A12 A11 g34 G2 x1 x2 = some (v, 0, A2', c, (-1)) ∧ c ≠ 4 ∧ cn A2' := by
  obtain ⟨⟨hp1, hp, hn1, hn, hl, hc⟩, ⟨hla, hgu, hra⟩, eS, eK, eL, eR, eW, bL, bR, wW, eG, oG, eC⟩ := I.1
  rcases isP_cases hp x1 with ⟨h1, h2⟩ | ⟨p, hpp, rfl, h1, h2⟩
  · exact ⟨-1000, g23, a29, a30, 1, A2, by unfold e_hA_X7_change; rw [h1]; rfl, by unfold e_hB_X9_change; rw [h2]; rfl, by decide, I.2.2.2.1⟩
  · obtain ⟨hh, tt, c1, c2⟩ := qc_copyFrom g22 g23 a27 a29 a28 a30
    obtain ⟨d', h', t', e1, e2, e3⟩ := cE I.1 hb (h := hh) (t := tt) (d := g22) (by rw [c2]; exact I.2.2.1)
    rw [c2] at e2
    refine ⟨pLands t' a2 (nn p) nu 0 0 - pLands a28 a2 (nn p) nu 0 0, d', h', t', 0, sEnds nu np la a1 a0 a2 x2 (mkr a27 a28 g22), ?_, ?_, by decide, (oE I.1 hb I.2.2.1 (cn_mkr _ _ _)).2⟩
    · unfold e_hA_X7_change
      rw [h1, Option.bind_some, if_neg (by decide), c1, Option.bind_some, e1, Option.bind_some, qc_landsFor hn, Option.bind_some, qc_landsFor hn]
      rfl
    · unfold e_hB_X9_change
      rw [h2, Option.bind_some, if_neg (by decide), qr_tries (cn_mkr _ _ _) I.2.2.2.1, Option.bind_some, rE I.1 I.2.2.1, Option.bind_some, qr_landsIn hn, Option.bind_some, qr_landsIn hn, ← e2, pLands_mkr hn eL, pLands_mkr hn eL]
      rfl
def pLap (nu np : Nat) (la : Int32) (a0 a1 a2 : pA) (u : Nat) : Nat → Nat → pA → Int32
  | 0, _, _ => -2
  | m + 1, n, r => if r (5 + u) = -2 then nn n else pLap nu np la a0 a1 a2 u m (n + 1) (sEnds nu np la a1 a0 a2 0 r)
theorem pc_lapsesIn (H : Cty np nu nl nc la gu ra a0 a1 a2 a3 a4 a5 a6 a7 a8 a10 a11 a12 A10 A11 A12 A13 A14 A15 A16 A17 A18 A19 A20 A21) {u : Nat} (hu : u < nu) {p1 : Int32} {p3 p5 : pA} : ∀ (m n F : Nat) (d : Int32) (h t : pA), n + m = 31 → m < F → wr np (mkr h t d) → ∃ d' h' t', L_hA_X7_lapsesIn_27 (nn nu) p1 p3 p5 g34 (nn np) a0 a2 la a1 (nn u) (fun l2_27 mg23_27 ma29_27 ma30_27 => ((e_hA_X7_answer g34 (-2 : Int32)).bind fun z74 => some (z74.1, mg23_27, ma29_27, ma30_27, z74.2))) F (nn n) d h t = some (pLap nu np la a0 a1 a2 u m n (mkr h t d), d', h', t', 0) := by
  have hn := H.1.2.2.2.1
  intro m
  induction m with
  | zero =>
    intro n F d h t e hF hw
    obtain ⟨F, rfl⟩ : ∃ f, F = f + 1 := ⟨F - 1, by omega⟩
    obtain rfl : n = 31 := by omega
    exact ⟨d, h, t, rfl⟩
  | succ m ih =>
    intro n F d h t e hF hw
    obtain ⟨F, rfl⟩ : ∃ f, F = f + 1 := ⟨F - 1, by omega⟩
    have hk : ¬ 30 < n := by omega
    simp only [pLap]
    rw [mkr_t (by omega)]
    by_cases q : t u = -2
    · refine ⟨d, h, t, ?_⟩
      simp (disch := omega) only [L_hA_X7_lapsesIn_27, n30, nn_lt, hk, ↓reduceIte, xix_nn, nn_nat, q]
      rfl
    · obtain ⟨d2, h2, t2, e1, e2, e3⟩ := cE H (rain := 0) (Or.inl rfl) hw
      obtain ⟨d', h', t', ee⟩ := ih (n + 1) F d2 h2 t2 (by omega) (by omega) e3
      refine ⟨d', h', t', ?_⟩
      rw [if_neg q, ← e2, ← ee]
      simp (disch := omega) only [L_hA_X7_lapsesIn_27, n30, nn_lt, hk, ↓reduceIte, xix_nn, nn_nat, nn_succ, q, e1, Option.bind_some]
theorem pr_lapsesIn (H : Cty np nu nl nc la gu ra a0 a1 a2 a3 a4 a5 a6 a7 a8 a10 a11 a12 A10 A11 A12 A13 A14 A15 A16 A17 A18 A19 A20 A21) {u : Nat} (hu : u < nu) {p2 : pA} : ∀ (m n F : Nat) (r : pA), n + m = 31 → m < F → wr np r → cn r → ∃ r', L_hB_X9_lapsesIn_25 0 (nn nu) p2 g34 G2 la (nn np) A10 A12 A11 (nn u) (fun l2_25 ma2_25 => ((e_hB_X9_good g34 G2 (-2 : Int32)).bind fun z68 => some (z68.1, (0 : Int32), ma2_25, z68.2.1, z68.2.2))) F (nn n) r = some (pLap nu np la a0 a1 a2 u m n r, 0, r', 0, -1) ∧ cn r' := by
  have hn := H.1.2.2.2.1
  intro m
  induction m with
  | zero =>
    intro n F r e hF hw hc
    obtain ⟨F, rfl⟩ : ∃ f, F = f + 1 := ⟨F - 1, by omega⟩
    obtain rfl : n = 31 := by omega
    exact ⟨r, rfl, hc⟩
  | succ m ih =>
    intro n F r e hF hw hc
    obtain ⟨F, rfl⟩ : ∃ f, F = f + 1 := ⟨F - 1, by omega⟩
    have hk : ¬ 30 < n := by omega
    simp only [pLap]
    by_cases q : r (5 + u) = -2
    · refine ⟨r, ?_, hc⟩
      simp (disch := omega) only [L_hB_X9_lapsesIn_25, n30, nn_lt, hk, ↓reduceIte, nn_5add, xix_nn, nn_nat, q]
      rfl
    · have ho := oE H (rain := 0) (Or.inl rfl) hw hc
      obtain ⟨r', ee, hr⟩ := ih (n + 1) F (sEnds nu np la a1 a0 a2 0 r) (by omega) (by omega) ho.1 ho.2
      refine ⟨r', ?_, hr⟩
      rw [if_neg q, ← ee]
      simp (disch := omega) only [L_hB_X9_lapsesIn_25, n30, nn_lt, hk, ↓reduceIte, nn_5add, xix_nn, nn_nat, nn_succ, q, rE H hw, Option.bind_some]
theorem C_lapsesIn (I : IC np nu nl nc tp na nm la gu ra g22 g25 g26 g33 g34 G2 a0 a1 a2 a3 a4 a5 a6 a7 a8 a10 a11 a12 a13 a27 a28 a31 b2 b3 b4 A0 A2 A3 A4 A10 A11 A12 A13 A14 A15 A16 A17 A18 A19 A20 A21) (x1 : Int32) : ∃ (v : Int32) (g23' : Int32) (a29' : (Nat → Int32)) (a30' : (Nat → Int32)) (c : Int32) (A2' : (Nat → Int32)), e_hA_X7_lapsesIn (nn nu) g22 g23 a27 a29 a28 a30 g34 (nn np) a0 a2 la a1 x1 = some (v, g23', a29', a30', c) ∧ e_hB_X9_lapsesIn G0 (nn nu) (mkr a27 a28 g22) A2 g34 G2 la (nn np) A10 A12 A11 x1 = some (v, 0, A2', c, (-1)) ∧ c ≠ 4 ∧ cn A2' := by
  obtain ⟨⟨hp1, hp, hn1, hn, hl, hc⟩, ⟨hla, hgu, hra⟩, eS, eK, eL, eR, eW, bL, bR, wW, eG, oG, eC⟩ := I.1
  rcases isU_cases hn x1 with ⟨h1, h2⟩ | ⟨u, hu, rfl, h1, h2⟩
  · exact ⟨-1, g23, a29, a30, 1, A2, by unfold e_hA_X7_lapsesIn; rw [h1]; rfl, by unfold e_hB_X9_lapsesIn; rw [h2]; rfl, by decide, I.2.2.2.1⟩
  · obtain ⟨hh, tt, c1, c2⟩ := qc_copyFrom g22 g23 a27 a29 a28 a30
    obtain ⟨d', h', t', e1⟩ := pc_lapsesIn I.1 hu (g34 := g34) (p1 := g22) (p3 := a27) (p5 := a28) 31 0 200000 g22 hh tt (by omega) (by omega) (by rw [c2]; exact I.2.2.1)
    obtain ⟨r', f1, f2⟩ := pr_lapsesIn I.1 hu (g34 := g34) (G2 := G2) (p2 := mkr a27 a28 g22) 31 0 200000 (mkr a27 a28 g22) (by omega) (by omega) I.2.2.1 (cn_mkr _ _ _)
    rw [c2] at e1
    refine ⟨pLap nu np la a0 a1 a2 u 31 0 (mkr a27 a28 g22), d', h', t', 0, r', ?_, ?_, by decide, f2⟩
    · unfold e_hA_X7_lapsesIn
      rw [h1, Option.bind_some, if_neg (by decide), c1, Option.bind_some]
      exact e1
    · unfold e_hB_X9_lapsesIn
      rw [h2, Option.bind_some, if_neg (by decide), qr_tries (cn_mkr _ _ _) I.2.2.2.1, Option.bind_some]
      exact f1
/-- lands of p, if he is lent u -/
def LL (nu np : Nat) (la : Int32) (a0 a1 a2 : pA) (v : pA) (p : Nat) (u : Nat) : Int32 := pLands (tR (sEnds nu np la a1 a0 a2 1 (upd v u (nn p)))) a2 (nn p) nu 0 0
theorem LL_nn (H : Cty np nu nl nc la gu ra a0 a1 a2 a3 a4 a5 a6 a7 a8 a10 a11 a12 A10 A11 A12 A13 A14 A15 A16 A17 A18 A19 A20 A21) (v : pA) (p u : Nat) : ∃ q, q ≤ 495 ∧ LL nu np la a0 a1 a2 v p u = nn q := by
  obtain ⟨q, hq, e⟩ := pLands_nn (t := tR (sEnds nu np la a1 a0 a2 1 (upd v u (nn p)))) (p := nn p) H.2.2.2.2.2.2.2.1 nu 0 0 (by omega)
  have := H.1.2.2.2.1
  exact ⟨q, by omega, e⟩
theorem qc_landsIfLent (H : Cty np nu nl nc la gu ra a0 a1 a2 a3 a4 a5 a6 a7 a8 a10 a11 a12 A10 A11 A12 A13 A14 A15 A16 A17 A18 A19 A20 A21) {u p : Nat} (hu : u < nu) (hpp : p < np) (hw : wr np (mkr a27 a28 g22)) (d : Int32) (h t : pA) : ∃ d' h' t', e_hA_X7_landsIfLent g22 d a27 h a28 t (nn nu) (nn np) a0 a2 la a1 (nn u) (nn p) = some (LL nu np la a0 a1 a2 (mkr a27 a28 g22) p u, d', h', t') := by
  have hn := H.1.2.2.2.1
  obtain ⟨hh, tt, c1, c2⟩ := qc_copyFrom g22 d a27 h a28 t
  have e0 : mkr (upd hh u (nn p)) tt g22 = upd (mkr a27 a28 g22) u (nn p) := by rw [mkr_uh (by omega), c2]
  obtain ⟨d', h', t', e1, e2, e3⟩ := cE H (rain := 1) (Or.inr rfl) (h := upd hh u (nn p)) (t := tt) (d := g22) (by rw [e0]; exact hw.uh (by omega) (wv_p hpp))
  refine ⟨d', h', t', ?_⟩
  unfold e_hA_X7_landsIfLent LL
  rw [c1, Option.bind_some, xix_nn (by omega) (by omega), nn_nat (by omega)]
  simp only [e1, Option.bind_some, qc_landsFor hn]
  rw [← e0, ← e2, pLands_mkr hn (fun _ _ => rfl)]
theorem pc_most (H : Cty np nu nl nc la gu ra a0 a1 a2 a3 a4 a5 a6 a7 a8 a10 a11 a12 A10 A11 A12 A13 A14 A15 A16 A17 A18 A19 A20 A21) {p : Nat} (hpp : p < np) (hw : wr np (mkr a27 a28 g22)) {K : Int32 → Int32 → Int32 → Int32 → pA → pA → Option (Int32 × Int32 × Int32 × pA × pA)} : ∀ (m k F : Nat) (b mo d : Int32) (h t : pA), k + m = nu → m < F → ∃ d' h' t', L_hA_X7_most_21 (nn np) (nn nu) g34 g22 a27 a28 a0 a2 la a1 (nn p) K F b mo (nn k) d h t = K (pM (LL nu np la a0 a1 a2 (mkr a27 a28 g22) p) m k b mo).1 (pM (LL nu np la a0 a1 a2 (mkr a27 a28 g22) p) m k b mo).2 (nn nu) d' h' t' := by
  have hn := H.1.2.2.2.1
  intro m
  induction m with
  | zero =>
    intro k F b mo d h t e hF
    obtain ⟨F, rfl⟩ : ∃ f, F = f + 1 := ⟨F - 1, by omega⟩
    obtain rfl : k = nu := by omega
    exact ⟨d, h, t, by simp (disch := omega) only [L_hA_X7_most_21, nn_le, Nat.le_refl, ↓reduceIte, pM]⟩
  | succ m ih =>
    intro k F b mo d h t e hF
    obtain ⟨F, rfl⟩ : ∃ f, F = f + 1 := ⟨F - 1, by omega⟩
    have hk : ¬ nu ≤ k := by omega
    obtain ⟨d2, h2, t2, e1⟩ := qc_landsIfLent H (u := k) (by omega) hpp hw d h t
    simp only [pM]
    by_cases q : mo < LL nu np la a0 a1 a2 (mkr a27 a28 g22) p k
    · obtain ⟨d', h', t', ee⟩ := ih (k + 1) F (nn k) (LL nu np la a0 a1 a2 (mkr a27 a28 g22) p k) d2 h2 t2 (by omega) (by omega)
      refine ⟨d', h', t', ?_⟩
      rw [if_pos q, ← ee]
      simp (disch := omega) only [L_hA_X7_most_21, nn_le, hk, ↓reduceIte, nn_succ, e1, Option.bind_some, Int32.not_le.mpr q]
    · obtain ⟨d', h', t', ee⟩ := ih (k + 1) F b mo d2 h2 t2 (by omega) (by omega)
      refine ⟨d', h', t', ?_⟩
      rw [if_neg q, ← ee]
      simp (disch := omega) only [L_hA_X7_most_21, nn_le, hk, ↓reduceIte, nn_succ, e1, Option.bind_some, Int32.not_lt.mp q]
theorem pc_mostLands (H : Cty np nu nl nc la gu ra a0 a1 a2 a3 a4 a5 a6 a7 a8 a10 a11 a12 A10 A11 A12 A13 A14 A15 A16 A17 A18 A19 A20 A21) {p : Nat} (hpp : p < np) (hw : wr np (mkr a27 a28 g22)) {K : Int32 → Int32 → Int32 → pA → pA → Option (Int32 × Int32 × Int32 × pA × pA)} : ∀ (m k F : Nat) (mo d : Int32) (h t : pA), k + m = nu → m < F → ∃ d' h' t', L_hA_X7_mostLands_18 (nn np) (nn nu) g34 g22 a27 a28 a0 a2 la a1 (nn p) K F mo (nn k) d h t = K (pX (LL nu np la a0 a1 a2 (mkr a27 a28 g22) p) m k mo) (nn nu) d' h' t' := by
  have hn := H.1.2.2.2.1
  intro m
  induction m with
  | zero =>
    intro k F mo d h t e hF
    obtain ⟨F, rfl⟩ : ∃ f, F = f + 1 := ⟨F - 1, by omega⟩
    obtain rfl : k = nu := by omega
    exact ⟨d, h, t, by simp (disch := omega) only [L_hA_X7_mostLands_18, nn_le, Nat.le_refl, ↓reduceIte, pX]⟩
  | succ m ih =>
    intro k F mo d h t e hF
    obtain ⟨F, rfl⟩ : ∃ f, F = f + 1 := ⟨F - 1, by omega⟩
    have hk : ¬ nu ≤ k := by omega
    obtain ⟨d2, h2, t2, e1⟩ := qc_landsIfLent H (u := k) (by omega) hpp hw d h t
    simp only [pX]
    obtain ⟨d', h', t', ee⟩ := ih (k + 1) F (if mo < LL nu np la a0 a1 a2 (mkr a27 a28 g22) p k then LL nu np la a0 a1 a2 (mkr a27 a28 g22) p k else mo) d2 h2 t2 (by omega) (by omega)
    refine ⟨d', h', t', ?_⟩
    rw [← ee]
    simp (disch := omega) only [L_hA_X7_mostLands_18, nn_le, hk, ↓reduceIte, nn_succ, e1, Option.bind_some]
theorem pr_mosts (H : Cty np nu nl nc la gu ra a0 a1 a2 a3 a4 a5 a6 a7 a8 a10 a11 a12 A10 A11 A12 A13 A14 A15 A16 A17 A18 A19 A20 A21) {p : Nat} (hpp : p < np) {v : pA} (hv : cn v) (hw : wr np v) {K : Int32 → Int32 → pA → Int32 → Option (Int32 × pA × Int32)} : ∀ (m k F : Nat) (b : Nat) (mo : Int32) (x : pA), k + m = nu → m < F → b < 5 → cn x → ∃ x', cn x' ∧ L_hB_X9_mosts_4 (nn nu) v la (nn np) A10 A12 A11 (nn p) K F (nn b) (nn k) x mo = K (pM (LL nu np la a0 a1 a2 v p) m k (nn b) mo).1 (nn nu) x' (pM (LL nu np la a0 a1 a2 v p) m k (nn b) mo).2 := by
  have hn := H.1.2.2.2.1
  intro m
  induction m with
  | zero =>
    intro k F b mo x e hF hb hx
    obtain ⟨F, rfl⟩ : ∃ f, F = f + 1 := ⟨F - 1, by omega⟩
    obtain rfl : k = nu := by omega
    exact ⟨x, hx, by simp (disch := omega) only [L_hB_X9_mosts_4, nn_le, Nat.le_refl, ↓reduceIte, pM]⟩
  | succ m ih =>
    intro k F b mo x e hF hb hx
    obtain ⟨F, rfl⟩ : ∃ f, F = f + 1 := ⟨F - 1, by omega⟩
    have hk : ¬ nu ≤ k := by omega
    have hwu : wr np (upd v k (nn p)) := hw.uh (by omega) (wv_p hpp)
    have hcu : cn (upd v k (nn p)) := cn_upd hv (by omega)
    have ho := oE H (rain := 1) (Or.inr rfl) hwu hcu
    have eL : pLands (tR (sEnds nu np la a1 a0 a2 1 (upd v k (nn p)))) A12 (nn p) nu 0 0 = LL nu np la a0 a1 a2 v p k := (pLands_congr nu 0 0 fun u hu => ⟨rfl, H.2.2.2.2.1 u (by omega)⟩).symm
    simp only [pM]
    by_cases q : mo < LL nu np la a0 a1 a2 v p k
    · obtain ⟨x', hx', ee⟩ := ih (k + 1) F k (LL nu np la a0 a1 a2 v p k) (sEnds nu np la a1 a0 a2 1 (upd v k (nn p))) (by omega) (by omega) (by omega) ho.2
      refine ⟨x', hx', ?_⟩
      rw [if_pos q, ← ee]
      simp (disch := omega) only [L_hB_X9_mosts_4, nn_le, hk, ↓reduceIte, nn_succ, nn_0add, nn_nat, xix_nn, qr_tries hv hx, rE H hwu, Option.bind_some, nn_ne1, qr_landsIn hn, eL, q]
    · obtain ⟨x', hx', ee⟩ := ih (k + 1) F b mo (sEnds nu np la a1 a0 a2 1 (upd v k (nn p))) (by omega) (by omega) hb ho.2
      refine ⟨x', hx', ?_⟩
      rw [if_neg q, ← ee]
      simp (disch := omega) only [L_hB_X9_mosts_4, nn_le, hk, ↓reduceIte, nn_succ, nn_0add, nn_nat, xix_nn, qr_tries hv hx, rE H hwu, Option.bind_some, nn_ne1, qr_landsIn hn, eL, q]
theorem qr_mosts (H : Cty np nu nl nc la gu ra a0 a1 a2 a3 a4 a5 a6 a7 a8 a10 a11 a12 A10 A11 A12 A13 A14 A15 A16 A17 A18 A19 A20 A21) {p : Nat} (hpp : p < np) {v x : pA} (hv : cn v) (hw : wr np v) (hx : cn x) (g17 : Int32) : ∃ x', cn x' ∧ e_hB_X9_mosts (nn nu) v x la (nn np) A10 A12 A11 g17 (nn p) = some ((pM (LL nu np la a0 a1 a2 v p) nu 0 0 (-1)).1, x', (pM (LL nu np la a0 a1 a2 v p) nu 0 0 (-1)).2) := by
  have hn := H.1.2.2.2.1
  have hn1 := H.1.2.2.1
  obtain ⟨j, rfl⟩ : ∃ j, nu = j + 1 := ⟨nu - 1, by omega⟩
  have hwu : wr np (upd v 0 (nn p)) := hw.uh (by omega) (wv_p hpp)
  have hcu : cn (upd v 0 (nn p)) := cn_upd hv (by omega)
  have ho := oE H (rain := 1) (Or.inr rfl) hwu hcu
  have eL : pLands (tR (sEnds (j + 1) np la a1 a0 a2 1 (upd v 0 (nn p)))) A12 (nn p) (j + 1) 0 0 = LL (j + 1) np la a0 a1 a2 v p 0 := (pLands_congr (j + 1) 0 0 fun u hu => ⟨rfl, H.2.2.2.2.1 u (by omega)⟩).symm
  obtain ⟨q, hq, eq⟩ := LL_nn H v p 0
  have h0 : (-1 : Int32) < LL (j + 1) np la a0 a1 a2 v p 0 := by
    rw [eq, Int32.lt_iff_toInt_lt, nn_int (by omega)]
    have : (-1 : Int32).toInt = -1 := rfl
    omega
  simp only [pM]
  rw [if_pos h0]
  obtain ⟨x', hx', ee⟩ := pr_mosts H hpp hv hw (K := fun l2_4 l3_4 ma2_4 mg17_4 => some (l2_4, ma2_4, mg17_4)) j 1 199999 0 (LL (j + 1) np la a0 a1 a2 v p 0) (sEnds (j + 1) np la a1 a0 a2 1 (upd v 0 (nn p))) (by omega) (by omega) (by omega) ho.2
  refine ⟨x', hx', ?_⟩
  rw [← ee]
  have hk : ¬ j + 1 ≤ 0 := by omega
  have stp : ∀ (F : Nat) (K : Int32 → Int32 → pA → Int32 → Option (Int32 × pA × Int32)), L_hB_X9_mosts_4 (nn (j + 1)) v la (nn np) A10 A12 A11 (nn p) K (F + 1) (-1) (nn 0) x g17 = L_hB_X9_mosts_4 (nn (j + 1)) v la (nn np) A10 A12 A11 (nn p) K F (nn 0) (nn 1) (sEnds (j + 1) np la a1 a0 a2 1 (upd v 0 (nn p))) (LL (j + 1) np la a0 a1 a2 v p 0) := by
    intro F K
    simp (disch := omega) only [L_hB_X9_mosts_4, nn_le, hk, ↓reduceIte, nn_succ, nn_0add, Nat.zero_add, nn_nat, xix_nn, qr_tries hv hx, rE H hwu, Option.bind_some, qr_landsIn hn, eL]
  exact stp 199999 _
theorem C_most (I : IC np nu nl nc tp na nm la gu ra g22 g25 g26 g33 g34 G2 a0 a1 a2 a3 a4 a5 a6 a7 a8 a10 a11 a12 a13 a27 a28 a31 b2 b3 b4 A0 A2 A3 A4 A10 A11 A12 A13 A14 A15 A16 A17 A18 A19 A20 A21) (x1 : Int32) : ∃ (v : Int32) (c : Int32) (g23' : Int32) (a29' : (Nat → Int32)) (a30' : (Nat → Int32)) (A2' : (Nat → Int32)) (G17' : Int32), e_hA_X7_most (nn np) (nn nu) g34 g22 g23 a27 a29 a28 a30 a0 a2 la a1 x1 = some (v, c, g23', a29', a30') ∧ e_hB_X9_most G0 (nn np) g34 G2 (nn nu) (mkr a27 a28 g22) A2 la A10 A12 A11 G17 x1 = some (v, 0, c, (-1), A2', G17') ∧ c ≠ 4 ∧ cn A2' := by
  obtain ⟨⟨hp1, hp, hn1, hn, hl, hc⟩, ⟨hla, hgu, hra⟩, eS, eK, eL, eR, eW, bL, bR, wW, eG, oG, eC⟩ := I.1
  rcases isP_cases hp x1 with ⟨h1, h2⟩ | ⟨p, hpp, rfl, h1, h2⟩
  · exact ⟨-1, 1, g23, a29, a30, A2, G17, by unfold e_hA_X7_most; rw [h1]; rfl, by unfold e_hB_X9_most; rw [h2]; rfl, by decide, I.2.2.2.1⟩
  · obtain ⟨d', h', t', e1⟩ := pc_most I.1 hpp I.2.2.1 (g34 := g34) (K := (fun l2_21 l3_21 l4_21 mg23_21 ma29_21 ma30_21 => ((e_hA_X7_answer g34 l2_21).bind fun z62 => some (z62.1, z62.2, mg23_21, ma29_21, ma30_21)))) nu 0 200000 0 (-1) g23 a29 a30 (by omega) (by omega)
    obtain ⟨x', hx', f1⟩ := qr_mosts I.1 hpp (cn_mkr _ _ _) I.2.2.1 I.2.2.2.1 G17
    refine ⟨(pM (LL nu np la a0 a1 a2 (mkr a27 a28 g22) p) nu 0 0 (-1)).1, 0, d', h', t', x', (pM (LL nu np la a0 a1 a2 (mkr a27 a28 g22) p) nu 0 0 (-1)).2, ?_, ?_, by decide, hx'⟩
    · unfold e_hA_X7_most
      rw [h1, Option.bind_some, if_neg (by decide)]
      exact e1
    · unfold e_hB_X9_most
      rw [h2, Option.bind_some, if_neg (by decide), f1]
      rfl
theorem C_mostLands (I : IC np nu nl nc tp na nm la gu ra g22 g25 g26 g33 g34 G2 a0 a1 a2 a3 a4 a5 a6 a7 a8 a10 a11 a12 a13 a27 a28 a31 b2 b3 b4 A0 A2 A3 A4 A10 A11 A12 A13 A14 A15 A16 A17 A18 A19 A20 A21) (x1 : Int32) : ∃ (v : Int32) (c : Int32) (g23' : Int32) (a29' : (Nat → Int32)) (a30' : (Nat → Int32)) (A2' : (Nat → Int32)) (G17' : Int32), e_hA_X7_mostLands (nn np) (nn nu) g34 g22 g23 a27 a29 a28 a30 a0 a2 la a1 x1 = some (v, c, g23', a29', a30') ∧ e_hB_X9_mostLands G0 (nn np) (nn nu) (mkr a27 a28 g22) A2 la A10 A12 A11 G17 g34 G2 x1 = some (v, 0, A2', G17', c, (-1)) ∧ c ≠ 4 ∧ cn A2' := by
  obtain ⟨⟨hp1, hp, hn1, hn, hl, hc⟩, ⟨hla, hgu, hra⟩, eS, eK, eL, eR, eW, bL, bR, wW, eG, oG, eC⟩ := I.1
  rcases isP_cases hp x1 with ⟨h1, h2⟩ | ⟨p, hpp, rfl, h1, h2⟩
  · exact ⟨-1, 1, g23, a29, a30, A2, G17, by unfold e_hA_X7_mostLands; rw [h1]; rfl, by unfold e_hB_X9_mostLands; rw [h2]; rfl, by decide, I.2.2.2.1⟩
  · obtain ⟨d', h', t', e1⟩ := pc_mostLands I.1 hpp I.2.2.1 (g34 := g34) (K := (fun l2_18 l3_18 mg23_18 ma29_18 ma30_18 => ((e_hA_X7_answer g34 l2_18).bind fun z48 => some (z48.1, z48.2, mg23_18, ma29_18, ma30_18)))) nu 0 200000 0 g23 a29 a30 (by omega) (by omega)
    obtain ⟨x', hx', f1⟩ := qr_mosts I.1 hpp (cn_mkr _ _ _) I.2.2.1 I.2.2.2.1 G17
    have px : pX (LL nu np la a0 a1 a2 (mkr a27 a28 g22) p) nu 0 0 = (pM (LL nu np la a0 a1 a2 (mkr a27 a28 g22) p) nu 0 0 (-1)).2 := by
      obtain ⟨q, hq, eq⟩ := LL_nn I.1 (mkr a27 a28 g22) p 0
      obtain ⟨j, rfl⟩ : ∃ j, nu = j + 1 := ⟨nu - 1, by omega⟩
      simp only [pX, pM]
      have h0 : (-1 : Int32) < LL (j + 1) np la a0 a1 a2 (mkr a27 a28 g22) p 0 := by
        rw [eq, Int32.lt_iff_toInt_lt, nn_int (by omega)]
        have : (-1 : Int32).toInt = -1 := rfl
        omega
      rw [if_pos h0, pX_eq _ _ _ (nn 0)]
      congr 2
      by_cases q0 : (0 : Int32) < LL (j + 1) np la a0 a1 a2 (mkr a27 a28 g22) p 0
      · rw [if_pos q0]
      · rw [if_neg q0, eq]
        rw [eq, show (0 : Int32) = nn 0 from rfl, nn_lt (by omega) (by omega)] at q0
        rw [show q = 0 by omega]
        rfl
    refine ⟨(pM (LL nu np la a0 a1 a2 (mkr a27 a28 g22) p) nu 0 0 (-1)).2, 0, d', h', t', x', (pM (LL nu np la a0 a1 a2 (mkr a27 a28 g22) p) nu 0 0 (-1)).2, ?_, ?_, by decide, hx'⟩
    · unfold e_hA_X7_mostLands
      rw [h1, Option.bind_some, if_neg (by decide)]
      rw [px] at e1
      exact e1
    · unfold e_hB_X9_mostLands
      rw [h2, Option.bind_some, if_neg (by decide), f1]
      rfl
/-- centuries: the seed and the row behind m years -/
def pCen (nu np : Nat) (la ra : Int32) (a0 a1 a2 : pA) : Nat → Nat → pA → Nat × pA
  | 0, s, r => (s, r)
  | m + 1, s, r => pCen nu np la ra a0 a1 a2 m (nx (nx (nx s))) (sEnds nu np la a1 a0 a2 (if ra ≤ nn (nx (nx (nx s)) % 100) then 0 else 1) (upd r (nx s % nu) (nn (nx (nx s) % np))))
theorem pc_century (H : Cty np nu nl nc la gu ra a0 a1 a2 a3 a4 a5 a6 a7 a8 a10 a11 a12 A10 A11 A12 A13 A14 A15 A16 A17 A18 A19 A20 A21) {n : Nat} (hn60 : n ≤ 60) {p0 : Int32} {p2 p4 : pA} {K : Int32 → Int32 → pA → Int32 → pA → Option (Int32 × pA × pA)} : ∀ (m k F s : Nat) (d : Int32) (h t : pA), k + m = n → m < F → s ≤ 65536 → wr np (mkr h t d) → ∃ d' h' t', L_hA_X7_tryCentury_37 p0 p2 p4 (nn nu) (nn np) ra a0 a2 la a1 (nn n) K F (nn s) (nn k) h d t = K (nn (pCen nu np la ra a0 a1 a2 m s (mkr h t d)).1) (nn n) h' d' t' ∧ mkr h' t' d' = (pCen nu np la ra a0 a1 a2 m s (mkr h t d)).2 := by
  have hn := H.1.2.2.2.1
  have hn1 := H.1.2.2.1
  have hp := H.1.2.1
  have hp1 := H.1.1
  intro m
  induction m with
  | zero =>
    intro k F s d h t e hF hs hw
    obtain ⟨F, rfl⟩ : ∃ f, F = f + 1 := ⟨F - 1, by omega⟩
    obtain rfl : k = n := by omega
    exact ⟨d, h, t, by simp (disch := omega) only [L_hA_X7_tryCentury_37, nn_le, Nat.le_refl, ↓reduceIte, pCen], rfl⟩
  | succ m ih =>
    intro k F s d h t e hF hs hw
    obtain ⟨F, rfl⟩ : ∃ f, F = f + 1 := ⟨F - 1, by omega⟩
    have hk : ¬ n ≤ k := by omega
    have b1 := nx_le s
    have b2 := nx_le (nx s)
    have b3 := nx_le (nx (nx s))
    simp only [pCen]
    have n1 := qc_nextSeed hs
    have n2 := qc_nextSeed b1
    have n3 := qc_nextSeed b2
    generalize nx (nx (nx s)) = s3 at *
    generalize nx (nx s) = s2 at *
    generalize nx s = s1 at *
    have e100 : nn s3 - nn s3 / (100 : Int32) * (100 : Int32) = nn (s3 % 100) := nn_mod (b := 100) (by omega) (by omega)
    have eu : nn s1 - nn s1 / nn nu * nn nu = nn (s1 % nu) := nn_mod (by omega) (by omega)
    have ep : nn s2 - nn s2 / nn np * nn np = nn (s2 % np) := nn_mod (by omega) (by omega)
    have hkk : ¬ nn n ≤ nn k := by rw [nn_le (by omega) (by omega)]; exact hk
    have bu : s1 % nu < nu := Nat.mod_lt _ (by omega)
    have bp : s2 % np < np := Nat.mod_lt _ (by omega)
    have e0 : mkr (upd h (s1 % nu) (nn (s2 % np))) t d = upd (mkr h t d) (s1 % nu) (nn (s2 % np)) := mkr_uh (by omega)
    have hw2 : wr np (mkr (upd h (s1 % nu) (nn (s2 % np))) t d) := by rw [e0]; exact hw.uh (by omega) (wv_p bp)
    by_cases q : ra ≤ nn (s3 % 100)
    · obtain ⟨d2, h2, t2, e1, e2, e3⟩ := cE H (rain := 0) (Or.inl rfl) hw2
      obtain ⟨d', h', t', ee, e4⟩ := ih (k + 1) F s3 d2 h2 t2 (by omega) (by omega) b3 e3
      refine ⟨d', h', t', ?_, ?_⟩
      · rw [if_pos q, ← e0, ← e2, ← ee]
        rw [L_hA_X7_tryCentury_37, if_neg hkk, n1, Option.bind_some, xnz_nn (by omega) (by omega), n2, Option.bind_some, xnz_nn (by omega) (by omega), eu, xix_nn (by omega) (by omega), n3, Option.bind_some, e100, if_pos q, nn_nat (by omega), ep, e1, Option.bind_some, nn_succ]
      · rw [if_pos q, ← e0, ← e2, e4]
    · obtain ⟨d2, h2, t2, e1, e2, e3⟩ := cE H (rain := 1) (Or.inr rfl) hw2
      obtain ⟨d', h', t', ee, e4⟩ := ih (k + 1) F s3 d2 h2 t2 (by omega) (by omega) b3 e3
      refine ⟨d', h', t', ?_, ?_⟩
      · rw [if_neg q, ← e0, ← e2, ← ee]
        rw [L_hA_X7_tryCentury_37, if_neg hkk, n1, Option.bind_some, xnz_nn (by omega) (by omega), n2, Option.bind_some, xnz_nn (by omega) (by omega), eu, xix_nn (by omega) (by omega), n3, Option.bind_some, e100, if_neg q, nn_nat (by omega), ep, e1, Option.bind_some, nn_succ]
      · rw [if_neg q, ← e0, ← e2, e4]
theorem pr_century (H : Cty np nu nl nc la gu ra a0 a1 a2 a3 a4 a5 a6 a7 a8 a10 a11 a12 A10 A11 A12 A13 A14 A15 A16 A17 A18 A19 A20 A21) {n : Nat} (hn60 : n ≤ 60) {p1 : pA} {K : Int32 → Int32 → pA → Option (Int32 × Int32 × pA)} : ∀ (m k F s : Nat) (r : pA), k + m = n → m < F → s ≤ 65536 → wr np r → cn r → L_hB_X9_centuries_41 p1 (nn nu) (nn np) ra la A10 A12 A11 (nn n) K F (nn k) (nn s) r = K (nn n) (nn (pCen nu np la ra a0 a1 a2 m s r).1) (pCen nu np la ra a0 a1 a2 m s r).2 ∧ wr np (pCen nu np la ra a0 a1 a2 m s r).2 ∧ cn (pCen nu np la ra a0 a1 a2 m s r).2 := by
  have hn := H.1.2.2.2.1
  have hn1 := H.1.2.2.1
  have hp := H.1.2.1
  have hp1 := H.1.1
  intro m
  induction m with
  | zero =>
    intro k F s r e hF hs hw hc
    obtain ⟨F, rfl⟩ : ∃ f, F = f + 1 := ⟨F - 1, by omega⟩
    obtain rfl : k = n := by omega
    exact ⟨by simp (disch := omega) only [L_hB_X9_centuries_41, nn_le, Nat.le_refl, ↓reduceIte, pCen], hw, hc⟩
  | succ m ih =>
    intro k F s r e hF hs hw hc
    obtain ⟨F, rfl⟩ : ∃ f, F = f + 1 := ⟨F - 1, by omega⟩
    have hk : ¬ n ≤ k := by omega
    have b1 := nx_le s
    have b2 := nx_le (nx s)
    have b3 := nx_le (nx (nx s))
    simp only [pCen]
    have n1 := qr_draw (q := nu) hs (by omega) (by omega)
    have n2 := qr_draw (q := np) b1 (by omega) (by omega)
    have n3 : e_hB_X9_draw (nn (nx (nx s))) (100 : Int32) = _ := qr_draw (q := 100) b2 (by omega) (by omega)
    generalize nx (nx (nx s)) = s3 at *
    generalize nx (nx s) = s2 at *
    generalize nx s = s1 at *
    have hkk : ¬ nn n ≤ nn k := by rw [nn_le (by omega) (by omega)]; exact hk
    have bu : s1 % nu < nu := Nat.mod_lt _ (by omega)
    have bp : s2 % np < np := Nat.mod_lt _ (by omega)
    have hw2 : wr np (upd r (s1 % nu) (nn (s2 % np))) := hw.uh (by omega) (wv_p bp)
    have hc2 : cn (upd r (s1 % nu) (nn (s2 % np))) := cn_upd hc (by omega)
    by_cases q : ra ≤ nn (s3 % 100)
    · have ho := oE H (rain := 0) (Or.inl rfl) hw2 hc2
      obtain ⟨ee, e4⟩ := ih (k + 1) F s3 _ (by omega) (by omega) b3 ho.1 ho.2
      simp only [q, ↓reduceIte]
      refine ⟨?_, e4⟩
      rw [← ee]
      rw [L_hB_X9_centuries_41, if_neg hkk, n1, Option.bind_some, n2, Option.bind_some, nn_0add, xix_nn (by omega) (by omega), n3, Option.bind_some, if_pos q, nn_nat (by omega), rE H hw2, Option.bind_some, nn_succ]
    · have ho := oE H (rain := 1) (Or.inr rfl) hw2 hc2
      obtain ⟨ee, e4⟩ := ih (k + 1) F s3 _ (by omega) (by omega) b3 ho.1 ho.2
      simp only [q, ↓reduceIte]
      refine ⟨?_, e4⟩
      rw [← ee]
      rw [L_hB_X9_centuries_41, if_neg hkk, n1, Option.bind_some, n2, Option.bind_some, nn_0add, xix_nn (by omega) (by omega), n3, Option.bind_some, if_neg q, nn_nat (by omega), rE H hw2, Option.bind_some, nn_succ]
theorem seed_cases (x : Int32) : (e_hA_X7_isSeed x = some 0 ∧ e_hB_X9_in x 0 65536 = some 0) ∨ ∃ s, s ≤ 65536 ∧ x = nn s ∧ e_hA_X7_isSeed x = some 1 ∧ e_hB_X9_in x 0 65536 = some 1 := by
  unfold e_hA_X7_isSeed e_hB_X9_in
  by_cases q : x < 0
  · left; simp only [q, ↓reduceIte, and_self]
  · by_cases q2 : (65536 : Int32) < x
    · left
      have q3 : (65537 : Int32) ≤ x := by
        rw [Int32.le_iff_toInt_le]; rw [Int32.lt_iff_toInt_lt] at q2
        have a1 : (65537 : Int32).toInt = 65537 := rfl
        have a2 : (65536 : Int32).toInt = 65536 := rfl
        omega
      simp only [q, q2, q3, ↓reduceIte, and_self]
    · right
      obtain ⟨u, hu, e⟩ := nn_of_le (n := 65536) (Int32.not_lt.mp q) (Int32.not_lt.mp q2) (by omega)
      have q3 : ¬ (65537 : Int32) ≤ x := by
        rw [e, show (65537 : Int32) = nn 65537 from rfl, nn_le (by omega) (by omega)]; omega
      exact ⟨u, hu, e, by simp only [q, q2, q3, ↓reduceIte, and_self]⟩
theorem year_cases (x : Int32) : (e_hA_X7_areYears x = some 0 ∧ e_hB_X9_in x 0 60 = some 0) ∨ ∃ s, s ≤ 60 ∧ x = nn s ∧ e_hA_X7_areYears x = some 1 ∧ e_hB_X9_in x 0 60 = some 1 := by
  unfold e_hA_X7_areYears e_hB_X9_in
  by_cases q : x < 0
  · left; simp only [q, ↓reduceIte, and_self]
  · by_cases q2 : (60 : Int32) < x
    · left; simp only [q, q2, ↓reduceIte, and_self]
    · right
      obtain ⟨u, hu, e⟩ := nn_of_le (n := 60) (Int32.not_lt.mp q) (Int32.not_lt.mp q2) (by omega)
      exact ⟨u, hu, e, by simp only [q, q2, ↓reduceIte, and_self]⟩
theorem qc_tryCentury (H : Cty np nu nl nc la gu ra a0 a1 a2 a3 a4 a5 a6 a7 a8 a10 a11 a12 A10 A11 A12 A13 A14 A15 A16 A17 A18 A19 A20 A21) (hw : wr np (mkr a27 a28 g22)) {s n : Nat} (hs : s ≤ 65536) (hn60 : n ≤ 60) : ∃ d' h' t', e_hA_X7_tryCentury g22 g23 a27 a29 a28 a30 (nn nu) (nn np) ra a0 a2 la a1 (nn s) (nn n) = some (d', h', t') ∧ mkr h' t' d' = (pCen nu np la ra a0 a1 a2 n s (mkr a27 a28 g22)).2 := by
  have hn := H.1.2.2.2.1
  have hn1 := H.1.2.2.1
  have hp := H.1.2.1
  have hp1 := H.1.1
  obtain ⟨hh, tt, c1, c2⟩ := qc_copyFrom g22 g23 a27 a29 a28 a30
  obtain ⟨d', h', t', e1, e2⟩ := pc_century H hn60 (p0 := g22) (p2 := a27) (p4 := a28) (K := (fun l3_37 l4_37 ma29_37 mg23_37 ma30_37 => some (mg23_37, ma29_37, ma30_37))) n 0 200000 s g22 hh tt (by omega) (by omega) hs (by rw [c2]; exact hw)
  rw [c2] at e2
  refine ⟨d', h', t', ?_, e2⟩
  unfold e_hA_X7_tryCentury
  have z1 : ¬ nn nu ≤ (0 : Int32) := by rw [show (0 : Int32) = nn 0 from rfl, nn_le (by omega) (by omega)]; omega
  have z2 : (0 : Int32) < nn np := by rw [show (0 : Int32) = nn 0 from rfl, nn_lt (by omega) (by omega)]; omega
  rw [c1, Option.bind_some, if_neg z1, if_pos z2]
  exact e1
theorem qr_centuries (H : Cty np nu nl nc la gu ra a0 a1 a2 a3 a4 a5 a6 a7 a8 a10 a11 a12 A10 A11 A12 A13 A14 A15 A16 A17 A18 A19 A20 A21) {v x : pA} (hv : cn v) (hx : cn x) (hw : wr np v) {s n : Nat} (hs : s ≤ 65536) (hn60 : n ≤ 60) (h1 : e_hB_X9_in (nn s) 0 65536 = some 1) (h2 : e_hB_X9_in (nn n) 0 60 = some 1) {g18 : Int32} : e_hB_X9_centuries g18 v x (nn nu) (nn np) ra la A10 A12 A11 1 (nn s) (nn n) = some (0, nn (pCen nu np la ra a0 a1 a2 n s v).1, (pCen nu np la ra a0 a1 a2 n s v).2) := by
  unfold e_hB_X9_centuries
  rw [if_neg (by decide), h1, Option.bind_some, if_neg (by decide), h2, Option.bind_some, if_neg (by decide), qr_tries hv hx, Option.bind_some]
  exact (pr_century H hn60 n 0 200000 s v (by omega) (by omega) hs hw hv).1
theorem C_century (I : IC np nu nl nc tp na nm la gu ra g22 g25 g26 g33 g34 G2 a0 a1 a2 a3 a4 a5 a6 a7 a8 a10 a11 a12 a13 a27 a28 a31 b2 b3 b4 A0 A2 A3 A4 A10 A11 A12 A13 A14 A15 A16 A17 A18 A19 A20 A21) (x1 x2 x3 : Int32) : ∃ (v : Int32) (c : Int32) (g23' : Int32) (a29' : (Nat → Int32)) (a30' : (Nat → Int32)) (G18' : Int32) (A2' : (Nat → Int32)), e_hA_X7_century (nn np) g34 g22 g23 a27 a29 a28 a30 (nn nu) ra a0 a2 la a1 x1 x2 x3 = some (v, c, g23', a29', a30') ∧ e_hB_X9_century G0 (nn np) G18 (mkr a27 a28 g22) A2 (nn nu) ra la A10 A12 A11 g34 G2 x1 x2 x3 = some (v, 0, G18', A2', c, (-1)) ∧ c ≠ 4 ∧ cn A2' := by
  obtain ⟨⟨hp1, hp, hn1, hn, hl, hc⟩, ⟨hla, hgu, hra⟩, eS, eK, eL, eR, eW, bL, bR, wW, eG, oG, eC⟩ := I.1
  rcases isP_cases hp x1 with ⟨h1, h2⟩ | ⟨p, hpp, rfl, h1, h2⟩
  · exact ⟨-1, 1, g23, a29, a30, G18, A2, by unfold e_hA_X7_century; rw [h1]; rfl, by unfold e_hB_X9_century; rw [h2]; rfl, by decide, I.2.2.2.1⟩
  · rcases seed_cases x2 with ⟨h3, h4⟩ | ⟨s, hs, rfl, h3, h4⟩
    · exact ⟨-1, 2, g23, a29, a30, G18, A2, by unfold e_hA_X7_century; rw [h1, Option.bind_some, if_neg (by decide), h3]; rfl, by unfold e_hB_X9_century e_hB_X9_centuries; rw [h2, Option.bind_some, if_neg (by decide), h4]; rfl, by decide, I.2.2.2.1⟩
    · rcases year_cases x3 with ⟨h5, h6⟩ | ⟨n, hn60, rfl, h5, h6⟩
      · exact ⟨-1, 2, g23, a29, a30, G18, A2, by unfold e_hA_X7_century; rw [h1, Option.bind_some, if_neg (by decide), h3, Option.bind_some, if_neg (by decide), h5]; rfl, by unfold e_hB_X9_century e_hB_X9_centuries; rw [h2, Option.bind_some, if_neg (by decide), h4, Option.bind_some, if_neg (by decide), h6]; rfl, by decide, I.2.2.2.1⟩
      · obtain ⟨d', h', t', e1, e2⟩ := qc_tryCentury I.1 I.2.2.1 hs hn60 (g23 := g23) (a29 := a29) (a30 := a30)
        refine ⟨pLands t' a2 (nn p) nu 0 0, 0, d', h', t', nn (pCen nu np la ra a0 a1 a2 n s (mkr a27 a28 g22)).1, (pCen nu np la ra a0 a1 a2 n s (mkr a27 a28 g22)).2, ?_, ?_, by decide, (pr_century I.1 hn60 (p1 := a27) (K := fun _ _ _ => none) n 0 200000 s _ (by omega) (by omega) hs I.2.2.1 (cn_mkr _ _ _)).2.2⟩
        · unfold e_hA_X7_century
          rw [h1, Option.bind_some, if_neg (by decide), h3, Option.bind_some, if_neg (by decide), h5, Option.bind_some, if_neg (by decide), e1, Option.bind_some, qc_landsFor hn]
          rfl
        · unfold e_hB_X9_century
          rw [h2, Option.bind_some, qr_centuries I.1 (cn_mkr _ _ _) I.2.2.2.1 I.2.2.1 hs hn60 h4 h6, Option.bind_some, if_pos (show (0 : Int32) ≤ 0 from by decide), qr_landsIn hn]
          simp only []
          rw [← e2, pLands_mkr hn eL]
          rfl
def pUn (t : pA) : Nat → Nat → Int32 → Int32
  | 0, _, acc => acc
  | m + 1, k, acc => pUn t m (k + 1) (if t k = -2 then acc + 1 else acc)
theorem pc_untitled (hn : nu ≤ 5) {q1 q2 q3 q8 q9 q12 : Int32} {q4 q5 q6 t q10 q11 q13 : pA} {K : Int32 → Int32 → Option (Int32 × Int32 × Int32 × pA × pA)} : ∀ (m k F : Nat) (acc : Int32), k + m = nu → m < F → L_hA_X7_untitled_44 (nn nu) q1 q2 q3 q4 q5 q6 t q8 q9 q10 q11 q12 q13 K F acc (nn k) = K (pUn t m k acc) (nn nu) := by
  intro m
  induction m with
  | zero =>
    intro k F acc e hF
    obtain ⟨F, rfl⟩ : ∃ f, F = f + 1 := ⟨F - 1, by omega⟩
    obtain rfl : k = nu := by omega
    simp (disch := omega) only [L_hA_X7_untitled_44, nn_le, Nat.le_refl, ↓reduceIte, pUn]
  | succ m ih =>
    intro k F acc e hF
    obtain ⟨F, rfl⟩ : ∃ f, F = f + 1 := ⟨F - 1, by omega⟩
    have hk : ¬ nu ≤ k := by omega
    simp (disch := omega) only [L_hA_X7_untitled_44, nn_le, hk, ↓reduceIte, xix_nn, nn_nat, nn_succ, Int32.add_zero, pUn, ih]
    split <;> rfl
theorem pr_untitled (hn : nu ≤ 5) {q0 q1 q5 q6 q7 q11 q12 d : Int32} {q2 h t q8 q9 q10 : pA} {K : Int32 → Int32 → Option (Int32 × Int32 × Int32 × pA × Int32 × Int32)} : ∀ (m k F : Nat) (acc : Int32), k + m = nu → m < F → L_hB_X9_untitled_40 q0 q1 q2 (mkr h t d) (nn nu) q5 q6 q7 q8 q9 q10 q11 q12 K F acc (nn k) = K (pUn t m k acc) (nn nu) := by
  intro m
  induction m with
  | zero =>
    intro k F acc e hF
    obtain ⟨F, rfl⟩ : ∃ f, F = f + 1 := ⟨F - 1, by omega⟩
    obtain rfl : k = nu := by omega
    simp (disch := omega) only [L_hB_X9_untitled_40, nn_le, Nat.le_refl, ↓reduceIte, pUn]
  | succ m ih =>
    intro k F acc e hF
    obtain ⟨F, rfl⟩ : ∃ f, F = f + 1 := ⟨F - 1, by omega⟩
    have hk : ¬ nu ≤ k := by omega
    simp (disch := omega) only [L_hB_X9_untitled_40, nn_le, hk, ↓reduceIte, xix_nn, nn_nat, nn_succ, nn_5add, mkr_t, Int32.add_zero, pUn, ih]
    split <;> rfl
theorem C_untitled (I : IC np nu nl nc tp na nm la gu ra g22 g25 g26 g33 g34 G2 a0 a1 a2 a3 a4 a5 a6 a7 a8 a10 a11 a12 a13 a27 a28 a31 b2 b3 b4 A0 A2 A3 A4 A10 A11 A12 A13 A14 A15 A16 A17 A18 A19 A20 A21) (x1 x2 : Int32) : ∃ (v : Int32) (c : Int32) (g23' : Int32) (a29' : (Nat → Int32)) (a30' : (Nat → Int32)) (G18' : Int32) (A2' : (Nat → Int32)), e_hA_X7_untitled (nn nu) g34 g22 g23 a27 a29 a28 a30 (nn np) ra a0 a2 la a1 x1 x2 = some (v, c, g23', a29', a30') ∧ e_hB_X9_untitled G0 G18 (mkr a27 a28 g22) A2 (nn nu) (nn np) ra la A10 A12 A11 g34 G2 x1 x2 = some (v, 0, G18', A2', c, (-1)) ∧ c ≠ 4 ∧ cn A2' := by
  obtain ⟨⟨hp1, hp, hn1, hn, hl, hc⟩, ⟨hla, hgu, hra⟩, eS, eK, eL, eR, eW, bL, bR, wW, eG, oG, eC⟩ := I.1
  have hT := isT1 hn1 hn
  rcases seed_cases x1 with ⟨h3, h4⟩ | ⟨s, hs, rfl, h3, h4⟩
  · exact ⟨-1, 2, g23, a29, a30, G18, A2, by unfold e_hA_X7_untitled; rw [hT, Option.bind_some, if_neg (by decide), h3]; rfl, by unfold e_hB_X9_untitled e_hB_X9_centuries; rw [if_neg (by decide), h4]; rfl, by decide, I.2.2.2.1⟩
  · rcases year_cases x2 with ⟨h5, h6⟩ | ⟨n, hn60, rfl, h5, h6⟩
    · exact ⟨-1, 2, g23, a29, a30, G18, A2, by unfold e_hA_X7_untitled; rw [hT, Option.bind_some, if_neg (by decide), h3, Option.bind_some, if_neg (by decide), h5]; rfl, by unfold e_hB_X9_untitled e_hB_X9_centuries; rw [if_neg (by decide), h4, Option.bind_some, if_neg (by decide), h6]; rfl, by decide, I.2.2.2.1⟩
    · obtain ⟨d', h', t', e1, e2⟩ := qc_tryCentury I.1 I.2.2.1 hs hn60 (g23 := g23) (a29 := a29) (a30 := a30)
      refine ⟨pUn t' nu 0 0, 0, d', h', t', nn (pCen nu np la ra a0 a1 a2 n s (mkr a27 a28 g22)).1, (pCen nu np la ra a0 a1 a2 n s (mkr a27 a28 g22)).2, ?_, ?_, by decide, (pr_century I.1 hn60 (p1 := a27) (K := fun _ _ _ => none) n 0 200000 s _ (by omega) (by omega) hs I.2.2.1 (cn_mkr _ _ _)).2.2⟩
      · unfold e_hA_X7_untitled
        rw [hT, Option.bind_some, if_neg (by decide), h3, Option.bind_some, if_neg (by decide), h5, Option.bind_some, if_neg (by decide), e1, Option.bind_some]
        exact pc_untitled hn nu 0 200000 0 (by omega) (by omega)
      · unfold e_hB_X9_untitled
        rw [qr_centuries I.1 (cn_mkr _ _ _) I.2.2.2.1 I.2.2.1 hs hn60 h4 h6, Option.bind_some, if_pos (show (0 : Int32) ≤ 0 from by decide)]
        simp only []
        rw [← e2]
        exact pr_untitled hn nu 0 200000 0 (by omega) (by omega)
end NOWQ
