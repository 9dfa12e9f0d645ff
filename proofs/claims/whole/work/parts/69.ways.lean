/-! THE PURE PART: changes that nobody saw, by the class -/
theorem wayP_iff {nc : Nat} {cu cp cd : pA} {X : Nat → pA} : wayP nc cu cp cd X ↔ ∀ k, k < nc → badC cu cp cd X k = false := by
  constructor
  · intro h k hk
    unfold badC
    simp [h k hk]
  · intro h k hk
    have := h k hk
    unfold badC at this
    simpa using this
theorem cAt_ne {day u v d : Nat} (h : d ≠ day) (r : pA) : cAt day u v d r = r := if_neg h
theorem sRun_before {D : Nat → pA → pA} {S : pA} {day u v : Nat} : ∀ j, j ≤ day → sRun D (cAt day u v) S j = sRun D cNo S j := by
  intro j
  induction j with
  | zero => intro _; rfl
  | succ j ih =>
    intro h
    simp only [sRun]
    rw [ih (by omega), cAt_ne (by omega)]
    rfl
theorem swp_same {u v : Nat} {r : pA} (h : r u = r v) : swp u v r = r := by
  unfold swp
  rw [← h]
  funext i
  by_cases e1 : i = v
  · subst e1; rw [upd_at]; exact h
  · rw [upd_ne _ _ e1]
    by_cases e2 : i = u
    · subst e2; rw [upd_at]
    · rw [upd_ne _ _ e2]
theorem sRun_same {D : Nat → pA → pA} {S : pA} {day u v : Nat} (h : sRun D cNo S day u = sRun D cNo S day v) : ∀ j, sRun D (cAt day u v) S j = sRun D cNo S j := by
  intro j
  induction j with
  | zero => rfl
  | succ j ih =>
    simp only [sRun]
    rw [ih]
    by_cases q : j = day
    · subst q
      rw [show cAt j u v j (sRun D cNo S j) = swp u v (sRun D cNo S j) from if_pos rfl, swp_same h]
      rfl
    · rw [cAt_ne q]
      rfl
theorem badC_congr {cu cp cd : pA} {X Y : Nat → pA} {k : Nat} (h : X ((cd k).toNatClampNeg + 1) = Y ((cd k).toNatClampNeg + 1)) : badC cu cp cd X k = badC cu cp cd Y k := by
  unfold badC
  rw [h]
theorem pc_clDay {nu nc j : Nat} (hn : nu ≤ 5) (hc : nc ≤ 6) (hj : j < 41) {X : Nat → pA} {cd cu cp t : pA} (hcl : ∀ k, k < nc → (∃ u, u < nu ∧ cu k = nn u) ∧ ∃ d, d < 41 ∧ cd k = nn d) (ht : ∀ u, u < 5 → t u = X (j + 1) (5 + u)) : ∀ (m k F : Nat), k + m = nc → m < F → L_hA_X0_claimsOfDayAreSo_8 (nn nc) cd cu t cp (nn j) (fun _ => some 1) F (nn k) = some (if (∀ i, i < nc → k ≤ i → (cd i).toNatClampNeg = j → badC cu cp cd X i = false) then 1 else 0) := by
  intro m
  induction m with
  | zero =>
    intro k F e hF
    obtain ⟨F, rfl⟩ : ∃ f, F = f + 1 := ⟨F - 1, by omega⟩
    obtain rfl : k = nc := by omega
    rw [if_pos (fun i h1 h2 => absurd h1 (by omega))]
    simp (disch := omega) only [L_hA_X0_claimsOfDayAreSo_8, nn_le, Nat.le_refl, ↓reduceIte]
  | succ m ih =>
    intro k F e hF
    obtain ⟨F, rfl⟩ : ∃ f, F = f + 1 := ⟨F - 1, by omega⟩
    have hk : ¬ nc ≤ k := by omega
    obtain ⟨⟨u, hu, eu⟩, d, hd, ed⟩ := hcl k (by omega)
    have hb : badC cu cp cd X k = decide (X (d + 1) (5 + u) ≠ cp k) := by
      unfold badC
      rw [ed, eu, nn_nat (by omega), nn_nat (by omega)]
    by_cases q : d = j
    · subst q
      by_cases q2 : X (d + 1) (5 + u) = cp k
      · have e1 : (∀ i, i < nc → k ≤ i → (cd i).toNatClampNeg = d → badC cu cp cd X i = false) ↔ (∀ i, i < nc → k + 1 ≤ i → (cd i).toNatClampNeg = d → badC cu cp cd X i = false) := by
          constructor
          · intro h i h1 h2 h3; exact h i h1 (by omega) h3
          · intro h i h1 h2 h3
            by_cases ei : i = k
            · subst ei; rw [hb]; simp [q2]
            · exact h i h1 (by omega) h3
        simp only [e1]
        rw [← ih (k + 1) F (by omega) (by omega)]
        simp (disch := omega) only [L_hA_X0_claimsOfDayAreSo_8, nn_le, hk, ↓reduceIte, xix_nn, nn_nat, ed, eu, ht, q2, nn_succ]
      · rw [if_neg (fun h => by
          have := h k (by omega) (Nat.le_refl _) (by rw [ed, nn_nat (by omega)])
          rw [hb] at this
          simp [q2] at this)]
        simp (disch := omega) only [L_hA_X0_claimsOfDayAreSo_8, nn_le, hk, ↓reduceIte, xix_nn, nn_nat, ed, eu, ht, q2]
    · have e1 : (∀ i, i < nc → k ≤ i → (cd i).toNatClampNeg = j → badC cu cp cd X i = false) ↔ (∀ i, i < nc → k + 1 ≤ i → (cd i).toNatClampNeg = j → badC cu cp cd X i = false) := by
        constructor
        · intro h i h1 h2 h3; exact h i h1 (by omega) h3
        · intro h i h1 h2 h3
          by_cases ei : i = k
          · subst ei; rw [ed, nn_nat (by omega)] at h3; exact absurd h3 q
          · exact h i h1 (by omega) h3
      simp only [e1]
      rw [← ih (k + 1) F (by omega) (by omega)]
      have q' : ¬ nn d = nn j := by rw [nn_inj (by omega) (by omega)]; exact q
      simp (disch := omega) only [L_hA_X0_claimsOfDayAreSo_8, nn_le, hk, ↓reduceIte, xix_nn, nn_nat, ed, q', nn_succ]
section WAYS
variable {np nu nl nc tp na nm : Nat} {la gu ra : Int32} {g7 g8 g9 g10 g11 g12 g13 g14 g15 g17 g18 g19 g20 g21 g22 g23 g24 g25 g26 g27 g28 g29 g30 g31 g32 g33 g34 : Int32} {a0 a1 a2 a3 a4 a5 a6 a7 a8 a9 a10 a11 a12 a13 a14 a15 a16 a17 a18 a19 a20 a21 a22 a23 a24 a25 a26 a27 a28 a29 a30 a31 a32 a33 a34 a35 a36 a37 a38 a39 : pA} {b0 b1 b2 b3 b4 : Nat → Int64} {w0 : Int64}
variable {G0 G2 G4 G5 G6 G7 G8 G10 G13 G14 G15 G16 G17 G18 G26 : Int32} {A0 A2 A3 A4 A5 A6 A7 A8 A9 A10 A11 A12 A13 A14 A15 A16 A17 A18 A19 A20 A21 A22 A23 : pA} {B0 : Nat → Int64} {W0 : Int64} {rb : Nat}
theorem mor_before {day u v : Nat} : ∀ j, j ≤ day → mor np nu nl la a0 a1 a2 a4 a5 a6 a7 a8 (cAt day u v) j = mor np nu nl la a0 a1 a2 a4 a5 a6 a7 a8 cNo j := sRun_before
theorem pc_fits94 (H : Cty np nu nl nc la gu ra a0 a1 a2 a3 a4 a5 a6 a7 a8 a10 a11 a12 A10 A11 A12 A13 A14 A15 A16 A17 A18 A19 A20 A21) {day u v : Nat} (hu : u < 5) (hv : v < 5) {LC g26 : Int32} (hLC : ∀ k, k < nc → a12 k ≤ LC) : ∀ (m j F : Nat) (g : Int32) (h t : pA), j + m = 41 → m < F → day ≤ j → mkr h t g = cAt day u v j (mor np nu nl la a0 a1 a2 a4 a5 a6 a7 a8 (cAt day u v) j) → ∃ d' t' h', L_hA_X0_fits_94 (nn nu) a1 a3 b2 LC (nn nl) (nn np) a0 a2 la a8 a5 a6 a7 (nn nc) a12 a10 a11 g26 (fun l6_94 mg24_94 ma32_94 ma33_94 => some ((1 : Int32), mg24_94, ma33_94, ma32_94)) F (nn j) g h t = some (if (∀ k, k < nc → j ≤ (a12 k).toNatClampNeg → badC a10 a11 a12 (mor np nu nl la a0 a1 a2 a4 a5 a6 a7 a8 (cAt day u v)) k = false) then 1 else 0, d', t', h') := by
  have hn := H.1.2.2.2.1
  have hp := H.1.2.1
  have hl := H.1.2.2.2.2.1
  have hc := H.1.2.2.2.2.2
  intro m
  induction m with
  | zero =>
    intro j F g h t e hF hd hr
    obtain ⟨F, rfl⟩ : ∃ f, F = f + 1 := ⟨F - 1, by omega⟩
    obtain rfl : j = 41 := by omega
    refine ⟨g, t, h, ?_⟩
    rw [if_pos (fun k hk h2 => by
      obtain ⟨_, dd, hdd, ed⟩ := H.cl k hk
      rw [ed, nn_nat (by omega)] at h2
      omega)]
    by_cases q : LC < nn 41
    · simp (disch := omega) only [L_hA_X0_fits_94, q, ↓reduceIte]
    · simp (disch := omega) only [L_hA_X0_fits_94, q, n41_, nn_le, Nat.le_refl, ↓reduceIte]
  | succ m ih =>
    intro j F g h t e hF hd hr
    obtain ⟨F, rfl⟩ : ∃ f, F = f + 1 := ⟨F - 1, by omega⟩
    have hj : ¬ 41 ≤ j := by omega
    by_cases q : LC < nn j
    · refine ⟨g, t, h, ?_⟩
      rw [if_pos (fun k hk h2 => by
        obtain ⟨_, dd, hdd, ed⟩ := H.cl k hk
        have h3 := hLC k hk
        rw [ed, nn_nat (by omega)] at h2
        rw [ed] at h3
        have h4 := Int32.lt_of_le_of_lt h3 q
        rw [nn_lt (by omega) (by omega)] at h4
        omega)]
      simp (disch := omega) only [L_hA_X0_fits_94, q, ↓reduceIte]
    · have hok := mor_ok H (C := cAt day u v) (cAt_ok hu hv)
      have hoc := cAt_ok (np := np) (day := day) hu hv j _ (hok j).1 (hok j).2
      obtain ⟨d2, h2, t2, e1, e2⟩ := qc_runDay (kind := a1) (sort := a0) (lands := a2) (dy := a8) (day := nn j) hn hp hl (la_pos H.2.1.1) H.2.2.2.2.2.2.2.2.2.2.2.1 (h := h) (t := t) (dry := g) (by rw [hr]; exact hoc.1)
      have e3 : mkr h2 t2 d2 = mor np nu nl la a0 a1 a2 a4 a5 a6 a7 a8 (cAt day u v) (j + 1) := by rw [e2, hr]; rfl
      have e4 : e_hA_X0_claimsOfDayAreSo (nn nc) a12 a10 t2 a11 (nn j) = _ := pc_clDay hn hc (show j < 41 by omega) (X := mor np nu nl la a0 a1 a2 a4 a5 a6 a7 a8 (cAt day u v)) H.cl (fun w hw => by rw [← e3, mkr_t hw]) nc 0 200000 (by omega) (by omega)
      by_cases q2 : ∀ i, i < nc → 0 ≤ i → (a12 i).toNatClampNeg = j → badC a10 a11 a12 (mor np nu nl la a0 a1 a2 a4 a5 a6 a7 a8 (cAt day u v)) i = false
      · obtain ⟨d', t', h', ee⟩ := ih (j + 1) F d2 h2 t2 (by omega) (by omega) (by omega) (by rw [cAt_ne (by omega), e3])
        refine ⟨d', t', h', ?_⟩
        have e5 : (∀ k, k < nc → j ≤ (a12 k).toNatClampNeg → badC a10 a11 a12 (mor np nu nl la a0 a1 a2 a4 a5 a6 a7 a8 (cAt day u v)) k = false) ↔ (∀ k, k < nc → j + 1 ≤ (a12 k).toNatClampNeg → badC a10 a11 a12 (mor np nu nl la a0 a1 a2 a4 a5 a6 a7 a8 (cAt day u v)) k = false) := by
          constructor
          · intro hh k hk h2; exact hh k hk (by omega)
          · intro hh k hk h2
            by_cases ek : (a12 k).toNatClampNeg = j
            · exact q2 k hk (by omega) ek
            · exact hh k hk (by omega)
        simp only [e5]
        rw [← ee]
        rw [if_pos q2] at e4
        have hjI : ¬ (41 : Int32) ≤ nn j := by rw [n41_, nn_le (by omega) (by omega)]; exact hj
        rw [L_hA_X0_fits_94, if_neg q, if_neg hjI, e1, Option.bind_some, e4, Option.bind_some, if_neg (by decide), nn_succ]
      · refine ⟨d2, t2, h2, ?_⟩
        rw [if_neg (fun hh => q2 (fun i hi _ h3 => hh i hi (by omega)))]
        rw [if_neg q2] at e4
        have hjI : ¬ (41 : Int32) ≤ nn j := by rw [n41_, nn_le (by omega) (by omega)]; exact hj
        rw [L_hA_X0_fits_94, if_neg q, if_neg hjI, e1, Option.bind_some, e4, Option.bind_some, if_pos rfl]
theorem qc_fits (H : Cty np nu nl nc la gu ra a0 a1 a2 a3 a4 a5 a6 a7 a8 a10 a11 a12 A10 A11 A12 A13 A14 A15 A16 A17 A18 A19 A20 A21) (hb : ∀ j, j ≤ 41 → b2 j = ll (pkR (mor np nu nl la a0 a1 a2 a4 a5 a6 a7 a8 cNo j))) {day pr : Nat} (hday : day < 41) (hpr : pr < 25) {LC g26 : Int32} (hLC : ∀ k, k < nc → a12 k ≤ LC) (hpre : ∀ k, k < nc → (a12 k).toNatClampNeg < day → badC a10 a11 a12 (mor np nu nl la a0 a1 a2 a4 a5 a6 a7 a8 cNo) k = false) (h26 : g26 = (if wayP nc a10 a11 a12 (mor np nu nl la a0 a1 a2 a4 a5 a6 a7 a8 cNo) then 1 else 0)) (g : Int32) (t h : pA) : ∃ d' t' h', e_hA_X0_fits (nn nu) a1 a3 b2 g t h LC (nn nl) (nn np) a0 a2 la a8 a5 a6 a7 (nn nc) a12 a10 a11 g26 (nn day) (nn pr) = some (if gP np nu nl nc la a0 a1 a2 a3 a4 a5 a6 a7 a8 a10 a11 a12 day pr then 1 else 0, d', t', h') := by
  have hn := H.1.2.2.2.1
  have hp := H.1.2.1
  have hok := mor_ok H (C := cNo) cNo_ok
  have eu : nn pr / (5 : Int32) = nn (pr / 5) := nn_div (b := 5) (by omega) (by omega)
  have ev : nn pr - nn (pr / 5) * (5 : Int32) = nn (pr % 5) := nn_mod2 (b := 5) (by omega) (by omega)
  unfold e_hA_X0_fits
  simp only [eu, ev]
  by_cases q1 : pr % 5 ≤ pr / 5
  · refine ⟨g, t, h, ?_⟩
    rw [if_pos (by rw [nn_le (by omega) (by omega)]; exact q1), if_neg (fun z => by omega)]
  · rw [if_neg (by rw [nn_le (by omega) (by omega)]; exact q1)]
    by_cases q2 : nu ≤ pr % 5
    · refine ⟨g, t, h, ?_⟩
      rw [if_pos (by rw [nn_le (by omega) (by omega)]; exact q2), if_neg (fun z => by omega)]
    · rw [if_neg (by rw [nn_le (by omega) (by omega)]; exact q2)]
      by_cases q3 : alk a1 a3 (pr / 5) (pr % 5)
      · have ea : e_hA_X1_areAlike a1 a3 (nn (pr / 5)) (nn (pr % 5)) = some 1 := by
          unfold e_hA_X1_areAlike
          simp (disch := omega) only [xix_nn, nn_nat, q3.1, q3.2, ↓reduceIte]
        obtain ⟨d1, t1, h1, e1, e2⟩ := qc_unpack hp (p0 := g) (t0 := t) (h0 := h) (hok day).1 (hok day).2
        rw [ea, Option.bind_some, if_neg (by decide), xix_nn (by omega) (by omega), nn_nat (by omega), hb day (by omega), e1, Option.bind_some, xix_nn (by omega) (by omega), xix_nn (by omega) (by omega), nn_nat (by omega), nn_nat (by omega)]
        have eh : ∀ w, w < 5 → h1 w = mor np nu nl la a0 a1 a2 a4 a5 a6 a7 a8 cNo day w := fun w hw => by rw [← e2, mkr_h hw]
        by_cases q4 : h1 (pr / 5) = h1 (pr % 5)
        · have es : mor np nu nl la a0 a1 a2 a4 a5 a6 a7 a8 (cAt day (pr / 5) (pr % 5)) = mor np nu nl la a0 a1 a2 a4 a5 a6 a7 a8 cNo := funext (sRun_same (by
            have a := eh (pr / 5) (by omega)
            have b := eh (pr % 5) (by omega)
            rw [q4, b] at a
            exact a.symm))
          refine ⟨d1, t1, h1, ?_⟩
          simp only [q4, ↓reduceIte]
          have hg : gP np nu nl nc la a0 a1 a2 a3 a4 a5 a6 a7 a8 a10 a11 a12 day pr ↔ wayP nc a10 a11 a12 (mor np nu nl la a0 a1 a2 a4 a5 a6 a7 a8 cNo) := by
            constructor
            · intro z; have := z.2.2.2; rw [es] at this; exact this
            · intro z; refine ⟨by omega, by omega, q3, ?_⟩; rw [es]; exact z
          have e26 : g26 = if gP np nu nl nc la a0 a1 a2 a3 a4 a5 a6 a7 a8 a10 a11 a12 day pr then 1 else 0 := by rw [h26]; simp only [hg]
          rw [← e26]
          refine xbo_01 ?_
          rw [e26]
          split
          · exact Or.inr rfl
          · exact Or.inl rfl
        · have esw : e_hA_X3_swap h1 (nn (pr / 5)) (nn (pr % 5)) = some (upd (upd h1 (pr / 5) (h1 (pr % 5))) (pr % 5) (h1 (pr / 5))) := by
            unfold e_hA_X3_swap
            simp (disch := omega) only [xix_nn, nn_nat]
          obtain ⟨d', t', h', ee⟩ := pc_fits94 H (day := day) (u := pr / 5) (v := pr % 5) (by omega) (by omega) hLC (b2 := b2) (g26 := g26) (41 - day) day 200000 d1 (upd (upd h1 (pr / 5) (h1 (pr % 5))) (pr % 5) (h1 (pr / 5))) t1 (by omega) (by omega) (Nat.le_refl _) (by
            rw [mkr_uh (by omega), mkr_uh (by omega), e2]
            unfold cAt
            rw [if_pos rfl]
            have : mor np nu nl la a0 a1 a2 a4 a5 a6 a7 a8 (cAt day (pr / 5) (pr % 5)) day = mor np nu nl la a0 a1 a2 a4 a5 a6 a7 a8 cNo day := sRun_before day (Nat.le_refl _)
            unfold cAt at this
            rw [this, eh _ (by omega), eh _ (by omega)]
            rfl)
          refine ⟨d', t', h', ?_⟩
          simp only [q4, ↓reduceIte, esw, Option.bind_some]
          have hg : (∀ k, k < nc → day ≤ (a12 k).toNatClampNeg → badC a10 a11 a12 (mor np nu nl la a0 a1 a2 a4 a5 a6 a7 a8 (cAt day (pr / 5) (pr % 5))) k = false) ↔ gP np nu nl nc la a0 a1 a2 a3 a4 a5 a6 a7 a8 a10 a11 a12 day pr := by
            constructor
            · intro z
              refine ⟨by omega, by omega, q3, wayP_iff.mpr fun k hk => ?_⟩
              by_cases e : day ≤ (a12 k).toNatClampNeg
              · exact z k hk e
              · exact (badC_congr (X := mor np nu nl la a0 a1 a2 a4 a5 a6 a7 a8 (cAt day (pr / 5) (pr % 5))) (Y := mor np nu nl la a0 a1 a2 a4 a5 a6 a7 a8 cNo) (mor_before _ (by omega))).trans (hpre k hk (by omega))
            · intro z k hk _
              exact wayP_iff.mp z.2.2.2 k hk
          simp only [hg] at ee
          exact ee
      · refine ⟨g, t, h, ?_⟩
        have ea : e_hA_X1_areAlike a1 a3 (nn (pr / 5)) (nn (pr % 5)) = some 0 := by
          unfold e_hA_X1_areAlike
          by_cases z : a1 (pr / 5) = a1 (pr % 5)
          · have z2 : ¬ a3 (pr / 5) = a3 (pr % 5) := fun y => q3 ⟨z, y⟩
            simp (disch := omega) only [xix_nn, nn_nat, z, z2, ↓reduceIte]
          · simp (disch := omega) only [xix_nn, nn_nat, z, ↓reduceIte]
        rw [ea, Option.bind_some, if_pos rfl, if_neg (fun z => q3 z.2.2.1)]
theorem upd_upd (f : pA) (k : Nat) (x y : Int32) : upd (upd f k x) k y = upd f k y := by
  funext j
  by_cases e : j = k
  · subst e; rw [upd_at, upd_at]
  · rw [upd_ne _ _ e, upd_ne _ _ e, upd_ne _ _ e]
theorem pc_search117 (H : Cty np nu nl nc la gu ra a0 a1 a2 a3 a4 a5 a6 a7 a8 a10 a11 a12 A10 A11 A12 A13 A14 A15 A16 A17 A18 A19 A20 A21) (hb : ∀ j, j ≤ 41 → b2 j = ll (pkR (mor np nu nl la a0 a1 a2 a4 a5 a6 a7 a8 cNo j))) {day fw : Nat} (hday : day < 41) (hfw : fw ≤ 41) (hdf : day ≤ fw) {LC g26 p0 : Int32} (hLC : ∀ k, k < nc → a12 k ≤ LC) (hpre : ∀ k, k < nc → (a12 k).toNatClampNeg < day → badC a10 a11 a12 (mor np nu nl la a0 a1 a2 a4 a5 a6 a7 a8 cNo) k = false) (h26 : g26 = (if wayP nc a10 a11 a12 (mor np nu nl la a0 a1 a2 a4 a5 a6 a7 a8 cNo) then 1 else 0)) {K : Int32 → Int32 → pA → pA → pA → Option (Int32 × Int32 × Int32 × pA × Int32 × pA × pA)} : ∀ (m pr F : Nat) (g : Int32) (t h A : pA), pr + m = 25 → m < F → ∃ g' t' h', L_hA_X0_search_117 p0 LC (nn nc) g26 (nn nu) a1 a3 b2 (nn nl) (nn np) a0 a2 la a8 a5 a6 a7 a12 a10 a11 (nn fw) (nn day) K F (nn pr) g t h A = K (nn 25) g' t' h' (upd A day (sBits (fun pr => decide (gP np nu nl nc la a0 a1 a2 a3 a4 a5 a6 a7 a8 a10 a11 a12 day pr)) m pr (A day))) := by
  have n25 : (25 : Int32) = nn 25 := rfl
  intro m
  induction m with
  | zero =>
    intro pr F g t h A e hF
    obtain ⟨F, rfl⟩ : ∃ f, F = f + 1 := ⟨F - 1, by omega⟩
    obtain rfl : pr = 25 := by omega
    refine ⟨g, t, h, ?_⟩
    simp (disch := omega) only [L_hA_X0_search_117, n25, nn_le, Nat.le_refl, ↓reduceIte, sBits, upd_self]
  | succ m ih =>
    intro pr F g t h A e hF
    obtain ⟨F, rfl⟩ : ∃ f, F = f + 1 := ⟨F - 1, by omega⟩
    obtain ⟨g1, t1, h1, e1⟩ := qc_fits H hb hday (show pr < 25 by omega) hLC hpre h26 g t h
    have i1 : ¬ (25 : Int32) ≤ nn pr := by rw [n25, nn_le (by omega) (by omega)]; omega
    have i2 : ¬ nn fw < nn day := by rw [nn_lt (by omega) (by omega)]; omega
    simp only [sBits]
    by_cases q : gP np nu nl nc la a0 a1 a2 a3 a4 a5 a6 a7 a8 a10 a11 a12 day pr
    · obtain ⟨g', t', h', ee⟩ := ih (pr + 1) F g1 t1 h1 (upd A day (A day ||| (1 : Int32) <<< (nn pr &&& 31))) (by omega) (by omega)
      refine ⟨g', t', h', ?_⟩
      rw [upd_at, upd_upd] at ee
      rw [if_pos q] at e1
      rw [if_pos (by simpa using q), ← ee, L_hA_X0_search_117, if_neg i1, if_neg i2, xix_nn (by omega) (by omega), e1, Option.bind_some, if_neg (show ¬ (1 : Int32) = 0 from by decide), xix_nn (by omega) (by omega), nn_nat (by omega), nn_succ]
    · obtain ⟨g', t', h', ee⟩ := ih (pr + 1) F g1 t1 h1 (upd A day (A day ||| 0)) (by omega) (by omega)
      refine ⟨g', t', h', ?_⟩
      rw [upd_at, upd_upd] at ee
      rw [if_neg q] at e1
      rw [if_neg (by simpa using q), ← ee, L_hA_X0_search_117, if_neg i1, if_neg i2, xix_nn (by omega) (by omega), e1, Option.bind_some, if_pos rfl, xix_nn (by omega) (by omega), nn_nat (by omega), nn_succ]
theorem sBits_zero {f : Nat → Bool} : ∀ (m k : Nat), (∀ j, k ≤ j → j < k + m → f j = false) → sBits f m k 0 = 0 := by
  intro m
  induction m with
  | zero => intro k _; rfl
  | succ m ih =>
    intro k h
    simp only [sBits]
    rw [if_neg (by rw [h k (Nat.le_refl _) (by omega)]; decide), Int32.or_zero]
    exact ih (k + 1) (fun j h1 h2 => h j (by omega) (by omega))
theorem pc_search101 (H : Cty np nu nl nc la gu ra a0 a1 a2 a3 a4 a5 a6 a7 a8 a10 a11 a12 A10 A11 A12 A13 A14 A15 A16 A17 A18 A19 A20 A21) (hb : ∀ j, j ≤ 41 → b2 j = ll (pkR (mor np nu nl la a0 a1 a2 a4 a5 a6 a7 a8 cNo j))) {fw : Nat} (hfw : fw ≤ 41) {LC g26 p0 : Int32} (hLC : ∀ k, k < nc → a12 k ≤ LC) (hF1 : ∀ k, k < nc → badC a10 a11 a12 (mor np nu nl la a0 a1 a2 a4 a5 a6 a7 a8 cNo) k = true → fw ≤ (a12 k).toNatClampNeg) (hF2 : fw = 41 ∨ ∃ k, k < nc ∧ badC a10 a11 a12 (mor np nu nl la a0 a1 a2 a4 a5 a6 a7 a8 cNo) k = true ∧ (a12 k).toNatClampNeg = fw) (h26 : g26 = (if wayP nc a10 a11 a12 (mor np nu nl la a0 a1 a2 a4 a5 a6 a7 a8 cNo) then 1 else 0)) {K : Int32 → pA → Int32 → pA → pA → Option (Int32 × Int32 × Int32 × pA × Int32 × pA × pA)} : ∀ (m d F : Nat) (g : Int32) (t h A : pA), d + m = 41 → m < F → (∀ j, j < d → A j = sBits (fun pr => decide (gP np nu nl nc la a0 a1 a2 a3 a4 a5 a6 a7 a8 a10 a11 a12 j pr)) 25 0 0) → ∃ A' g' t' h', L_hA_X0_search_101 p0 LC (nn nc) g26 (nn nu) a1 a3 b2 (nn nl) (nn np) a0 a2 la a8 a5 a6 a7 a12 a10 a11 (nn fw) K F (nn d) A g t h = K (nn 41) A' g' t' h' ∧ ∀ j, j < 41 → A' j = sBits (fun pr => decide (gP np nu nl nc la a0 a1 a2 a3 a4 a5 a6 a7 a8 a10 a11 a12 j pr)) 25 0 0 := by
  intro m
  induction m with
  | zero =>
    intro d F g t h A e hF hA
    obtain ⟨F, rfl⟩ : ∃ f, F = f + 1 := ⟨F - 1, by omega⟩
    obtain rfl : d = 41 := by omega
    refine ⟨A, g, t, h, ?_, hA⟩
    simp (disch := omega) only [L_hA_X0_search_101, n41_, nn_le, Nat.le_refl, ↓reduceIte]
  | succ m ih =>
    intro d F g t h A e hF hA
    obtain ⟨F, rfl⟩ : ∃ f, F = f + 1 := ⟨F - 1, by omega⟩
    have i1 : ¬ (41 : Int32) ≤ nn d := by rw [n41_, nn_le (by omega) (by omega)]; omega
    by_cases q : d ≤ fw
    · have hpre : ∀ k, k < nc → (a12 k).toNatClampNeg < d → badC a10 a11 a12 (mor np nu nl la a0 a1 a2 a4 a5 a6 a7 a8 cNo) k = false := fun k hk h1 => by
        by_cases z : badC a10 a11 a12 (mor np nu nl la a0 a1 a2 a4 a5 a6 a7 a8 cNo) k = true
        · have := hF1 k hk z; omega
        · simpa using z
      obtain ⟨g1, t1, h1, e1⟩ := pc_search117 H hb (show d < 41 by omega) hfw q hLC hpre h26 (p0 := p0) (K := (fun l4_117 mg24_117 ma33_117 ma32_117 ma31_117 => L_hA_X0_search_101 p0 LC (nn nc) g26 (nn nu) a1 a3 b2 (nn nl) (nn np) a0 a2 la a8 a5 a6 a7 a12 a10 a11 (nn fw) K F (nn d + 1) ma31_117 mg24_117 ma33_117 ma32_117)) 25 0 200000 g t h (upd A d 0) (by omega) (by omega)
      rw [upd_at, upd_upd] at e1
      obtain ⟨A', g', t', h', ee, hA'⟩ := ih (d + 1) F g1 t1 h1 (upd A d (sBits (fun pr => decide (gP np nu nl nc la a0 a1 a2 a3 a4 a5 a6 a7 a8 a10 a11 a12 d pr)) 25 0 0)) (by omega) (by omega) (fun j hj => by
        by_cases z : j = d
        · subst z; rw [upd_at]
        · rw [upd_ne _ _ z]; exact hA j (by omega))
      refine ⟨A', g', t', h', ?_, hA'⟩
      rw [← ee, L_hA_X0_search_101, if_neg i1, xix_nn (by omega) (by omega), nn_nat (by omega), ← nn_succ]
      exact e1
    · have hz : sBits (fun pr => decide (gP np nu nl nc la a0 a1 a2 a3 a4 a5 a6 a7 a8 a10 a11 a12 d pr)) 25 0 0 = 0 := sBits_zero 25 0 (fun j _ hj => by
        rcases hF2 with z | ⟨k, hk, z1, z2⟩
        · omega
        · simp only [decide_eq_false_iff_not]
          intro y
          have := wayP_iff.mp y.2.2.2 k hk
          have th2 := (badC_congr (cu := a10) (cp := a11) (X := mor np nu nl la a0 a1 a2 a4 a5 a6 a7 a8 (cAt d (j / 5) (j % 5))) (Y := mor np nu nl la a0 a1 a2 a4 a5 a6 a7 a8 cNo) (mor_before _ (by omega))).symm.trans this
          rw [z1] at th2
          exact absurd th2 (by decide))
      obtain ⟨A', g', t', h', ee, hA'⟩ := ih (d + 1) F g t h (upd A d 0) (by omega) (by omega) (fun j hj => by
        by_cases z : j = d
        · subst z; rw [upd_at, hz]
        · rw [upd_ne _ _ z]; exact hA j (by omega))
      refine ⟨A', g', t', h', ?_, hA'⟩
      rw [← ee, L_hA_X0_search_101, if_neg i1, xix_nn (by omega) (by omega), nn_nat (by omega), nn_succ]
      have i2 : nn fw < nn d := by rw [nn_lt (by omega) (by omega)]; omega
      have i3 : ¬ (25 : Int32) ≤ (0 : Int32) := by decide
      have stp : ∀ (G : Nat) (K2 : Int32 → Int32 → pA → pA → pA → Option (Int32 × Int32 × Int32 × pA × Int32 × pA × pA)), L_hA_X0_search_117 p0 LC (nn nc) g26 (nn nu) a1 a3 b2 (nn nl) (nn np) a0 a2 la a8 a5 a6 a7 a12 a10 a11 (nn fw) (nn d) K2 (G + 1) 0 g t h (upd A d 0) = K2 0 g t h (upd A d 0) := fun G K2 => by
        rw [L_hA_X0_search_117, if_neg i3, if_pos i2]
      exact stp 199999 _
theorem pc_search23 (H : Cty np nu nl nc la gu ra a0 a1 a2 a3 a4 a5 a6 a7 a8 a10 a11 a12 A10 A11 A12 A13 A14 A15 A16 A17 A18 A19 A20 A21) (hb : ∀ j, j ≤ 41 → b2 j = ll (pkR (mor np nu nl la a0 a1 a2 a4 a5 a6 a7 a8 cNo j))) {p0 p3 p5 p12 p13 p16 : Int32} {p4 p6 p7 p14 p15 p17 p18 p19 p20 : pA} {K : Int32 → Int32 → Int32 → Int32 → pA → pA → Option (Int32 × Int32 × Int32 × pA × Int32 × pA × pA)} : ∀ (m k F fw : Nat) (lc g : Int32) (t h : pA), k + m = nc → m < F → fw ≤ 41 → (fw = 41 ∨ ∃ i, i < k ∧ badC a10 a11 a12 (mor np nu nl la a0 a1 a2 a4 a5 a6 a7 a8 cNo) i = true ∧ (a12 i).toNatClampNeg = fw) → (∀ i, i < k → badC a10 a11 a12 (mor np nu nl la a0 a1 a2 a4 a5 a6 a7 a8 cNo) i = true → fw ≤ (a12 i).toNatClampNeg) → (∀ i, i < k → a12 i ≤ lc) →
    ∃ fw' lc' g' t' h', L_hA_X0_search_23 p0 (nn nc) p3 p4 p5 p6 p7 b2 p12 p13 p14 p15 p16 p17 p18 p19 p20 a12 a10 a11 K F (nn fw) (nn k) lc g t h = K (nn fw') (nn nc) lc' g' t' h' ∧ fw' ≤ 41 ∧ (fw' = 41 ∨ ∃ i, i < nc ∧ badC a10 a11 a12 (mor np nu nl la a0 a1 a2 a4 a5 a6 a7 a8 cNo) i = true ∧ (a12 i).toNatClampNeg = fw') ∧ (∀ i, i < nc → badC a10 a11 a12 (mor np nu nl la a0 a1 a2 a4 a5 a6 a7 a8 cNo) i = true → fw' ≤ (a12 i).toNatClampNeg) ∧ (∀ i, i < nc → a12 i ≤ lc') := by
  have hn := H.1.2.2.2.1
  have hp := H.1.2.1
  have hc := H.1.2.2.2.2.2
  have hok := mor_ok H (C := cNo) cNo_ok
  intro m
  induction m with
  | zero =>
    intro k F fw lc g t h e hF h1 h2 h3 h4
    obtain ⟨F, rfl⟩ : ∃ f, F = f + 1 := ⟨F - 1, by omega⟩
    obtain rfl : k = nc := by omega
    refine ⟨fw, lc, g, t, h, ?_, h1, h2, h3, h4⟩
    simp (disch := omega) only [L_hA_X0_search_23, nn_le, Nat.le_refl, ↓reduceIte]
  | succ m ih =>
    intro k F fw lc g t h e hF h1 h2 h3 h4
    obtain ⟨F, rfl⟩ : ∃ f, F = f + 1 := ⟨F - 1, by omega⟩
    have i1 : ¬ nn nc ≤ nn k := by rw [nn_le (by omega) (by omega)]; omega
    obtain ⟨_, d, hd, ed⟩ := H.cl k (by omega)
    obtain ⟨d1, t1, h1', e1⟩ := qc_claimIsSo hp hn hc hok hb H.cl (show k < nc by omega) g t h (cp := a11)
    have hlc : ∀ i, i < k + 1 → a12 i ≤ (if lc < a12 k then a12 k else lc) := fun i hi => by
      by_cases ei : i = k
      · subst ei
        split
        · exact Int32.le_refl _
        · exact Int32.not_lt.mp (by assumption)
      · have := h4 i (by omega)
        split
        · exact Int32.le_trans this (Int32.le_of_lt (by assumption))
        · exact this
    by_cases q : badC a10 a11 a12 (mor np nu nl la a0 a1 a2 a4 a5 a6 a7 a8 cNo) k = true
    · rw [if_pos q] at e1
      have efw : (if nn d < nn fw then nn d else nn fw) = nn (min d fw) := by
        simp (disch := omega) only [nn_lt]
        split
        · congr 1; omega
        · congr 1; omega
      obtain ⟨fw', lc', g', t', h', ee, r⟩ := ih (k + 1) F (min d fw) (if lc < a12 k then a12 k else lc) d1 t1 h1' (by omega) (by omega) (by omega) (by
        right
        by_cases z : d < fw
        · exact ⟨k, by omega, q, by rw [ed, nn_nat (by omega)]; omega⟩
        · rcases h2 with y | ⟨i, hi, y1, y2⟩
          · omega
          · exact ⟨i, by omega, y1, by rw [y2]; omega⟩) (fun i hi y => by
        by_cases ei : i = k
        · subst ei; rw [ed, nn_nat (by omega)]; omega
        · have := h3 i (by omega) y; omega) hlc
      refine ⟨fw', lc', g', t', h', ?_, r⟩
      rw [← ee, L_hA_X0_search_23, if_neg i1, xix_nn (by omega) (by omega), e1, Option.bind_some, if_pos rfl, nn_nat (by omega), ed, efw, nn_succ]
    · rw [if_neg q] at e1
      obtain ⟨fw', lc', g', t', h', ee, r⟩ := ih (k + 1) F fw (if lc < a12 k then a12 k else lc) d1 t1 h1' (by omega) (by omega) h1 (by
        rcases h2 with y | ⟨i, hi, y1, y2⟩
        · exact Or.inl y
        · exact Or.inr ⟨i, by omega, y1, y2⟩) (fun i hi y => by
        by_cases ei : i = k
        · subst ei; exact absurd y q
        · exact h3 i (by omega) y) hlc
      refine ⟨fw', lc', g', t', h', ?_, r⟩
      rw [← ee, L_hA_X0_search_23, if_neg i1, xix_nn (by omega) (by omega), e1, Option.bind_some, if_neg (show ¬ (1 : Int32) = 0 from by decide), nn_nat (by omega), nn_succ]
theorem qc_search (H : Cty np nu nl nc la gu ra a0 a1 a2 a3 a4 a5 a6 a7 a8 a10 a11 a12 A10 A11 A12 A13 A14 A15 A16 A17 A18 A19 A20 A21) (hC : Chr np nu nl nc la a0 a1 a2 a3 a4 a5 a6 a7 a8 a10 a11 a12 b2 g25 g26 a31) (g27 g24 : Int32) (a33 a32 : pA) : ∃ g27' g26' a31' g24' a33' a32', e_hA_X0_search g25 g27 (nn nc) g26 a31 (nn nu) a1 a3 b2 g24 a33 a32 (nn nl) (nn np) a0 a2 la a8 a5 a6 a7 a12 a10 a11 = some (1, g27', g26', a31', g24', a33', a32') ∧ Sch np nu nl nc la a0 a1 a2 a3 a4 a5 a6 a7 a8 a10 a11 a12 g26' a31' := by
  obtain ⟨hb, hs⟩ := hC
  have hnc := H.1.2.2.2.2.2
  unfold e_hA_X0_search
  rcases hs with rfl | ⟨rfl, hs⟩
  · rw [if_pos rfl]
    obtain ⟨fw, lc, g', t', h', ee, r1, r2, r3, r4⟩ := pc_search23 H hb (p0 := 1) (p3 := g26) (p4 := a31) (p5 := nn nu) (p6 := a1) (p7 := a3) (p12 := nn nl) (p13 := nn np) (p14 := a0) (p15 := a2) (p16 := la) (p17 := a8) (p18 := a5) (p19 := a6) (p20 := a7) (K := (fun l2_23 l3_23 mg27_23 mg24_23 ma33_23 ma32_23 => if l2_23 = (41 : Int32) then L_hA_X0_search_101 (1 : Int32) mg27_23 (nn nc) (1 : Int32) (nn nu) a1 a3 b2 (nn nl) (nn np) a0 a2 la a8 a5 a6 a7 a12 a10 a11 l2_23 (fun l3_101 ma31_101 mg24_101 ma33_101 ma32_101 => some ((1 : Int32), mg27_23, (1 : Int32), ma31_101, mg24_101, ma33_101, ma32_101)) 200000 (0 : Int32) a31 mg24_23 ma33_23 ma32_23 else L_hA_X0_search_101 (1 : Int32) mg27_23 (nn nc) (0 : Int32) (nn nu) a1 a3 b2 (nn nl) (nn np) a0 a2 la a8 a5 a6 a7 a12 a10 a11 l2_23 (fun l3_101 ma31_101 mg24_101 ma33_101 ma32_101 => some ((1 : Int32), mg27_23, (0 : Int32), ma31_101, mg24_101, ma33_101, ma32_101)) 200000 (0 : Int32) a31 mg24_23 ma33_23 ma32_23)) nc 0 200000 41 (-1) g24 a33 a32 (by omega) (by omega) (by omega) (Or.inl rfl) (fun i hi => absurd hi (by omega)) (fun i hi => absurd hi (by omega))
    have hw : wayP nc a10 a11 a12 (mor np nu nl la a0 a1 a2 a4 a5 a6 a7 a8 cNo) ↔ fw = 41 := by
      rw [wayP_iff]
      constructor
      · intro z
        rcases r2 with y | ⟨i, hi, y1, _⟩
        · exact y
        · rw [z i hi] at y1; exact absurd y1 (by decide)
      · intro z k hk
        by_cases y : badC a10 a11 a12 (mor np nu nl la a0 a1 a2 a4 a5 a6 a7 a8 cNo) k = true
        · have y2 := r3 k hk y
          obtain ⟨_, d, hd, ed⟩ := H.cl k hk
          rw [ed, nn_nat (by omega)] at y2
          omega
        · simpa using y
    by_cases q : fw = 41
    · have h26 : (1 : Int32) = (if wayP nc a10 a11 a12 (mor np nu nl la a0 a1 a2 a4 a5 a6 a7 a8 cNo) then 1 else 0) := (if_pos (hw.mpr q)).symm
      obtain ⟨A', g2, t2, h2, e2, hA⟩ := pc_search101 H hb r1 r4 r3 r2 h26 (p0 := 1) (K := (fun l3_101 ma31_101 mg24_101 ma33_101 ma32_101 => some ((1 : Int32), lc, (1 : Int32), ma31_101, mg24_101, ma33_101, ma32_101))) 41 0 200000 g' t' h' a31 (by omega) (by omega) (fun j hj => absurd hj (by omega))
      refine ⟨lc, 1, A', g2, t2, h2, ?_, h26, hA⟩
      refine Eq.trans (Eq.trans rfl ee) ?_
      rw [if_pos (by rw [q]; rfl)]
      exact e2
    · have h26 : (0 : Int32) = (if wayP nc a10 a11 a12 (mor np nu nl la a0 a1 a2 a4 a5 a6 a7 a8 cNo) then 1 else 0) := (if_neg (fun z => q (hw.mp z))).symm
      obtain ⟨A', g2, t2, h2, e2, hA⟩ := pc_search101 H hb r1 r4 r3 r2 h26 (p0 := 1) (K := (fun l3_101 ma31_101 mg24_101 ma33_101 ma32_101 => some ((1 : Int32), lc, (0 : Int32), ma31_101, mg24_101, ma33_101, ma32_101))) 41 0 200000 g' t' h' a31 (by omega) (by omega) (fun j hj => absurd hj (by omega))
      refine ⟨lc, 0, A', g2, t2, h2, ?_, h26, hA⟩
      refine Eq.trans (Eq.trans rfl ee) ?_
      rw [if_neg (by rw [n41_, nn_inj (by omega) (by omega)]; exact q)]
      exact e2
  · exact ⟨g27, g26, a31, g24, a33, a32, by rw [if_neg (by decide)], hs⟩
end WAYS
