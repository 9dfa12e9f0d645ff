/-! THE PURE PART: by the log -/
theorem la_pos {la : Int32} (h : ∃ k, 1 ≤ k ∧ k ≤ 30 ∧ la = nn k) : (0 : Int32) < la := by
  obtain ⟨k, h1, h2, rfl⟩ := h
  rw [show (0 : Int32) = nn 0 from rfl, nn_lt (by omega) (by omega)]
  omega
section LOGQ
variable {np nu nl nc tp na nm : Nat} {la gu ra : Int32} {g7 g8 g9 g10 g11 g12 g13 g14 g15 g17 g18 g19 g20 g21 g22 g23 g24 g25 g26 g27 g28 g29 g30 g31 g32 g33 g34 : Int32} {a0 a1 a2 a3 a4 a5 a6 a7 a8 a9 a10 a11 a12 a13 a14 a15 a16 a17 a18 a19 a20 a21 a22 a23 a24 a25 a26 a27 a28 a29 a30 a31 a32 a33 a34 a35 a36 a37 a38 a39 : pA} {b0 b1 b2 b3 b4 : Nat → Int64} {w0 : Int64}
variable {G0 G2 G4 G5 G6 G7 G8 G10 G13 G14 G15 G16 G17 G18 G26 : Int32} {A0 A2 A3 A4 A5 A6 A7 A8 A9 A10 A11 A12 A13 A14 A15 A16 A17 A18 A19 A20 A21 A22 A23 : pA} {B0 : Nat → Int64} {W0 : Int64} {rb : Nat}
theorem mor_ok (H : Cty np nu nl nc la gu ra a0 a1 a2 a3 a4 a5 a6 a7 a8 a10 a11 a12 A10 A11 A12 A13 A14 A15 A16 A17 A18 A19 A20 A21) {C : Nat → pA → pA} (hC : ∀ d r, wr np r → cn r → wr np (C d r) ∧ cn (C d r)) : ∀ d, wr np (mor np nu nl la a0 a1 a2 a4 a5 a6 a7 a8 C d) ∧ cn (mor np nu nl la a0 a1 a2 a4 a5 a6 a7 a8 C d) := by
  obtain ⟨⟨hp1, hp, hn1, hn, hl, hc⟩, ⟨hla, hgu, hra⟩, eS, eK, eL, eR, eW, bL, bR, wW, eG, oG, eC⟩ := H
  exact morF_ok hn hp (la_pos hla) oG wW hC
theorem mor_eq (H : Cty np nu nl nc la gu ra a0 a1 a2 a3 a4 a5 a6 a7 a8 a10 a11 a12 A10 A11 A12 A13 A14 A15 A16 A17 A18 A19 A20 A21) {C : Nat → pA → pA} (hC : ∀ d r, wr np r → cn r → wr np (C d r) ∧ cn (C d r)) : ∀ d, morF nu np la A11 A10 A12 A14 nl A15 A16 A17 A18 C d = mor np nu nl la a0 a1 a2 a4 a5 a6 a7 a8 C d := by
  intro d
  obtain ⟨⟨hp1, hp, hn1, hn, hl, hc⟩, ⟨hla, hgu, hra⟩, eS, eK, eL, eR, eW, bL, bR, wW, eG, oG, eC⟩ := H
  unfold mor morF
  rw [← sStart_congr hp eK eS eW wW]
  exact (sRun_congr (dayF_ok hn hp (la_pos hla) oG) hC (sStart_wr wW) (sStart_cn _ _ _ _) (fun d r h1 h2 => sDay_congr hn hp eK eS eL eG oG h1 h2) d).symm
theorem oGr (H : Cty np nu nl nc la gu ra a0 a1 a2 a3 a4 a5 a6 a7 a8 a10 a11 a12 A10 A11 A12 A13 A14 A15 A16 A17 A18 A19 A20 A21) : ∀ k, k < nl → lgOk nu np A15 A16 A17 k := lgOk_congr H.2.2.2.2.2.2.2.2.2.2.1 H.2.2.2.2.2.2.2.2.2.2.2.1
theorem wWr (H : Cty np nu nl nc la gu ra a0 a1 a2 a3 a4 a5 a6 a7 a8 a10 a11 a12 A10 A11 A12 A13 A14 A15 A16 A17 A18 A19 A20 A21) : ∀ u, u < nu → wv np (A14 u) := fun u hu => by
  rw [← H.2.2.2.2.2.2.1 u hu]; exact H.2.2.2.2.2.2.2.2.2.1 u hu
theorem C_hasIt (I : IC np nu nl nc tp na nm la gu ra g22 g25 g26 g33 g34 G2 a0 a1 a2 a3 a4 a5 a6 a7 a8 a10 a11 a12 a13 a27 a28 a31 b2 b3 b4 A0 A2 A3 A4 A10 A11 A12 A13 A14 A15 A16 A17 A18 A19 A20 A21) (x1 x2 : Int32) : ∃ (v : Int32) (g24' : Int32) (a33' : (Nat → Int32)) (a32' : (Nat → Int32)) (c : Int32) (A2' : (Nat → Int32)), e_hA_X7_hasIt (nn nu) b2 g24 a33 a32 g34 x1 x2 = some (v, g24', a33', a32', c) ∧ e_hB_X9_hasIt G0 (nn nu) A2 A11 A10 A14 (nn nl) A18 A16 A15 A17 la (nn np) A12 g34 G2 x1 x2 = some (v, 0, A2', c, (-1)) ∧ c ≠ 4 ∧ cn A2' := by
  obtain ⟨⟨hp1, hp, hn1, hn, hl, hc⟩, ⟨hla, hgu, hra⟩, eS, eK, eL, eR, eW, bL, bR, wW, eG, oG, eC⟩ := I.1
  have hX := mor_ok I.1 (C := cNo) cNo_ok
  rcases isU_cases hn x1 with ⟨h1, h2⟩ | ⟨u, hu, rfl, h1, h2⟩
  · exact ⟨-1, g24, a33, a32, 1, A2, by unfold e_hA_X7_hasIt; rw [h1]; rfl, by unfold e_hB_X9_hasIt; rw [h2]; rfl, by decide, I.2.2.2.1⟩
  · rcases isD_cases x2 with ⟨h3, h4⟩ | ⟨d, hd, rfl, h3, h4⟩
    · exact ⟨-1, g24, a33, a32, 2, A2, by unfold e_hA_X7_hasIt; rw [h1, Option.bind_some, if_neg (by decide), h3]; rfl, by unfold e_hB_X9_hasIt e_hB_X9_asks; rw [h2, Option.bind_some, if_neg (by decide), h4]; rfl, by decide, I.2.2.2.1⟩
    · obtain ⟨d', t', h', e1, e2⟩ := qc_behind hp hX I.2.2.2.2.2.2.1.1 g24 a33 a32 hd
      refine ⟨mor np nu nl la a0 a1 a2 a4 a5 a6 a7 a8 cNo (d + 1) u, d', t', h', 0, mor np nu nl la a0 a1 a2 a4 a5 a6 a7 a8 cNo (d + 1), ?_, ?_, by decide, (hX (d + 1)).2⟩
      · unfold e_hA_X7_hasIt
        rw [h1, Option.bind_some, if_neg (by decide), h3, Option.bind_some, if_neg (by decide), e1, Option.bind_some, xix_nn (by omega) (by omega), nn_nat (by omega), ← e2, mkr_h (by omega)]
        rfl
      · unfold e_hB_X9_hasIt e_hB_X9_asks
        rw [h2, Option.bind_some, if_neg (by decide), h4, Option.bind_some, if_neg (by decide), qr_behind hn hp hl (la_pos hla) (oGr I.1) (wWr I.1) hd I.2.2.2.1, mor_eq I.1 cNo_ok (d + 1)]
        simp (disch := omega) only [Option.bind_some, nn_0add, nn_5add, xix_nn, nn_nat]
        rfl
theorem C_titleOf (I : IC np nu nl nc tp na nm la gu ra g22 g25 g26 g33 g34 G2 a0 a1 a2 a3 a4 a5 a6 a7 a8 a10 a11 a12 a13 a27 a28 a31 b2 b3 b4 A0 A2 A3 A4 A10 A11 A12 A13 A14 A15 A16 A17 A18 A19 A20 A21) (x1 x2 : Int32) : ∃ (v : Int32) (g24' : Int32) (a33' : (Nat → Int32)) (a32' : (Nat → Int32)) (c : Int32) (A2' : (Nat → Int32)), e_hA_X7_titleOf (nn nu) b2 g24 a33 a32 g34 x1 x2 = some (v, g24', a33', a32', c) ∧ e_hB_X9_titleOf G0 (nn nu) A2 A11 A10 A14 (nn nl) A18 A16 A15 A17 la (nn np) A12 g34 G2 x1 x2 = some (v, 0, A2', c, (-1)) ∧ c ≠ 4 ∧ cn A2' := by
  obtain ⟨⟨hp1, hp, hn1, hn, hl, hc⟩, ⟨hla, hgu, hra⟩, eS, eK, eL, eR, eW, bL, bR, wW, eG, oG, eC⟩ := I.1
  have hX := mor_ok I.1 (C := cNo) cNo_ok
  rcases isU_cases hn x1 with ⟨h1, h2⟩ | ⟨u, hu, rfl, h1, h2⟩
  · exact ⟨-1, g24, a33, a32, 1, A2, by unfold e_hA_X7_titleOf; rw [h1]; rfl, by unfold e_hB_X9_titleOf; rw [h2]; rfl, by decide, I.2.2.2.1⟩
  · rcases isD_cases x2 with ⟨h3, h4⟩ | ⟨d, hd, rfl, h3, h4⟩
    · exact ⟨-1, g24, a33, a32, 2, A2, by unfold e_hA_X7_titleOf; rw [h1, Option.bind_some, if_neg (by decide), h3]; rfl, by unfold e_hB_X9_titleOf e_hB_X9_asks; rw [h2, Option.bind_some, if_neg (by decide), h4]; rfl, by decide, I.2.2.2.1⟩
    · obtain ⟨d', t', h', e1, e2⟩ := qc_behind hp hX I.2.2.2.2.2.2.1.1 g24 a33 a32 hd
      refine ⟨mor np nu nl la a0 a1 a2 a4 a5 a6 a7 a8 cNo (d + 1) (5 + u), d', t', h', 0, mor np nu nl la a0 a1 a2 a4 a5 a6 a7 a8 cNo (d + 1), ?_, ?_, by decide, (hX (d + 1)).2⟩
      · unfold e_hA_X7_titleOf
        rw [h1, Option.bind_some, if_neg (by decide), h3, Option.bind_some, if_neg (by decide), e1, Option.bind_some, xix_nn (by omega) (by omega), nn_nat (by omega), ← e2, mkr_t (by omega)]
        rfl
      · unfold e_hB_X9_titleOf e_hB_X9_asks
        rw [h2, Option.bind_some, if_neg (by decide), h4, Option.bind_some, if_neg (by decide), qr_behind hn hp hl (la_pos hla) (oGr I.1) (wWr I.1) hd I.2.2.2.1, mor_eq I.1 cNo_ok (d + 1)]
        simp (disch := omega) only [Option.bind_some, nn_0add, nn_5add, xix_nn, nn_nat]
        rfl
theorem C_landsOf (I : IC np nu nl nc tp na nm la gu ra g22 g25 g26 g33 g34 G2 a0 a1 a2 a3 a4 a5 a6 a7 a8 a10 a11 a12 a13 a27 a28 a31 b2 b3 b4 A0 A2 A3 A4 A10 A11 A12 A13 A14 A15 A16 A17 A18 A19 A20 A21) (x1 x2 : Int32) : ∃ (v : Int32) (g24' : Int32) (a33' : (Nat → Int32)) (a32' : (Nat → Int32)) (c : Int32) (A2' : (Nat → Int32)), e_hA_X7_landsOf (nn np) b2 g24 a33 a32 (nn nu) a2 g34 x1 x2 = some (v, g24', a33', a32', c) ∧ e_hB_X9_landsOf G0 (nn np) A2 (nn nu) A11 A10 A14 (nn nl) A18 A16 A15 A17 la A12 g34 G2 x1 x2 = some (v, 0, A2', c, (-1)) ∧ c ≠ 4 ∧ cn A2' := by
  obtain ⟨⟨hp1, hp, hn1, hn, hl, hc⟩, ⟨hla, hgu, hra⟩, eS, eK, eL, eR, eW, bL, bR, wW, eG, oG, eC⟩ := I.1
  have hX := mor_ok I.1 (C := cNo) cNo_ok
  rcases isP_cases hp x1 with ⟨h1, h2⟩ | ⟨u, hu, rfl, h1, h2⟩
  · exact ⟨-1, g24, a33, a32, 1, A2, by unfold e_hA_X7_landsOf; rw [h1]; rfl, by unfold e_hB_X9_landsOf; rw [h2]; rfl, by decide, I.2.2.2.1⟩
  · rcases isD_cases x2 with ⟨h3, h4⟩ | ⟨d, hd, rfl, h3, h4⟩
    · exact ⟨-1, g24, a33, a32, 2, A2, by unfold e_hA_X7_landsOf; rw [h1, Option.bind_some, if_neg (by decide), h3]; rfl, by unfold e_hB_X9_landsOf e_hB_X9_asks; rw [h2, Option.bind_some, if_neg (by decide), h4]; rfl, by decide, I.2.2.2.1⟩
    · obtain ⟨d', t', h', e1, e2⟩ := qc_behind hp hX I.2.2.2.2.2.2.1.1 g24 a33 a32 hd
      refine ⟨pLands t' a2 (nn u) nu 0 0, d', t', h', 0, mor np nu nl la a0 a1 a2 a4 a5 a6 a7 a8 cNo (d + 1), ?_, ?_, by decide, (hX (d + 1)).2⟩
      · unfold e_hA_X7_landsOf
        rw [h1, Option.bind_some, if_neg (by decide), h3, Option.bind_some, if_neg (by decide), e1, Option.bind_some, qc_landsFor hn]
        rfl
      · unfold e_hB_X9_landsOf e_hB_X9_asks
        rw [h2, Option.bind_some, if_neg (by decide), h4, Option.bind_some, if_neg (by decide), qr_behind hn hp hl (la_pos hla) (oGr I.1) (wWr I.1) hd I.2.2.2.1, mor_eq I.1 cNo_ok (d + 1)]
        simp only [Option.bind_some, qr_landsIn hn]
        rw [← e2, pLands_mkr hn eL]
        rfl
theorem C_lapsed (I : IC np nu nl nc tp na nm la gu ra g22 g25 g26 g33 g34 G2 a0 a1 a2 a3 a4 a5 a6 a7 a8 a10 a11 a12 a13 a27 a28 a31 b2 b3 b4 A0 A2 A3 A4 A10 A11 A12 A13 A14 A15 A16 A17 A18 A19 A20 A21) (x1 : Int32) : ∃ (v : Int32) (g24' : Int32) (a33' : (Nat → Int32)) (a32' : (Nat → Int32)) (c : Int32) (A2' : (Nat → Int32)), e_hA_X7_lapsed (nn nu) b2 g24 a33 a32 a2 g34 x1 = some (v, g24', a33', a32', c) ∧ e_hB_X9_lapsed G0 A2 (nn nu) A11 A10 A14 (nn nl) A18 A16 A15 A17 la (nn np) A12 g34 G2 x1 = some (v, 0, A2', c, (-1)) ∧ c ≠ 4 ∧ cn A2' := by
  obtain ⟨⟨hp1, hp, hn1, hn, hl, hc⟩, ⟨hla, hgu, hra⟩, eS, eK, eL, eR, eW, bL, bR, wW, eG, oG, eC⟩ := I.1
  have hX := mor_ok I.1 (C := cNo) cNo_ok
  have hT := isT1 hn1 hn
  rcases isD_cases x1 with ⟨h3, h4⟩ | ⟨d, hd, rfl, h3, h4⟩
  · exact ⟨-1, g24, a33, a32, 2, A2, by unfold e_hA_X7_lapsed; rw [hT, Option.bind_some, if_neg (by decide), h3]; rfl, by unfold e_hB_X9_lapsed e_hB_X9_asks; rw [if_neg (by decide), h4]; rfl, by decide, I.2.2.2.1⟩
  · obtain ⟨d', t', h', e1, e2⟩ := qc_behind hp hX I.2.2.2.2.2.2.1.1 g24 a33 a32 hd
    refine ⟨pLands t' a2 (-2) nu 0 0, d', t', h', 0, mor np nu nl la a0 a1 a2 a4 a5 a6 a7 a8 cNo (d + 1), ?_, ?_, by decide, (hX (d + 1)).2⟩
    · unfold e_hA_X7_lapsed
      rw [hT, Option.bind_some, if_neg (by decide), h3, Option.bind_some, if_neg (by decide), e1, Option.bind_some, qc_landsFor hn]
      rfl
    · unfold e_hB_X9_lapsed e_hB_X9_asks
      rw [if_neg (by decide), h4, Option.bind_some, if_neg (by decide), qr_behind hn hp hl (la_pos hla) (oGr I.1) (wWr I.1) hd I.2.2.2.1, mor_eq I.1 cNo_ok (d + 1)]
      simp only [Option.bind_some, qr_landsIn hn]
      rw [← e2, pLands_mkr hn eL]
      rfl
end LOGQ
