/-! THE PURE PART: county() -/
theorem x_county {tp : Nat} {g0 g1 g2 g3 g4 g5 g6 g7 g8 g9 g10 g11 g12 g13 g14 g15 g17 g18 g19 g20 g21 g22 g23 g24 g25 g26 g27 g28 g29 g30 g31 g32 g33 g34 g35 g36 : Int32} {a0 a1 a2 a3 a4 a5 a6 a7 a8 a9 a10 a11 a12 a13 a14 a15 a16 a17 a18 a19 a20 a21 a22 a23 a24 a25 a26 a27 a28 a29 a30 a31 a32 a33 a34 a35 a36 a37 a38 a39 : pA} {b0 b1 b2 b3 b4 : Nat → Int64} {w0 : Int64} {G0 G1 G2 G4 G5 G6 G7 G8 G9 G10 G11 G12 G13 G14 G15 G16 G17 G18 : Int32} {A0 A1 A2 A3 A4 A5 A6 A7 A8 A9 : pA} {W0 : Int64} {k0 k1 k2 k3 k4 k5 k6 k7 k8 k9 k10 k11 k12 k13 k14 k15 : xC} {cv rv : Value} {P : Prop} {n : Nat} (T : Tp tp a13 A0) (hn : n ≤ tp) (h1 : cn A1) (hk : ∀ n, 27 ≤ n → n < 43 → xnrH n [k0, k1, k2, k3, k4, k5, k6, k7, k8, k9, k10, k11, k12, k13, k14, k15] = true) (hc : ∀ n, 27 ≤ n → n < 43 → xnr n cv = true ∧ xnr n rv = true)
    (bad : ∀ {c : Int32} {s1 : Nat} {len_c next_c td_c la_c gu_c ra_c np_c nu_c nl_c nc_c tok_c got_c : Int32} {val_c : Int64} {WA_c OA_c XA_c DA_c cW_c cO_c cX_c cD_c K1_c K2_c K3_c K4_c S_c : pA} {UN_c PN_c : Nat → Int64} {srt_r pl_r sp_r num_r nc_r nl_r N_r nu_r np_r L_r G_r Rn_r : Int32} {wrd_r : Int64} {cA_r cB_r cC_r WB_r OB_r XB_r DB_r NS_r NO_r H1_r H2_r H3_r H4_r SR_r : pA} {NA_r : Nat → Int64}, ¬ c ≤ 0 → xMet xks YX7_county 40 0 0 [.ref 0, .int (nn n)] (hA g0 g1 g2 g3 g4 g5 g6 g7 g8 g9 g10 g11 g12 g13 g14 g15 (nn tp) g17 g18 g19 g20 g21 g22 g23 g24 g25 g26 g27 g28 g29 g30 g31 g32 g33 g34 g35 g36 a0 a1 a2 a3 a4 a5 a6 a7 a8 a9 a10 a11 a12 a13 a14 a15 a16 a17 a18 a19 a20 a21 a22 a23 a24 a25 a26 a27 a28 a29 a30 a31 a32 a33 a34 a35 a36 a37 a38 a39 b0 b1 b2 b3 b4 w0 (.ref 19) (.ref 1)) (some (.int (-1))) (hA g0 g1 g2 g3 g4 g5 g6 (la_c) (gu_c) (ra_c) (np_c) (nu_c) (nl_c) (nc_c) (c) (nn s1) (0) (len_c) (next_c) (tok_c) (got_c) (td_c) g22 g23 g24 g25 g26 g27 g28 g29 g30 g31 (c) (nn s1) 4 g35 g36 a0 a1 a2 a3 a4 a5 a6 a7 a8 a9 a10 a11 a12 a13 (S_c) (K1_c) (K2_c) (K3_c) (K4_c) (WA_c) (OA_c) (XA_c) (DA_c) (cW_c) (cO_c) (cX_c) (cD_c) a27 a28 a29 a30 a31 a32 a33 a34 a35 a36 a37 a38 a39 (PN_c) (UN_c) b2 b3 b4 (val_c) (.ref 19) (.ref 1)) → xMet xks YX9_county 40 16 164 [.ref 0, .int (nn n)] (hQ G0 G1 G2 (nn tp) G4 G5 G6 G7 G8 G9 G10 G11 G12 G13 G14 G15 G16 G17 G18 A0 A1 A2 A3 A4 A5 A6 A7 A8 A9 W0 k0 k1 k2 k3 k4 k5 k6 k7 k8 k9 k10 k11 k12 k13 k14 k15 cv rv) (some (.int (-1))) (hP (0 : Int32) (4 : Int32) (nn s1) (0 : Int32) (nn n) (sp_r) (srt_r) (pl_r) (num_r) (c) (nn s1) G11 G12 G13 G14 G15 G16 G17 G18 (L_r) (G_r) (Rn_r) (np_r) (nu_r) (nl_r) (nc_r) (N_r) A0 A1 A2 A3 A4 A5 A6 A7 A8 A9 (SR_r) (H1_r) (H2_r) (H3_r) (H4_r) (WB_r) (OB_r) (XB_r) (DB_r) (cA_r) (cB_r) (cC_r) (NS_r) (NO_r) (NA_r) (wrd_r) k0 k1 k2 k3 k4 k5 k6 k7 k8 k9 k10 k11 k12 k13 k14 k15 cv (.ref 27)) → P)
    (good : ∀ {s k : Nat} {num got dd : Int32} {val wrd : Int64} {np nu nl nc : Nat} {td la gu ra L G Rn : Int32} {S K1 K2 K3 K4 WA OA XA DA cW cO cX cD SR H1 H2 H3 H4 WB OB XB DB cA cB cC : pA} {PN UN NA : Nat → Int64} {NS NO : pA} {hh ht ph pt : pA} {pb : Nat → Int64}, 1 ≤ np → 1 ≤ nu → td = 1 → RC np nu nl nc td la gu ra L G Rn S K1 K2 K3 K4 WA OA XA DA cO cX cD SR H1 H2 H3 H4 WB OB XB DB cA cB cC → mkr hh ht 0 = sStart nu K1 S K4 → (∀ j, j ≤ 41 → pb j = ll (pkR (morF nu np la K1 S K2 K4 nl WA OA XA DA cNo j))) → xMet xks YX7_county 40 0 0 [.ref 0, .int (nn n)] (hA g0 g1 g2 g3 g4 g5 g6 g7 g8 g9 g10 g11 g12 g13 g14 g15 (nn tp) g17 g18 g19 g20 g21 g22 g23 g24 g25 g26 g27 g28 g29 g30 g31 g32 g33 g34 g35 g36 a0 a1 a2 a3 a4 a5 a6 a7 a8 a9 a10 a11 a12 a13 a14 a15 a16 a17 a18 a19 a20 a21 a22 a23 a24 a25 a26 a27 a28 a29 a30 a31 a32 a33 a34 a35 a36 a37 a38 a39 b0 b1 b2 b3 b4 w0 (.ref 19) (.ref 1)) (some (.int (nn nu))) (hA g0 g1 g2 g3 g4 g5 g6 (la) (gu) (ra) (nn np) (nn nu) (nn nl) (nn nc) (0) (nn s) (0) (nn n) (nn k) (0) (got) (td) 0 g23 dd 0 g26 g27 g28 g29 g30 g31 (0) (nn s) 0 (0 : Int32) (0 : Int32) a0 a1 a2 a3 a4 a5 a6 a7 a8 a9 a10 a11 a12 a13 (S) (K1) (K2) (K3) (K4) (WA) (OA) (XA) (DA) (cW) (cO) (cX) (cD) hh ht a29 a30 a31 ph pt a34 a35 a36 a37 a38 a39 (PN) (UN) pb b3 b4 (val) (.ref 1) (.ref 19)) → xMet xks YX9_county 40 16 164 [.ref 0, .int (nn n)] (hQ G0 G1 G2 (nn tp) G4 G5 G6 G7 G8 G9 G10 G11 G12 G13 G14 G15 G16 G17 G18 A0 A1 A2 A3 A4 A5 A6 A7 A8 A9 W0 k0 k1 k2 k3 k4 k5 k6 k7 k8 k9 k10 k11 k12 k13 k14 k15 cv rv) (some (.int (nn nu))) (hP (0 : Int32) 0 (-1) (0 : Int32) (nn n) (nn k) (1) (nn s) (num) (0) (G10) (0 : Int32) (0 : Int32) G13 G14 G15 G16 G17 G18 (L) (G) (Rn) (nn np) (nn nu) (nn nl) (nn nc) (nn (np + nu)) A0 (sStart nu H1 SR H4) A2 A3 A4 A5 A6 A7 A8 A9 (SR) (H1) (H2) (H3) (H4) (WB) (OB) (XB) (DB) (cA) (cB) (cC) (NS) (NO) (NA) (wrd) k0 k1 k2 k3 k4 k5 k6 k7 k8 k9 k10 k11 k12 k13 k14 k15 (.ref 27) (.ref 27)) → P) : P := by
  have ht := T.1
  have T' : tpe n a13 A0 := ⟨by omega, fun k hk => T.2 k (by omega)⟩
  have hx : nn n ≤ nn tp := by rw [nn_le (by omega) (by omega)]; exact hn
  have h0 : ¬ nn n < (0 : Int32) := by rw [show (0 : Int32) = nn 0 from rfl, nn_lt (by omega) (by omega)]; omega
  refine q_read T' hx (Q := fun o o' => (e_hA_X5_read g14 (nn tp) g17 g18 g21 g7 g8 g9 g10 g11 g12 g13 g15 w0 g19 a13 b1 g20 a22 a19 a20 a21 b0 a23 a24 a25 a26 a15 a16 a17 a18 a14 (nn n)) = o → ((e_hP_X9_goesOn (0 : Int32) (0 : Int32) (nn n) A0 G7 G8 W0).bind fun z60 => e_hP_X9_readAll z60.2.1 (0 : Int32) (0 : Int32) z60.1 G10 (0 : Int32) z60.2.2.2.2 (0 : Int32) (0 : Int32) z60.2.2.1 (nn n) A0 z60.2.2.2.1 (0 : Int32) (fun _ => 0) (fun _ => 0) (fun _ => 0) (fun _ => 0) (fun _ => 0) (fun _ => 0) (0 : Int32) (fun _ => 0) (fun _ => 0) (fun _ => 0) (fun _ => 0) (fun _ => 0) (fun _ => 0) (fun _ => 0) (fun _ => 0) (fun _ => 0) (0 : Int32) (0 : Int32)) = o' → P) (q4 := G7) (q5 := G8) (q6 := W0) (wa := G10) ?_ ?_ rfl rfl
  · intro c s1 z z' hB eA eB
    obtain ⟨f0, c1_, len_c, t0, next_c, td_c, la_c, gu_c, ra_c, np_c, nu_c, nl_c, nc_c, st_, val_c, tok_c, got_c, WA_c, OA_c, XA_c, DA_c, cW_c, cO_c, cX_c, cD_c, UN_c, K1_c, K2_c, K3_c, K4_c, PN_c, S_c⟩ := z
    obtain ⟨c2_, wa2_, srt_r, pl_r, sp_r, num_r, wrd_r, cA_r, cB_r, cC_r, nc_r, WB_r, OB_r, XB_r, DB_r, nl_r, NA_r, NS_r, NO_r, N_r, H1_r, H2_r, H3_r, H4_r, nu_r, SR_r, np_r, L_r, G_r, Rn_r⟩ := z'
    obtain ⟨c0, q1, q2, q3, q4, q5, q6⟩ := hB
    dsimp only at q1 q2 q3 q4 q5 q6
    have q2 := q2.symm
    have q5 := q5.symm
    subst q1 q2 q3 q4 q5 q6
    have cA : e_hA_X7_county g34 (nn tp) g14 g17 g18 g21 g7 g8 g9 g10 g11 g12 g13 g15 w0 g19 a13 b1 g20 a22 a19 a20 a21 b0 a23 a24 a25 a26 a15 a16 a17 a18 a14 g32 g33 g22 a27 a28 g25 g24 a32 a33 b2 g35 g36 (nn n) = some ((-1), 4, (c), (len_c), (0), (next_c), (td_c), (la_c), (gu_c), (ra_c), (np_c), (nu_c), (nl_c), (nc_c), (nn s1), (val_c), (tok_c), (got_c), (WA_c), (OA_c), (XA_c), (DA_c), (cW_c), (cO_c), (cX_c), (cD_c), (UN_c), (K1_c), (K2_c), (K3_c), (K4_c), (PN_c), (S_c), (c), (nn s1), (.ref 19), (.ref 1), g22, a27, a28, g25, g24, a32, a33, b2, g35, g36) := by
      unfold e_hA_X7_county
      rw [if_neg h0, if_pos hx, eA, Option.bind_some, if_pos rfl]
      rfl
    have cB : e_hQ_X9_county G0 (nn tp) G4 G5 G9 G6 A0 G7 G8 W0 G10 A1 G11 G12 G1 G2 (nn n) cv rv = some ((-1 : Int32), (0 : Int32), (nn n), (0 : Int32), (sp_r), (c), (L_r), (G_r), (Rn_r), (np_r), (nu_r), (nl_r), (nc_r), (N_r), (SR_r), (H1_r), (H2_r), (H3_r), (H4_r), (WB_r), (OB_r), (XB_r), (DB_r), (cA_r), (cB_r), (cC_r), (NS_r), (NO_r), (NA_r), (.ref 27), (srt_r), (pl_r), (num_r), (wrd_r), (nn s1), cv, A1, G11, G12, (4 : Int32), (nn s1)) := by
      unfold e_hQ_X9_county
      rw [← Option.bind_assoc, eB, Option.bind_some, if_neg c0]
    exact bad c0 ((t_hA_X7_county (nn n) _ cA 29).up rfl) (t_hQ_X9_countyS (nn n) hk hc h0 hx _ cB 27)
  · intro s k num got val wrd np nu nl nc td la gu ra L G Rn S K1 K2 K3 K4 WA OA XA DA cW cO cX cD SR H1 H2 H3 H4 WB OB XB DB cA cB cC PN UN NA NS NO hkn np1 nu1 td1 C eA eB
    have hp := C.1.1
    have hu := C.1.2.1
    have hl := C.1.2.2.1
    obtain ⟨c1, c2, c3, c4, c5, c6, c7, c8, c9, c10, c11⟩ := C.2.2.2
    have hla : (0 : Int32) < la := by
      obtain ⟨_, _, _, _, ⟨j, j1, j2, j3⟩, _⟩ := C.T1 td1
      rw [j3, show (0 : Int32) = nn 0 from rfl, nn_lt (by omega) (by omega)]
      omega
    obtain ⟨hh, ht, be1, be2⟩ := qc_begin hu hp (kind := K1) (sort := S) (w := K4) c8 g22 a27 a28
    obtain ⟨dd, ph, pt, pb, d1, d2⟩ := qc_cbegin hu hp hl hla c10 c8 g25 g24 a32 a33 b2 (kind := K1) (sort := S) (lands := K2) (dy := DA)
    have st := qr_startsP hu hp (kind := H1) (sort := SR) (w := H4) (x := A1) (fun u hu' => by rw [← c5 u hu']; exact c8 u hu') h1
    have eA' : e_hA_X7_county g34 (nn tp) g14 g17 g18 g21 g7 g8 g9 g10 g11 g12 g13 g15 w0 g19 a13 b1 g20 a22 a19 a20 a21 b0 a23 a24 a25 a26 a15 a16 a17 a18 a14 g32 g33 g22 a27 a28 g25 g24 a32 a33 b2 g35 g36 (nn n) = some ((nn nu), 0, (0), (nn n), (0), (nn k), (td), (la), (gu), (ra), (nn np), (nn nu), (nn nl), (nn nc), (nn s), (val), (0), (got), (WA), (OA), (XA), (DA), (cW), (cO), (cX), (cD), (UN), (K1), (K2), (K3), (K4), (PN), (S), (0), (nn s), (.ref 1), (.ref 19), 0, hh, ht, 0, dd, ph, pt, pb, (0 : Int32), (0 : Int32)) := by
      unfold e_hA_X7_county
      rw [if_neg h0, if_pos hx, eA, Option.bind_some, if_neg (show ¬ (1 : Int32) = 0 from by decide)]
      unfold e_hA_X5_exchangeFor
      rw [Option.bind_some]
      dsimp only
      rw [be1, Option.bind_some]
      dsimp only
      rw [d1, Option.bind_some]
      rfl
    have eB' : e_hQ_X9_county G0 (nn tp) G4 G5 G9 G6 A0 G7 G8 W0 G10 A1 G11 G12 G1 G2 (nn n) cv rv = some ((nn nu), (0 : Int32), (nn n), (0 : Int32), (nn k), (0), (L), (G), (Rn), (nn np), (nn nu), (nn nl), (nn nc), (nn (np + nu)), (SR), (H1), (H2), (H3), (H4), (WB), (OB), (XB), (DB), (cA), (cB), (cC), (NS), (NO), (NA), (.ref 27), (1), (nn s), (num), (wrd), (G10), (.ref 27), (sStart nu H1 SR H4), (0 : Int32), (0 : Int32), 0, (-1)) := by
      unfold e_hQ_X9_county
      rw [← Option.bind_assoc, eB, Option.bind_some, if_pos (show (0 : Int32) ≤ 0 from by decide)]
      dsimp only
      rw [st, Option.bind_some]
      rfl
    exact good np1 nu1 td1 C be2 d2 ((t_hA_X7_county (nn n) _ eA' 29).up rfl) (t_hQ_X9_countyS (nn n) hk hc h0 hx _ eB' 27)
