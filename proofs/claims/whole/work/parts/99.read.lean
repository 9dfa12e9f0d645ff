/-! THE PURE PART: a county is read -/
noncomputable def kA (n : Nat) : zKA := (fun l2_50 l3_50 mg15_50 mw0_50 mg19_50 mg18_50 mg20_50 mg14_50 ma19_50 ma20_50 ma21_50 ma22_50 mg12_50 ma23_50 ma24_50 ma25_50 ma26_50 mg13_50 mb1_50 ma15_50 ma16_50 ma17_50 ma18_50 mg11_50 mb0_50 ma14_50 mg10_50 mg21_50 mg7_50 mg8_50 mg9_50 => if l2_50 = (0 : Int32) then some ((0 : Int32), mg14_50, (nn n), (0 : Int32), mg18_50, mg21_50, mg7_50, mg8_50, mg9_50, mg10_50, mg11_50, mg12_50, mg13_50, mg15_50, mw0_50, mg19_50, mg20_50, ma19_50, ma20_50, ma21_50, ma22_50, ma23_50, ma24_50, ma25_50, ma26_50, mb1_50, ma15_50, ma16_50, ma17_50, ma18_50, mb0_50, ma14_50) else if mg19_50 = (0 : Int32) then if mg10_50 ≤ (0 : Int32) then ((e_hA_X5_fail mg14_50 (6 : Int32)).bind fun z127 => if z127.1 = (0 : Int32) then some ((0 : Int32), z127.2, (nn n), (0 : Int32), mg18_50, mg21_50, mg7_50, mg8_50, mg9_50, mg10_50, mg11_50, mg12_50, mg13_50, mg15_50, mw0_50, mg19_50, mg20_50, ma19_50, ma20_50, ma21_50, ma22_50, ma23_50, ma24_50, ma25_50, ma26_50, mb1_50, ma15_50, ma16_50, ma17_50, ma18_50, mb0_50, ma14_50) else some ((1 : Int32), z127.2, (nn n), (0 : Int32), mg18_50, mg21_50, mg7_50, mg8_50, mg9_50, mg10_50, mg11_50, mg12_50, mg13_50, mg15_50, mw0_50, mg19_50, mg20_50, ma19_50, ma20_50, ma21_50, ma22_50, ma23_50, ma24_50, ma25_50, ma26_50, mb1_50, ma15_50, ma16_50, ma17_50, ma18_50, mb0_50, ma14_50)) else if (0 : Int32) < mg11_50 then some ((1 : Int32), mg14_50, (nn n), (0 : Int32), mg18_50, mg21_50, mg7_50, mg8_50, mg9_50, mg10_50, mg11_50, mg12_50, mg13_50, mg15_50, mw0_50, mg19_50, mg20_50, ma19_50, ma20_50, ma21_50, ma22_50, ma23_50, ma24_50, ma25_50, ma26_50, mb1_50, ma15_50, ma16_50, ma17_50, ma18_50, mb0_50, ma14_50) else ((e_hA_X5_fail mg14_50 (6 : Int32)).bind fun z127 => if z127.1 = (0 : Int32) then some ((0 : Int32), z127.2, (nn n), (0 : Int32), mg18_50, mg21_50, mg7_50, mg8_50, mg9_50, mg10_50, mg11_50, mg12_50, mg13_50, mg15_50, mw0_50, mg19_50, mg20_50, ma19_50, ma20_50, ma21_50, ma22_50, ma23_50, ma24_50, ma25_50, ma26_50, mb1_50, ma15_50, ma16_50, ma17_50, ma18_50, mb0_50, ma14_50) else some ((1 : Int32), z127.2, (nn n), (0 : Int32), mg18_50, mg21_50, mg7_50, mg8_50, mg9_50, mg10_50, mg11_50, mg12_50, mg13_50, mg15_50, mw0_50, mg19_50, mg20_50, ma19_50, ma20_50, ma21_50, ma22_50, ma23_50, ma24_50, ma25_50, ma26_50, mb1_50, ma15_50, ma16_50, ma17_50, ma18_50, mb0_50, ma14_50)) else ((e_hA_X5_fail mg14_50 (1 : Int32)).bind fun z100 => xbo z100.1 (some (z100.1, z100.2, (nn n), (0 : Int32), mg18_50, mg21_50, mg7_50, mg8_50, mg9_50, mg10_50, mg11_50, mg12_50, mg13_50, mg15_50, mw0_50, mg19_50, mg20_50, ma19_50, ma20_50, ma21_50, ma22_50, ma23_50, ma24_50, ma25_50, ma26_50, mb1_50, ma15_50, ma16_50, ma17_50, ma18_50, mb0_50, ma14_50))))
noncomputable def kR : zKR := (fun l1_2 mg9_2 mg10_2 mg6_2 mg7_2 mg5_2 mg8_2 mw0_2 ma19_2 ma20_2 ma21_2 mg25_2 ma15_2 ma16_2 ma17_2 ma18_2 mg24_2 mb0_2 ma22_2 ma23_2 mg26_2 ma11_2 ma12_2 ma13_2 ma14_2 mg23_2 ma10_2 mg22_2 mg19_2 mg20_2 mg21_2 => if mg6_2 = (1 : Int32) then if mg22_2 = (0 : Int32) then ((e_hP_X9_flaw mg6_2 mg9_2 mg7_2 mg10_2 (6 : Int32)).bind fun z54 => some (z54.1, z54.2.1, z54.2.2, mg7_2, mg5_2, mg8_2, mw0_2, ma19_2, ma20_2, ma21_2, mg25_2, ma15_2, ma16_2, ma17_2, ma18_2, mg24_2, mb0_2, ma22_2, ma23_2, mg26_2, ma11_2, ma12_2, ma13_2, ma14_2, mg23_2, ma10_2, mg22_2, mg19_2, mg20_2, mg21_2)) else if mg23_2 = (0 : Int32) then ((e_hP_X9_flaw mg6_2 mg9_2 mg7_2 mg10_2 (6 : Int32)).bind fun z54 => some (z54.1, z54.2.1, z54.2.2, mg7_2, mg5_2, mg8_2, mw0_2, ma19_2, ma20_2, ma21_2, mg25_2, ma15_2, ma16_2, ma17_2, ma18_2, mg24_2, mb0_2, ma22_2, ma23_2, mg26_2, ma11_2, ma12_2, ma13_2, ma14_2, mg23_2, ma10_2, mg22_2, mg19_2, mg20_2, mg21_2)) else some (mg9_2, mg10_2, mg6_2, mg7_2, mg5_2, mg8_2, mw0_2, ma19_2, ma20_2, ma21_2, mg25_2, ma15_2, ma16_2, ma17_2, ma18_2, mg24_2, mb0_2, ma22_2, ma23_2, mg26_2, ma11_2, ma12_2, ma13_2, ma14_2, mg23_2, ma10_2, mg22_2, mg19_2, mg20_2, mg21_2) else ((e_hP_X9_flaw mg6_2 mg9_2 mg7_2 mg10_2 (1 : Int32)).bind fun z28 => if mg22_2 = (0 : Int32) then ((e_hP_X9_flaw z28.2.2 z28.1 mg7_2 z28.2.1 (6 : Int32)).bind fun z54 => some (z54.1, z54.2.1, z54.2.2, mg7_2, mg5_2, mg8_2, mw0_2, ma19_2, ma20_2, ma21_2, mg25_2, ma15_2, ma16_2, ma17_2, ma18_2, mg24_2, mb0_2, ma22_2, ma23_2, mg26_2, ma11_2, ma12_2, ma13_2, ma14_2, mg23_2, ma10_2, mg22_2, mg19_2, mg20_2, mg21_2)) else if mg23_2 = (0 : Int32) then ((e_hP_X9_flaw z28.2.2 z28.1 mg7_2 z28.2.1 (6 : Int32)).bind fun z54 => some (z54.1, z54.2.1, z54.2.2, mg7_2, mg5_2, mg8_2, mw0_2, ma19_2, ma20_2, ma21_2, mg25_2, ma15_2, ma16_2, ma17_2, ma18_2, mg24_2, mb0_2, ma22_2, ma23_2, mg26_2, ma11_2, ma12_2, ma13_2, ma14_2, mg23_2, ma10_2, mg22_2, mg19_2, mg20_2, mg21_2)) else some (z28.1, z28.2.1, z28.2.2, mg7_2, mg5_2, mg8_2, mw0_2, ma19_2, ma20_2, ma21_2, mg25_2, ma15_2, ma16_2, ma17_2, ma18_2, mg24_2, mb0_2, ma22_2, ma23_2, mg26_2, ma11_2, ma12_2, ma13_2, ma14_2, mg23_2, ma10_2, mg22_2, mg19_2, mg20_2, mg21_2)))
def OB (c : Int32) (s1 : Nat) (z : zOA) (z' : zOR) : Prop := ¬ c ≤ 0 ∧ z.1 = 0 ∧ z.2.1 = c ∧ z.2.2.2.1 = 0 ∧ z.2.2.2.2.2.2.2.2.2.2.2.2.2.1 = nn s1 ∧ z'.1 = c ∧ z'.2.1 = nn s1
theorem c_end {n : Nat} {Q : Option zOA → Option zOR → Prop} {i : Int32} (hb : ∀ {c : Int32} {s1 : Nat} {z : zOA} {z' : zOR}, OB c s1 z z' → Q (some z) (some z')) {z : zCT} {z' : zRT} (h : LB z z') : Q (KC (kA n) i z) (KD kR z') := by
  obtain ⟨c, s1, c0, e1, e2, e3, e4, e5, e6⟩ := h
  have k1 : KC (kA n) i z = some (0, z.2.2.2.2.2.2.1, nn n, 0, z.2.2.2.2.1, z.2.2.2.2.2.2.2.2.2.2.2.2.2.2.2.2.2.2.2.2.2.2.2.2.2.2.1, z.2.2.2.2.2.2.2.2.2.2.2.2.2.2.2.2.2.2.2.2.2.2.2.2.2.2.2.1, z.2.2.2.2.2.2.2.2.2.2.2.2.2.2.2.2.2.2.2.2.2.2.2.2.2.2.2.2.1, z.2.2.2.2.2.2.2.2.2.2.2.2.2.2.2.2.2.2.2.2.2.2.2.2.2.2.2.2.2, z.2.2.2.2.2.2.2.2.2.2.2.2.2.2.2.2.2.2.2.2.2.2.2.2.2.1, z.2.2.2.2.2.2.2.2.2.2.2.2.2.2.2.2.2.2.2.2.2.2.1, z.2.2.2.2.2.2.2.2.2.2.2.1, z.2.2.2.2.2.2.2.2.2.2.2.2.2.2.2.2.1, z.2.1, z.2.2.1, z.2.2.2.1, z.2.2.2.2.2.1, z.2.2.2.2.2.2.2.1, z.2.2.2.2.2.2.2.2.1, z.2.2.2.2.2.2.2.2.2.1, z.2.2.2.2.2.2.2.2.2.2.1, z.2.2.2.2.2.2.2.2.2.2.2.2.1, z.2.2.2.2.2.2.2.2.2.2.2.2.2.1, z.2.2.2.2.2.2.2.2.2.2.2.2.2.2.1, z.2.2.2.2.2.2.2.2.2.2.2.2.2.2.2.1, z.2.2.2.2.2.2.2.2.2.2.2.2.2.2.2.2.2.1, z.2.2.2.2.2.2.2.2.2.2.2.2.2.2.2.2.2.2.1, z.2.2.2.2.2.2.2.2.2.2.2.2.2.2.2.2.2.2.2.1, z.2.2.2.2.2.2.2.2.2.2.2.2.2.2.2.2.2.2.2.2.1, z.2.2.2.2.2.2.2.2.2.2.2.2.2.2.2.2.2.2.2.2.2.1, z.2.2.2.2.2.2.2.2.2.2.2.2.2.2.2.2.2.2.2.2.2.2.2.1, z.2.2.2.2.2.2.2.2.2.2.2.2.2.2.2.2.2.2.2.2.2.2.2.2.1) := by
    unfold KC kA
    rw [if_pos e1]
  have k2 : KD kR z' = some (z'.1, z'.2.1, 5, z'.2.2.2.1, z'.2.2.2.2.1, z'.2.2.2.2.2.1, z'.2.2.2.2.2.2.1, z'.2.2.2.2.2.2.2.1, z'.2.2.2.2.2.2.2.2.1, z'.2.2.2.2.2.2.2.2.2.1, z'.2.2.2.2.2.2.2.2.2.2.1, z'.2.2.2.2.2.2.2.2.2.2.2.1, z'.2.2.2.2.2.2.2.2.2.2.2.2.1, z'.2.2.2.2.2.2.2.2.2.2.2.2.2.1, z'.2.2.2.2.2.2.2.2.2.2.2.2.2.2.1, z'.2.2.2.2.2.2.2.2.2.2.2.2.2.2.2.1, z'.2.2.2.2.2.2.2.2.2.2.2.2.2.2.2.2.1, z'.2.2.2.2.2.2.2.2.2.2.2.2.2.2.2.2.2.1, z'.2.2.2.2.2.2.2.2.2.2.2.2.2.2.2.2.2.2.1, z'.2.2.2.2.2.2.2.2.2.2.2.2.2.2.2.2.2.2.2.1, z'.2.2.2.2.2.2.2.2.2.2.2.2.2.2.2.2.2.2.2.2.1, z'.2.2.2.2.2.2.2.2.2.2.2.2.2.2.2.2.2.2.2.2.2.1, z'.2.2.2.2.2.2.2.2.2.2.2.2.2.2.2.2.2.2.2.2.2.2.1, z'.2.2.2.2.2.2.2.2.2.2.2.2.2.2.2.2.2.2.2.2.2.2.2.1, z'.2.2.2.2.2.2.2.2.2.2.2.2.2.2.2.2.2.2.2.2.2.2.2.2.1, z'.2.2.2.2.2.2.2.2.2.2.2.2.2.2.2.2.2.2.2.2.2.2.2.2.2.1, z'.2.2.2.2.2.2.2.2.2.2.2.2.2.2.2.2.2.2.2.2.2.2.2.2.2.2.1, z'.2.2.2.2.2.2.2.2.2.2.2.2.2.2.2.2.2.2.2.2.2.2.2.2.2.2.2.1, z'.2.2.2.2.2.2.2.2.2.2.2.2.2.2.2.2.2.2.2.2.2.2.2.2.2.2.2.2.1, z'.2.2.2.2.2.2.2.2.2.2.2.2.2.2.2.2.2.2.2.2.2.2.2.2.2.2.2.2.2) := by
    unfold KD kR
    rw [if_neg (show ¬ z'.2.2.1 = 1 from by rw [e6]; decide), e6, fl5, Option.bind_some]
    dsimp only
    rw [fl5, Option.bind_some]
    by_cases q1 : z'.2.2.2.2.2.2.2.2.2.2.2.2.2.2.2.2.2.2.2.2.2.2.2.2.2.2.1 = 0
    · rw [if_pos q1]
    · rw [if_neg q1]
      by_cases q2 : z'.2.2.2.2.2.2.2.2.2.2.2.2.2.2.2.2.2.2.2.2.2.2.2.2.1 = 0
      · rw [if_pos q2]
      · rw [if_neg q2]
  rw [k1, k2]
  exact hb ⟨c0, rfl, e3, rfl, e2, e4, e5⟩
theorem g_end {n : Nat} {wx : Int32} {Q : Option zOA → Option zOR → Prop} (hb : ∀ {c : Int32} {s1 : Nat} {z : zOA} {z' : zOR}, OB c s1 z z' → Q (some z) (some z'))
    (hg : ∀ {s k : Nat} {num got : Int32} {val wrd : Int64} {np nu nl nc : Nat} {td la gu ra L G Rn : Int32} {S K1 K2 K3 K4 WA OA XA DA cW cO cX cD SR H1 H2 H3 H4 WB OB XB DB cA cB cC : pA} {PN UN NA : Nat → Int64} {NS NO : pA}, k ≤ n → 1 ≤ np → 1 ≤ nu → td = 1 → RC np nu nl nc td la gu ra L G Rn S K1 K2 K3 K4 WA OA XA DA cO cX cD SR H1 H2 H3 H4 WB OB XB DB cA cB cC → Q (some (1, 0, nn n, 0, nn k, td, la, gu, ra, nn np, nn nu, nn nl, nn nc, nn s, val, 0, got, WA, OA, XA, DA, cW, cO, cX, cD, UN, K1, K2, K3, K4, PN, S)) (some (0, wx, 1, nn s, nn k, num, wrd, cA, cB, cC, nn nc, WB, OB, XB, DB, nn nl, NA, NS, NO, nn (np + nu), H1, H2, H3, H4, nn nu, SR, nn np, L, G, Rn)))
    {i : Int32} {s k : Nat} {tok srt num got wa : Int32} {val wrd : Int64} {np nu nl nc : Nat} {td la gu ra L G Rn : Int32} {S K1 K2 K3 K4 WA OA XA DA cW cO cX cD SR H1 H2 H3 H4 WB OB XB DB cA cB cC : pA} {PN UN NA : Nat → Int64} {NS NO : pA} (hwa : wa = wx) (R : RS n s k tok srt num val wrd) (C : RC np nu nl nc td la gu ra L G Rn S K1 K2 K3 K4 WA OA XA DA cO cX cD SR H1 H2 H3 H4 WB OB XB DB cA cB cC) : Q (KC (kA n) i (1, nn s, val, tok, nn k, got, 0, WA, OA, XA, DA, nn nl, cW, cO, cX, cD, nn nc, UN, K1, K2, K3, K4, nn nu, PN, S, nn np, td, la, gu, ra)) (KD kR (0, wa, srt, nn s, nn k, num, wrd, cA, cB, cC, nn nc, WB, OB, XB, DB, nn nl, NA, NS, NO, nn (np + nu), H1, H2, H3, H4, nn nu, SR, nn np, L, G, Rn)) := by
  have hp := C.1.1
  have hu := C.1.2.1
  rcases R.2.2.2 with ⟨e1, e2⟩ | ⟨e1, e2, _⟩ | ⟨e1, e2, _⟩ | ⟨e1, e2⟩ | ⟨e1, e2⟩
  · subst e1 e2
    by_cases p0 : np = 0
    · have k1 : KC (kA n) i (1, nn s, val, 0, nn k, got, 0, WA, OA, XA, DA, nn nl, cW, cO, cX, cD, nn nc, UN, K1, K2, K3, K4, nn nu, PN, S, nn np, td, la, gu, ra) = some (0, 6, nn n, 0, nn k, td, la, gu, ra, nn np, nn nu, nn nl, nn nc, nn s, val, 0, got, WA, OA, XA, DA, cW, cO, cX, cD, UN, K1, K2, K3, K4, PN, S) := by
        subst p0
        unfold KC kA
        dsimp only
        rw [if_neg (show ¬ (1 : Int32) = 0 from by decide), if_pos rfl, if_pos (show nn 0 ≤ (0 : Int32) from by decide)]
        rfl
      have k2 : KD kR (0, wa, 1, nn s, nn k, num, wrd, cA, cB, cC, nn nc, WB, OB, XB, DB, nn nl, NA, NS, NO, nn (np + nu), H1, H2, H3, H4, nn nu, SR, nn np, L, G, Rn) = some (6, nn s, 5, nn s, nn k, num, wrd, cA, cB, cC, nn nc, WB, OB, XB, DB, nn nl, NA, NS, NO, nn (np + nu), H1, H2, H3, H4, nn nu, SR, nn np, L, G, Rn) := by
        subst p0
        unfold KD kR
        dsimp only
        rw [if_pos rfl, if_pos (show nn 0 = (0 : Int32) from rfl), fl0 (by decide), Option.bind_some]
      rw [k1, k2]
      exact hb (c := 6) (s1 := s) ⟨by decide, rfl, rfl, rfl, rfl, rfl, rfl⟩
    · have hp0 : ¬ nn np ≤ (0 : Int32) := by rw [show (0 : Int32) = nn 0 from rfl, nn_le (by omega) (by omega)]; omega
      have hp1 : ¬ nn np = (0 : Int32) := by rw [show (0 : Int32) = nn 0 from rfl, nn_inj (by omega) (by omega)]; omega
      by_cases u0 : nu = 0
      · have k1 : KC (kA n) i (1, nn s, val, 0, nn k, got, 0, WA, OA, XA, DA, nn nl, cW, cO, cX, cD, nn nc, UN, K1, K2, K3, K4, nn nu, PN, S, nn np, td, la, gu, ra) = some (0, 6, nn n, 0, nn k, td, la, gu, ra, nn np, nn nu, nn nl, nn nc, nn s, val, 0, got, WA, OA, XA, DA, cW, cO, cX, cD, UN, K1, K2, K3, K4, PN, S) := by
          subst u0
          unfold KC kA
          dsimp only
          rw [if_neg (show ¬ (1 : Int32) = 0 from by decide), if_pos rfl, if_neg hp0, if_neg (show ¬ (0 : Int32) < nn 0 from by decide)]
          rfl
        have k2 : KD kR (0, wa, 1, nn s, nn k, num, wrd, cA, cB, cC, nn nc, WB, OB, XB, DB, nn nl, NA, NS, NO, nn (np + nu), H1, H2, H3, H4, nn nu, SR, nn np, L, G, Rn) = some (6, nn s, 5, nn s, nn k, num, wrd, cA, cB, cC, nn nc, WB, OB, XB, DB, nn nl, NA, NS, NO, nn (np + nu), H1, H2, H3, H4, nn nu, SR, nn np, L, G, Rn) := by
          subst u0
          unfold KD kR
          dsimp only
          rw [if_pos rfl, if_neg hp1, if_pos (show nn 0 = (0 : Int32) from rfl), fl0 (by decide), Option.bind_some]
        rw [k1, k2]
        exact hb (c := 6) (s1 := s) ⟨by decide, rfl, rfl, rfl, rfl, rfl, rfl⟩
      · have hu0 : (0 : Int32) < nn nu := by rw [show (0 : Int32) = nn 0 from rfl, nn_lt (by omega) (by omega)]; omega
        have hu1 : ¬ nn nu = (0 : Int32) := by rw [show (0 : Int32) = nn 0 from rfl, nn_inj (by omega) (by omega)]; omega
        have k1 : KC (kA n) i (1, nn s, val, 0, nn k, got, 0, WA, OA, XA, DA, nn nl, cW, cO, cX, cD, nn nc, UN, K1, K2, K3, K4, nn nu, PN, S, nn np, td, la, gu, ra) = some (1, 0, nn n, 0, nn k, td, la, gu, ra, nn np, nn nu, nn nl, nn nc, nn s, val, 0, got, WA, OA, XA, DA, cW, cO, cX, cD, UN, K1, K2, K3, K4, PN, S) := by
          unfold KC kA
          dsimp only
          rw [if_neg (show ¬ (1 : Int32) = 0 from by decide), if_pos rfl, if_neg hp0, if_pos hu0]
        have k2 : KD kR (0, wa, 1, nn s, nn k, num, wrd, cA, cB, cC, nn nc, WB, OB, XB, DB, nn nl, NA, NS, NO, nn (np + nu), H1, H2, H3, H4, nn nu, SR, nn np, L, G, Rn) = some (0, wa, 1, nn s, nn k, num, wrd, cA, cB, cC, nn nc, WB, OB, XB, DB, nn nl, NA, NS, NO, nn (np + nu), H1, H2, H3, H4, nn nu, SR, nn np, L, G, Rn) := by
          unfold KD kR
          dsimp only
          rw [if_pos rfl, if_neg hp1, if_neg hu1]
        rw [k1, k2, hwa]
        refine hg R.2.1 (by omega) (by omega) ?_ C
        rcases C.2.1 with ⟨_, _, z, _⟩ | ⟨z, _⟩
        · exact absurd z p0
        · exact z
  · subst e1 e2
    have k1 : KC (kA n) i (1, nn s, val, 1, nn k, got, 0, WA, OA, XA, DA, nn nl, cW, cO, cX, cD, nn nc, UN, K1, K2, K3, K4, nn nu, PN, S, nn np, td, la, gu, ra) = some (0, 1, nn n, 0, nn k, td, la, gu, ra, nn np, nn nu, nn nl, nn nc, nn s, val, 1, got, WA, OA, XA, DA, cW, cO, cX, cD, UN, K1, K2, K3, K4, PN, S) := by
      unfold KC kA
      dsimp only
      rw [if_neg (show ¬ (1 : Int32) = 0 from by decide), if_neg (show ¬ (1 : Int32) = 0 from by decide)]
      rfl
    have k2 : KD kR (0, wa, 2, nn s, nn k, num, wrd, cA, cB, cC, nn nc, WB, OB, XB, DB, nn nl, NA, NS, NO, nn (np + nu), H1, H2, H3, H4, nn nu, SR, nn np, L, G, Rn) = some (1, nn s, 5, nn s, nn k, num, wrd, cA, cB, cC, nn nc, WB, OB, XB, DB, nn nl, NA, NS, NO, nn (np + nu), H1, H2, H3, H4, nn nu, SR, nn np, L, G, Rn) := by
      unfold KD kR
      dsimp only
      rw [if_neg (show ¬ (2 : Int32) = 1 from by decide), fl0 (by decide), Option.bind_some]
      dsimp only
      rw [fl5, Option.bind_some]
      by_cases q1 : nn np = 0
      · rw [if_pos q1]
      · rw [if_neg q1]
        by_cases q2 : nn nu = 0
        · rw [if_pos q2]
        · rw [if_neg q2]
    rw [k1, k2]
    exact hb (c := 1) (s1 := s) ⟨by decide, rfl, rfl, rfl, rfl, rfl, rfl⟩
  · subst e1 e2
    have k1 : KC (kA n) i (1, nn s, val, 2, nn k, got, 0, WA, OA, XA, DA, nn nl, cW, cO, cX, cD, nn nc, UN, K1, K2, K3, K4, nn nu, PN, S, nn np, td, la, gu, ra) = some (0, 1, nn n, 0, nn k, td, la, gu, ra, nn np, nn nu, nn nl, nn nc, nn s, val, 2, got, WA, OA, XA, DA, cW, cO, cX, cD, UN, K1, K2, K3, K4, PN, S) := by
      unfold KC kA
      dsimp only
      rw [if_neg (show ¬ (1 : Int32) = 0 from by decide), if_neg (show ¬ (2 : Int32) = 0 from by decide)]
      rfl
    have k2 : KD kR (0, wa, 3, nn s, nn k, num, wrd, cA, cB, cC, nn nc, WB, OB, XB, DB, nn nl, NA, NS, NO, nn (np + nu), H1, H2, H3, H4, nn nu, SR, nn np, L, G, Rn) = some (1, nn s, 5, nn s, nn k, num, wrd, cA, cB, cC, nn nc, WB, OB, XB, DB, nn nl, NA, NS, NO, nn (np + nu), H1, H2, H3, H4, nn nu, SR, nn np, L, G, Rn) := by
      unfold KD kR
      dsimp only
      rw [if_neg (show ¬ (3 : Int32) = 1 from by decide), fl0 (by decide), Option.bind_some]
      dsimp only
      rw [fl5, Option.bind_some]
      by_cases q1 : nn np = 0
      · rw [if_pos q1]
      · rw [if_neg q1]
        by_cases q2 : nn nu = 0
        · rw [if_pos q2]
        · rw [if_neg q2]
    rw [k1, k2]
    exact hb (c := 1) (s1 := s) ⟨by decide, rfl, rfl, rfl, rfl, rfl, rfl⟩
  · subst e1 e2
    have k1 : KC (kA n) i (1, nn s, val, 3, nn k, got, 0, WA, OA, XA, DA, nn nl, cW, cO, cX, cD, nn nc, UN, K1, K2, K3, K4, nn nu, PN, S, nn np, td, la, gu, ra) = some (0, 1, nn n, 0, nn k, td, la, gu, ra, nn np, nn nu, nn nl, nn nc, nn s, val, 3, got, WA, OA, XA, DA, cW, cO, cX, cD, UN, K1, K2, K3, K4, PN, S) := by
      unfold KC kA
      dsimp only
      rw [if_neg (show ¬ (1 : Int32) = 0 from by decide), if_neg (show ¬ (3 : Int32) = 0 from by decide)]
      rfl
    have k2 : KD kR (0, wa, 4, nn s, nn k, num, wrd, cA, cB, cC, nn nc, WB, OB, XB, DB, nn nl, NA, NS, NO, nn (np + nu), H1, H2, H3, H4, nn nu, SR, nn np, L, G, Rn) = some (1, nn s, 5, nn s, nn k, num, wrd, cA, cB, cC, nn nc, WB, OB, XB, DB, nn nl, NA, NS, NO, nn (np + nu), H1, H2, H3, H4, nn nu, SR, nn np, L, G, Rn) := by
      unfold KD kR
      dsimp only
      rw [if_neg (show ¬ (4 : Int32) = 1 from by decide), fl0 (by decide), Option.bind_some]
      dsimp only
      rw [fl5, Option.bind_some]
      by_cases q1 : nn np = 0
      · rw [if_pos q1]
      · rw [if_neg q1]
        by_cases q2 : nn nu = 0
        · rw [if_pos q2]
        · rw [if_neg q2]
    rw [k1, k2]
    exact hb (c := 1) (s1 := s) ⟨by decide, rfl, rfl, rfl, rfl, rfl, rfl⟩
  · subst e1 e2
    have k1 : KC (kA n) i (1, nn s, val, 4, nn k, got, 0, WA, OA, XA, DA, nn nl, cW, cO, cX, cD, nn nc, UN, K1, K2, K3, K4, nn nu, PN, S, nn np, td, la, gu, ra) = some (0, 1, nn n, 0, nn k, td, la, gu, ra, nn np, nn nu, nn nl, nn nc, nn s, val, 4, got, WA, OA, XA, DA, cW, cO, cX, cD, UN, K1, K2, K3, K4, PN, S) := by
      unfold KC kA
      dsimp only
      rw [if_neg (show ¬ (1 : Int32) = 0 from by decide), if_neg (show ¬ (4 : Int32) = 0 from by decide)]
      rfl
    have k2 : KD kR (0, wa, 0, nn s, nn k, num, wrd, cA, cB, cC, nn nc, WB, OB, XB, DB, nn nl, NA, NS, NO, nn (np + nu), H1, H2, H3, H4, nn nu, SR, nn np, L, G, Rn) = some (1, nn s, 5, nn s, nn k, num, wrd, cA, cB, cC, nn nc, WB, OB, XB, DB, nn nl, NA, NS, NO, nn (np + nu), H1, H2, H3, H4, nn nu, SR, nn np, L, G, Rn) := by
      unfold KD kR
      dsimp only
      rw [if_neg (show ¬ (0 : Int32) = 1 from by decide), fl0 (by decide), Option.bind_some]
      dsimp only
      rw [fl5, Option.bind_some]
      by_cases q1 : nn np = 0
      · rw [if_pos q1]
      · rw [if_neg q1]
        by_cases q2 : nn nu = 0
        · rw [if_pos q2]
        · rw [if_neg q2]
    rw [k1, k2]
    exact hb (c := 1) (s1 := s) ⟨by decide, rfl, rfl, rfl, rfl, rfl, rfl⟩
theorem q_read {n : Nat} {A B : pA} (T : tpe n A B) {p0 p1 p2 p3 p4 p5 p6 p7 p8 p9 p10 p11 p12 p14 p17 : Int32} {p13 : Int64} {p16 p22 : Nat → Int64} {p18 p19 p20 p21 p23 p24 p25 p26 p27 p28 p29 p30 p31 : pA} (hx : nn n ≤ p1) {q4 q5 wa : Int32} {q6 : Int64} {Q : Option zOA → Option zOR → Prop}
    (hb : ∀ {c : Int32} {s1 : Nat} {z : zOA} {z' : zOR}, OB c s1 z z' → Q (some z) (some z'))
    (hg : ∀ {s k : Nat} {num got : Int32} {val wrd : Int64} {np nu nl nc : Nat} {td la gu ra L G Rn : Int32} {S K1 K2 K3 K4 WA OA XA DA cW cO cX cD SR H1 H2 H3 H4 WB OB XB DB cA cB cC : pA} {PN UN NA : Nat → Int64} {NS NO : pA}, k ≤ n → 1 ≤ np → 1 ≤ nu → td = 1 → RC np nu nl nc td la gu ra L G Rn S K1 K2 K3 K4 WA OA XA DA cO cX cD SR H1 H2 H3 H4 WB OB XB DB cA cB cC → Q (some (1, 0, nn n, 0, nn k, td, la, gu, ra, nn np, nn nu, nn nl, nn nc, nn s, val, 0, got, WA, OA, XA, DA, cW, cO, cX, cD, UN, K1, K2, K3, K4, PN, S)) (some (0, wa, 1, nn s, nn k, num, wrd, cA, cB, cC, nn nc, WB, OB, XB, DB, nn nl, NA, NS, NO, nn (np + nu), H1, H2, H3, H4, nn nu, SR, nn np, L, G, Rn))) :
    Q (e_hA_X5_read p0 p1 p2 p3 p4 p5 p6 p7 p8 p9 p10 p11 p12 p13 p14 A p16 p17 p18 p19 p20 p21 p22 p23 p24 p25 p26 p27 p28 p29 p30 p31 (nn n)) ((e_hP_X9_goesOn 0 0 (nn n) B q4 q5 q6).bind fun z60 => e_hP_X9_readAll z60.2.1 (0 : Int32) (0 : Int32) z60.1 wa (0 : Int32) z60.2.2.2.2 (0 : Int32) (0 : Int32) z60.2.2.1 (nn n) B z60.2.2.2.1 (0 : Int32) (fun _ => 0) (fun _ => 0) (fun _ => 0) (fun _ => 0) (fun _ => 0) (fun _ => 0) (0 : Int32) (fun _ => 0) (fun _ => 0) (fun _ => 0) (fun _ => 0) (fun _ => 0) (fun _ => 0) (fun _ => 0) (fun _ => 0) (fun _ => 0) (0 : Int32) (0 : Int32)) := by
  have hn := T.1
  have hm : (if p1 < nn n then p1 else nn n) = nn n := by
    by_cases q : p1 < nn n
    · exact absurd (Int32.le_antisymm hx (Int32.le_of_lt q)) (fun e => by rw [← e] at q; exact Int32.lt_irrefl q)
    · rw [if_neg q]
  obtain ⟨s, k, tok, srt, num, val, wrd, g1, R, e1, e2⟩ := rs_next T (Nat.zero_le n) (p2 := p12) (p4 := p14) (p3 := p13) (q0 := 0) (q4 := q4) (q5 := q5) (q6 := q6) (by decide)
  have C0 : RC 0 0 0 0 0 0 0 0 0 0 0 p31 p27 p28 p29 p30 p19 p20 p21 p18 p24 p25 p26 (fun _ => 0) (fun _ => 0) (fun _ => 0) (fun _ => 0) (fun _ => 0) (fun _ => 0) (fun _ => 0) (fun _ => 0) (fun _ => 0) (fun _ => 0) (fun _ => 0) (fun _ => 0) :=
    ⟨⟨by omega, by omega, by omega, by omega⟩, Or.inl ⟨rfl, rfl, rfl, rfl, rfl, rfl⟩, ⟨0, by omega, Or.inl ⟨rfl, rfl⟩⟩, fun _ h => absurd h (by omega), fun _ h => absurd h (by omega), fun _ h => absurd h (by omega), fun _ h => absurd h (by omega), fun _ h => absurd h (by omega), fun _ h => absurd h (by omega), fun _ h => absurd h (by omega), fun _ h => absurd h (by omega), fun _ h => absurd h (by omega), fun _ h => absurd h (by omega), fun _ h => absurd h (by omega)⟩
  have M0 : NMR 0 0 p22 p16 (fun _ => 0) (fun _ => 0) (fun _ => 0) := ⟨fun _ h => absurd h (by omega), fun _ h => absurd h (by omega), fun _ h => absurd h (by omega), fun _ _ h => absurd h (by omega)⟩
  obtain ⟨z, z', f1, f2, f3⟩ := q_line T R (got := p17) (wa := wa) (cW := p23) M0 C0
  have ra : ((e_hP_X9_goesOn 0 0 (nn n) B q4 q5 q6).bind fun z60 => e_hP_X9_readAll z60.2.1 (0 : Int32) (0 : Int32) z60.1 wa (0 : Int32) z60.2.2.2.2 (0 : Int32) (0 : Int32) z60.2.2.1 (nn n) B z60.2.2.2.1 (0 : Int32) (fun _ => 0) (fun _ => 0) (fun _ => 0) (fun _ => 0) (fun _ => 0) (fun _ => 0) (0 : Int32) (fun _ => 0) (fun _ => 0) (fun _ => 0) (fun _ => 0) (fun _ => 0) (fun _ => 0) (fun _ => 0) (fun _ => 0) (fun _ => 0) (0 : Int32) (0 : Int32)) = RA (nn n) B kR 199999 z' := by
    rw [show e_hP_X9_goesOn 0 0 (nn n) B q4 q5 q6 = _ from e2, Option.bind_some]
    dsimp only
    unfold e_hP_X9_readAll
    exact ra_step (F := 199999) f2
  have ca : e_hA_X5_read p0 p1 p2 p3 p4 p5 p6 p7 p8 p9 p10 p11 p12 p13 p14 A p16 p17 p18 p19 p20 p21 p22 p23 p24 p25 p26 p27 p28 p29 p30 p31 (nn n) = LA (nn n) A (kA n) 200000 (nn 0) z := by
    unfold e_hA_X5_read
    rw [hm]
    unfold e_hA_X1_clear
    rw [Option.bind_some]
    dsimp only
    rw [show e_hA_X5_readToken 0 (nn n) p12 p13 p14 A = _ from e1, Option.bind_some]
    dsimp only
    rw [show e_hA_X5_readLine tok val 0 0 (nn k) (nn n) (nn s) A 0 p16 p17 0 p18 p19 p20 p21 0 p22 0 p23 p24 p25 p26 p27 p28 p29 p30 p31 0 0 0 = _ from f1, Option.bind_some]
    rfl
  rw [ca, ra]
  exact q_loop T (K := kA n) (K' := kR) (Q := Q) (wa := wa) (fun R ht M C => g_end hb hg rfl R C) (fun h => c_end hb h) 1000 200000 199999 0 k z z' (by omega) (by omega) (by omega) (by omega) f3
