/-! THE PURE PART: a line -/
abbrev zCT : Type := (Int32 × Int32 × Int64 × Int32 × Int32 × Int32 × Int32 × (Nat → Int32) × (Nat → Int32) × (Nat → Int32) × (Nat → Int32) × Int32 × (Nat → Int32) × (Nat → Int32) × (Nat → Int32) × (Nat → Int32) × Int32 × (Nat → Int64) × (Nat → Int32) × (Nat → Int32) × (Nat → Int32) × (Nat → Int32) × Int32 × (Nat → Int64) × (Nat → Int32) × Int32 × Int32 × Int32 × Int32 × Int32)
abbrev zRT : Type := (Int32 × Int32 × Int32 × Int32 × Int32 × Int32 × Int64 × (Nat → Int32) × (Nat → Int32) × (Nat → Int32) × Int32 × (Nat → Int32) × (Nat → Int32) × (Nat → Int32) × (Nat → Int32) × Int32 × (Nat → Int64) × (Nat → Int32) × (Nat → Int32) × Int32 × (Nat → Int32) × (Nat → Int32) × (Nat → Int32) × (Nat → Int32) × Int32 × (Nat → Int32) × Int32 × Int32 × Int32 × Int32)
def LB (z : zCT) (z' : zRT) : Prop := ∃ (c : Int32) (s1 : Nat), ¬ c ≤ 0 ∧ z.1 = 0 ∧ z.2.1 = nn s1 ∧ z.2.2.2.2.2.2.1 = c ∧ z'.1 = c ∧ z'.2.1 = nn s1 ∧ z'.2.2.1 = 5
def LG (n k0 : Nat) (wa : Int32) (z : zCT) (z' : zRT) : Prop := ∀ P : zCT → zRT → Prop, (∀ {s k : Nat} {tok srt num got : Int32} {val wrd : Int64} {np nu nl nc : Nat} {td la gu ra L G Rn : Int32} {S K1 K2 K3 K4 WA OA XA DA cW cO cX cD SR H1 H2 H3 H4 WB OB XB DB cA cB cC : pA} {PN UN NA : Nat → Int64} {NS NO : pA}, k0 ≤ s → RS n s k tok srt num val wrd → NMR np nu PN UN NA NS NO → RC np nu nl nc td la gu ra L G Rn S K1 K2 K3 K4 WA OA XA DA cO cX cD SR H1 H2 H3 H4 WB OB XB DB cA cB cC → P (1, nn s, val, tok, nn k, got, 0, WA, OA, XA, DA, nn nl, cW, cO, cX, cD, nn nc, UN, K1, K2, K3, K4, nn nu, PN, S, nn np, td, la, gu, ra) (0, wa, srt, nn s, nn k, num, wrd, cA, cB, cC, nn nc, WB, OB, XB, DB, nn nl, NA, NS, NO, nn (np + nu), H1, H2, H3, H4, nn nu, SR, nn np, L, G, Rn)) → P z z'
theorem xbo_0 {Q : Type} {k : Option Q} : xbo 0 k = k := rfl
theorem xbo_1 {Q : Type} {k : Option Q} : xbo 1 k = k := rfl
theorem q_line {n s k : Nat} {A B : pA} (T : tpe n A B) {tok srt num got wa : Int32} {val wrd : Int64} (R : RS n s k tok srt num val wrd) {np nu nl nc : Nat} {td la gu ra L G Rn : Int32} {S K1 K2 K3 K4 WA OA XA DA cW cO cX cD SR H1 H2 H3 H4 WB OB XB DB cA cB cC : pA} {PN UN NA : Nat → Int64} {NS NO : pA} (M : NMR np nu PN UN NA NS NO) (C : RC np nu nl nc td la gu ra L G Rn S K1 K2 K3 K4 WA OA XA DA cO cX cD SR H1 H2 H3 H4 WB OB XB DB cA cB cC) :
    ∃ z z', e_hA_X5_readLine tok val td (nn nl) (nn k) (nn n) (nn s) A (nn nu) UN got 0 DA WA OA XA (nn np) PN (nn nc) cW cO cX cD K1 K2 K3 K4 S la gu ra = some z ∧ e_hP_X9_readLine srt wrd 0 (nn s) wa (nn nc) L (nn k) (nn n) B num (nn (np + nu)) NA NO NS cA cB cC (nn nl) DB WB OB XB (nn nu) H1 H2 H3 H4 (nn np) SR G Rn = some z' ∧ (LB z z' ∨ LG n k wa z z') := by
  have n5 := R.2.2.2.ne5
  have hp := C.1.1
  have hu := C.1.2.1
  have hl := C.1.2.2.1
  have hc := C.1.2.2.2
  rcases q_heads R.2.2.2 with ⟨g, i0, i1, i2, i3, i4, i5, i6, i7⟩ | ⟨g, i0⟩ | ⟨g, i0, i1⟩ | ⟨g, i0, i1, i2⟩ | ⟨g, i0, i1, i2, i3⟩ | ⟨g, i0, i1, i2, i3, i4⟩ | ⟨g, i0, i1, i2, i3, i4, i5⟩ | ⟨g, i0, i1, i2, i3, i4, i5, i6⟩ | ⟨g, i0, i1, i2, i3, i4, i5, i6, i7⟩
  · have c1 : e_hA_X5_readLine tok val td (nn nl) (nn k) (nn n) (nn s) A (nn nu) UN got 0 DA WA OA XA (nn np) PN (nn nc) cW cO cX cD K1 K2 K3 K4 S la gu ra = some (0, nn s, val, tok, nn k, got, 1, WA, OA, XA, DA, nn nl, cW, cO, cX, cD, nn nc, UN, K1, K2, K3, K4, nn nu, PN, S, nn np, td, la, gu, ra) := by
      unfold e_hA_X5_readLine
      rw [g, Option.bind_some, if_pos rfl]
      rfl
    have c2 : e_hP_X9_readLine srt wrd 0 (nn s) wa (nn nc) L (nn k) (nn n) B num (nn (np + nu)) NA NO NS cA cB cC (nn nl) DB WB OB XB (nn nu) H1 H2 H3 H4 (nn np) SR G Rn = some (1, nn s, 5, nn s, nn k, num, wrd, cA, cB, cC, nn nc, WB, OB, XB, DB, nn nl, NA, NS, NO, nn (np + nu), H1, H2, H3, H4, nn nu, SR, nn np, L, G, Rn) := by
      unfold e_hP_X9_readLine
      rw [i0, Option.bind_some, if_pos rfl, i1, Option.bind_some, if_pos rfl, i2, Option.bind_some, if_pos rfl, i3, Option.bind_some, if_pos rfl, i4, Option.bind_some, if_pos rfl, i5, Option.bind_some, if_pos rfl, i6, Option.bind_some, if_pos rfl, i7, Option.bind_some, if_pos rfl, fl0 n5, Option.bind_some]
    exact ⟨_, _, c1, c2, Or.inl ⟨1, s, by decide, rfl, rfl, rfl, rfl, rfl, rfl⟩⟩
  · rcases q_cline T R (td := td) (L := L) (G := G) (Rn := Rn) (wa := wa) (got := got) (la := la) (gu := gu) (ra := ra) C.told with ⟨c, td', s1, k1, tok1, val1, got', la', gu', ra', p, q, r, w, c0, u1, u2⟩ | ⟨a, b, e, s1, k1, tok1, srt1, num1, got', val1, wrd1, a1, a2, b1, e1, gk, R1, u1, u2⟩
    · have c1 : e_hA_X5_readLine tok val td (nn nl) (nn k) (nn n) (nn s) A (nn nu) UN got 0 DA WA OA XA (nn np) PN (nn nc) cW cO cX cD K1 K2 K3 K4 S la gu ra = some (0, nn s1, val1, tok1, nn k1, got', c, WA, OA, XA, DA, nn nl, cW, cO, cX, cD, nn nc, UN, K1, K2, K3, K4, nn nu, PN, S, nn np, td', la', gu', ra') := by
        unfold e_hA_X5_readLine
        rw [g, Option.bind_some, if_neg (show ¬ (0 : Int32) = -1 from by decide), if_pos rfl, u1]
        rfl
      have c2 : e_hP_X9_readLine srt wrd 0 (nn s) wa (nn nc) L (nn k) (nn n) B num (nn (np + nu)) NA NO NS cA cB cC (nn nl) DB WB OB XB (nn nu) H1 H2 H3 H4 (nn np) SR G Rn = some (c, nn s1, 5, p, q, r, w, cA, cB, cC, nn nc, WB, OB, XB, DB, nn nl, NA, NS, NO, nn (np + nu), H1, H2, H3, H4, nn nu, SR, nn np, L, G, Rn) := by
        unfold e_hP_X9_readLine
        rw [i0, Option.bind_some, if_neg (show ¬ (1 : Int32) = 0 from by decide), u2]
        rfl
      exact ⟨_, _, c1, c2, Or.inl ⟨c, s1, c0, rfl, rfl, rfl, rfl, rfl, rfl⟩⟩
    · have c1 : e_hA_X5_readLine tok val td (nn nl) (nn k) (nn n) (nn s) A (nn nu) UN got 0 DA WA OA XA (nn np) PN (nn nc) cW cO cX cD K1 K2 K3 K4 S la gu ra = some (1, nn s1, val1, tok1, nn k1, got', 0, WA, OA, XA, DA, nn nl, cW, cO, cX, cD, nn nc, UN, K1, K2, K3, K4, nn nu, PN, S, nn np, 1, nn a, nn b, nn e) := by
        unfold e_hA_X5_readLine
        rw [g, Option.bind_some, if_neg (show ¬ (0 : Int32) = -1 from by decide), if_pos rfl, u1]
        rfl
      have c2 : e_hP_X9_readLine srt wrd 0 (nn s) wa (nn nc) L (nn k) (nn n) B num (nn (np + nu)) NA NO NS cA cB cC (nn nl) DB WB OB XB (nn nu) H1 H2 H3 H4 (nn np) SR G Rn = some (0, wa, srt1, nn s1, nn k1, num1, wrd1, cA, cB, cC, nn nc, WB, OB, XB, DB, nn nl, NA, NS, NO, nn (np + nu), H1, H2, H3, H4, nn nu, SR, nn np, nn a, nn b, nn e) := by
        unfold e_hP_X9_readLine
        rw [i0, Option.bind_some, if_neg (show ¬ (1 : Int32) = 0 from by decide), u2]
        rfl
      exact ⟨_, _, c1, c2, Or.inr (fun P hP => hP gk R1 M (C.county a1 a2 b1 e1))⟩
  · by_cases ht : td = 1
    · have hL := (C.L1 ht).2
      subst ht
      rcases q_pline T hp hu M R (L := L) (wa := wa) (got := got) hL (S := S) (SR := SR) with ⟨c, s1, k1, tok1, val1, PN', got', S1, n1, p, q, r, w, c0, u1, u2⟩ | ⟨i, s1, k1, tok1, srt1, num1, got', val1, wrd1, PN', NA', NS', NO', h6, i3, gk, R1, M1, u1, u2⟩
      · have c1 : e_hA_X5_readLine tok val 1 (nn nl) (nn k) (nn n) (nn s) A (nn nu) UN got 0 DA WA OA XA (nn np) PN (nn nc) cW cO cX cD K1 K2 K3 K4 S la gu ra = some (0, nn s1, val1, tok1, nn k1, got', c, WA, OA, XA, DA, nn nl, cW, cO, cX, cD, nn nc, UN, K1, K2, K3, K4, nn nu, PN', S1, n1, 1, la, gu, ra) := by
          unfold e_hA_X5_readLine
          rw [g, Option.bind_some, if_neg (show ¬ (1 : Int32) = -1 from by decide), if_neg (show ¬ (1 : Int32) = 0 from by decide), if_neg (show ¬ (1 : Int32) = 0 from by decide), if_pos rfl, u1]
          rfl
        have c2 : e_hP_X9_readLine srt wrd 0 (nn s) wa (nn nc) L (nn k) (nn n) B num (nn (np + nu)) NA NO NS cA cB cC (nn nl) DB WB OB XB (nn nu) H1 H2 H3 H4 (nn np) SR G Rn = some (c, nn s1, 5, p, q, r, w, cA, cB, cC, nn nc, WB, OB, XB, DB, nn nl, NA, NS, NO, nn (np + nu), H1, H2, H3, H4, nn nu, SR, nn np, L, G, Rn) := by
          unfold e_hP_X9_readLine
          rw [i0, Option.bind_some, if_pos rfl, i1, Option.bind_some, if_neg (show ¬ (1 : Int32) = 0 from by decide), u2]
          rfl
        exact ⟨_, _, c1, c2, Or.inl ⟨c, s1, c0, rfl, rfl, rfl, rfl, rfl, rfl⟩⟩
      · rw [show np + nu + 1 = np + 1 + nu from by omega] at u2
        have c1 : e_hA_X5_readLine tok val 1 (nn nl) (nn k) (nn n) (nn s) A (nn nu) UN got 0 DA WA OA XA (nn np) PN (nn nc) cW cO cX cD K1 K2 K3 K4 S la gu ra = some (1, nn s1, val1, tok1, nn k1, got', 0, WA, OA, XA, DA, nn nl, cW, cO, cX, cD, nn nc, UN, K1, K2, K3, K4, nn nu, PN', upd S np (nn i), nn (np + 1), 1, la, gu, ra) := by
          unfold e_hA_X5_readLine
          rw [g, Option.bind_some, if_neg (show ¬ (1 : Int32) = -1 from by decide), if_neg (show ¬ (1 : Int32) = 0 from by decide), if_neg (show ¬ (1 : Int32) = 0 from by decide), if_pos rfl, u1]
          rfl
        have c2 : e_hP_X9_readLine srt wrd 0 (nn s) wa (nn nc) L (nn k) (nn n) B num (nn (np + nu)) NA NO NS cA cB cC (nn nl) DB WB OB XB (nn nu) H1 H2 H3 H4 (nn np) SR G Rn = some (0, wa, srt1, nn s1, nn k1, num1, wrd1, cA, cB, cC, nn nc, WB, OB, XB, DB, nn nl, NA', NS', NO', nn (np + 1 + nu), H1, H2, H3, H4, nn nu, upd SR np (nn i), nn (np + 1), L, G, Rn) := by
          unfold e_hP_X9_readLine
          rw [i0, Option.bind_some, if_pos rfl, i1, Option.bind_some, if_neg (show ¬ (1 : Int32) = 0 from by decide), u2]
          rfl
        exact ⟨_, _, c1, c2, Or.inr (fun P hP => hP gk R1 M1 (C.person rfl h6 (nn i)))⟩
    · have hz : td = 0 ∧ L = 0 ∧ np = 0 ∧ nu = 0 ∧ nl = 0 ∧ nc = 0 := C.2.1.resolve_right (fun z => ht z.1)
      have lb := lb_lacks (lap := L) (srt := srt) (sp := nn k) (sz := nn n) (B := B) (pl := nn s) (num := num) (w := wrd) (flt := 0) (wa := wa) n5 (show ¬ nn np = (6 : Int32) from by rw [show (6 : Int32) = nn 6 from rfl, nn_inj (by omega) (by omega)]; omega) hz.2.1
      have td0 := hz.1
      subst td0
      have c1 : e_hA_X5_readLine tok val 0 (nn nl) (nn k) (nn n) (nn s) A (nn nu) UN got 0 DA WA OA XA (nn np) PN (nn nc) cW cO cX cD K1 K2 K3 K4 S la gu ra = some (0, nn s, val, tok, nn k, got, 6, WA, OA, XA, DA, nn nl, cW, cO, cX, cD, nn nc, UN, K1, K2, K3, K4, nn nu, PN, S, nn np, 0, la, gu, ra) := by
        unfold e_hA_X5_readLine
        rw [g, Option.bind_some, if_neg (show ¬ (1 : Int32) = -1 from by decide), if_neg (show ¬ (1 : Int32) = 0 from by decide), if_pos rfl]
        rfl
      have c2 : e_hP_X9_readLine srt wrd 0 (nn s) wa (nn nc) L (nn k) (nn n) B num (nn (np + nu)) NA NO NS cA cB cC (nn nl) DB WB OB XB (nn nu) H1 H2 H3 H4 (nn np) SR G Rn = some (6, nn s, 5, nn s, nn k, num, wrd, cA, cB, cC, nn nc, WB, OB, XB, DB, nn nl, NA, NS, NO, nn (np + nu), H1, H2, H3, H4, nn nu, SR, nn np, L, G, Rn) := by
        unfold e_hP_X9_readLine
        rw [i0, Option.bind_some, if_pos rfl, i1, Option.bind_some, if_neg (show ¬ (1 : Int32) = 0 from by decide), rper_over (np := np) (nu := nu) (by omega) lb]
        rfl
      exact ⟨_, _, c1, c2, Or.inl ⟨6, s, by decide, rfl, rfl, rfl, rfl, rfl, rfl⟩⟩
  · by_cases ht : td = 1
    · have hL := (C.L1 ht).2
      subst ht
      rcases q_uline T hp hu M R (L := L) (wa := wa) (got := got) hL (K1 := K1) (K2 := K2) (K3 := K3) (K4 := K4) (H1 := H1) (H2 := H2) (H3 := H3) (H4 := H4) with ⟨c, s1, k1, tok1, val1, UN', got', M1, M2, M3, M4, n1, p, q, r, w, c0, u1, u2⟩ | ⟨i, a, b, s1, k1, v, tok1, srt1, num1, got', val1, wrd1, UN', NA', NS', NO', M4, h6, i4, ha, hb, hb2, hv, gk, R1, N1, m1, m2, u1, u2⟩
      · have c1 : e_hA_X5_readLine tok val 1 (nn nl) (nn k) (nn n) (nn s) A (nn nu) UN got 0 DA WA OA XA (nn np) PN (nn nc) cW cO cX cD K1 K2 K3 K4 S la gu ra = some (0, nn s1, val1, tok1, nn k1, got', c, WA, OA, XA, DA, nn nl, cW, cO, cX, cD, nn nc, UN', M1, M2, M3, M4, n1, PN, S, nn np, 1, la, gu, ra) := by
          unfold e_hA_X5_readLine
          rw [g, Option.bind_some, if_neg (show ¬ (2 : Int32) = -1 from by decide), if_neg (show ¬ (2 : Int32) = 0 from by decide), if_neg (show ¬ (1 : Int32) = 0 from by decide), if_neg (show ¬ (2 : Int32) = 1 from by decide), if_pos rfl, u1]
          rfl
        have c2 : e_hP_X9_readLine srt wrd 0 (nn s) wa (nn nc) L (nn k) (nn n) B num (nn (np + nu)) NA NO NS cA cB cC (nn nl) DB WB OB XB (nn nu) H1 H2 H3 H4 (nn np) SR G Rn = some (c, nn s1, 5, p, q, r, w, cA, cB, cC, nn nc, WB, OB, XB, DB, nn nl, NA, NS, NO, nn (np + nu), H1, H2, H3, H4, nn nu, SR, nn np, L, G, Rn) := by
          unfold e_hP_X9_readLine
          rw [i0, Option.bind_some, if_pos rfl, i1, Option.bind_some, if_pos rfl, i2, Option.bind_some, if_neg (show ¬ (1 : Int32) = 0 from by decide), u2]
          rfl
        exact ⟨_, _, c1, c2, Or.inl ⟨c, s1, c0, rfl, rfl, rfl, rfl, rfl, rfl⟩⟩
      · have c1 : e_hA_X5_readLine tok val 1 (nn nl) (nn k) (nn n) (nn s) A (nn nu) UN got 0 DA WA OA XA (nn np) PN (nn nc) cW cO cX cD K1 K2 K3 K4 S la gu ra = some (1, nn s1, val1, tok1, nn k1, got', 0, WA, OA, XA, DA, nn nl, cW, cO, cX, cD, nn nc, UN', upd K1 nu (nn i), upd K2 nu (nn a), upd K3 nu (nn b), M4, nn (nu + 1), PN, S, nn np, 1, la, gu, ra) := by
          unfold e_hA_X5_readLine
          rw [g, Option.bind_some, if_neg (show ¬ (2 : Int32) = -1 from by decide), if_neg (show ¬ (2 : Int32) = 0 from by decide), if_neg (show ¬ (1 : Int32) = 0 from by decide), if_neg (show ¬ (2 : Int32) = 1 from by decide), if_pos rfl, u1]
          rfl
        have c2 : e_hP_X9_readLine srt wrd 0 (nn s) wa (nn nc) L (nn k) (nn n) B num (nn (np + nu)) NA NO NS cA cB cC (nn nl) DB WB OB XB (nn nu) H1 H2 H3 H4 (nn np) SR G Rn = some (0, wa, srt1, nn s1, nn k1, num1, wrd1, cA, cB, cC, nn nc, WB, OB, XB, DB, nn nl, NA', NS', NO', nn (np + (nu + 1)), upd H1 nu (nn i), upd H2 nu (nn a), upd H3 nu (nn b), upd H4 nu v, nn (nu + 1), SR, nn np, L, G, Rn) := by
          unfold e_hP_X9_readLine
          rw [i0, Option.bind_some, if_pos rfl, i1, Option.bind_some, if_pos rfl, i2, Option.bind_some, if_neg (show ¬ (1 : Int32) = 0 from by decide), u2]
          rfl
        exact ⟨_, _, c1, c2, Or.inr (fun P hP => hP gk R1 N1 (C.umbrella rfl h6 ha hb hb2 hv m1 m2))⟩
    · have hz : td = 0 ∧ L = 0 ∧ np = 0 ∧ nu = 0 ∧ nl = 0 ∧ nc = 0 := C.2.1.resolve_right (fun z => ht z.1)
      have lb := lb_lacks (lap := L) (srt := srt) (sp := nn k) (sz := nn n) (B := B) (pl := nn s) (num := num) (w := wrd) (flt := 0) (wa := wa) n5 (show ¬ nn nu = (5 : Int32) from by rw [show (5 : Int32) = nn 5 from rfl, nn_inj (by omega) (by omega)]; omega) hz.2.1
      have td0 := hz.1
      subst td0
      have c1 : e_hA_X5_readLine tok val 0 (nn nl) (nn k) (nn n) (nn s) A (nn nu) UN got 0 DA WA OA XA (nn np) PN (nn nc) cW cO cX cD K1 K2 K3 K4 S la gu ra = some (0, nn s, val, tok, nn k, got, 6, WA, OA, XA, DA, nn nl, cW, cO, cX, cD, nn nc, UN, K1, K2, K3, K4, nn nu, PN, S, nn np, 0, la, gu, ra) := by
        unfold e_hA_X5_readLine
        rw [g, Option.bind_some, if_neg (show ¬ (2 : Int32) = -1 from by decide), if_neg (show ¬ (2 : Int32) = 0 from by decide), if_pos rfl]
        rfl
      have c2 : e_hP_X9_readLine srt wrd 0 (nn s) wa (nn nc) L (nn k) (nn n) B num (nn (np + nu)) NA NO NS cA cB cC (nn nl) DB WB OB XB (nn nu) H1 H2 H3 H4 (nn np) SR G Rn = some (6, nn s, 5, nn s, nn k, num, wrd, cA, cB, cC, nn nc, WB, OB, XB, DB, nn nl, NA, NS, NO, nn (np + nu), H1, H2, H3, H4, nn nu, SR, nn np, L, G, Rn) := by
        unfold e_hP_X9_readLine
        rw [i0, Option.bind_some, if_pos rfl, i1, Option.bind_some, if_pos rfl, i2, Option.bind_some, if_neg (show ¬ (1 : Int32) = 0 from by decide), rumb_over (np := np) (nu := nu) (by omega) lb]
        rfl
      exact ⟨_, _, c1, c2, Or.inl ⟨6, s, by decide, rfl, rfl, rfl, rfl, rfl, rfl⟩⟩
  · by_cases ht : td = 1
    · have hL := (C.L1 ht).2
      subst ht
      obtain ⟨lo, hlo, h0⟩ := C.2.2.1
      rcases q_lent T hp hu M hl hlo R (L := L) (wa := wa) (got := got) hL (WA := WA) (OA := OA) (XA := XA) (DA := DA) (WB := WB) (OB := OB) (XB := XB) (DB := DB) h0 with ⟨c, s1, k1, tok1, val1, got', p', q, r, w, c0, u1, u2⟩ | ⟨u, p, d, s1, k1, tok1, srt1, num1, got', val1, wrd1, h6, hu1, hp1, lod, hd, gk, R1, u1, u2⟩
      · have c1 : e_hA_X5_readLine tok val 1 (nn nl) (nn k) (nn n) (nn s) A (nn nu) UN got 0 DA WA OA XA (nn np) PN (nn nc) cW cO cX cD K1 K2 K3 K4 S la gu ra = some (0, nn s1, val1, tok1, nn k1, got', c, WA, OA, XA, DA, nn nl, cW, cO, cX, cD, nn nc, UN, K1, K2, K3, K4, nn nu, PN, S, nn np, 1, la, gu, ra) := by
          unfold e_hA_X5_readLine
          rw [g, Option.bind_some, if_neg (show ¬ (3 : Int32) = -1 from by decide), if_neg (show ¬ (3 : Int32) = 0 from by decide), if_neg (show ¬ (1 : Int32) = 0 from by decide), if_neg (show ¬ (3 : Int32) = 1 from by decide), if_neg (show ¬ (3 : Int32) = 2 from by decide), if_neg (show ¬ (3 : Int32) = 7 from by decide), show e_hA_X5_readLogLine (nn nl) (nn k) (nn n) (nn s) val tok A (nn nu) UN got 0 DA WA OA XA (nn np) PN ((3 : Int32) - 3) = _ from u1]
          rfl
        have c2 : e_hP_X9_readLine srt wrd 0 (nn s) wa (nn nc) L (nn k) (nn n) B num (nn (np + nu)) NA NO NS cA cB cC (nn nl) DB WB OB XB (nn nu) H1 H2 H3 H4 (nn np) SR G Rn = some (c, nn s1, 5, p', q, r, w, cA, cB, cC, nn nc, WB, OB, XB, DB, nn nl, NA, NS, NO, nn (np + nu), H1, H2, H3, H4, nn nu, SR, nn np, L, G, Rn) := by
          unfold e_hP_X9_readLine
          rw [i0, Option.bind_some, if_pos rfl, i1, Option.bind_some, if_pos rfl, i2, Option.bind_some, if_pos rfl, i3, Option.bind_some, if_neg (show ¬ (1 : Int32) = 0 from by decide), u2]
          rfl
        exact ⟨_, _, c1, c2, Or.inl ⟨c, s1, c0, rfl, rfl, rfl, rfl, rfl, rfl⟩⟩
      · have c1 : e_hA_X5_readLine tok val 1 (nn nl) (nn k) (nn n) (nn s) A (nn nu) UN got 0 DA WA OA XA (nn np) PN (nn nc) cW cO cX cD K1 K2 K3 K4 S la gu ra = some (1, nn s1, val1, tok1, nn k1, got', 0, upd WA nl 0, upd OA nl (nn u), upd XA nl (nn p), upd DA nl (nn d), nn (nl + 1), cW, cO, cX, cD, nn nc, UN, K1, K2, K3, K4, nn nu, PN, S, nn np, 1, la, gu, ra) := by
          unfold e_hA_X5_readLine
          rw [g, Option.bind_some, if_neg (show ¬ (3 : Int32) = -1 from by decide), if_neg (show ¬ (3 : Int32) = 0 from by decide), if_neg (show ¬ (1 : Int32) = 0 from by decide), if_neg (show ¬ (3 : Int32) = 1 from by decide), if_neg (show ¬ (3 : Int32) = 2 from by decide), if_neg (show ¬ (3 : Int32) = 7 from by decide), show e_hA_X5_readLogLine (nn nl) (nn k) (nn n) (nn s) val tok A (nn nu) UN got 0 DA WA OA XA (nn np) PN ((3 : Int32) - 3) = _ from u1]
          rfl
        have c2 : e_hP_X9_readLine srt wrd 0 (nn s) wa (nn nc) L (nn k) (nn n) B num (nn (np + nu)) NA NO NS cA cB cC (nn nl) DB WB OB XB (nn nu) H1 H2 H3 H4 (nn np) SR G Rn = some (0, wa, srt1, nn s1, nn k1, num1, wrd1, cA, cB, cC, nn nc, upd WB nl 0, upd OB nl (nn u), upd XB nl (nn p), upd DB nl (nn d), nn (nl + 1), NA, NS, NO, nn (np + nu), H1, H2, H3, H4, nn nu, SR, nn np, L, G, Rn) := by
          unfold e_hP_X9_readLine
          rw [i0, Option.bind_some, if_pos rfl, i1, Option.bind_some, if_pos rfl, i2, Option.bind_some, if_pos rfl, i3, Option.bind_some, if_neg (show ¬ (1 : Int32) = 0 from by decide), u2]
          rfl
        exact ⟨_, _, c1, c2, Or.inr (fun P hP => hP gk R1 M (C.log rfl h6 hd (fun _ => rfl) (fun _ => rfl) (Or.inl ⟨rfl, ⟨u, hu1, rfl⟩, p, hp1, rfl⟩)))⟩
    · have hz : td = 0 ∧ L = 0 ∧ np = 0 ∧ nu = 0 ∧ nl = 0 ∧ nc = 0 := C.2.1.resolve_right (fun z => ht z.1)
      have lb := lb_lacks (lap := L) (srt := srt) (sp := nn k) (sz := nn n) (B := B) (pl := nn s) (num := num) (w := wrd) (flt := 0) (wa := wa) n5 (show ¬ nn nl = (16 : Int32) from by rw [show (16 : Int32) = nn 16 from rfl, nn_inj (by omega) (by omega)]; omega) hz.2.1
      have td0 := hz.1
      subst td0
      have c1 : e_hA_X5_readLine tok val 0 (nn nl) (nn k) (nn n) (nn s) A (nn nu) UN got 0 DA WA OA XA (nn np) PN (nn nc) cW cO cX cD K1 K2 K3 K4 S la gu ra = some (0, nn s, val, tok, nn k, got, 6, WA, OA, XA, DA, nn nl, cW, cO, cX, cD, nn nc, UN, K1, K2, K3, K4, nn nu, PN, S, nn np, 0, la, gu, ra) := by
        unfold e_hA_X5_readLine
        rw [g, Option.bind_some, if_neg (show ¬ (3 : Int32) = -1 from by decide), if_neg (show ¬ (3 : Int32) = 0 from by decide), if_pos rfl]
        rfl
      have c2 : e_hP_X9_readLine srt wrd 0 (nn s) wa (nn nc) L (nn k) (nn n) B num (nn (np + nu)) NA NO NS cA cB cC (nn nl) DB WB OB XB (nn nu) H1 H2 H3 H4 (nn np) SR G Rn = some (6, nn s, 5, nn s, nn k, num, wrd, cA, cB, cC, nn nc, WB, OB, XB, DB, nn nl, NA, NS, NO, nn (np + nu), H1, H2, H3, H4, nn nu, SR, nn np, L, G, Rn) := by
        unfold e_hP_X9_readLine
        rw [i0, Option.bind_some, if_pos rfl, i1, Option.bind_some, if_pos rfl, i2, Option.bind_some, if_pos rfl, i3, Option.bind_some, if_neg (show ¬ (1 : Int32) = 0 from by decide), rlent_over hl (by omega) lb]
        rfl
      exact ⟨_, _, c1, c2, Or.inl ⟨6, s, by decide, rfl, rfl, rfl, rfl, rfl, rfl⟩⟩
  · by_cases ht : td = 1
    · have hL := (C.L1 ht).2
      subst ht
      obtain ⟨lo, hlo, h0⟩ := C.2.2.1
      rcases q_left T hp hu M hl hlo R (L := L) (wa := wa) (got := got) hL (WA := WA) (OA := OA) (XA := XA) (DA := DA) (WB := WB) (OB := OB) (XB := XB) (DB := DB) h0 with ⟨c, s1, k1, tok1, val1, got', p', q, r, w, c0, u1, u2⟩ | ⟨u, d, s1, k1, tok1, srt1, num1, got', val1, wrd1, h6, hu1, lod, hd, gk, R1, u1, u2⟩
      · have c1 : e_hA_X5_readLine tok val 1 (nn nl) (nn k) (nn n) (nn s) A (nn nu) UN got 0 DA WA OA XA (nn np) PN (nn nc) cW cO cX cD K1 K2 K3 K4 S la gu ra = some (0, nn s1, val1, tok1, nn k1, got', c, WA, OA, XA, DA, nn nl, cW, cO, cX, cD, nn nc, UN, K1, K2, K3, K4, nn nu, PN, S, nn np, 1, la, gu, ra) := by
          unfold e_hA_X5_readLine
          rw [g, Option.bind_some, if_neg (show ¬ (4 : Int32) = -1 from by decide), if_neg (show ¬ (4 : Int32) = 0 from by decide), if_neg (show ¬ (1 : Int32) = 0 from by decide), if_neg (show ¬ (4 : Int32) = 1 from by decide), if_neg (show ¬ (4 : Int32) = 2 from by decide), if_neg (show ¬ (4 : Int32) = 7 from by decide), show e_hA_X5_readLogLine (nn nl) (nn k) (nn n) (nn s) val tok A (nn nu) UN got 0 DA WA OA XA (nn np) PN ((4 : Int32) - 3) = _ from u1]
          rfl
        have c2 : e_hP_X9_readLine srt wrd 0 (nn s) wa (nn nc) L (nn k) (nn n) B num (nn (np + nu)) NA NO NS cA cB cC (nn nl) DB WB OB XB (nn nu) H1 H2 H3 H4 (nn np) SR G Rn = some (c, nn s1, 5, p', q, r, w, cA, cB, cC, nn nc, WB, OB, XB, DB, nn nl, NA, NS, NO, nn (np + nu), H1, H2, H3, H4, nn nu, SR, nn np, L, G, Rn) := by
          unfold e_hP_X9_readLine
          rw [i0, Option.bind_some, if_pos rfl, i1, Option.bind_some, if_pos rfl, i2, Option.bind_some, if_pos rfl, i3, Option.bind_some, if_pos rfl, i4, Option.bind_some, if_neg (show ¬ (1 : Int32) = 0 from by decide), u2]
          rfl
        exact ⟨_, _, c1, c2, Or.inl ⟨c, s1, c0, rfl, rfl, rfl, rfl, rfl, rfl⟩⟩
      · have c1 : e_hA_X5_readLine tok val 1 (nn nl) (nn k) (nn n) (nn s) A (nn nu) UN got 0 DA WA OA XA (nn np) PN (nn nc) cW cO cX cD K1 K2 K3 K4 S la gu ra = some (1, nn s1, val1, tok1, nn k1, got', 0, upd WA nl 1, upd OA nl (nn u), upd XA nl (-1), upd DA nl (nn d), nn (nl + 1), cW, cO, cX, cD, nn nc, UN, K1, K2, K3, K4, nn nu, PN, S, nn np, 1, la, gu, ra) := by
          unfold e_hA_X5_readLine
          rw [g, Option.bind_some, if_neg (show ¬ (4 : Int32) = -1 from by decide), if_neg (show ¬ (4 : Int32) = 0 from by decide), if_neg (show ¬ (1 : Int32) = 0 from by decide), if_neg (show ¬ (4 : Int32) = 1 from by decide), if_neg (show ¬ (4 : Int32) = 2 from by decide), if_neg (show ¬ (4 : Int32) = 7 from by decide), show e_hA_X5_readLogLine (nn nl) (nn k) (nn n) (nn s) val tok A (nn nu) UN got 0 DA WA OA XA (nn np) PN ((4 : Int32) - 3) = _ from u1]
          rfl
        have c2 : e_hP_X9_readLine srt wrd 0 (nn s) wa (nn nc) L (nn k) (nn n) B num (nn (np + nu)) NA NO NS cA cB cC (nn nl) DB WB OB XB (nn nu) H1 H2 H3 H4 (nn np) SR G Rn = some (0, wa, srt1, nn s1, nn k1, num1, wrd1, cA, cB, cC, nn nc, upd WB nl 1, upd OB nl (nn u), upd XB nl 0, upd DB nl (nn d), nn (nl + 1), NA, NS, NO, nn (np + nu), H1, H2, H3, H4, nn nu, SR, nn np, L, G, Rn) := by
          unfold e_hP_X9_readLine
          rw [i0, Option.bind_some, if_pos rfl, i1, Option.bind_some, if_pos rfl, i2, Option.bind_some, if_pos rfl, i3, Option.bind_some, if_pos rfl, i4, Option.bind_some, if_neg (show ¬ (1 : Int32) = 0 from by decide), u2]
          rfl
        exact ⟨_, _, c1, c2, Or.inr (fun P hP => hP gk R1 M (C.log rfl h6 hd (fun _ => rfl) (fun z => absurd z (by decide)) (Or.inr (Or.inl ⟨rfl, u, hu1, rfl⟩))))⟩
    · have hz : td = 0 ∧ L = 0 ∧ np = 0 ∧ nu = 0 ∧ nl = 0 ∧ nc = 0 := C.2.1.resolve_right (fun z => ht z.1)
      have lb := lb_lacks (lap := L) (srt := srt) (sp := nn k) (sz := nn n) (B := B) (pl := nn s) (num := num) (w := wrd) (flt := 0) (wa := wa) n5 (show ¬ nn nl = (16 : Int32) from by rw [show (16 : Int32) = nn 16 from rfl, nn_inj (by omega) (by omega)]; omega) hz.2.1
      have td0 := hz.1
      subst td0
      have c1 : e_hA_X5_readLine tok val 0 (nn nl) (nn k) (nn n) (nn s) A (nn nu) UN got 0 DA WA OA XA (nn np) PN (nn nc) cW cO cX cD K1 K2 K3 K4 S la gu ra = some (0, nn s, val, tok, nn k, got, 6, WA, OA, XA, DA, nn nl, cW, cO, cX, cD, nn nc, UN, K1, K2, K3, K4, nn nu, PN, S, nn np, 0, la, gu, ra) := by
        unfold e_hA_X5_readLine
        rw [g, Option.bind_some, if_neg (show ¬ (4 : Int32) = -1 from by decide), if_neg (show ¬ (4 : Int32) = 0 from by decide), if_pos rfl]
        rfl
      have c2 : e_hP_X9_readLine srt wrd 0 (nn s) wa (nn nc) L (nn k) (nn n) B num (nn (np + nu)) NA NO NS cA cB cC (nn nl) DB WB OB XB (nn nu) H1 H2 H3 H4 (nn np) SR G Rn = some (6, nn s, 5, nn s, nn k, num, wrd, cA, cB, cC, nn nc, WB, OB, XB, DB, nn nl, NA, NS, NO, nn (np + nu), H1, H2, H3, H4, nn nu, SR, nn np, L, G, Rn) := by
        unfold e_hP_X9_readLine
        rw [i0, Option.bind_some, if_pos rfl, i1, Option.bind_some, if_pos rfl, i2, Option.bind_some, if_pos rfl, i3, Option.bind_some, if_pos rfl, i4, Option.bind_some, if_neg (show ¬ (1 : Int32) = 0 from by decide), rleft_over hl (by omega) lb]
        rfl
      exact ⟨_, _, c1, c2, Or.inl ⟨6, s, by decide, rfl, rfl, rfl, rfl, rfl, rfl⟩⟩
  · by_cases ht : td = 1
    · have hL := (C.L1 ht).2
      subst ht
      obtain ⟨lo, hlo, h0⟩ := C.2.2.1
      rcases q_changed T hp hu M hl hlo R (L := L) (wa := wa) (got := got) hL (WA := WA) (OA := OA) (XA := XA) (DA := DA) (WB := WB) (OB := OB) (XB := XB) (DB := DB) h0 with ⟨c, s1, k1, tok1, val1, got', p', q, r, w, c0, u1, u2⟩ | ⟨u, v, d, s1, k1, tok1, srt1, num1, got', val1, wrd1, h6, hu1, hv1, uv, lod, hd, gk, R1, u1, u2⟩
      · have c1 : e_hA_X5_readLine tok val 1 (nn nl) (nn k) (nn n) (nn s) A (nn nu) UN got 0 DA WA OA XA (nn np) PN (nn nc) cW cO cX cD K1 K2 K3 K4 S la gu ra = some (0, nn s1, val1, tok1, nn k1, got', c, WA, OA, XA, DA, nn nl, cW, cO, cX, cD, nn nc, UN, K1, K2, K3, K4, nn nu, PN, S, nn np, 1, la, gu, ra) := by
          unfold e_hA_X5_readLine
          rw [g, Option.bind_some, if_neg (show ¬ (5 : Int32) = -1 from by decide), if_neg (show ¬ (5 : Int32) = 0 from by decide), if_neg (show ¬ (1 : Int32) = 0 from by decide), if_neg (show ¬ (5 : Int32) = 1 from by decide), if_neg (show ¬ (5 : Int32) = 2 from by decide), if_neg (show ¬ (5 : Int32) = 7 from by decide), show e_hA_X5_readLogLine (nn nl) (nn k) (nn n) (nn s) val tok A (nn nu) UN got 0 DA WA OA XA (nn np) PN ((5 : Int32) - 3) = _ from u1]
          rfl
        have c2 : e_hP_X9_readLine srt wrd 0 (nn s) wa (nn nc) L (nn k) (nn n) B num (nn (np + nu)) NA NO NS cA cB cC (nn nl) DB WB OB XB (nn nu) H1 H2 H3 H4 (nn np) SR G Rn = some (c, nn s1, 5, p', q, r, w, cA, cB, cC, nn nc, WB, OB, XB, DB, nn nl, NA, NS, NO, nn (np + nu), H1, H2, H3, H4, nn nu, SR, nn np, L, G, Rn) := by
          unfold e_hP_X9_readLine
          rw [i0, Option.bind_some, if_pos rfl, i1, Option.bind_some, if_pos rfl, i2, Option.bind_some, if_pos rfl, i3, Option.bind_some, if_pos rfl, i4, Option.bind_some, if_pos rfl, i5, Option.bind_some, if_neg (show ¬ (1 : Int32) = 0 from by decide), u2]
          rfl
        exact ⟨_, _, c1, c2, Or.inl ⟨c, s1, c0, rfl, rfl, rfl, rfl, rfl, rfl⟩⟩
      · have c1 : e_hA_X5_readLine tok val 1 (nn nl) (nn k) (nn n) (nn s) A (nn nu) UN got 0 DA WA OA XA (nn np) PN (nn nc) cW cO cX cD K1 K2 K3 K4 S la gu ra = some (1, nn s1, val1, tok1, nn k1, got', 0, upd WA nl 2, upd OA nl (nn u), upd XA nl (nn v), upd DA nl (nn d), nn (nl + 1), cW, cO, cX, cD, nn nc, UN, K1, K2, K3, K4, nn nu, PN, S, nn np, 1, la, gu, ra) := by
          unfold e_hA_X5_readLine
          rw [g, Option.bind_some, if_neg (show ¬ (5 : Int32) = -1 from by decide), if_neg (show ¬ (5 : Int32) = 0 from by decide), if_neg (show ¬ (1 : Int32) = 0 from by decide), if_neg (show ¬ (5 : Int32) = 1 from by decide), if_neg (show ¬ (5 : Int32) = 2 from by decide), if_neg (show ¬ (5 : Int32) = 7 from by decide), show e_hA_X5_readLogLine (nn nl) (nn k) (nn n) (nn s) val tok A (nn nu) UN got 0 DA WA OA XA (nn np) PN ((5 : Int32) - 3) = _ from u1]
          rfl
        have c2 : e_hP_X9_readLine srt wrd 0 (nn s) wa (nn nc) L (nn k) (nn n) B num (nn (np + nu)) NA NO NS cA cB cC (nn nl) DB WB OB XB (nn nu) H1 H2 H3 H4 (nn np) SR G Rn = some (0, wa, srt1, nn s1, nn k1, num1, wrd1, cA, cB, cC, nn nc, upd WB nl 2, upd OB nl (nn u), upd XB nl (nn v), upd DB nl (nn d), nn (nl + 1), NA, NS, NO, nn (np + nu), H1, H2, H3, H4, nn nu, SR, nn np, L, G, Rn) := by
          unfold e_hP_X9_readLine
          rw [i0, Option.bind_some, if_pos rfl, i1, Option.bind_some, if_pos rfl, i2, Option.bind_some, if_pos rfl, i3, Option.bind_some, if_pos rfl, i4, Option.bind_some, if_pos rfl, i5, Option.bind_some, if_neg (show ¬ (1 : Int32) = 0 from by decide), u2]
          rfl
        exact ⟨_, _, c1, c2, Or.inr (fun P hP => hP gk R1 M (C.log rfl h6 hd (fun _ => rfl) (fun _ => rfl) (Or.inr (Or.inr (Or.inl ⟨rfl, ⟨u, hu1, rfl⟩, v, hv1, rfl⟩)))))⟩
    · have hz : td = 0 ∧ L = 0 ∧ np = 0 ∧ nu = 0 ∧ nl = 0 ∧ nc = 0 := C.2.1.resolve_right (fun z => ht z.1)
      have lb := lb_lacks (lap := L) (srt := srt) (sp := nn k) (sz := nn n) (B := B) (pl := nn s) (num := num) (w := wrd) (flt := 0) (wa := wa) n5 (show ¬ nn nl = (16 : Int32) from by rw [show (16 : Int32) = nn 16 from rfl, nn_inj (by omega) (by omega)]; omega) hz.2.1
      have td0 := hz.1
      subst td0
      have c1 : e_hA_X5_readLine tok val 0 (nn nl) (nn k) (nn n) (nn s) A (nn nu) UN got 0 DA WA OA XA (nn np) PN (nn nc) cW cO cX cD K1 K2 K3 K4 S la gu ra = some (0, nn s, val, tok, nn k, got, 6, WA, OA, XA, DA, nn nl, cW, cO, cX, cD, nn nc, UN, K1, K2, K3, K4, nn nu, PN, S, nn np, 0, la, gu, ra) := by
        unfold e_hA_X5_readLine
        rw [g, Option.bind_some, if_neg (show ¬ (5 : Int32) = -1 from by decide), if_neg (show ¬ (5 : Int32) = 0 from by decide), if_pos rfl]
        rfl
      have c2 : e_hP_X9_readLine srt wrd 0 (nn s) wa (nn nc) L (nn k) (nn n) B num (nn (np + nu)) NA NO NS cA cB cC (nn nl) DB WB OB XB (nn nu) H1 H2 H3 H4 (nn np) SR G Rn = some (6, nn s, 5, nn s, nn k, num, wrd, cA, cB, cC, nn nc, WB, OB, XB, DB, nn nl, NA, NS, NO, nn (np + nu), H1, H2, H3, H4, nn nu, SR, nn np, L, G, Rn) := by
        unfold e_hP_X9_readLine
        rw [i0, Option.bind_some, if_pos rfl, i1, Option.bind_some, if_pos rfl, i2, Option.bind_some, if_pos rfl, i3, Option.bind_some, if_pos rfl, i4, Option.bind_some, if_pos rfl, i5, Option.bind_some, if_neg (show ¬ (1 : Int32) = 0 from by decide), rchanged_over hl (by omega) lb]
        rfl
      exact ⟨_, _, c1, c2, Or.inl ⟨6, s, by decide, rfl, rfl, rfl, rfl, rfl, rfl⟩⟩
  · by_cases ht : td = 1
    · have hL := (C.L1 ht).2
      subst ht
      obtain ⟨lo, hlo, h0⟩ := C.2.2.1
      rcases q_rain T hp hu M hl hlo R (L := L) (wa := wa) (got := got) hL (WA := WA) (OA := OA) (XA := XA) (DA := DA) (WB := WB) (OB := OB) (XB := XB) (DB := DB) h0 with ⟨c, s1, k1, tok1, val1, got', p', q, r, w, c0, u1, u2⟩ | ⟨d, s1, k1, tok1, srt1, num1, got', val1, wrd1, h6, lod, hd, gk, R1, u1, u2⟩
      · have c1 : e_hA_X5_readLine tok val 1 (nn nl) (nn k) (nn n) (nn s) A (nn nu) UN got 0 DA WA OA XA (nn np) PN (nn nc) cW cO cX cD K1 K2 K3 K4 S la gu ra = some (0, nn s1, val1, tok1, nn k1, got', c, WA, OA, XA, DA, nn nl, cW, cO, cX, cD, nn nc, UN, K1, K2, K3, K4, nn nu, PN, S, nn np, 1, la, gu, ra) := by
          unfold e_hA_X5_readLine
          rw [g, Option.bind_some, if_neg (show ¬ (6 : Int32) = -1 from by decide), if_neg (show ¬ (6 : Int32) = 0 from by decide), if_neg (show ¬ (1 : Int32) = 0 from by decide), if_neg (show ¬ (6 : Int32) = 1 from by decide), if_neg (show ¬ (6 : Int32) = 2 from by decide), if_neg (show ¬ (6 : Int32) = 7 from by decide), show e_hA_X5_readLogLine (nn nl) (nn k) (nn n) (nn s) val tok A (nn nu) UN got 0 DA WA OA XA (nn np) PN ((6 : Int32) - 3) = _ from u1]
          rfl
        have c2 : e_hP_X9_readLine srt wrd 0 (nn s) wa (nn nc) L (nn k) (nn n) B num (nn (np + nu)) NA NO NS cA cB cC (nn nl) DB WB OB XB (nn nu) H1 H2 H3 H4 (nn np) SR G Rn = some (c, nn s1, 5, p', q, r, w, cA, cB, cC, nn nc, WB, OB, XB, DB, nn nl, NA, NS, NO, nn (np + nu), H1, H2, H3, H4, nn nu, SR, nn np, L, G, Rn) := by
          unfold e_hP_X9_readLine
          rw [i0, Option.bind_some, if_pos rfl, i1, Option.bind_some, if_pos rfl, i2, Option.bind_some, if_pos rfl, i3, Option.bind_some, if_pos rfl, i4, Option.bind_some, if_pos rfl, i5, Option.bind_some, if_pos rfl, i6, Option.bind_some, if_neg (show ¬ (1 : Int32) = 0 from by decide), u2]
          rfl
        exact ⟨_, _, c1, c2, Or.inl ⟨c, s1, c0, rfl, rfl, rfl, rfl, rfl, rfl⟩⟩
      · have c1 : e_hA_X5_readLine tok val 1 (nn nl) (nn k) (nn n) (nn s) A (nn nu) UN got 0 DA WA OA XA (nn np) PN (nn nc) cW cO cX cD K1 K2 K3 K4 S la gu ra = some (1, nn s1, val1, tok1, nn k1, got', 0, upd WA nl 3, upd OA nl (-1), upd XA nl (-1), upd DA nl (nn d), nn (nl + 1), cW, cO, cX, cD, nn nc, UN, K1, K2, K3, K4, nn nu, PN, S, nn np, 1, la, gu, ra) := by
          unfold e_hA_X5_readLine
          rw [g, Option.bind_some, if_neg (show ¬ (6 : Int32) = -1 from by decide), if_neg (show ¬ (6 : Int32) = 0 from by decide), if_neg (show ¬ (1 : Int32) = 0 from by decide), if_neg (show ¬ (6 : Int32) = 1 from by decide), if_neg (show ¬ (6 : Int32) = 2 from by decide), if_neg (show ¬ (6 : Int32) = 7 from by decide), show e_hA_X5_readLogLine (nn nl) (nn k) (nn n) (nn s) val tok A (nn nu) UN got 0 DA WA OA XA (nn np) PN ((6 : Int32) - 3) = _ from u1]
          rfl
        have c2 : e_hP_X9_readLine srt wrd 0 (nn s) wa (nn nc) L (nn k) (nn n) B num (nn (np + nu)) NA NO NS cA cB cC (nn nl) DB WB OB XB (nn nu) H1 H2 H3 H4 (nn np) SR G Rn = some (0, wa, srt1, nn s1, nn k1, num1, wrd1, cA, cB, cC, nn nc, upd WB nl 3, upd OB nl 0, upd XB nl 0, upd DB nl (nn d), nn (nl + 1), NA, NS, NO, nn (np + nu), H1, H2, H3, H4, nn nu, SR, nn np, L, G, Rn) := by
          unfold e_hP_X9_readLine
          rw [i0, Option.bind_some, if_pos rfl, i1, Option.bind_some, if_pos rfl, i2, Option.bind_some, if_pos rfl, i3, Option.bind_some, if_pos rfl, i4, Option.bind_some, if_pos rfl, i5, Option.bind_some, if_pos rfl, i6, Option.bind_some, if_neg (show ¬ (1 : Int32) = 0 from by decide), u2]
          rfl
        exact ⟨_, _, c1, c2, Or.inr (fun P hP => hP gk R1 M (C.log rfl h6 hd (fun z => absurd rfl z) (fun z => absurd z (by decide)) (Or.inr (Or.inr (Or.inr rfl)))))⟩
    · have hz : td = 0 ∧ L = 0 ∧ np = 0 ∧ nu = 0 ∧ nl = 0 ∧ nc = 0 := C.2.1.resolve_right (fun z => ht z.1)
      have lb := lb_lacks (lap := L) (srt := srt) (sp := nn k) (sz := nn n) (B := B) (pl := nn s) (num := num) (w := wrd) (flt := 0) (wa := wa) n5 (show ¬ nn nl = (16 : Int32) from by rw [show (16 : Int32) = nn 16 from rfl, nn_inj (by omega) (by omega)]; omega) hz.2.1
      have td0 := hz.1
      subst td0
      have c1 : e_hA_X5_readLine tok val 0 (nn nl) (nn k) (nn n) (nn s) A (nn nu) UN got 0 DA WA OA XA (nn np) PN (nn nc) cW cO cX cD K1 K2 K3 K4 S la gu ra = some (0, nn s, val, tok, nn k, got, 6, WA, OA, XA, DA, nn nl, cW, cO, cX, cD, nn nc, UN, K1, K2, K3, K4, nn nu, PN, S, nn np, 0, la, gu, ra) := by
        unfold e_hA_X5_readLine
        rw [g, Option.bind_some, if_neg (show ¬ (6 : Int32) = -1 from by decide), if_neg (show ¬ (6 : Int32) = 0 from by decide), if_pos rfl]
        rfl
      have c2 : e_hP_X9_readLine srt wrd 0 (nn s) wa (nn nc) L (nn k) (nn n) B num (nn (np + nu)) NA NO NS cA cB cC (nn nl) DB WB OB XB (nn nu) H1 H2 H3 H4 (nn np) SR G Rn = some (6, nn s, 5, nn s, nn k, num, wrd, cA, cB, cC, nn nc, WB, OB, XB, DB, nn nl, NA, NS, NO, nn (np + nu), H1, H2, H3, H4, nn nu, SR, nn np, L, G, Rn) := by
        unfold e_hP_X9_readLine
        rw [i0, Option.bind_some, if_pos rfl, i1, Option.bind_some, if_pos rfl, i2, Option.bind_some, if_pos rfl, i3, Option.bind_some, if_pos rfl, i4, Option.bind_some, if_pos rfl, i5, Option.bind_some, if_pos rfl, i6, Option.bind_some, if_neg (show ¬ (1 : Int32) = 0 from by decide), rrain_over (np := np) (nu := nu) hl (by omega) lb]
        rfl
      exact ⟨_, _, c1, c2, Or.inl ⟨6, s, by decide, rfl, rfl, rfl, rfl, rfl, rfl⟩⟩
  · by_cases ht : td = 1
    · have hL := (C.L1 ht).2
      subst ht
      rcases q_claimline T hp hu M hc R (L := L) (wa := wa) (got := got) hL (WA := cW) (OA := cO) (XA := cX) (DA := cD) (OB := cA) (XB := cB) (DB := cC) with ⟨c, s1, k1, tok1, val1, got', p, q, r, w, c0, u1, u2⟩ | ⟨p, u, d, s1, k1, tok1, srt1, num1, got', val1, wrd1, h6, hp1, hu1, hd, gk, R1, u1, u2⟩
      · have c1 : e_hA_X5_readLine tok val 1 (nn nl) (nn k) (nn n) (nn s) A (nn nu) UN got 0 DA WA OA XA (nn np) PN (nn nc) cW cO cX cD K1 K2 K3 K4 S la gu ra = some (0, nn s1, val1, tok1, nn k1, got', c, WA, OA, XA, DA, nn nl, cW, cO, cX, cD, nn nc, UN, K1, K2, K3, K4, nn nu, PN, S, nn np, 1, la, gu, ra) := by
          unfold e_hA_X5_readLine
          rw [g, Option.bind_some, if_neg (show ¬ (7 : Int32) = -1 from by decide), if_neg (show ¬ (7 : Int32) = 0 from by decide), if_neg (show ¬ (1 : Int32) = 0 from by decide), if_neg (show ¬ (7 : Int32) = 1 from by decide), if_neg (show ¬ (7 : Int32) = 2 from by decide), if_pos rfl, u1]
          rfl
        have c2 : e_hP_X9_readLine srt wrd 0 (nn s) wa (nn nc) L (nn k) (nn n) B num (nn (np + nu)) NA NO NS cA cB cC (nn nl) DB WB OB XB (nn nu) H1 H2 H3 H4 (nn np) SR G Rn = some (c, nn s1, 5, p, q, r, w, cA, cB, cC, nn nc, WB, OB, XB, DB, nn nl, NA, NS, NO, nn (np + nu), H1, H2, H3, H4, nn nu, SR, nn np, L, G, Rn) := by
          unfold e_hP_X9_readLine
          rw [i0, Option.bind_some, if_pos rfl, i1, Option.bind_some, if_pos rfl, i2, Option.bind_some, if_pos rfl, i3, Option.bind_some, if_pos rfl, i4, Option.bind_some, if_pos rfl, i5, Option.bind_some, if_pos rfl, i6, Option.bind_some, if_pos rfl, i7, Option.bind_some, if_neg (show ¬ (1 : Int32) = 0 from by decide), u2]
          rfl
        exact ⟨_, _, c1, c2, Or.inl ⟨c, s1, c0, rfl, rfl, rfl, rfl, rfl, rfl⟩⟩
      · have c1 : e_hA_X5_readLine tok val 1 (nn nl) (nn k) (nn n) (nn s) A (nn nu) UN got 0 DA WA OA XA (nn np) PN (nn nc) cW cO cX cD K1 K2 K3 K4 S la gu ra = some (1, nn s1, val1, tok1, nn k1, got', 0, WA, OA, XA, DA, nn nl, upd cW nc 0, upd cO nc (nn u), upd cX nc (nn p), upd cD nc (nn d), nn (nc + 1), UN, K1, K2, K3, K4, nn nu, PN, S, nn np, 1, la, gu, ra) := by
          unfold e_hA_X5_readLine
          rw [g, Option.bind_some, if_neg (show ¬ (7 : Int32) = -1 from by decide), if_neg (show ¬ (7 : Int32) = 0 from by decide), if_neg (show ¬ (1 : Int32) = 0 from by decide), if_neg (show ¬ (7 : Int32) = 1 from by decide), if_neg (show ¬ (7 : Int32) = 2 from by decide), if_pos rfl, u1]
          rfl
        have c2 : e_hP_X9_readLine srt wrd 0 (nn s) wa (nn nc) L (nn k) (nn n) B num (nn (np + nu)) NA NO NS cA cB cC (nn nl) DB WB OB XB (nn nu) H1 H2 H3 H4 (nn np) SR G Rn = some (0, wa, srt1, nn s1, nn k1, num1, wrd1, upd cA nc (nn p), upd cB nc (nn u), upd cC nc (nn d), nn (nc + 1), WB, OB, XB, DB, nn nl, NA, NS, NO, nn (np + nu), H1, H2, H3, H4, nn nu, SR, nn np, L, G, Rn) := by
          unfold e_hP_X9_readLine
          rw [i0, Option.bind_some, if_pos rfl, i1, Option.bind_some, if_pos rfl, i2, Option.bind_some, if_pos rfl, i3, Option.bind_some, if_pos rfl, i4, Option.bind_some, if_pos rfl, i5, Option.bind_some, if_pos rfl, i6, Option.bind_some, if_pos rfl, i7, Option.bind_some, if_neg (show ¬ (1 : Int32) = 0 from by decide), u2]
          rfl
        exact ⟨_, _, c1, c2, Or.inr (fun P hP => hP gk R1 M (C.claim rfl h6 hu1 hd))⟩
    · have hz : td = 0 ∧ L = 0 ∧ np = 0 ∧ nu = 0 ∧ nl = 0 ∧ nc = 0 := C.2.1.resolve_right (fun z => ht z.1)
      have lb := lb_lacks (lap := L) (srt := srt) (sp := nn k) (sz := nn n) (B := B) (pl := nn s) (num := num) (w := wrd) (flt := 0) (wa := wa) n5 (show ¬ nn nc = (6 : Int32) from by rw [show (6 : Int32) = nn 6 from rfl, nn_inj (by omega) (by omega)]; omega) hz.2.1
      have td0 := hz.1
      subst td0
      have c1 : e_hA_X5_readLine tok val 0 (nn nl) (nn k) (nn n) (nn s) A (nn nu) UN got 0 DA WA OA XA (nn np) PN (nn nc) cW cO cX cD K1 K2 K3 K4 S la gu ra = some (0, nn s, val, tok, nn k, got, 6, WA, OA, XA, DA, nn nl, cW, cO, cX, cD, nn nc, UN, K1, K2, K3, K4, nn nu, PN, S, nn np, 0, la, gu, ra) := by
        unfold e_hA_X5_readLine
        rw [g, Option.bind_some, if_neg (show ¬ (7 : Int32) = -1 from by decide), if_neg (show ¬ (7 : Int32) = 0 from by decide), if_pos rfl]
        rfl
      have c2 : e_hP_X9_readLine srt wrd 0 (nn s) wa (nn nc) L (nn k) (nn n) B num (nn (np + nu)) NA NO NS cA cB cC (nn nl) DB WB OB XB (nn nu) H1 H2 H3 H4 (nn np) SR G Rn = some (6, nn s, 5, nn s, nn k, num, wrd, cA, cB, cC, nn nc, WB, OB, XB, DB, nn nl, NA, NS, NO, nn (np + nu), H1, H2, H3, H4, nn nu, SR, nn np, L, G, Rn) := by
        unfold e_hP_X9_readLine
        rw [i0, Option.bind_some, if_pos rfl, i1, Option.bind_some, if_pos rfl, i2, Option.bind_some, if_pos rfl, i3, Option.bind_some, if_pos rfl, i4, Option.bind_some, if_pos rfl, i5, Option.bind_some, if_pos rfl, i6, Option.bind_some, if_pos rfl, i7, Option.bind_some, if_neg (show ¬ (1 : Int32) = 0 from by decide), rclaims_over (nl := nc) (by omega) (by omega) lb]
        rfl
      exact ⟨_, _, c1, c2, Or.inl ⟨6, s, by decide, rfl, rfl, rfl, rfl, rfl, rfl⟩⟩
