/-! THE PURE PART: an umbrella's line under both -/
theorem q_uline {n s k np nu : Nat} {A B : pA} (T : tpe n A B) (hp : np ≤ 6) (hu : nu ≤ 5) {PN UN NA : Nat → Int64} {NS NO : pA} (M : NMR np nu PN UN NA NS NO) {tok srt num : Int32} {val wrd : Int64} (R : RS n s k tok srt num val wrd) {L wa got : Int32} (hL : ¬ L = 0) {K1 K2 K3 K4 H1 H2 H3 H4 : pA} :
    (∃ (c : Int32) (s1 k1 : Nat) (tok1 : Int32) (val1 : Int64) (UN' : Nat → Int64) (got' : Int32) (M1 M2 M3 M4 : pA) (n1 p q r : Int32) (w : Int64), ¬ c ≤ 0 ∧ e_hA_X5_readUmbrellaLine (nn nu) (nn k) (nn n) (nn s) val tok A UN (nn np) PN 0 got K1 K2 K3 K4 = some (0, nn s1, val1, tok1, nn k1, UN', c, got', M1, M2, M3, M4, n1) ∧ e_hP_X9_readUmbrella (nn nu) L srt (nn k) (nn n) B (nn s) num wrd 0 wa (nn (np + nu)) NA NS NO H1 H2 H3 H4 = some (p, 5, q, r, w, c, nn s1, NA, NS, NO, nn (np + nu), H1, H2, H3, H4, nn nu)) ∨
    (∃ (i a b s1 k1 : Nat) (v tok1 srt1 num1 got' : Int32) (val1 wrd1 : Int64) (UN' NA' : Nat → Int64) (NS' NO' M4 : pA), nu < 5 ∧ i < 4 ∧ a ≤ 99 ∧ 4 ≤ b ∧ b ≤ 12 ∧ wv np v ∧ k ≤ s1 ∧ RS n s1 k1 tok1 srt1 num1 val1 wrd1 ∧ NMR np (nu + 1) PN UN' NA' NS' NO' ∧ M4 nu = v ∧ (∀ j, j ≠ nu → M4 j = K4 j) ∧ e_hA_X5_readUmbrellaLine (nn nu) (nn k) (nn n) (nn s) val tok A UN (nn np) PN 0 got K1 K2 K3 K4 = some (1, nn s1, val1, tok1, nn k1, UN', 0, got', upd K1 nu (nn i), upd K2 nu (nn a), upd K3 nu (nn b), M4, nn (nu + 1)) ∧ e_hP_X9_readUmbrella (nn nu) L srt (nn k) (nn n) B (nn s) num wrd 0 wa (nn (np + nu)) NA NS NO H1 H2 H3 H4 = some (nn s1, srt1, nn k1, num1, wrd1, 0, wa, NA', NS', NO', nn (np + nu + 1), upd H1 nu (nn i), upd H2 nu (nn a), upd H3 nu (nn b), upd H4 nu v, nn (nu + 1))) := by
  have n5 := R.2.2.2.ne5
  by_cases h6 : nu < 5
  · have i6 : nn nu < (5 : Int32) := by rw [show (5 : Int32) = nn 5 from rfl, nn_lt (by omega) (by omega)]; exact h6
    have j6 : ¬ nn nu = (5 : Int32) := by rw [show (5 : Int32) = nn 5 from rfl, nn_inj (by omega) (by omega)]; omega
    have hu' : (nn nu).toNatClampNeg = nu := nn_nat (by omega)
    have hx : ∀ {Q : Type} (K : Option Q), xix (nn nu) 5 K = K := fun K => xix_nn (by omega) (by omega) K
    obtain ⟨s1, k1, tok1, srt1, num1, val1, wrd1, g1, R1, e1, e2⟩ := rs_next T R.2.1 (p2 := nn s) (p4 := tok) (p3 := val) (q0 := srt) (q4 := nn s) (q5 := num) (q6 := wrd) n5
    have lb := lb_ok (flt := 0) (wa := wa) j6 hL e2
    have M1 : NMR np nu PN (vp_updL UN nu val1) NA NS NO := M.congrU (fun p hpp => updL_ne _ _ (by omega))
    rcases q_fresh T hp hu M1 R1 wa with ⟨c, c0, n1, n2⟩ | ⟨r, s2, k2, tok2, srt2, num2, val2, wrd2, hr, ev, ew, hf, g2, R2, n1, n2⟩
    · left
      refine ⟨c, s1, k1, tok1, val1, vp_updL UN nu val1, got, K1, K2, K3, K4, nn nu, _, _, _, _, c0, ?_, rumb_bad lb n2⟩
      unfold e_hA_X5_readUmbrellaLine
      rw [if_pos i6, e1, Option.bind_some, hx, hu']
      dsimp only
      rw [n1]
      rfl
    · have m5 := R2.2.2.2.ne5
      have n1' : e_hA_X5_readNewName tok1 val1 (nn np) PN 0 (nn nu) (vp_updL UN (nn nu).toNatClampNeg val1) (nn k1) (nn n) (nn s1) A = some (1, 0, nn s2, val2, tok2, nn k2) := by rw [hu']; exact n1
      have hd : ∀ X, ((e_hP_X9_isWord srt2 wrd2 (xsy 25)).bind fun z0 => if z0 = (0 : Int32) then ((e_hP_X9_isWord srt2 wrd2 (xsy 26)).bind fun z1 => if z1 = (0 : Int32) then ((e_hP_X9_isWord srt2 wrd2 (xsy 27)).bind fun z2 => if z2 = (0 : Int32) then ((e_hP_X9_isWord srt2 wrd2 (xsy 28)).bind fun z3 => if z3 = (0 : Int32) then J_hP_X9_readUmbrella_72 (nn nu) L srt2 (nn k2) (nn n) B (nn s2) num2 wrd2 0 wa (nn (np + nu)) NA NS NO H1 H2 H3 H4 wrd1 (-1 : Int32) else J_hP_X9_readUmbrella_72 (nn nu) L srt2 (nn k2) (nn n) B (nn s2) num2 wrd2 0 wa (nn (np + nu)) NA NS NO H1 H2 H3 H4 wrd1 (3 : Int32)) else J_hP_X9_readUmbrella_72 (nn nu) L srt2 (nn k2) (nn n) B (nn s2) num2 wrd2 0 wa (nn (np + nu)) NA NS NO H1 H2 H3 H4 wrd1 (2 : Int32)) else J_hP_X9_readUmbrella_72 (nn nu) L srt2 (nn k2) (nn n) B (nn s2) num2 wrd2 0 wa (nn (np + nu)) NA NS NO H1 H2 H3 H4 wrd1 (1 : Int32)) else J_hP_X9_readUmbrella_72 (nn nu) L srt2 (nn k2) (nn n) B (nn s2) num2 wrd2 0 wa (nn (np + nu)) NA NS NO H1 H2 H3 H4 wrd1 (0 : Int32)) = X → e_hP_X9_readUmbrella (nn nu) L srt (nn k) (nn n) B (nn s) num wrd 0 wa (nn (np + nu)) NA NS NO H1 H2 H3 H4 = X := by
        intro X hX
        unfold e_hP_X9_readUmbrella
        rw [lb, Option.bind_some]
        dsimp only
        rw [n2, Option.bind_some]
        exact hX
      rcases q_kinds R2.2.2.2 with ⟨a1, o0, o1, o2, o3⟩ | ⟨y1, y2, o⟩
      · left
        refine ⟨1, s2, k2, tok2, val2, vp_updL UN nu val1, -1, K1, K2, K3, K4, nn nu, nn s2, nn k2, num2, wrd2, by decide, ?_, hd _ ?_⟩
        · unfold e_hA_X5_readUmbrellaLine
          rw [if_pos i6, e1, Option.bind_some, hx]
          dsimp only
          rw [n1', Option.bind_some]
          dsimp only
          rw [if_neg (show ¬ (1 : Int32) = 0 from by decide), co_bad a1, hu']
          rfl
        · rw [o0, Option.bind_some, if_pos rfl, o1, Option.bind_some, if_pos rfl, o2, Option.bind_some, if_pos rfl, o3, Option.bind_some, if_pos rfl]
          exact j72_bad m5
      · obtain ⟨s3, k3, tok3, srt3, num3, val3, wrd3, g3, R3, e3, e4⟩ := rs_next T R2.2.1 (p2 := nn s2) (p4 := tok2) (p3 := val2) (q0 := srt2) (q4 := nn s2) (q5 := num2) (q6 := wrd2) m5
        have fin : ∀ i, i < 4 → e_hA_X5_indexAmong tok2 val2 (xsy 6) = some (nn i) → e_hP_X9_readUmbrella (nn nu) L srt (nn k) (nn n) B (nn s) num wrd 0 wa (nn (np + nu)) NA NS NO H1 H2 H3 H4 = J_hP_X9_readUmbrella_72 (nn nu) L srt2 (nn k2) (nn n) B (nn s2) num2 wrd2 0 wa (nn (np + nu)) NA NS NO H1 H2 H3 H4 wrd1 (nn i) → (∃ (c : Int32) (s1 k1 : Nat) (tok1 : Int32) (val1 : Int64) (UN' : Nat → Int64) (got' : Int32) (M1 M2 M3 M4 : pA) (n1 p q r : Int32) (w : Int64), ¬ c ≤ 0 ∧ e_hA_X5_readUmbrellaLine (nn nu) (nn k) (nn n) (nn s) val tok A UN (nn np) PN 0 got K1 K2 K3 K4 = some (0, nn s1, val1, tok1, nn k1, UN', c, got', M1, M2, M3, M4, n1) ∧ e_hP_X9_readUmbrella (nn nu) L srt (nn k) (nn n) B (nn s) num wrd 0 wa (nn (np + nu)) NA NS NO H1 H2 H3 H4 = some (p, 5, q, r, w, c, nn s1, NA, NS, NO, nn (np + nu), H1, H2, H3, H4, nn nu)) ∨
            (∃ (i a b s1 k1 : Nat) (v tok1 srt1 num1 got' : Int32) (val1 wrd1 : Int64) (UN' NA' : Nat → Int64) (NS' NO' M4 : pA), nu < 5 ∧ i < 4 ∧ a ≤ 99 ∧ 4 ≤ b ∧ b ≤ 12 ∧ wv np v ∧ k ≤ s1 ∧ RS n s1 k1 tok1 srt1 num1 val1 wrd1 ∧ NMR np (nu + 1) PN UN' NA' NS' NO' ∧ M4 nu = v ∧ (∀ j, j ≠ nu → M4 j = K4 j) ∧ e_hA_X5_readUmbrellaLine (nn nu) (nn k) (nn n) (nn s) val tok A UN (nn np) PN 0 got K1 K2 K3 K4 = some (1, nn s1, val1, tok1, nn k1, UN', 0, got', upd K1 nu (nn i), upd K2 nu (nn a), upd K3 nu (nn b), M4, nn (nu + 1)) ∧ e_hP_X9_readUmbrella (nn nu) L srt (nn k) (nn n) B (nn s) num wrd 0 wa (nn (np + nu)) NA NS NO H1 H2 H3 H4 = some (nn s1, srt1, nn k1, num1, wrd1, 0, wa, NA', NS', NO', nn (np + nu + 1), upd H1 nu (nn i), upd H2 nu (nn a), upd H3 nu (nn b), upd H4 nu v, nn (nu + 1))) := by
          intro i hi ha hb
          have ni : ¬ nn i = -1 := by rw [nn_ne1 (by omega)]; exact fun z => z
          have ct := cTail_eq (K1 := K1) (K2 := K2) (K3 := K3) (K4 := K4) (got := got) i6 hx e1 n1' (co_ok ha ni e3)
          rw [hu'] at ct
          rw [ct, hb, j72_ok ni]
          rcases q_utail (UN' := vp_updL UN nu val1) (i := nn i) (L := L) (wa := wa) (f1 := wrd1) (K1 := K1) (K2 := K2) (K3 := K3) (K4 := K4) (H1 := H1) (H2 := H2) (H3 := H3) (H4 := H4) T hp h6 M R3 e4 with ⟨c, s4, k4, tok4, val4, got', X1, X2, X3, X4, p, q, r, w, c0, u1, u2⟩ | ⟨a, b, s4, k4, v, tok4, srt4, num4, got', val4, wrd4, X4, a9, b4, b12, hv, g4, R4, x1, x2, u1, u2⟩
          · exact Or.inl ⟨c, s4, k4, tok4, val4, _, got', X1, X2, X3, X4, _, p, q, r, w, c0, u1, u2⟩
          · refine Or.inr ⟨i, a, b, s4, k4, v, tok4, srt4, num4, got', val4, wrd4, vp_updL UN nu val1, vp_updL NA (np + nu) wrd1, upd NS (np + nu) 1, upd NO (np + nu) (nn nu), X4, h6, hi, a9, b4, b12, hv, by have := R1.1; have := R2.1; have := R3.1; omega, R4, ?_, x1, x2, u1, u2⟩
            rw [ew]
            exact M1.addU hr (by rw [updL_at]; exact ev) (fun j hj => by rw [← ew]; exact hf j hj)
        rcases o with ⟨a1, o0⟩ | ⟨a1, o0, o1⟩ | ⟨a1, o0, o1, o2⟩ | ⟨a1, o0, o1, o2, o3⟩
        · exact fin 0 (by omega) a1 (hd _ (by rw [o0, Option.bind_some, if_neg (show ¬ (1 : Int32) = 0 from by decide)]; rfl))
        · exact fin 1 (by omega) a1 (hd _ (by rw [o0, Option.bind_some, if_pos rfl, o1, Option.bind_some, if_neg (show ¬ (1 : Int32) = 0 from by decide)]; rfl))
        · exact fin 2 (by omega) a1 (hd _ (by rw [o0, Option.bind_some, if_pos rfl, o1, Option.bind_some, if_pos rfl, o2, Option.bind_some, if_neg (show ¬ (1 : Int32) = 0 from by decide)]; rfl))
        · exact fin 3 (by omega) a1 (hd _ (by rw [o0, Option.bind_some, if_pos rfl, o1, Option.bind_some, if_pos rfl, o2, Option.bind_some, if_pos rfl, o3, Option.bind_some, if_neg (show ¬ (1 : Int32) = 0 from by decide)]; rfl))
  · left
    obtain rfl : nu = 5 := by omega
    refine ⟨5, s, k, tok, val, UN, got, K1, K2, K3, K4, nn 5, nn s, nn k, num, wrd, by decide, ?_, rumb_over (by omega) (lb_many n5 rfl)⟩
    unfold e_hA_X5_readUmbrellaLine
    rw [if_neg (by decide)]
    rfl
