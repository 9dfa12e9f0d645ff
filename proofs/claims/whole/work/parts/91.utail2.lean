/-! THE PURE PART: the tail of an umbrella's line, tied -/
theorem q_utail {n s k np nu : Nat} {A B : pA} (T : tpe n A B) (hp : np ≤ 6) (hu : nu < 5) {PN UN UN' NA : Nat → Int64} {NS NO : pA} (M : NMR np nu PN UN NA NS NO) {tok srt num : Int32} {val wrd : Int64} (R : RS n s k tok srt num val wrd) {L wa i srt0 sp0 pl0 num0 : Int32} {w0 f1 : Int64} {K1 K2 K3 K4 H1 H2 H3 H4 : pA} (eg : e_hP_X9_goesOn srt0 sp0 (nn n) B pl0 num0 w0 = some (nn s, srt, nn k, num, wrd)) :
    (∃ (c : Int32) (s1 k1 : Nat) (tok1 : Int32) (val1 : Int64) (got' : Int32) (M1 M2 M3 M4 : pA) (p q r : Int32) (w : Int64), ¬ c ≤ 0 ∧ cTail (nn nu) (nn n) A PN UN' (nn np) K1 K2 K3 K4 i tok val (nn k) (nn s) = some (0, nn s1, val1, tok1, nn k1, UN', c, got', M1, M2, M3, M4, nn nu) ∧ J_hP_X9_readUmbrella_83 (nn nu) L srt0 sp0 (nn n) B pl0 num0 w0 0 wa (nn (np + nu)) NA NS NO H1 H2 H3 H4 f1 i = some (p, 5, q, r, w, c, nn s1, NA, NS, NO, nn (np + nu), H1, H2, H3, H4, nn nu)) ∨
    (∃ (a b s1 k1 : Nat) (v tok1 srt1 num1 got' : Int32) (val1 wrd1 : Int64) (M4 : pA), a ≤ 99 ∧ 4 ≤ b ∧ b ≤ 12 ∧ wv np v ∧ k ≤ s1 ∧ RS n s1 k1 tok1 srt1 num1 val1 wrd1 ∧ M4 nu = v ∧ (∀ j, j ≠ nu → M4 j = K4 j) ∧ cTail (nn nu) (nn n) A PN UN' (nn np) K1 K2 K3 K4 i tok val (nn k) (nn s) = some (1, nn s1, val1, tok1, nn k1, UN', 0, got', upd K1 nu i, upd K2 nu (nn a), upd K3 nu (nn b), M4, nn (nu + 1)) ∧ J_hP_X9_readUmbrella_83 (nn nu) L srt0 sp0 (nn n) B pl0 num0 w0 0 wa (nn (np + nu)) NA NS NO H1 H2 H3 H4 f1 i = some (nn s1, srt1, nn k1, num1, wrd1, 0, wa, vp_updL NA (np + nu) f1, upd NS (np + nu) 1, upd NO (np + nu) (nn nu), nn (np + nu + 1), upd H1 nu i, upd H2 nu (nn a), upd H3 nu (nn b), upd H4 nu v, nn (nu + 1))) := by
  have hx : ∀ {Q : Type} (K : Option Q), xix (nn nu) 5 K = K := fun K => xix_nn (by omega) (by omega) K
  have hu' : (nn nu).toNatClampNeg = nu := nn_nat (by omega)
  rcases q_num T R one_7 (lo := 0) (hi := 99) (by omega) (by omega) i wa with ⟨c, s1, k1, tok1, val1, v, p, q, r, w, c0, n1, n2⟩ | ⟨a, s1, k1, tok1, srt1, num1, val1, wrd1, a1, a2, g1, R1, n1, n2⟩
  · left
    refine ⟨c, s1, k1, tok1, val1, i, upd K1 (nn nu).toNatClampNeg i, K2, K3, K4, p, q, r, w, c0, ?_, ?_⟩
    · unfold cTail
      rw [hx, show e_hA_X5_readNumber tok val (nn k) (nn n) (nn s) A 0 i (xsy 7) 0 99 = _ from n1]
      rfl
    · unfold J_hP_X9_readUmbrella_83
      rw [eg, Option.bind_some]
      dsimp only
      rw [show e_hP_X9_readPart srt wrd (nn k) (nn n) B (nn s) num 0 wa (xsy 29) 0 99 = _ from n2, Option.bind_some]
      dsimp only
      rw [rpt5, Option.bind_some]
      dsimp only
      rw [iw5, Option.bind_some, if_pos rfl]
      exact j136_5
  · rcases q_num T R1 one_8 (lo := 4) (hi := 12) (by omega) (by omega) (nn a) wa with ⟨c, s2, k2, tok2, val2, v, p, q, r, w, c0, n3, n4⟩ | ⟨b, s2, k2, tok2, srt2, num2, val2, wrd2, b1, b2, g2, R2, n3, n4⟩
    · left
      refine ⟨c, s2, k2, tok2, val2, nn a, upd K1 (nn nu).toNatClampNeg i, upd K2 (nn nu).toNatClampNeg (nn a), K3, K4, p, q, r, w, c0, ?_, ?_⟩
      · unfold cTail
        rw [hx, show e_hA_X5_readNumber tok val (nn k) (nn n) (nn s) A 0 i (xsy 7) 0 99 = _ from n1, Option.bind_some]
        dsimp only
        rw [if_neg (show ¬ (1 : Int32) = 0 from by decide), hx, show e_hA_X5_readNumber tok1 val1 (nn k1) (nn n) (nn s1) A 0 (nn a) (xsy 8) 4 12 = _ from n3]
        rfl
      · unfold J_hP_X9_readUmbrella_83
        rw [eg, Option.bind_some]
        dsimp only
        rw [show e_hP_X9_readPart srt wrd (nn k) (nn n) B (nn s) num 0 wa (xsy 29) 0 99 = _ from n2, Option.bind_some]
        dsimp only
        rw [show e_hP_X9_readPart srt1 wrd1 (nn k1) (nn n) B (nn s1) num1 0 wa (xsy 30) 4 12 = _ from n4, Option.bind_some]
        dsimp only
        rw [iw5, Option.bind_some, if_pos rfl]
        exact j136_5
    · have m5 := R2.2.2.2.ne5
      rcases one_9 R2.2.2.2 with ⟨o1, o2⟩ | ⟨y1, y2, o1, o2⟩
      · right
        refine ⟨a, b, s2, k2, -2, tok2, srt2, num2, nn b, val2, wrd2, upd K4 nu (-2), a2, b1, b2, Or.inl rfl, by have := R.1; have := R1.1; omega, R2, upd_at _ _ _, fun j hj => upd_ne _ _ hj, ?_, ?_⟩
        · unfold cTail
          rw [hx, show e_hA_X5_readNumber tok val (nn k) (nn n) (nn s) A 0 i (xsy 7) 0 99 = _ from n1, Option.bind_some]
          dsimp only
          rw [if_neg (show ¬ (1 : Int32) = 0 from by decide), hx, show e_hA_X5_readNumber tok1 val1 (nn k1) (nn n) (nn s1) A 0 (nn a) (xsy 8) 4 12 = _ from n3, Option.bind_some]
          dsimp only
          rw [if_neg (show ¬ (1 : Int32) = 0 from by decide), hx, hx, o1, Option.bind_some, if_pos rfl, hu', nn_succ]
        · unfold J_hP_X9_readUmbrella_83
          rw [eg, Option.bind_some]
          dsimp only
          rw [show e_hP_X9_readPart srt wrd (nn k) (nn n) B (nn s) num 0 wa (xsy 29) 0 99 = _ from n2, Option.bind_some]
          dsimp only
          rw [show e_hP_X9_readPart srt1 wrd1 (nn k1) (nn n) B (nn s1) num1 0 wa (xsy 30) 4 12 = _ from n4, Option.bind_some]
          dsimp only
          rw [o2, Option.bind_some, if_pos rfl]
          exact j136_ok hu (by omega) m5
      · obtain ⟨s3, k3, tok3, srt3, num3, val3, wrd3, g3, R3, e1, e2⟩ := rs_next T R2.2.1 (p2 := nn s2) (p4 := tok2) (p3 := val2) (q0 := srt2) (q4 := nn s2) (q5 := num2) (q6 := wrd2) m5
        obtain ⟨idx, x1, x2⟩ := q_toldPerson T hp (show nu ≤ 5 by omega) M R3 (nn b) wa
        rcases x2 with ⟨c, c0, t1, t2⟩ | ⟨pp, s4, k4, tok4, srt4, num4, val4, wrd4, hpp, g4, R4, t1, t2⟩
        · left
          refine ⟨c, s3, k3, tok3, val3, nn b, upd K1 (nn nu).toNatClampNeg i, upd K2 (nn nu).toNatClampNeg (nn a), upd K3 (nn nu).toNatClampNeg (nn b), upd K4 (nn nu).toNatClampNeg (-2), nn s3, nn k3, num3, wrd3, c0, ?_, ?_⟩
          · unfold cTail
            rw [hx, show e_hA_X5_readNumber tok val (nn k) (nn n) (nn s) A 0 i (xsy 7) 0 99 = _ from n1, Option.bind_some]
            dsimp only
            rw [if_neg (show ¬ (1 : Int32) = 0 from by decide), hx, show e_hA_X5_readNumber tok1 val1 (nn k1) (nn n) (nn s1) A 0 (nn a) (xsy 8) 4 12 = _ from n3, Option.bind_some]
            dsimp only
            rw [if_neg (show ¬ (1 : Int32) = 0 from by decide), hx, hx, o1, Option.bind_some, if_neg (by decide), e1, Option.bind_some]
            dsimp only
            rw [x1, Option.bind_some, t1]
            rfl
          · unfold J_hP_X9_readUmbrella_83
            rw [eg, Option.bind_some]
            dsimp only
            rw [show e_hP_X9_readPart srt wrd (nn k) (nn n) B (nn s) num 0 wa (xsy 29) 0 99 = _ from n2, Option.bind_some]
            dsimp only
            rw [show e_hP_X9_readPart srt1 wrd1 (nn k1) (nn n) B (nn s1) num1 0 wa (xsy 30) 4 12 = _ from n4, Option.bind_some]
            dsimp only
            rw [o2, Option.bind_some, if_neg (by decide), e2, Option.bind_some]
            dsimp only
            rw [t2, Option.bind_some]
            exact j136_5
        · right
          refine ⟨a, b, s4, k4, nn pp, tok4, srt4, num4, nn pp, val4, wrd4, upd (upd K4 nu (-2)) nu (nn pp), a2, b1, b2, Or.inr ⟨pp, hpp, rfl⟩, by have := R.1; have := R1.1; have := R2.1; have := R3.1; omega, R4, upd_at _ _ _, fun j hj => by rw [upd_ne _ _ hj, upd_ne _ _ hj], ?_, ?_⟩
          · unfold cTail
            rw [hx, show e_hA_X5_readNumber tok val (nn k) (nn n) (nn s) A 0 i (xsy 7) 0 99 = _ from n1, Option.bind_some]
            dsimp only
            rw [if_neg (show ¬ (1 : Int32) = 0 from by decide), hx, show e_hA_X5_readNumber tok1 val1 (nn k1) (nn n) (nn s1) A 0 (nn a) (xsy 8) 4 12 = _ from n3, Option.bind_some]
            dsimp only
            rw [if_neg (show ¬ (1 : Int32) = 0 from by decide), hx, hx, o1, Option.bind_some, if_neg (by decide), e1, Option.bind_some]
            dsimp only
            rw [x1, Option.bind_some, t1, Option.bind_some]
            dsimp only
            rw [if_neg (show ¬ (1 : Int32) = 0 from by decide), hx, hu', nn_succ]
          · unfold J_hP_X9_readUmbrella_83
            rw [eg, Option.bind_some]
            dsimp only
            rw [show e_hP_X9_readPart srt wrd (nn k) (nn n) B (nn s) num 0 wa (xsy 29) 0 99 = _ from n2, Option.bind_some]
            dsimp only
            rw [show e_hP_X9_readPart srt1 wrd1 (nn k1) (nn n) B (nn s1) num1 0 wa (xsy 30) 4 12 = _ from n4, Option.bind_some]
            dsimp only
            rw [o2, Option.bind_some, if_neg (by decide), e2, Option.bind_some]
            dsimp only
            rw [t2, Option.bind_some]
            exact j136_ok hu (by omega) R4.2.2.2.ne5
