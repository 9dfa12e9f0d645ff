/-! THE PURE PART: the county's line -/
theorem q_cline {n s k : Nat} {A B : pA} (T : tpe n A B) {tok srt num : Int32} {val wrd : Int64} (R : RS n s k tok srt num val wrd) {td L G Rn wa got la gu ra : Int32} (h : (td = 0 ∧ L = 0) ∨ (td = 1 ∧ ¬ L ≤ 0)) :
    (∃ (c td' : Int32) (s1 k1 : Nat) (tok1 : Int32) (val1 : Int64) (got' la' gu' ra' p q r : Int32) (w : Int64), ¬ c ≤ 0 ∧ e_hA_X5_readCountyLine td (nn k) (nn n) (nn s) val tok A 0 got la gu ra = some (0, td', nn s1, val1, tok1, nn k1, c, got', la', gu', ra') ∧ e_hP_X9_readCounty L srt (nn k) (nn n) B (nn s) num wrd 0 wa G Rn = some (p, 5, q, r, w, c, nn s1, L, G, Rn)) ∨
    (∃ (a b e s1 k1 : Nat) (tok1 srt1 num1 got' : Int32) (val1 wrd1 : Int64), 1 ≤ a ∧ a ≤ 30 ∧ b ≤ 99 ∧ e ≤ 99 ∧ k ≤ s1 ∧ RS n s1 k1 tok1 srt1 num1 val1 wrd1 ∧ e_hA_X5_readCountyLine td (nn k) (nn n) (nn s) val tok A 0 got la gu ra = some (1, 1, nn s1, val1, tok1, nn k1, 0, got', nn a, nn b, nn e) ∧ e_hP_X9_readCounty L srt (nn k) (nn n) B (nn s) num wrd 0 wa G Rn = some (nn s1, srt1, nn k1, num1, wrd1, 0, wa, nn a, nn b, nn e)) := by
  have n5 := R.2.2.2.ne5
  rcases h with ⟨rfl, rfl⟩ | ⟨rfl, hL⟩
  · obtain ⟨s1, k1, tok1, srt1, num1, val1, wrd1, g1, R1, e1, e2⟩ := rs_next T R.2.1 (p2 := nn s) (p4 := tok) (p3 := val) (q0 := srt) (q4 := nn s) (q5 := num) (q6 := wrd) n5
    rcases q_num T R1 one_2 (lo := 1) (hi := 30) (by omega) (by omega) got wa with ⟨c, s2, k2, tok2, val2, v, p, q, r, w, c0, n1, n2⟩ | ⟨a, s2, k2, tok2, srt2, num2, val2, wrd2, a1, a2, g2, R2, n1, n2⟩
    · left
      refine ⟨c, 1, s2, k2, tok2, val2, got, la, gu, ra, p, q, r, w, c0, ?_, ?_⟩
      · unfold e_hA_X5_readCountyLine
        rw [if_pos rfl, e1, Option.bind_some]
        dsimp only
        rw [show e_hA_X5_readNumber tok1 val1 (nn k1) (nn n) (nn s1) A 0 got (xsy 2) 1 30 = _ from n1]
        rfl
      · unfold e_hP_X9_readCounty
        rw [if_pos (by decide), e2, Option.bind_some]
        dsimp only
        rw [show e_hP_X9_readPart srt1 wrd1 (nn k1) (nn n) B (nn s1) num1 0 wa (xsy 19) 1 30 = _ from n2, Option.bind_some]
        dsimp only
        rw [rpt5, Option.bind_some]
        dsimp only
        rw [rpt5, Option.bind_some]
        rfl
    · rcases q_num T R2 one_3 (lo := 0) (hi := 99) (by omega) (by omega) (nn a) wa with ⟨c, s3, k3, tok3, val3, v, p, q, r, w, c0, n3, n4⟩ | ⟨b, s3, k3, tok3, srt3, num3, val3, wrd3, b1, b2, g3, R3, n3, n4⟩
      · left
        refine ⟨c, 1, s3, k3, tok3, val3, nn a, nn a, gu, ra, p, q, r, w, c0, ?_, ?_⟩
        · unfold e_hA_X5_readCountyLine
          rw [if_pos rfl, e1, Option.bind_some]
          dsimp only
          rw [show e_hA_X5_readNumber tok1 val1 (nn k1) (nn n) (nn s1) A 0 got (xsy 2) 1 30 = _ from n1, Option.bind_some]
          dsimp only
          rw [if_neg (show ¬ (1 : Int32) = 0 from by decide), show e_hA_X5_readNumber tok2 val2 (nn k2) (nn n) (nn s2) A 0 (nn a) (xsy 3) 0 99 = _ from n3]
          rfl
        · unfold e_hP_X9_readCounty
          rw [if_pos (by decide), e2, Option.bind_some]
          dsimp only
          rw [show e_hP_X9_readPart srt1 wrd1 (nn k1) (nn n) B (nn s1) num1 0 wa (xsy 19) 1 30 = _ from n2, Option.bind_some]
          dsimp only
          rw [show e_hP_X9_readPart srt2 wrd2 (nn k2) (nn n) B (nn s2) num2 0 wa (xsy 20) 0 99 = _ from n4, Option.bind_some]
          dsimp only
          rw [rpt5, Option.bind_some]
          rfl
      · rcases q_num T R3 one_4 (lo := 0) (hi := 99) (by omega) (by omega) (nn b) wa with ⟨c, s4, k4, tok4, val4, v, p, q, r, w, c0, n5', n6⟩ | ⟨d, s4, k4, tok4, srt4, num4, val4, wrd4, d1, d2, g4, R4, n5', n6⟩
        · left
          refine ⟨c, 1, s4, k4, tok4, val4, nn b, nn a, nn b, ra, p, q, r, w, c0, ?_, ?_⟩
          · unfold e_hA_X5_readCountyLine
            rw [if_pos rfl, e1, Option.bind_some]
            dsimp only
            rw [show e_hA_X5_readNumber tok1 val1 (nn k1) (nn n) (nn s1) A 0 got (xsy 2) 1 30 = _ from n1, Option.bind_some]
            dsimp only
            rw [if_neg (show ¬ (1 : Int32) = 0 from by decide), show e_hA_X5_readNumber tok2 val2 (nn k2) (nn n) (nn s2) A 0 (nn a) (xsy 3) 0 99 = _ from n3, Option.bind_some]
            dsimp only
            rw [if_neg (show ¬ (1 : Int32) = 0 from by decide), show e_hA_X5_readNumber tok3 val3 (nn k3) (nn n) (nn s3) A 0 (nn b) (xsy 4) 0 99 = _ from n5']
            rfl
          · unfold e_hP_X9_readCounty
            rw [if_pos (by decide), e2, Option.bind_some]
            dsimp only
            rw [show e_hP_X9_readPart srt1 wrd1 (nn k1) (nn n) B (nn s1) num1 0 wa (xsy 19) 1 30 = _ from n2, Option.bind_some]
            dsimp only
            rw [show e_hP_X9_readPart srt2 wrd2 (nn k2) (nn n) B (nn s2) num2 0 wa (xsy 20) 0 99 = _ from n4, Option.bind_some]
            dsimp only
            rw [show e_hP_X9_readPart srt3 wrd3 (nn k3) (nn n) B (nn s3) num3 0 wa (xsy 21) 0 99 = _ from n6, Option.bind_some]
            rfl
        · right
          refine ⟨a, b, d, s4, k4, tok4, srt4, num4, nn d, val4, wrd4, a1, a2, b2, d2, by have := R1.1; have := R2.1; have := R3.1; omega, R4, ?_, ?_⟩
          · unfold e_hA_X5_readCountyLine
            rw [if_pos rfl, e1, Option.bind_some]
            dsimp only
            rw [show e_hA_X5_readNumber tok1 val1 (nn k1) (nn n) (nn s1) A 0 got (xsy 2) 1 30 = _ from n1, Option.bind_some]
            dsimp only
            rw [if_neg (show ¬ (1 : Int32) = 0 from by decide), show e_hA_X5_readNumber tok2 val2 (nn k2) (nn n) (nn s2) A 0 (nn a) (xsy 3) 0 99 = _ from n3, Option.bind_some]
            dsimp only
            rw [if_neg (show ¬ (1 : Int32) = 0 from by decide), show e_hA_X5_readNumber tok3 val3 (nn k3) (nn n) (nn s3) A 0 (nn b) (xsy 4) 0 99 = _ from n5']
            rfl
          · unfold e_hP_X9_readCounty
            rw [if_pos (by decide), e2, Option.bind_some]
            dsimp only
            rw [show e_hP_X9_readPart srt1 wrd1 (nn k1) (nn n) B (nn s1) num1 0 wa (xsy 19) 1 30 = _ from n2, Option.bind_some]
            dsimp only
            rw [show e_hP_X9_readPart srt2 wrd2 (nn k2) (nn n) B (nn s2) num2 0 wa (xsy 20) 0 99 = _ from n4, Option.bind_some]
            dsimp only
            rw [show e_hP_X9_readPart srt3 wrd3 (nn k3) (nn n) B (nn s3) num3 0 wa (xsy 21) 0 99 = _ from n6, Option.bind_some]
            dsimp only
            rw [if_neg R4.2.2.2.ne5]
  · left
    refine ⟨3, 1, s, k, tok, val, got, la, gu, ra, nn s, nn k, num, wrd, by decide, rfl, ?_⟩
    unfold e_hP_X9_readCounty
    rw [if_neg hL, fl0 n5, Option.bind_some]
    dsimp only
    rw [go5, Option.bind_some]
    dsimp only
    rw [rpt5, Option.bind_some]
    dsimp only
    rw [rpt5, Option.bind_some]
    dsimp only
    rw [rpt5, Option.bind_some]
    rfl
