/-! THE PURE PART: a person's line under both -/
theorem q_pline {n s k np nu : Nat} {A B : pA} (T : tpe n A B) (hp : np ≤ 6) (hu : nu ≤ 5) {PN UN NA : Nat → Int64} {NS NO : pA} (M : NMR np nu PN UN NA NS NO) {tok srt num : Int32} {val wrd : Int64} (R : RS n s k tok srt num val wrd) {L wa got : Int32} (hL : ¬ L = 0) {S SR : pA} :
    (∃ (c : Int32) (s1 k1 : Nat) (tok1 : Int32) (val1 : Int64) (PN' : Nat → Int64) (got' : Int32) (S1 : pA) (n1 p q r : Int32) (w : Int64), ¬ c ≤ 0 ∧ e_hA_X5_readPersonLine (nn np) (nn k) (nn n) (nn s) val tok A PN 0 (nn nu) UN got S = some (0, nn s1, val1, tok1, nn k1, PN', c, got', S1, n1) ∧ e_hP_X9_readPerson (nn np) L srt (nn k) (nn n) B (nn s) num wrd 0 wa (nn (np + nu)) NA NS NO SR = some (p, 5, q, r, w, c, nn s1, NA, NS, NO, nn (np + nu), SR, nn np)) ∨
    (∃ (i s1 k1 : Nat) (tok1 srt1 num1 got' : Int32) (val1 wrd1 : Int64) (PN' NA' : Nat → Int64) (NS' NO' : pA), np < 6 ∧ i < 3 ∧ k ≤ s1 ∧ RS n s1 k1 tok1 srt1 num1 val1 wrd1 ∧ NMR (np + 1) nu PN' UN NA' NS' NO' ∧ e_hA_X5_readPersonLine (nn np) (nn k) (nn n) (nn s) val tok A PN 0 (nn nu) UN got S = some (1, nn s1, val1, tok1, nn k1, PN', 0, got', upd S np (nn i), nn (np + 1)) ∧ e_hP_X9_readPerson (nn np) L srt (nn k) (nn n) B (nn s) num wrd 0 wa (nn (np + nu)) NA NS NO SR = some (nn s1, srt1, nn k1, num1, wrd1, 0, wa, NA', NS', NO', nn (np + nu + 1), upd SR np (nn i), nn (np + 1))) := by
  have n5 := R.2.2.2.ne5
  by_cases h6 : np < 6
  · have i6 : nn np < (6 : Int32) := by rw [show (6 : Int32) = nn 6 from rfl, nn_lt (by omega) (by omega)]; exact h6
    have j6 : ¬ nn np = (6 : Int32) := by rw [show (6 : Int32) = nn 6 from rfl, nn_inj (by omega) (by omega)]; omega
    obtain ⟨s1, k1, tok1, srt1, num1, val1, wrd1, g1, R1, e1, e2⟩ := rs_next T R.2.1 (p2 := nn s) (p4 := tok) (p3 := val) (q0 := srt) (q4 := nn s) (q5 := num) (q6 := wrd) n5
    have lb := lb_ok (flt := 0) (wa := wa) j6 hL e2
    have M1 : NMR np nu (vp_updL PN np val1) UN NA NS NO := M.congrP (fun p hpp => updL_ne _ _ (by omega))
    rcases q_fresh T hp hu M1 R1 wa with ⟨c, c0, n1, n2⟩ | ⟨r, s2, k2, tok2, srt2, num2, val2, wrd2, hr, ev, ew, hf, g2, R2, n1, n2⟩
    · left
      refine ⟨c, s1, k1, tok1, val1, vp_updL PN np val1, got, S, nn np, _, _, _, _, c0, ?_, rper_bad lb n2⟩
      unfold e_hA_X5_readPersonLine
      rw [if_pos i6, e1, Option.bind_some, xix_nn (by omega) (by omega), nn_nat (by omega)]
      dsimp only
      rw [n1]
      rfl
    · have cl : ∀ X, ((e_hA_X5_readOneOf tok2 val2 got (nn k2) (nn n) (nn s2) A 0 (xsy 5)).bind fun z44 => if z44.1 = (0 : Int32) then some ((0 : Int32), z44.2.2.1, z44.2.2.2.1, z44.2.2.2.2.1, z44.2.2.2.2.2.1, (vp_updL PN np val1), z44.2.2.2.2.2.2, z44.2.1, S, nn np) else (xix (nn np) 6 (some ((1 : Int32), z44.2.2.1, z44.2.2.2.1, z44.2.2.2.2.1, z44.2.2.2.2.2.1, (vp_updL PN np val1), z44.2.2.2.2.2.2, z44.2.1, (upd S np z44.2.1), (nn np + (1 : Int32)))))) = X → e_hA_X5_readPersonLine (nn np) (nn k) (nn n) (nn s) val tok A PN 0 (nn nu) UN got S = X := by
        intro X hX
        unfold e_hA_X5_readPersonLine
        rw [if_pos i6, e1, Option.bind_some, xix_nn (by omega) (by omega), nn_nat (by omega)]
        dsimp only
        rw [n1, Option.bind_some]
        exact hX
      have m5 := R2.2.2.2.ne5
      rcases q_sorts R2.2.2.2 with ⟨a1, o0, o1, o2⟩ | ⟨y1, y2, o⟩
      · left
        refine ⟨1, s2, k2, tok2, val2, vp_updL PN np val1, -1, S, nn np, nn s2, nn k2, num2, wrd2, by decide, cl _ ?_, ?_⟩
        · rw [co_bad a1]
          rfl
        · unfold e_hP_X9_readPerson
          rw [lb, Option.bind_some]
          dsimp only
          rw [n2, Option.bind_some]
          dsimp only
          rw [o0, Option.bind_some, if_pos rfl, o1, Option.bind_some, if_pos rfl, o2, Option.bind_some, if_pos rfl]
          exact j58_bad m5
      · right
        obtain ⟨s3, k3, tok3, srt3, num3, val3, wrd3, g3, R3, e3, e4⟩ := rs_next T R2.2.1 (p2 := nn s2) (p4 := tok2) (p3 := val2) (q0 := srt2) (q4 := nn s2) (q5 := num2) (q6 := wrd2) m5
        have fin : ∀ i, i < 3 → e_hA_X5_indexAmong tok2 val2 (xsy 5) = some (nn i) → e_hP_X9_readPerson (nn np) L srt (nn k) (nn n) B (nn s) num wrd 0 wa (nn (np + nu)) NA NS NO SR = J_hP_X9_readPerson_58 (nn np) L srt2 (nn k2) (nn n) B (nn s2) num2 wrd2 0 wa (nn (np + nu)) NA NS NO SR wrd1 (nn i) → ∃ (i s1 k1 : Nat) (tok1 srt1 num1 got' : Int32) (val1 wrd1 : Int64) (PN' NA' : Nat → Int64) (NS' NO' : pA), np < 6 ∧ i < 3 ∧ k ≤ s1 ∧ RS n s1 k1 tok1 srt1 num1 val1 wrd1 ∧ NMR (np + 1) nu PN' UN NA' NS' NO' ∧ e_hA_X5_readPersonLine (nn np) (nn k) (nn n) (nn s) val tok A PN 0 (nn nu) UN got S = some (1, nn s1, val1, tok1, nn k1, PN', 0, got', upd S np (nn i), nn (np + 1)) ∧ e_hP_X9_readPerson (nn np) L srt (nn k) (nn n) B (nn s) num wrd 0 wa (nn (np + nu)) NA NS NO SR = some (nn s1, srt1, nn k1, num1, wrd1, 0, wa, NA', NS', NO', nn (np + nu + 1), upd SR np (nn i), nn (np + 1)) := by
          intro i hi ha hb
          have ni : ¬ nn i = -1 := by rw [nn_ne1 (by omega)]; exact fun z => z
          refine ⟨i, s3, k3, tok3, srt3, num3, nn i, val3, wrd3, vp_updL PN np val1, vp_updL NA (np + nu) wrd1, upd NS (np + nu) 0, upd NO (np + nu) (nn np), h6, hi, by have := R1.1; have := R2.1; omega, R3, ?_, cl _ ?_, ?_⟩
          · rw [ew]
            exact M1.addP hr (by rw [updL_at]; exact ev) (fun j hj => by rw [← ew]; exact hf j hj)
          · rw [co_ok ha ni e3, Option.bind_some]
            dsimp only
            rw [if_neg (show ¬ (1 : Int32) = 0 from by decide), xix_nn (by omega) (by omega), nn_succ]
          · rw [hb]
            exact j58_ok h6 (by omega) ni e4 R3.2.2.2.ne5
        have hd : ∀ X, ((e_hP_X9_isWord srt2 wrd2 (xsy 22)).bind fun z21 => if z21 = (0 : Int32) then ((e_hP_X9_isWord srt2 wrd2 (xsy 23)).bind fun z34 => if z34 = (0 : Int32) then ((e_hP_X9_isWord srt2 wrd2 (xsy 24)).bind fun z47 => if z47 = (0 : Int32) then J_hP_X9_readPerson_58 (nn np) L srt2 (nn k2) (nn n) B (nn s2) num2 wrd2 0 wa (nn (np + nu)) NA NS NO SR wrd1 (-1 : Int32) else J_hP_X9_readPerson_58 (nn np) L srt2 (nn k2) (nn n) B (nn s2) num2 wrd2 0 wa (nn (np + nu)) NA NS NO SR wrd1 (2 : Int32)) else J_hP_X9_readPerson_58 (nn np) L srt2 (nn k2) (nn n) B (nn s2) num2 wrd2 0 wa (nn (np + nu)) NA NS NO SR wrd1 (1 : Int32)) else J_hP_X9_readPerson_58 (nn np) L srt2 (nn k2) (nn n) B (nn s2) num2 wrd2 0 wa (nn (np + nu)) NA NS NO SR wrd1 (0 : Int32)) = X → e_hP_X9_readPerson (nn np) L srt (nn k) (nn n) B (nn s) num wrd 0 wa (nn (np + nu)) NA NS NO SR = X := by
          intro X hX
          unfold e_hP_X9_readPerson
          rw [lb, Option.bind_some]
          dsimp only
          rw [n2, Option.bind_some]
          exact hX
        rcases o with ⟨a1, o0⟩ | ⟨a1, o0, o1⟩ | ⟨a1, o0, o1, o2⟩
        · exact fin 0 (by omega) a1 (hd _ (by rw [o0, Option.bind_some, if_neg (show ¬ (1 : Int32) = 0 from by decide)]; rfl))
        · exact fin 1 (by omega) a1 (hd _ (by rw [o0, Option.bind_some, if_pos rfl, o1, Option.bind_some, if_neg (show ¬ (1 : Int32) = 0 from by decide)]; rfl))
        · exact fin 2 (by omega) a1 (hd _ (by rw [o0, Option.bind_some, if_pos rfl, o1, Option.bind_some, if_pos rfl, o2, Option.bind_some, if_neg (show ¬ (1 : Int32) = 0 from by decide)]; rfl))
  · left
    obtain rfl : np = 6 := by omega
    refine ⟨5, s, k, tok, val, PN, got, S, nn 6, nn s, nn k, num, wrd, by decide, ?_, rper_over (by omega) (lb_many n5 rfl)⟩
    unfold e_hA_X5_readPersonLine
    rw [if_neg (by decide)]
    rfl
