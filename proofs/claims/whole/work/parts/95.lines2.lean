/-! THE PURE PART: the line of a change, of a claim -/
theorem q_changed {n s k nl lo np nu : Nat} {A B : pA} (T : tpe n A B) (hp : np ≤ 6) (hu : nu ≤ 5) {PN UN NA : Nat → Int64} {NS NO : pA} (M : NMR np nu PN UN NA NS NO) (hl : nl ≤ 16) (hlo : lo ≤ 40) {tok srt num : Int32} {val wrd : Int64} (R : RS n s k tok srt num val wrd) {L wa got : Int32} (hL : ¬ L = 0) {DA WA OA XA DB WB OB XB : pA} (h0 : (nl = 0 ∧ lo = 0) ∨ (0 < nl ∧ DA (nl - 1) = nn lo ∧ DB (nl - 1) = nn lo)) :
    (∃ (c : Int32) (s1 k1 : Nat) (tok1 : Int32) (val1 : Int64) (got' p q r : Int32) (w : Int64), ¬ c ≤ 0 ∧ e_hA_X5_readLogLine (nn nl) (nn k) (nn n) (nn s) val tok A (nn nu) UN got 0 DA WA OA XA (nn np) PN 2 = some (0, nn s1, val1, tok1, nn k1, got', c, WA, OA, XA, DA, nn nl) ∧ e_hP_X9_readChanged (nn nl) L srt (nn k) (nn n) B (nn s) num wrd 0 wa (nn (np + nu)) NA NO NS DB WB OB XB = some (p, 5, q, r, w, c, nn s1, WB, OB, XB, DB, nn nl)) ∨
    (∃ (u v : Nat) (d s1 k1 : Nat) (tok1 srt1 num1 got' : Int32) (val1 wrd1 : Int64), nl < 16 ∧ u < nu ∧ v < nu ∧ ¬ u = v ∧ lo ≤ d ∧ d ≤ 40 ∧ k ≤ s1 ∧ RS n s1 k1 tok1 srt1 num1 val1 wrd1 ∧ e_hA_X5_readLogLine (nn nl) (nn k) (nn n) (nn s) val tok A (nn nu) UN got 0 DA WA OA XA (nn np) PN 2 = some (1, nn s1, val1, tok1, nn k1, got', 0, upd WA nl 2, upd OA nl (nn u), upd XA nl (nn v), upd DA nl (nn d), nn (nl + 1)) ∧ e_hP_X9_readChanged (nn nl) L srt (nn k) (nn n) B (nn s) num wrd 0 wa (nn (np + nu)) NA NO NS DB WB OB XB = some (nn s1, srt1, nn k1, num1, wrd1, 0, wa, upd WB nl 2, upd OB nl (nn u), upd XB nl (nn v), upd DB nl (nn d), nn (nl + 1))) := by
  have n5 := R.2.2.2.ne5
  by_cases h6 : nl < 16
  · have j6 : ¬ nn nl = (16 : Int32) := by rw [show (16 : Int32) = nn 16 from rfl, nn_inj (by omega) (by omega)]; omega
    obtain ⟨s1, k1, tok1, srt1, num1, val1, wrd1, g1, R1, e1, e2⟩ := rs_next T R.2.1 (p2 := nn s) (p4 := tok) (p3 := val) (q0 := srt) (q4 := nn s) (q5 := num) (q6 := wrd) n5
    have lb := lb_ok (flt := 0) (wa := wa) j6 hL e2
    obtain ⟨idx, x1, x2⟩ := q_toldUmbrella T hp hu M R1 got wa
    rcases x2 with ⟨c, c0, t1, t2⟩ | ⟨u, s2, k2, tok2, srt2, num2, val2, wrd2, hpp, g2, R2, t1, t2⟩
    · left
      refine ⟨c, s1, k1, tok1, val1, got, nn s1, nn k1, num1, wrd1, c0, ?_, ?_⟩
      · unfold e_hA_X5_readLogLine
        rw [full_no h6, Option.bind_some, if_pos rfl, e1, Option.bind_some, if_neg (by decide)]
        dsimp only
        rw [x1, Option.bind_some, t1]
        rfl
      · unfold e_hP_X9_readChanged
        rw [lb, Option.bind_some]
        dsimp only
        rw [t2, Option.bind_some]
        dsimp only
        rw [ko5 (by omega), Option.bind_some]
        dsimp only
        rw [if_pos rfl, go5, Option.bind_some]
        dsimp only
        rw [lg5n hl]
        rfl
    · have cl59 : e_hA_X5_readLogLine (nn nl) (nn k) (nn n) (nn s) val tok A (nn nu) UN got 0 DA WA OA XA (nn np) PN 2 = J_hA_X5_readLogLine_59 (nn nl) (nn k2) (nn n) (nn s2) val2 tok2 A (nn nu) UN (nn u) 0 DA WA OA XA (nn np) PN 2 (nn u) := by
        unfold e_hA_X5_readLogLine
        rw [full_no h6, Option.bind_some, if_pos rfl, e1, Option.bind_some, if_neg (by decide)]
        dsimp only
        rw [x1, Option.bind_some, t1, Option.bind_some]
        dsimp only
        rw [if_neg (show ¬ (1 : Int32) = 0 from by decide)]
        unfold J_hA_X5_readLogLine_50
        rw [if_neg (by decide), if_pos rfl]
      have rfk : e_hP_X9_readChanged (nn nl) L srt (nn k) (nn n) B (nn s) num wrd 0 wa (nn (np + nu)) NA NO NS DB WB OB XB = ((e_hP_X9_knownOne srt2 wrd2 (nn (np + nu)) NA 0 (nn s2) wa NO NS 1).bind fun z21 => if z21.2.2.2 = (5 : Int32) then ((e_hP_X9_goesOn z21.2.2.2 (nn k2) (nn n) B (nn s2) num2 wrd2).bind fun z44 => (e_hP_X9_logs (nn nl) DB z44.2.1 z44.2.2.2.2 z44.2.2.1 (nn n) B z44.1 z44.2.2.2.1 z21.2.1 z21.2.2.1 WB OB XB (2 : Int32) (nn u) z21.1)) else if nn u = z21.1 then ((e_hP_X9_flaw z21.2.2.2 z21.2.1 (nn s2) z21.2.2.1 (3 : Int32)).bind fun z40 => (e_hP_X9_goesOn z40.2.2 (nn k2) (nn n) B (nn s2) num2 wrd2).bind fun z44 => (e_hP_X9_logs (nn nl) DB z44.2.1 z44.2.2.2.2 z44.2.2.1 (nn n) B z44.1 z44.2.2.2.1 z40.1 z40.2.1 WB OB XB (2 : Int32) (nn u) z21.1)) else ((e_hP_X9_goesOn z21.2.2.2 (nn k2) (nn n) B (nn s2) num2 wrd2).bind fun z44 => (e_hP_X9_logs (nn nl) DB z44.2.1 z44.2.2.2.2 z44.2.2.1 (nn n) B z44.1 z44.2.2.2.1 z21.2.1 z21.2.2.1 WB OB XB (2 : Int32) (nn u) z21.1))) := by
        unfold e_hP_X9_readChanged
        rw [lb, Option.bind_some]
        dsimp only
        rw [t2, Option.bind_some]
        dsimp only
        have sb : ∀ (o : Option (Int32 × Int32 × Int32 × Int32 × Int64 × Int32 × Int32 × (Nat → Int32) × (Nat → Int32) × (Nat → Int32) × (Nat → Int32) × Int32)), (o.bind fun z51 => some (z51.1, z51.2.1, z51.2.2.1, z51.2.2.2.1, z51.2.2.2.2.1, z51.2.2.2.2.2.1, z51.2.2.2.2.2.2.1, z51.2.2.2.2.2.2.2.1, z51.2.2.2.2.2.2.2.2.1, z51.2.2.2.2.2.2.2.2.2.1, z51.2.2.2.2.2.2.2.2.2.2.1, z51.2.2.2.2.2.2.2.2.2.2.2)) = o := by
          intro o
          cases o <;> rfl
        simp only [sb]
      have c85 : ∀ {i : Int32}, e_hA_X5_indexOfUmbrella (nn nu) UN val2 = some i → J_hA_X5_readLogLine_85 (nn nl) (nn k2) (nn n) (nn s2) val2 tok2 A (nn nu) UN (nn u) 0 DA WA OA XA (nn np) PN 2 (nn u) = J_hA_X5_readLogLine_101 (nn nl) (nn k2) (nn n) (nn s2) val2 tok2 A (nn nu) UN (nn u) 0 DA WA OA XA (nn np) PN 2 (nn u) i := by
        intro i hi
        unfold J_hA_X5_readLogLine_85
        rw [if_neg (by decide), hi, Option.bind_some]
      rcases q_knownUmbrella hp hu M R2.2.2.2 (flt := 0) (pl := nn s2) (wa := wa) with ⟨w1, w2⟩ | ⟨w1, w2, w3⟩ | ⟨v, hv, w1, w2, w3⟩
      · obtain ⟨i, hi⟩ := anyU hu UN val2
        left
        refine ⟨1, s2, k2, tok2, val2, nn u, nn s2, nn k2, num2, wrd2, by decide, ?_, ?_⟩
        · rw [cl59]
          unfold J_hA_X5_readLogLine_59
          rw [if_pos rfl, w1, Option.bind_some, if_pos rfl, c85 hi]
          unfold J_hA_X5_readLogLine_101
          rw [ct_bad w1]
          rfl
        · rw [rfk, w2, Option.bind_some]
          dsimp only
          rw [if_pos rfl, go5, Option.bind_some]
          dsimp only
          rw [lg5n hl]
      · left
        refine ⟨2, s2, k2, tok2, val2, nn u, nn s2, nn k2, num2, wrd2, by decide, ?_, ?_⟩
        · rw [cl59]
          unfold J_hA_X5_readLogLine_59
          rw [if_pos rfl, w1, Option.bind_some, if_neg (by decide), w2, Option.bind_some, if_neg (show ¬ (-1 : Int32) = nn u from fun z => Eq.mp (nn_ne1 (by omega)) z.symm), c85 w2]
          unfold J_hA_X5_readLogLine_101
          rw [ct_no w1]
          rfl
        · rw [rfk, w3, Option.bind_some]
          dsimp only
          rw [if_pos rfl, go5, Option.bind_some]
          dsimp only
          rw [lg5n hl]
      · by_cases uv : u = v
        · subst uv
          left
          refine ⟨3, s2, k2, tok2, val2, nn u, nn s2, nn k2, num2, wrd2, by decide, ?_, ?_⟩
          · rw [cl59]
            unfold J_hA_X5_readLogLine_59
            rw [if_pos rfl, w1, Option.bind_some, if_neg (by decide), w2, Option.bind_some, if_pos rfl]
            rfl
          · rw [rfk, w3, Option.bind_some]
            dsimp only
            rw [if_neg R2.2.2.2.ne5, if_pos rfl, fl0 R2.2.2.2.ne5, Option.bind_some]
            dsimp only
            rw [go5, Option.bind_some]
            dsimp only
            rw [lg5n hl]
        · have nuv : ¬ nn u = nn v := by rw [nn_inj (by omega) (by omega)]; exact uv
          obtain ⟨s3, k3, tok3, srt3, num3, val3, wrd3, g3, R3, e3, e4⟩ := rs_next T R2.2.1 (p2 := nn s2) (p4 := tok2) (p3 := val2) (q0 := srt2) (q4 := nn s2) (q5 := num2) (q6 := wrd2) R2.2.2.2.ne5
          have cl : e_hA_X5_readLogLine (nn nl) (nn k) (nn n) (nn s) val tok A (nn nu) UN got 0 DA WA OA XA (nn np) PN 2 = J_hA_X5_readLogLine_114 (nn nl) (nn k3) (nn n) (nn s3) val3 tok3 A (nn nu) UN (nn v) 0 DA WA OA XA (nn np) PN 2 (nn u) (nn v) := by
            rw [cl59]
            unfold J_hA_X5_readLogLine_59
            rw [if_pos rfl, w1, Option.bind_some, if_neg (by decide), w2, Option.bind_some, if_neg (fun z => nuv z.symm), c85 w2]
            unfold J_hA_X5_readLogLine_101
            rw [ct_yes w1 (by rw [nn_ne1 (by omega)]; exact fun z => z) e3, Option.bind_some]
            dsimp only
            rw [if_neg (show ¬ (1 : Int32) = 0 from by decide)]
          have rf : e_hP_X9_readChanged (nn nl) L srt (nn k) (nn n) B (nn s) num wrd 0 wa (nn (np + nu)) NA NO NS DB WB OB XB = e_hP_X9_logs (nn nl) DB srt3 wrd3 (nn k3) (nn n) B (nn s3) num3 0 wa WB OB XB 2 (nn u) (nn v) := by
            rw [rfk, w3, Option.bind_some]
            dsimp only
            rw [if_neg R2.2.2.2.ne5, if_neg nuv, e4, Option.bind_some]
          rcases q_log T h6 hlo R3 (DA := DA) (WA := WA) (OA := OA) (XA := XA) (DB := DB) (WB := WB) (OB := OB) (XB := XB) (UN := UN) (PN := PN) (q7 := nn nu) (q15 := nn np) (got := nn v) (wa := wa) (f1 := 2) (f2 := nn u) (f3 := nn v) (x1 := 2) (x2 := nn u) (x3 := nn v) h0 with ⟨c, s4, k4, tok4, val4, p', q, r, w, c0, u1, u2⟩ | ⟨d, s4, k4, tok4, srt4, num4, val4, wrd4, d1, d2, g4, R4, u1, u2⟩
          · exact Or.inl ⟨c, s4, k4, tok4, val4, nn v, p', q, r, w, c0, cl.trans u1, rf.trans u2⟩
          · exact Or.inr ⟨u, v, d, s4, k4, tok4, srt4, num4, nn d, val4, wrd4, h6, hpp, hv, uv, d1, d2, by have := R1.1; have := R2.1; have := R3.1; omega, R4, cl.trans u1, rf.trans u2⟩
  · left
    obtain rfl : nl = 16 := by omega
    refine ⟨5, s, k, tok, val, got, nn s, nn k, num, wrd, by decide, rfl, ?_⟩
    unfold e_hP_X9_readChanged
    rw [lb_many n5 (show nn 16 = (16 : Int32) from rfl), Option.bind_some]
    dsimp only
    rw [rk5 (by omega), Option.bind_some]
    dsimp only
    rw [ko5 (by omega), Option.bind_some]
    dsimp only
    rw [if_pos rfl, go5, Option.bind_some]
    dsimp only
    rw [lg5n hl]
    rfl
theorem q_claimline {n s k nc np nu : Nat} {A B : pA} (T : tpe n A B) (hp : np ≤ 6) (hu : nu ≤ 5) {PN UN NA : Nat → Int64} {NS NO : pA} (M : NMR np nu PN UN NA NS NO) (hl : nc ≤ 6) {tok srt num : Int32} {val wrd : Int64} (R : RS n s k tok srt num val wrd) {L wa got : Int32} (hL : ¬ L = 0) {DA WA OA XA DB OB XB : pA} :
    (∃ (c : Int32) (s1 k1 : Nat) (tok1 : Int32) (val1 : Int64) (got' p q r : Int32) (w : Int64), ¬ c ≤ 0 ∧ e_hA_X5_readClaimLine (nn nc) (nn k) (nn n) (nn s) val tok A (nn np) PN got 0 (nn nu) UN WA OA XA DA = some (0, nn s1, val1, tok1, nn k1, got', c, WA, OA, XA, DA, nn nc) ∧ e_hP_X9_readClaims (nn nc) L srt (nn k) (nn n) B (nn s) num wrd 0 wa (nn (np + nu)) NA NO NS OB XB DB = some (p, 5, q, r, w, c, nn s1, OB, XB, DB, nn nc)) ∨
    (∃ (p u d s1 k1 : Nat) (tok1 srt1 num1 got' : Int32) (val1 wrd1 : Int64), nc < 6 ∧ p < np ∧ u < nu ∧ d ≤ 40 ∧ k ≤ s1 ∧ RS n s1 k1 tok1 srt1 num1 val1 wrd1 ∧ e_hA_X5_readClaimLine (nn nc) (nn k) (nn n) (nn s) val tok A (nn np) PN got 0 (nn nu) UN WA OA XA DA = some (1, nn s1, val1, tok1, nn k1, got', 0, upd WA nc 0, upd OA nc (nn u), upd XA nc (nn p), upd DA nc (nn d), nn (nc + 1)) ∧ e_hP_X9_readClaims (nn nc) L srt (nn k) (nn n) B (nn s) num wrd 0 wa (nn (np + nu)) NA NO NS OB XB DB = some (nn s1, srt1, nn k1, num1, wrd1, 0, wa, upd OB nc (nn p), upd XB nc (nn u), upd DB nc (nn d), nn (nc + 1))) := by
  have n5 := R.2.2.2.ne5
  by_cases h6 : nc < 6
  · have j6 : ¬ nn nc = (6 : Int32) := by rw [show (6 : Int32) = nn 6 from rfl, nn_inj (by omega) (by omega)]; omega
    have fn : e_hA_X2_isFull_2 (nn nc) = some 0 := by
      unfold e_hA_X2_isFull_2
      rw [if_pos (by rw [show (6 : Int32) = nn 6 from rfl, nn_lt (by omega) (by omega)]; exact h6)]
    obtain ⟨s1, k1, tok1, srt1, num1, val1, wrd1, g1, R1, e1, e2⟩ := rs_next T R.2.1 (p2 := nn s) (p4 := tok) (p3 := val) (q0 := srt) (q4 := nn s) (q5 := num) (q6 := wrd) n5
    have lb := lb_ok (flt := 0) (wa := wa) j6 hL e2
    obtain ⟨idx, x1, x2⟩ := q_toldPerson T hp hu M R1 got wa
    rcases x2 with ⟨c, c0, t1, t2⟩ | ⟨p, s2, k2, tok2, srt2, num2, val2, wrd2, hpp, g2, R2, t1, t2⟩
    · left
      refine ⟨c, s1, k1, tok1, val1, got, nn s1, nn k1, num1, wrd1, c0, ?_, ?_⟩
      · unfold e_hA_X5_readClaimLine
        rw [fn, Option.bind_some, if_pos rfl, e1, Option.bind_some]
        dsimp only
        rw [x1, Option.bind_some, t1]
        rfl
      · unfold e_hP_X9_readClaims
        rw [lb, Option.bind_some]
        dsimp only
        rw [t2, Option.bind_some]
        dsimp only
        rw [rk5 (by omega), Option.bind_some]
        dsimp only
        rw [rpt5, Option.bind_some]
        exact if_pos rfl
    · obtain ⟨idx2, y1, y2⟩ := q_toldUmbrella T hp hu M R2 (nn p) wa
      rcases y2 with ⟨c, c0, t3, t4⟩ | ⟨u, s3, k3, tok3, srt3, num3, val3, wrd3, hu3, g3, R3, t3, t4⟩
      · left
        refine ⟨c, s2, k2, tok2, val2, nn p, nn s2, nn k2, num2, wrd2, c0, ?_, ?_⟩
        · unfold e_hA_X5_readClaimLine
          rw [fn, Option.bind_some, if_pos rfl, e1, Option.bind_some]
          dsimp only
          rw [x1, Option.bind_some, t1, Option.bind_some]
          dsimp only
          rw [if_neg (show ¬ (1 : Int32) = 0 from by decide), y1, Option.bind_some, t3]
          rfl
        · unfold e_hP_X9_readClaims
          rw [lb, Option.bind_some]
          dsimp only
          rw [t2, Option.bind_some]
          dsimp only
          rw [t4, Option.bind_some]
          dsimp only
          rw [rpt5, Option.bind_some]
          exact if_pos rfl
      · rcases q_num T R3 one_10 (lo := 0) (hi := 40) (by omega) (by omega) (nn u) wa with ⟨c, s4, k4, tok4, val4, v, p', q, r, w, c0, n1, n2⟩ | ⟨d, s4, k4, tok4, srt4, num4, val4, wrd4, d1, d2, g4, R4, n1, n2⟩
        · left
          refine ⟨c, s4, k4, tok4, val4, nn u, p', q, r, w, c0, ?_, ?_⟩
          · unfold e_hA_X5_readClaimLine
            rw [fn, Option.bind_some, if_pos rfl, e1, Option.bind_some]
            dsimp only
            rw [x1, Option.bind_some, t1, Option.bind_some]
            dsimp only
            rw [if_neg (show ¬ (1 : Int32) = 0 from by decide), y1, Option.bind_some, t3, Option.bind_some]
            dsimp only
            rw [if_neg (show ¬ (1 : Int32) = 0 from by decide), show e_hA_X5_readNumber tok3 val3 (nn k3) (nn n) (nn s3) A 0 (nn u) (xsy 10) 0 40 = _ from n1]
            rfl
          · unfold e_hP_X9_readClaims
            rw [lb, Option.bind_some]
            dsimp only
            rw [t2, Option.bind_some]
            dsimp only
            rw [t4, Option.bind_some]
            dsimp only
            rw [show e_hP_X9_readPart srt3 wrd3 (nn k3) (nn n) B (nn s3) num3 0 wa (xsy 32) 0 40 = _ from n2, Option.bind_some]
            exact if_pos rfl
        · right
          refine ⟨p, u, d, s4, k4, tok4, srt4, num4, nn d, val4, wrd4, h6, hpp, hu3, d2, by have := R1.1; have := R2.1; have := R3.1; omega, R4, ?_, ?_⟩
          · unfold e_hA_X5_readClaimLine
            rw [fn, Option.bind_some, if_pos rfl, e1, Option.bind_some]
            dsimp only
            rw [x1, Option.bind_some, t1, Option.bind_some]
            dsimp only
            rw [if_neg (show ¬ (1 : Int32) = 0 from by decide), y1, Option.bind_some, t3, Option.bind_some]
            dsimp only
            rw [if_neg (show ¬ (1 : Int32) = 0 from by decide), show e_hA_X5_readNumber tok3 val3 (nn k3) (nn n) (nn s3) A 0 (nn u) (xsy 10) 0 40 = _ from n1, Option.bind_some]
            dsimp only
            rw [if_neg (show ¬ (1 : Int32) = 0 from by decide)]
            unfold e_hA_X2_add_2
            rw [fn, Option.bind_some, if_pos rfl, xix_nn (by omega) (by omega), xix_nn (by omega) (by omega), xix_nn (by omega) (by omega), xix_nn (by omega) (by omega), nn_nat (by omega), nn_succ]
            rfl
          · unfold e_hP_X9_readClaims
            rw [lb, Option.bind_some]
            dsimp only
            rw [t2, Option.bind_some]
            dsimp only
            rw [t4, Option.bind_some]
            dsimp only
            rw [show e_hP_X9_readPart srt3 wrd3 (nn k3) (nn n) B (nn s3) num3 0 wa (xsy 32) 0 40 = _ from n2, Option.bind_some]
            dsimp only
            rw [if_neg R4.2.2.2.ne5, xix_nn (by omega) (by omega), xix_nn (by omega) (by omega), xix_nn (by omega) (by omega), nn_nat (by omega), nn_succ]
  · left
    obtain rfl : nc = 6 := by omega
    refine ⟨5, s, k, tok, val, got, nn s, nn k, num, wrd, by decide, rfl, ?_⟩
    unfold e_hP_X9_readClaims
    rw [lb_many n5 (show nn 6 = (6 : Int32) from rfl), Option.bind_some]
    dsimp only
    rw [rk5 (by omega), Option.bind_some]
    dsimp only
    rw [rk5 (by omega), Option.bind_some]
    dsimp only
    rw [rpt5, Option.bind_some]
    exact if_pos rfl
