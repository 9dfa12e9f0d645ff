/-! THE PURE PART: log lines -/
theorem full_no {nl : Nat} (h : nl < 16) : e_hA_X2_isFull (nn nl) = some 0 := by
  unfold e_hA_X2_isFull
  rw [if_pos (by rw [show (16 : Int32) = nn 16 from rfl, nn_lt (by omega) (by omega)]; exact h)]
theorem lg5n {nl : Nat} (h : nl ≤ 16) {sp sz pl num flt wa x1 x2 x3 : Int32} {w : Int64} {B DB WB OB XB : pA} : e_hP_X9_logs (nn nl) DB 5 w sp sz B pl num flt wa WB OB XB x1 x2 x3 = some (pl, 5, sp, num, w, flt, wa, WB, OB, XB, DB, nn nl) := by
  refine lg5 ?_
  by_cases q : nl = 0
  · subst q; exact Or.inl rfl
  · exact Or.inr (fun K => by rw [show nn nl - (1 : Int32) = nn (nl - 1) from nn_sub (b := 1) (by omega)]; exact xix_nn (by omega) (by omega) K)
theorem q_rain {n s k nl lo np nu : Nat} {A B : pA} (T : tpe n A B) (hp : np ≤ 6) (hu : nu ≤ 5) {PN UN NA : Nat → Int64} {NS NO : pA} (M : NMR np nu PN UN NA NS NO) (hl : nl ≤ 16) (hlo : lo ≤ 40) {tok srt num : Int32} {val wrd : Int64} (R : RS n s k tok srt num val wrd) {L wa got : Int32} (hL : ¬ L = 0) {DA WA OA XA DB WB OB XB : pA} (h0 : (nl = 0 ∧ lo = 0) ∨ (0 < nl ∧ DA (nl - 1) = nn lo ∧ DB (nl - 1) = nn lo)) :
    (∃ (c : Int32) (s1 k1 : Nat) (tok1 : Int32) (val1 : Int64) (got' p q r : Int32) (w : Int64), ¬ c ≤ 0 ∧ e_hA_X5_readLogLine (nn nl) (nn k) (nn n) (nn s) val tok A (nn nu) UN got 0 DA WA OA XA (nn np) PN 3 = some (0, nn s1, val1, tok1, nn k1, got', c, WA, OA, XA, DA, nn nl) ∧ e_hP_X9_readRain (nn nl) L srt (nn k) (nn n) B (nn s) num wrd 0 wa DB WB OB XB = some (p, 5, q, r, w, c, nn s1, WB, OB, XB, DB, nn nl)) ∨
    (∃ (d s1 k1 : Nat) (tok1 srt1 num1 got' : Int32) (val1 wrd1 : Int64), nl < 16 ∧ lo ≤ d ∧ d ≤ 40 ∧ k ≤ s1 ∧ RS n s1 k1 tok1 srt1 num1 val1 wrd1 ∧ e_hA_X5_readLogLine (nn nl) (nn k) (nn n) (nn s) val tok A (nn nu) UN got 0 DA WA OA XA (nn np) PN 3 = some (1, nn s1, val1, tok1, nn k1, got', 0, upd WA nl 3, upd OA nl (-1), upd XA nl (-1), upd DA nl (nn d), nn (nl + 1)) ∧ e_hP_X9_readRain (nn nl) L srt (nn k) (nn n) B (nn s) num wrd 0 wa DB WB OB XB = some (nn s1, srt1, nn k1, num1, wrd1, 0, wa, upd WB nl 3, upd OB nl 0, upd XB nl 0, upd DB nl (nn d), nn (nl + 1))) := by
  have n5 := R.2.2.2.ne5
  by_cases h6 : nl < 16
  · have j6 : ¬ nn nl = (16 : Int32) := by rw [show (16 : Int32) = nn 16 from rfl, nn_inj (by omega) (by omega)]; omega
    obtain ⟨s1, k1, tok1, srt1, num1, val1, wrd1, g1, R1, e1, e2⟩ := rs_next T R.2.1 (p2 := nn s) (p4 := tok) (p3 := val) (q0 := srt) (q4 := nn s) (q5 := num) (q6 := wrd) n5
    have lb := lb_ok (flt := 0) (wa := wa) j6 hL e2
    have cl : e_hA_X5_readLogLine (nn nl) (nn k) (nn n) (nn s) val tok A (nn nu) UN got 0 DA WA OA XA (nn np) PN 3 = J_hA_X5_readLogLine_114 (nn nl) (nn k1) (nn n) (nn s1) val1 tok1 A (nn nu) UN got 0 DA WA OA XA (nn np) PN 3 (-1) (-1) := by
      unfold e_hA_X5_readLogLine
      rw [full_no h6, Option.bind_some, if_pos rfl, e1, Option.bind_some, if_pos rfl]
      rfl
    have rf : ∀ {a b c d w f g : _} {WX OX XX DX : pA} {N : Int32}, e_hP_X9_logs (nn nl) DB srt1 wrd1 (nn k1) (nn n) B (nn s1) num1 0 wa WB OB XB 3 0 0 = some (a, b, c, d, w, f, g, WX, OX, XX, DX, N) → e_hP_X9_readRain (nn nl) L srt (nn k) (nn n) B (nn s) num wrd 0 wa DB WB OB XB = some (a, b, c, d, w, f, g, WX, OX, XX, DX, N) := by
      intro a b c d w f g WX OX XX DX N h
      unfold e_hP_X9_readRain
      rw [lb, Option.bind_some]
      dsimp only
      rw [h]
      rfl
    rcases q_log T h6 hlo R1 (DA := DA) (WA := WA) (OA := OA) (XA := XA) (DB := DB) (WB := WB) (OB := OB) (XB := XB) (UN := UN) (PN := PN) (q7 := nn nu) (q15 := nn np) (got := got) (wa := wa) (f1 := 3) (f2 := -1) (f3 := -1) (x1 := 3) (x2 := 0) (x3 := 0) h0 with ⟨c, s2, k2, tok2, val2, p, q, r, w, c0, u1, u2⟩ | ⟨d, s2, k2, tok2, srt2, num2, val2, wrd2, d1, d2, g2, R2, u1, u2⟩
    · exact Or.inl ⟨c, s2, k2, tok2, val2, got, p, q, r, w, c0, cl.trans u1, rf u2⟩
    · exact Or.inr ⟨d, s2, k2, tok2, srt2, num2, nn d, val2, wrd2, h6, d1, d2, by have := R1.1; omega, R2, cl.trans u1, rf u2⟩
  · left
    obtain rfl : nl = 16 := by omega
    refine ⟨5, s, k, tok, val, got, nn s, nn k, num, wrd, by decide, rfl, ?_⟩
    unfold e_hP_X9_readRain
    rw [lb_many n5 (show nn 16 = (16 : Int32) from rfl), Option.bind_some]
    dsimp only
    rw [lg5n hl]
    rfl
theorem q_left {n s k nl lo np nu : Nat} {A B : pA} (T : tpe n A B) (hp : np ≤ 6) (hu : nu ≤ 5) {PN UN NA : Nat → Int64} {NS NO : pA} (M : NMR np nu PN UN NA NS NO) (hl : nl ≤ 16) (hlo : lo ≤ 40) {tok srt num : Int32} {val wrd : Int64} (R : RS n s k tok srt num val wrd) {L wa got : Int32} (hL : ¬ L = 0) {DA WA OA XA DB WB OB XB : pA} (h0 : (nl = 0 ∧ lo = 0) ∨ (0 < nl ∧ DA (nl - 1) = nn lo ∧ DB (nl - 1) = nn lo)) :
    (∃ (c : Int32) (s1 k1 : Nat) (tok1 : Int32) (val1 : Int64) (got' p q r : Int32) (w : Int64), ¬ c ≤ 0 ∧ e_hA_X5_readLogLine (nn nl) (nn k) (nn n) (nn s) val tok A (nn nu) UN got 0 DA WA OA XA (nn np) PN 1 = some (0, nn s1, val1, tok1, nn k1, got', c, WA, OA, XA, DA, nn nl) ∧ e_hP_X9_readLeft (nn nl) L srt (nn k) (nn n) B (nn s) num wrd 0 wa (nn (np + nu)) NA NO NS DB WB OB XB = some (p, 5, q, r, w, c, nn s1, WB, OB, XB, DB, nn nl)) ∨
    (∃ (u : Nat) (d s1 k1 : Nat) (tok1 srt1 num1 got' : Int32) (val1 wrd1 : Int64), nl < 16 ∧ u < nu ∧ lo ≤ d ∧ d ≤ 40 ∧ k ≤ s1 ∧ RS n s1 k1 tok1 srt1 num1 val1 wrd1 ∧ e_hA_X5_readLogLine (nn nl) (nn k) (nn n) (nn s) val tok A (nn nu) UN got 0 DA WA OA XA (nn np) PN 1 = some (1, nn s1, val1, tok1, nn k1, got', 0, upd WA nl 1, upd OA nl (nn u), upd XA nl (-1), upd DA nl (nn d), nn (nl + 1)) ∧ e_hP_X9_readLeft (nn nl) L srt (nn k) (nn n) B (nn s) num wrd 0 wa (nn (np + nu)) NA NO NS DB WB OB XB = some (nn s1, srt1, nn k1, num1, wrd1, 0, wa, upd WB nl 1, upd OB nl (nn u), upd XB nl 0, upd DB nl (nn d), nn (nl + 1))) := by
  have n5 := R.2.2.2.ne5
  by_cases h6 : nl < 16
  · have j6 : ¬ nn nl = (16 : Int32) := by rw [show (16 : Int32) = nn 16 from rfl, nn_inj (by omega) (by omega)]; omega
    obtain ⟨s1, k1, tok1, srt1, num1, val1, wrd1, g1, R1, e1, e2⟩ := rs_next T R.2.1 (p2 := nn s) (p4 := tok) (p3 := val) (q0 := srt) (q4 := nn s) (q5 := num) (q6 := wrd) n5
    have lb := lb_ok (flt := 0) (wa := wa) j6 hL e2
    obtain ⟨idx, x1, x2⟩ := q_toldUmbrella T hp hu M R1 got wa
    rcases x2 with ⟨c, c0, t1, t2⟩ | ⟨u, s2, k2, tok2, srt2, num2, val2, wrd2, hpp, g2, R2, t1, t2⟩
    · left
      refine ⟨c, s1, k1, tok1, val1, got, nn s1, nn k1, num1, wrd1, c0, ?_, ?_⟩
      · unfold e_hA_X5_readLogLine
        rw [full_no h6, Option.bind_some, if_pos rfl, e1, Option.bind_some, if_neg (by decide)]
        dsimp only
        rw [x1, Option.bind_some, t1]
        rfl
      · unfold e_hP_X9_readLeft
        rw [lb, Option.bind_some]
        dsimp only
        rw [t2, Option.bind_some]
        dsimp only
        rw [lg5n hl]
        rfl
    · have cl : e_hA_X5_readLogLine (nn nl) (nn k) (nn n) (nn s) val tok A (nn nu) UN got 0 DA WA OA XA (nn np) PN 1 = J_hA_X5_readLogLine_114 (nn nl) (nn k2) (nn n) (nn s2) val2 tok2 A (nn nu) UN (nn u) 0 DA WA OA XA (nn np) PN 1 (nn u) (-1) := by
        unfold e_hA_X5_readLogLine
        rw [full_no h6, Option.bind_some, if_pos rfl, e1, Option.bind_some, if_neg (by decide)]
        dsimp only
        rw [x1, Option.bind_some, t1, Option.bind_some]
        dsimp only
        rw [if_neg (show ¬ (1 : Int32) = 0 from by decide)]
        rfl
      have rf : ∀ {a b c d w f g : _} {WX OX XX DX : pA} {N : Int32}, e_hP_X9_logs (nn nl) DB srt2 wrd2 (nn k2) (nn n) B (nn s2) num2 0 wa WB OB XB 1 (nn u) 0 = some (a, b, c, d, w, f, g, WX, OX, XX, DX, N) → e_hP_X9_readLeft (nn nl) L srt (nn k) (nn n) B (nn s) num wrd 0 wa (nn (np + nu)) NA NO NS DB WB OB XB = some (a, b, c, d, w, f, g, WX, OX, XX, DX, N) := by
        intro a b c d w f g WX OX XX DX N h
        unfold e_hP_X9_readLeft
        rw [lb, Option.bind_some]
        dsimp only
        rw [t2, Option.bind_some]
        dsimp only
        rw [h]
        rfl
      rcases q_log T h6 hlo R2 (DA := DA) (WA := WA) (OA := OA) (XA := XA) (DB := DB) (WB := WB) (OB := OB) (XB := XB) (UN := UN) (PN := PN) (q7 := nn nu) (q15 := nn np) (got := nn u) (wa := wa) (f1 := 1) (f2 := nn u) (f3 := -1) (x1 := 1) (x2 := nn u) (x3 := 0) h0 with ⟨c, s3, k3, tok3, val3, p, q, r, w, c0, u1, u2⟩ | ⟨d, s3, k3, tok3, srt3, num3, val3, wrd3, d1, d2, g3, R3, u1, u2⟩
      · exact Or.inl ⟨c, s3, k3, tok3, val3, nn u, p, q, r, w, c0, cl.trans u1, rf u2⟩
      · exact Or.inr ⟨u, d, s3, k3, tok3, srt3, num3, nn d, val3, wrd3, h6, hpp, d1, d2, by have := R1.1; have := R2.1; omega, R3, cl.trans u1, rf u2⟩
  · left
    obtain rfl : nl = 16 := by omega
    refine ⟨5, s, k, tok, val, got, nn s, nn k, num, wrd, by decide, rfl, ?_⟩
    unfold e_hP_X9_readLeft
    rw [lb_many n5 (show nn 16 = (16 : Int32) from rfl), Option.bind_some]
    dsimp only
    rw [rk5 (by omega), Option.bind_some]
    dsimp only
    rw [lg5n hl]
    rfl
theorem q_lent {n s k nl lo np nu : Nat} {A B : pA} (T : tpe n A B) (hp : np ≤ 6) (hu : nu ≤ 5) {PN UN NA : Nat → Int64} {NS NO : pA} (M : NMR np nu PN UN NA NS NO) (hl : nl ≤ 16) (hlo : lo ≤ 40) {tok srt num : Int32} {val wrd : Int64} (R : RS n s k tok srt num val wrd) {L wa got : Int32} (hL : ¬ L = 0) {DA WA OA XA DB WB OB XB : pA} (h0 : (nl = 0 ∧ lo = 0) ∨ (0 < nl ∧ DA (nl - 1) = nn lo ∧ DB (nl - 1) = nn lo)) :
    (∃ (c : Int32) (s1 k1 : Nat) (tok1 : Int32) (val1 : Int64) (got' p q r : Int32) (w : Int64), ¬ c ≤ 0 ∧ e_hA_X5_readLogLine (nn nl) (nn k) (nn n) (nn s) val tok A (nn nu) UN got 0 DA WA OA XA (nn np) PN 0 = some (0, nn s1, val1, tok1, nn k1, got', c, WA, OA, XA, DA, nn nl) ∧ e_hP_X9_readLent (nn nl) L srt (nn k) (nn n) B (nn s) num wrd 0 wa (nn (np + nu)) NA NO NS DB WB OB XB = some (p, 5, q, r, w, c, nn s1, WB, OB, XB, DB, nn nl)) ∨
    (∃ (u p : Nat) (d s1 k1 : Nat) (tok1 srt1 num1 got' : Int32) (val1 wrd1 : Int64), nl < 16 ∧ u < nu ∧ p < np ∧ lo ≤ d ∧ d ≤ 40 ∧ k ≤ s1 ∧ RS n s1 k1 tok1 srt1 num1 val1 wrd1 ∧ e_hA_X5_readLogLine (nn nl) (nn k) (nn n) (nn s) val tok A (nn nu) UN got 0 DA WA OA XA (nn np) PN 0 = some (1, nn s1, val1, tok1, nn k1, got', 0, upd WA nl 0, upd OA nl (nn u), upd XA nl (nn p), upd DA nl (nn d), nn (nl + 1)) ∧ e_hP_X9_readLent (nn nl) L srt (nn k) (nn n) B (nn s) num wrd 0 wa (nn (np + nu)) NA NO NS DB WB OB XB = some (nn s1, srt1, nn k1, num1, wrd1, 0, wa, upd WB nl 0, upd OB nl (nn u), upd XB nl (nn p), upd DB nl (nn d), nn (nl + 1))) := by
  have n5 := R.2.2.2.ne5
  by_cases h6 : nl < 16
  · have j6 : ¬ nn nl = (16 : Int32) := by rw [show (16 : Int32) = nn 16 from rfl, nn_inj (by omega) (by omega)]; omega
    obtain ⟨s1, k1, tok1, srt1, num1, val1, wrd1, g1, R1, e1, e2⟩ := rs_next T R.2.1 (p2 := nn s) (p4 := tok) (p3 := val) (q0 := srt) (q4 := nn s) (q5 := num) (q6 := wrd) n5
    have lb := lb_ok (flt := 0) (wa := wa) j6 hL e2
    obtain ⟨idx, x1, x2⟩ := q_toldUmbrella T hp hu M R1 got wa
    rcases x2 with ⟨c, c0, t1, t2⟩ | ⟨u, s2, k2, tok2, srt2, num2, val2, wrd2, hpp, g2, R2, t1, t2⟩
    · left
      refine ⟨c, s1, k1, tok1, val1, got, nn s1, nn k1, num1, wrd1, c0, ?_, ?_⟩
      · unfold e_hA_X5_readLogLine
        rw [full_no h6, Option.bind_some, if_pos rfl, e1, Option.bind_some, if_neg (by decide)]
        dsimp only
        rw [x1, Option.bind_some, t1]
        rfl
      · unfold e_hP_X9_readLent
        rw [lb, Option.bind_some]
        dsimp only
        rw [t2, Option.bind_some]
        dsimp only
        rw [rk5 (by omega), Option.bind_some]
        dsimp only
        rw [lg5n hl]
        rfl
    · obtain ⟨idx2, y1, y2⟩ := q_toldPerson T hp hu M R2 (nn u) wa
      rcases y2 with ⟨c, c0, t3, t4⟩ | ⟨p, s3, k3, tok3, srt3, num3, val3, wrd3, hp3, g3, R3, t3, t4⟩
      · left
        refine ⟨c, s2, k2, tok2, val2, nn u, nn s2, nn k2, num2, wrd2, c0, ?_, ?_⟩
        · unfold e_hA_X5_readLogLine
          rw [full_no h6, Option.bind_some, if_pos rfl, e1, Option.bind_some, if_neg (by decide)]
          dsimp only
          rw [x1, Option.bind_some, t1, Option.bind_some]
          dsimp only
          rw [if_neg (show ¬ (1 : Int32) = 0 from by decide)]
          unfold J_hA_X5_readLogLine_50
          rw [if_pos rfl]
          unfold J_hA_X5_readLogLine_59
          rw [if_neg (by decide)]
          unfold J_hA_X5_readLogLine_85
          rw [if_pos rfl, y1, Option.bind_some]
          unfold J_hA_X5_readLogLine_101
          rw [t3]
          rfl
        · unfold e_hP_X9_readLent
          rw [lb, Option.bind_some]
          dsimp only
          rw [t2, Option.bind_some]
          dsimp only
          rw [t4, Option.bind_some]
          dsimp only
          rw [lg5n hl]
          rfl
      · have cl : e_hA_X5_readLogLine (nn nl) (nn k) (nn n) (nn s) val tok A (nn nu) UN got 0 DA WA OA XA (nn np) PN 0 = J_hA_X5_readLogLine_114 (nn nl) (nn k3) (nn n) (nn s3) val3 tok3 A (nn nu) UN (nn p) 0 DA WA OA XA (nn np) PN 0 (nn u) (nn p) := by
          unfold e_hA_X5_readLogLine
          rw [full_no h6, Option.bind_some, if_pos rfl, e1, Option.bind_some, if_neg (by decide)]
          dsimp only
          rw [x1, Option.bind_some, t1, Option.bind_some]
          dsimp only
          rw [if_neg (show ¬ (1 : Int32) = 0 from by decide)]
          unfold J_hA_X5_readLogLine_50
          rw [if_pos rfl]
          unfold J_hA_X5_readLogLine_59
          rw [if_neg (by decide)]
          unfold J_hA_X5_readLogLine_85
          rw [if_pos rfl, y1, Option.bind_some]
          unfold J_hA_X5_readLogLine_101
          rw [t3, Option.bind_some]
          dsimp only
          rw [if_neg (show ¬ (1 : Int32) = 0 from by decide)]
        have rf : ∀ {a b c d w f g : _} {WX OX XX DX : pA} {N : Int32}, e_hP_X9_logs (nn nl) DB srt3 wrd3 (nn k3) (nn n) B (nn s3) num3 0 wa WB OB XB 0 (nn u) (nn p) = some (a, b, c, d, w, f, g, WX, OX, XX, DX, N) → e_hP_X9_readLent (nn nl) L srt (nn k) (nn n) B (nn s) num wrd 0 wa (nn (np + nu)) NA NO NS DB WB OB XB = some (a, b, c, d, w, f, g, WX, OX, XX, DX, N) := by
          intro a b c d w f g WX OX XX DX N h
          unfold e_hP_X9_readLent
          rw [lb, Option.bind_some]
          dsimp only
          rw [t2, Option.bind_some]
          dsimp only
          rw [t4, Option.bind_some]
          dsimp only
          rw [h]
          rfl
        rcases q_log T h6 hlo R3 (DA := DA) (WA := WA) (OA := OA) (XA := XA) (DB := DB) (WB := WB) (OB := OB) (XB := XB) (UN := UN) (PN := PN) (q7 := nn nu) (q15 := nn np) (got := nn p) (wa := wa) (f1 := 0) (f2 := nn u) (f3 := nn p) (x1 := 0) (x2 := nn u) (x3 := nn p) h0 with ⟨c, s4, k4, tok4, val4, p', q, r, w, c0, u1, u2⟩ | ⟨d, s4, k4, tok4, srt4, num4, val4, wrd4, d1, d2, g4, R4, u1, u2⟩
        · exact Or.inl ⟨c, s4, k4, tok4, val4, nn p, p', q, r, w, c0, cl.trans u1, rf u2⟩
        · exact Or.inr ⟨u, p, d, s4, k4, tok4, srt4, num4, nn d, val4, wrd4, h6, hpp, hp3, d1, d2, by have := R1.1; have := R2.1; have := R3.1; omega, R4, cl.trans u1, rf u2⟩
  · left
    obtain rfl : nl = 16 := by omega
    refine ⟨5, s, k, tok, val, got, nn s, nn k, num, wrd, by decide, rfl, ?_⟩
    unfold e_hP_X9_readLent
    rw [lb_many n5 (show nn 16 = (16 : Int32) from rfl), Option.bind_some]
    dsimp only
    rw [rk5 (by omega), Option.bind_some]
    dsimp only
    rw [rk5 (by omega), Option.bind_some]
    dsimp only
    rw [lg5n hl]
    rfl
