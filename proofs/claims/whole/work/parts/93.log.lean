/-! THE PURE PART: the day of a log line -/
theorem lg5 {nl sp sz pl num flt wa x1 x2 x3 : Int32} {w : Int64} {B DB WB OB XB : pA} (h : nl = 0 ∨ ∀ {Q : Type} (K : Option Q), xix (nl - 1) 16 K = K) : e_hP_X9_logs nl DB 5 w sp sz B pl num flt wa WB OB XB x1 x2 x3 = some (pl, 5, sp, num, w, flt, wa, WB, OB, XB, DB, nl) := by
  unfold e_hP_X9_logs
  by_cases q : nl = 0
  · rw [if_pos q, rpt5, Option.bind_some]
    exact if_pos rfl
  · rw [if_neg q, h.resolve_left q, rpt5, Option.bind_some]
    exact if_pos rfl
theorem q_log {n s k nl lo : Nat} {A B : pA} (T : tpe n A B) (hl : nl < 16) (hlo : lo ≤ 40) {tok srt num : Int32} {val wrd : Int64} (R : RS n s k tok srt num val wrd) {DA WA OA XA DB WB OB XB : pA} {UN PN : Nat → Int64} {q7 q15 got wa f1 f2 f3 x1 x2 x3 : Int32} (h0 : (nl = 0 ∧ lo = 0) ∨ (0 < nl ∧ DA (nl - 1) = nn lo ∧ DB (nl - 1) = nn lo)) :
    (∃ (c : Int32) (s1 k1 : Nat) (tok1 : Int32) (val1 : Int64) (p q r : Int32) (w : Int64), ¬ c ≤ 0 ∧ J_hA_X5_readLogLine_114 (nn nl) (nn k) (nn n) (nn s) val tok A q7 UN got 0 DA WA OA XA q15 PN f1 f2 f3 = some (0, nn s1, val1, tok1, nn k1, got, c, WA, OA, XA, DA, nn nl) ∧ e_hP_X9_logs (nn nl) DB srt wrd (nn k) (nn n) B (nn s) num 0 wa WB OB XB x1 x2 x3 = some (p, 5, q, r, w, c, nn s1, WB, OB, XB, DB, nn nl)) ∨
    (∃ (d s1 k1 : Nat) (tok1 srt1 num1 : Int32) (val1 wrd1 : Int64), lo ≤ d ∧ d ≤ 40 ∧ k ≤ s1 ∧ RS n s1 k1 tok1 srt1 num1 val1 wrd1 ∧ J_hA_X5_readLogLine_114 (nn nl) (nn k) (nn n) (nn s) val tok A q7 UN got 0 DA WA OA XA q15 PN f1 f2 f3 = some (1, nn s1, val1, tok1, nn k1, nn d, 0, upd WA nl f1, upd OA nl f2, upd XA nl f3, upd DA nl (nn d), nn (nl + 1)) ∧ e_hP_X9_logs (nn nl) DB srt wrd (nn k) (nn n) B (nn s) num 0 wa WB OB XB x1 x2 x3 = some (nn s1, srt1, nn k1, num1, wrd1, 0, wa, upd WB nl x1, upd OB nl x2, upd XB nl x3, upd DB nl (nn d), nn (nl + 1))) := by
  have cl : J_hA_X5_readLogLine_114 (nn nl) (nn k) (nn n) (nn s) val tok A q7 UN got 0 DA WA OA XA q15 PN f1 f2 f3 = J_hA_X5_readLogLine_154 (nn nl) (nn k) (nn n) (nn s) val tok A q7 UN got 0 DA WA OA XA q15 PN f1 f2 f3 (nn lo) := by
    unfold J_hA_X5_readLogLine_114
    rcases h0 with ⟨rfl, rfl⟩ | ⟨h1, h2, _⟩
    · rw [if_pos (show nn 0 = (0 : Int32) from rfl)]; rfl
    · rw [if_neg (show ¬ nn nl = (0 : Int32) from by rw [nn_0, nn_inj (by omega) (by omega)]; omega), show nn nl - (1 : Int32) = nn (nl - 1) from nn_sub (b := 1) h1, xix_nn (by omega) (by omega), nn_nat (by omega), h2]
  have rf : e_hP_X9_logs (nn nl) DB srt wrd (nn k) (nn n) B (nn s) num 0 wa WB OB XB x1 x2 x3 = ((e_hP_X9_readPart srt wrd (nn k) (nn n) B (nn s) num 0 wa (xsy 32) (nn lo) (nn 40)).bind fun z41 => if z41.2.2.1 = (5 : Int32) then some (z41.2.1, z41.2.2.1, z41.2.2.2.1, z41.2.2.2.2.1, z41.2.2.2.2.2.1, z41.2.2.2.2.2.2.1, z41.2.2.2.2.2.2.2, WB, OB, XB, DB, nn nl) else some (z41.2.1, z41.2.2.1, z41.2.2.2.1, z41.2.2.2.2.1, z41.2.2.2.2.2.1, z41.2.2.2.2.2.2.1, z41.2.2.2.2.2.2.2, (upd WB nl x1), (upd OB nl x2), (upd XB nl x3), (upd DB nl z41.1), nn (nl + 1))) := by
    unfold e_hP_X9_logs
    simp only [xix_nn (show nl < 16 by omega) (show 16 < 2147483648 by omega), nn_nat (show nl < 2147483648 by omega), nn_succ]
    rcases h0 with ⟨rfl, rfl⟩ | ⟨h1, _, h2⟩
    · rw [if_pos (show nn 0 = (0 : Int32) from rfl)]; rfl
    · rw [if_neg (show ¬ nn nl = (0 : Int32) from by rw [nn_0, nn_inj (by omega) (by omega)]; omega), show nn nl - (1 : Int32) = nn (nl - 1) from nn_sub (b := 1) h1, xix_nn (by omega) (by omega), nn_nat (by omega), h2]
      rfl
  rw [cl, rf]
  unfold J_hA_X5_readLogLine_154
  rcases q_num T R one_10 (lo := lo) (hi := 40) (by omega) (by omega) got wa with ⟨c, s1, k1, tok1, val1, v, p, q, r, w, c0, n1, n2⟩ | ⟨d, s1, k1, tok1, srt1, num1, val1, wrd1, d1, d2, g1, R1, n1, n2⟩
  · left
    refine ⟨c, s1, k1, tok1, val1, p, q, r, w, c0, ?_, ?_⟩
    · rw [show e_hA_X5_readNumber tok val (nn k) (nn n) (nn s) A 0 got (xsy 10) (nn lo) 40 = _ from n1]
      rfl
    · rw [n2, Option.bind_some]
      exact if_pos rfl
  · right
    refine ⟨d, s1, k1, tok1, srt1, num1, val1, wrd1, d1, d2, g1, R1, ?_, ?_⟩
    · rw [show e_hA_X5_readNumber tok val (nn k) (nn n) (nn s) A 0 got (xsy 10) (nn lo) 40 = _ from n1, Option.bind_some]
      dsimp only
      rw [if_neg (show ¬ (1 : Int32) = 0 from by decide)]
      unfold e_hA_X2_add e_hA_X2_isFull
      rw [if_pos (show nn nl < (16 : Int32) from by rw [show (16 : Int32) = nn 16 from rfl, nn_lt (by omega) (by omega)]; exact hl), Option.bind_some, if_pos rfl, xix_nn (by omega) (by omega), xix_nn (by omega) (by omega), xix_nn (by omega) (by omega), xix_nn (by omega) (by omega), nn_nat (by omega), nn_succ]
      rfl
    · rw [n2, Option.bind_some]
      exact if_neg R1.2.2.2.ne5
