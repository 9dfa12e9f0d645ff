/-! THE PURE PART: a person's line -/
section CONE
variable {tok got nx ln st flt i : Int32} {val : Int64} {A : pA} {w : List Int32}
theorem co_bad (h : e_hA_X5_indexAmong tok val w = some (-1)) : e_hA_X5_readOneOf tok val got nx ln st A flt w = some (0, -1, st, val, tok, nx, 1) := by
  unfold e_hA_X5_readOneOf e_hA_X5_fail
  rw [h]
  rfl
theorem co_ok (h : e_hA_X5_indexAmong tok val w = some i) (hi : ¬ i = -1) {s1 t1 k1 : Int32} {v1 : Int64} (ht : e_hA_X5_readToken nx ln st val tok A = some (s1, v1, t1, k1)) : e_hA_X5_readOneOf tok val got nx ln st A flt w = some (1, i, s1, v1, t1, k1, flt) := by
  unfold e_hA_X5_readOneOf
  rw [h, Option.bind_some, if_neg hi, ht]
  rfl
end CONE
section RPER
variable {p0 p1 srt sp sz pl num flt wa N u0 pl' sp' num' flt' wa' : Int32} {w f1 w' : Int64} {B S NS NO : pA} {NA : Nat → Int64}
theorem j69_5 : J_hP_X9_readPerson_69 p0 p1 5 sp sz B pl num w flt wa N NA NS NO S f1 u0 = some (pl, 5, sp, num, w, flt, wa, NA, NS, NO, N, S, p0) := by
  unfold J_hP_X9_readPerson_69
  rw [go5, Option.bind_some]
  exact if_pos rfl
theorem j58_5 : J_hP_X9_readPerson_58 p0 p1 5 sp sz B pl num w flt wa N NA NS NO S f1 u0 = some (pl, 5, sp, num, w, flt, wa, NA, NS, NO, N, S, p0) := by
  unfold J_hP_X9_readPerson_58
  by_cases q : u0 = -1
  · rw [if_pos q, fl5, Option.bind_some]
    exact j69_5
  · rw [if_neg q]
    exact j69_5
theorem j58_bad (n5 : ¬ srt = 5) : J_hP_X9_readPerson_58 p0 p1 srt sp sz B pl num w flt wa N NA NS NO S f1 (-1) = some (pl, 5, sp, num, w, 1, pl, NA, NS, NO, N, S, p0) := by
  unfold J_hP_X9_readPerson_58
  rw [if_pos rfl, fl0 n5, Option.bind_some]
  exact j69_5
theorem rper_over {np nu : Nat} (hN : np + nu ≤ 11) (h : e_hP_X9_lineBegins p1 srt sp sz B pl num w flt wa (nn np) 6 = some (pl', 5, sp', num', w', flt', wa')) : e_hP_X9_readPerson (nn np) p1 srt sp sz B pl num w flt wa (nn (np + nu)) NA NS NO S = some (pl', 5, sp', num', w', flt', wa', NA, NS, NO, nn (np + nu), S, nn np) := by
  unfold e_hP_X9_readPerson
  rw [h, Option.bind_some]
  dsimp only
  rw [rf5 hN, Option.bind_some]
  dsimp only
  rw [iw5, Option.bind_some, if_pos rfl, iw5, Option.bind_some, if_pos rfl, iw5, Option.bind_some, if_pos rfl]
  exact j58_5
theorem rper_bad {np nu : Nat} {s1 t1 k1 n1 : Int32} {w1 : Int64} (h : e_hP_X9_lineBegins p1 srt sp sz B pl num w flt wa (nn np) 6 = some (s1, t1, k1, n1, w1, flt, wa)) {fw : Int64} (h2 : e_hP_X9_readFresh t1 w1 (nn (np + nu)) NA k1 sz B s1 n1 flt wa = some (fw, pl', 5, sp', num', w', flt', wa')) : e_hP_X9_readPerson (nn np) p1 srt sp sz B pl num w flt wa (nn (np + nu)) NA NS NO S = some (pl', 5, sp', num', w', flt', wa', NA, NS, NO, nn (np + nu), S, nn np) := by
  unfold e_hP_X9_readPerson
  rw [h, Option.bind_some]
  dsimp only
  rw [h2, Option.bind_some]
  dsimp only
  rw [iw5, Option.bind_some, if_pos rfl, iw5, Option.bind_some, if_pos rfl, iw5, Option.bind_some, if_pos rfl]
  exact j58_5
theorem j58_ok {np M : Nat} (hp : np < 6) (hM : M < 11) (hu : ¬ u0 = -1) {s1 t1 k1 n1 : Int32} {w1 : Int64} (ht : e_hP_X9_goesOn srt sp sz B pl num w = some (s1, t1, k1, n1, w1)) (m5 : ¬ t1 = 5) : J_hP_X9_readPerson_58 (nn np) p1 srt sp sz B pl num w flt wa (nn M) NA NS NO S f1 u0 = some (s1, t1, k1, n1, w1, flt, wa, vp_updL NA M f1, upd NS M 0, upd NO M (nn np), nn (M + 1), upd S np u0, nn (np + 1)) := by
  unfold J_hP_X9_readPerson_58
  rw [if_neg hu]
  unfold J_hP_X9_readPerson_69 e_hP_X9_names
  rw [ht, Option.bind_some]
  dsimp only
  rw [if_neg m5, xix_nn (by omega) (by omega), xix_nn (by omega) (by omega), xix_nn (by omega) (by omega), Option.bind_some, xix_nn (by omega) (by omega), nn_nat (by omega), nn_nat (by omega), nn_succ, nn_succ]
end RPER
