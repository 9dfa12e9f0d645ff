/-! THE PURE PART: an umbrella's line, by the reference behind a flaw -/
section RUMB
variable {p0 p1 srt sp sz pl num flt wa N u0 f3 f4 f5 f6 pl' sp' num' flt' wa' : Int32} {w f1 w' : Int64} {B K1 K2 K3 K4 NS NO : pA} {NA : Nat → Int64}
theorem j136_5 : J_hP_X9_readUmbrella_136 p0 p1 5 sp sz B pl num w flt wa N NA NS NO K1 K2 K3 K4 f1 f3 f4 f5 f6 = some (pl, 5, sp, num, w, flt, wa, NA, NS, NO, N, K1, K2, K3, K4, p0) := by
  unfold J_hP_X9_readUmbrella_136
  rw [if_pos rfl]
theorem j136_ok {nu M : Nat} (hu : nu < 5) (hM : M < 11) (n5 : ¬ srt = 5) : J_hP_X9_readUmbrella_136 (nn nu) p1 srt sp sz B pl num w flt wa (nn M) NA NS NO K1 K2 K3 K4 f1 f3 f4 f5 f6 = some (pl, srt, sp, num, w, flt, wa, vp_updL NA M f1, upd NS M 1, upd NO M (nn nu), nn (M + 1), upd K1 nu f3, upd K2 nu f4, upd K3 nu f5, upd K4 nu f6, nn (nu + 1)) := by
  unfold J_hP_X9_readUmbrella_136 e_hP_X9_names
  rw [if_neg n5, xix_nn (by omega) (by omega), xix_nn (by omega) (by omega), xix_nn (by omega) (by omega), Option.bind_some, xix_nn (by omega) (by omega), xix_nn (by omega) (by omega), xix_nn (by omega) (by omega), xix_nn (by omega) (by omega), nn_nat (by omega), nn_nat (by omega), nn_succ, nn_succ]
theorem j83_5 : J_hP_X9_readUmbrella_83 p0 p1 5 sp sz B pl num w flt wa N NA NS NO K1 K2 K3 K4 f1 f3 = some (pl, 5, sp, num, w, flt, wa, NA, NS, NO, N, K1, K2, K3, K4, p0) := by
  unfold J_hP_X9_readUmbrella_83
  rw [go5, Option.bind_some]
  dsimp only
  rw [rpt5, Option.bind_some]
  dsimp only
  rw [rpt5, Option.bind_some]
  dsimp only
  rw [iw5, Option.bind_some, if_pos rfl]
  exact j136_5
theorem j72_5 : J_hP_X9_readUmbrella_72 p0 p1 5 sp sz B pl num w flt wa N NA NS NO K1 K2 K3 K4 f1 u0 = some (pl, 5, sp, num, w, flt, wa, NA, NS, NO, N, K1, K2, K3, K4, p0) := by
  unfold J_hP_X9_readUmbrella_72
  by_cases q : u0 = -1
  · rw [if_pos q, fl5, Option.bind_some]
    exact j83_5
  · rw [if_neg q]
    exact j83_5
theorem j72_bad (n5 : ¬ srt = 5) : J_hP_X9_readUmbrella_72 p0 p1 srt sp sz B pl num w flt wa N NA NS NO K1 K2 K3 K4 f1 (-1) = some (pl, 5, sp, num, w, 1, pl, NA, NS, NO, N, K1, K2, K3, K4, p0) := by
  unfold J_hP_X9_readUmbrella_72
  rw [if_pos rfl, fl0 n5, Option.bind_some]
  exact j83_5
theorem j72_ok (hu : ¬ u0 = -1) : J_hP_X9_readUmbrella_72 p0 p1 srt sp sz B pl num w flt wa N NA NS NO K1 K2 K3 K4 f1 u0 = J_hP_X9_readUmbrella_83 p0 p1 srt sp sz B pl num w flt wa N NA NS NO K1 K2 K3 K4 f1 u0 := by
  unfold J_hP_X9_readUmbrella_72
  rw [if_neg hu]
theorem rumb_over {np nu : Nat} (hN : np + nu ≤ 11) (h : e_hP_X9_lineBegins p1 srt sp sz B pl num w flt wa (nn nu) 5 = some (pl', 5, sp', num', w', flt', wa')) : e_hP_X9_readUmbrella (nn nu) p1 srt sp sz B pl num w flt wa (nn (np + nu)) NA NS NO K1 K2 K3 K4 = some (pl', 5, sp', num', w', flt', wa', NA, NS, NO, nn (np + nu), K1, K2, K3, K4, nn nu) := by
  unfold e_hP_X9_readUmbrella
  rw [h, Option.bind_some]
  dsimp only
  rw [rf5 hN, Option.bind_some]
  dsimp only
  rw [iw5, Option.bind_some, if_pos rfl, iw5, Option.bind_some, if_pos rfl, iw5, Option.bind_some, if_pos rfl, iw5, Option.bind_some, if_pos rfl]
  exact j72_5
theorem rumb_bad {np nu : Nat} {s1 t1 k1 n1 : Int32} {w1 : Int64} (h : e_hP_X9_lineBegins p1 srt sp sz B pl num w flt wa (nn nu) 5 = some (s1, t1, k1, n1, w1, flt, wa)) {fw : Int64} (h2 : e_hP_X9_readFresh t1 w1 (nn (np + nu)) NA k1 sz B s1 n1 flt wa = some (fw, pl', 5, sp', num', w', flt', wa')) : e_hP_X9_readUmbrella (nn nu) p1 srt sp sz B pl num w flt wa (nn (np + nu)) NA NS NO K1 K2 K3 K4 = some (pl', 5, sp', num', w', flt', wa', NA, NS, NO, nn (np + nu), K1, K2, K3, K4, nn nu) := by
  unfold e_hP_X9_readUmbrella
  rw [h, Option.bind_some]
  dsimp only
  rw [h2, Option.bind_some]
  dsimp only
  rw [iw5, Option.bind_some, if_pos rfl, iw5, Option.bind_some, if_pos rfl, iw5, Option.bind_some, if_pos rfl, iw5, Option.bind_some, if_pos rfl]
  exact j72_5
end RUMB
