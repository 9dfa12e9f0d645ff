/-! THE PURE PART: names that must be told, names that must be new, one of some words -/
theorem anyP {N : Nat} (hN : N ≤ 6) (NA : Nat → Int64) (w : Int64) : ∃ i, e_hA_X5_indexOfPerson (nn N) NA w = some i := by
  unfold e_hA_X5_indexOfPerson
  rcases q_ofPerson hN (NA := NA) (w := w) N 0 200000 (by omega) (by omega) with ⟨f1, _⟩ | ⟨k, _, k2, _, f1⟩
  · exact ⟨_, f1⟩
  · exact ⟨_, f1⟩
theorem anyU {N : Nat} (hN : N ≤ 5) (NA : Nat → Int64) (w : Int64) : ∃ i, e_hA_X5_indexOfUmbrella (nn N) NA w = some i := by
  unfold e_hA_X5_indexOfUmbrella
  rcases q_ofUmbrella hN (NA := NA) (w := w) N 0 200000 (by omega) (by omega) with ⟨f1, _⟩ | ⟨k, _, k2, _, f1⟩
  · exact ⟨_, f1⟩
  · exact ⟨_, f1⟩
theorem j42_5 {w : Int64} {NA : Nat → Int64} {N flt pl wa f2 : Int32} {NO NS : pA} : J_hP_X9_knownOne_42 5 w N NA flt pl wa NO NS f2 = some (0, flt, wa, 5) := by
  unfold J_hP_X9_knownOne_42
  rw [fl5, Option.bind_some]
  exact if_pos rfl
theorem j42_n {srt : Int32} (n5 : ¬ srt = 5) {w : Int64} {NA : Nat → Int64} {N flt pl wa f2 : Int32} {NO NS : pA} : J_hP_X9_knownOne_42 srt w N NA flt pl wa NO NS f2 = some (0, 2, pl, 5) := by
  unfold J_hP_X9_knownOne_42
  rw [fl0 n5, Option.bind_some]
  exact if_pos rfl
theorem j12_5 {N : Nat} (hN : N ≤ 11) {w : Int64} {NA : Nat → Int64} {flt pl wa f : Int32} {NO NS : pA} : J_hP_X9_knownOne_12 5 w (nn N) NA flt pl wa NO NS f = some (0, flt, wa, 5) := by
  unfold J_hP_X9_knownOne_12
  rcases q_any hN (NA := NA) (w := w) with e | ⟨k, hk, e⟩
  · rw [e, Option.bind_some, if_pos rfl, j42_5]
  · rw [e, Option.bind_some, if_neg (by rw [nn_ne1 (by omega)]; exact fun z => z), xix_nn (by omega) (by omega), nn_nat (by omega)]
    by_cases q : NS k = f
    · rw [if_pos q, if_pos rfl]
    · rw [if_neg q, j42_5]
theorem ko5 {N : Nat} (hN : N ≤ 11) {w : Int64} {NA : Nat → Int64} {flt pl wa f : Int32} {NO NS : pA} : e_hP_X9_knownOne 5 w (nn N) NA flt pl wa NO NS f = some (0, flt, wa, 5) := by
  unfold e_hP_X9_knownOne
  rw [rn_nameN (by decide), Option.bind_some, if_pos rfl, fl5, Option.bind_some]
  exact j12_5 hN
theorem rk5 {N : Nat} (hN : N ≤ 11) {w : Int64} {NA : Nat → Int64} {flt pl wa f sp sz num : Int32} {B NO NS : pA} : e_hP_X9_readKnown 5 w (nn N) NA flt pl wa NO NS sp sz B num f = some (0, flt, wa, 5, pl, sp, num, w) := by
  unfold e_hP_X9_readKnown
  rw [ko5 hN, Option.bind_some]
  simp only []
  rw [go5]
  rfl
theorem ko_bad {N : Nat} (hN : N ≤ 11) {srt : Int32} (n5 : ¬ srt = 5) {w : Int64} {NA : Nat → Int64} {flt pl wa f : Int32} {NO NS : pA} (h : e_hP_X9_isName srt w = some 0) : e_hP_X9_knownOne srt w (nn N) NA flt pl wa NO NS f = some (0, 1, pl, 5) := by
  unfold e_hP_X9_knownOne
  rw [h, Option.bind_some, if_pos rfl, fl0 n5, Option.bind_some]
  exact j12_5 hN
theorem ko_name {N srt : Int32} {w : Int64} {NA : Nat → Int64} {flt pl wa f : Int32} {NO NS : pA} (h : e_hP_X9_isName srt w = some 1) : e_hP_X9_knownOne srt w N NA flt pl wa NO NS f = J_hP_X9_knownOne_12 srt w N NA flt pl wa NO NS f := by
  unfold e_hP_X9_knownOne
  rw [h, Option.bind_some, if_neg (by decide)]
theorem j12_no {N : Int32} {w : Int64} {NA : Nat → Int64} {flt pl wa f : Int32} {NO NS : pA} (h : e_hP_X8_find N NA w = some (-1)) : J_hP_X9_knownOne_12 2 w N NA flt pl wa NO NS f = some (0, 2, pl, 5) := by
  unfold J_hP_X9_knownOne_12
  rw [h, Option.bind_some, if_pos rfl, j42_n (by decide)]
theorem j12_else {N : Int32} {k : Nat} (hk : k < 11) {w : Int64} {NA : Nat → Int64} {flt pl wa f : Int32} {NO NS : pA} (h : e_hP_X8_find N NA w = some (nn k)) (hs : ¬ NS k = f) : J_hP_X9_knownOne_12 2 w N NA flt pl wa NO NS f = some (0, 2, pl, 5) := by
  unfold J_hP_X9_knownOne_12
  rw [h, Option.bind_some, if_neg (by rw [nn_ne1 (by omega)]; exact fun z => z), xix_nn (by omega) (by omega), nn_nat (by omega), if_neg hs, j42_n (by decide)]
theorem j12_yes {N : Int32} {k : Nat} (hk : k < 11) {w : Int64} {NA : Nat → Int64} {flt pl wa f : Int32} {NO NS : pA} (h : e_hP_X8_find N NA w = some (nn k)) (hs : NS k = f) : J_hP_X9_knownOne_12 2 w N NA flt pl wa NO NS f = some (NO k, flt, wa, 2) := by
  unfold J_hP_X9_knownOne_12
  rw [h, Option.bind_some, if_neg (by rw [nn_ne1 (by omega)]; exact fun z => z), xix_nn (by omega) (by omega), nn_nat (by omega), if_pos hs, if_neg (by decide), xix_nn (by omega) (by omega)]
theorem q_knownPerson {np nu : Nat} (hp : np ≤ 6) (hu : nu ≤ 5) {PN UN NA : Nat → Int64} {NS NO : pA} (M : NMR np nu PN UN NA NS NO) {tok srt num : Int32} {val wrd : Int64} (R : TokR tok val srt wrd num) {flt pl wa : Int32} :
    (e_hA_X5_isName tok val = some 0 ∧ e_hP_X9_knownOne srt wrd (nn (np + nu)) NA flt pl wa NO NS 0 = some (0, 1, pl, 5)) ∨
    (e_hA_X5_isName tok val = some 1 ∧ e_hA_X5_indexOfPerson (nn np) PN val = some (-1) ∧ e_hP_X9_knownOne srt wrd (nn (np + nu)) NA flt pl wa NO NS 0 = some (0, 2, pl, 5)) ∨
    ∃ p, p < np ∧ e_hA_X5_isName tok val = some 1 ∧ e_hA_X5_indexOfPerson (nn np) PN val = some (nn p) ∧ e_hP_X9_knownOne srt wrd (nn (np + nu)) NA flt pl wa NO NS 0 = some (nn p, flt, wa, srt) := by
  have n5 := R.ne5
  have no : ¬ tok = 1 → ¬ srt = 2 → (e_hA_X5_isName tok val = some 0 ∧ e_hP_X9_knownOne srt wrd (nn (np + nu)) NA flt pl wa NO NS 0 = some (0, 1, pl, 5)) := fun h1 h2 => ⟨cn_nameN h1, ko_bad (by omega) n5 (rn_nameN h2)⟩
  rcases R with ⟨e1, e2⟩ | ⟨e1, e2, r, hr, e3, e4⟩ | ⟨e1, e2, _⟩ | ⟨e1, e2⟩ | ⟨e1, e2⟩
  · exact Or.inl (no (by rw [e1]; decide) (by rw [e2]; decide))
  · subst e1 e2 e3 e4
    have c1 := cn_name hr
    have c2 := rn_name hr
    by_cases q : r ∈ heads
    · rw [if_pos q] at c1 c2
      exact Or.inl ⟨c1, ko_bad (by omega) n5 c2⟩
    · rw [if_neg q] at c1 c2
      right
      rw [ko_name c2]
      rcases q_who hp hu M hr with ⟨w1, w2, w3⟩ | ⟨p, k, h1, h2, h3, h4, w1, w2, w3⟩ | ⟨u, k, h1, h2, h3, h4, w1, w2, w3⟩
      · exact Or.inl ⟨c1, w1, j12_no w3⟩
      · exact Or.inr ⟨p, h1, c1, w1, by rw [j12_yes (by omega) w3 h3, h4]⟩
      · exact Or.inl ⟨c1, w1, j12_else (by omega) w3 (by rw [h3]; decide)⟩
  · exact Or.inl (no (by rw [e1]; decide) (by rw [e2]; decide))
  · exact Or.inl (no (by rw [e1]; decide) (by rw [e2]; decide))
  · exact Or.inl (no (by rw [e1]; decide) (by rw [e2]; decide))
theorem q_knownUmbrella {np nu : Nat} (hp : np ≤ 6) (hu : nu ≤ 5) {PN UN NA : Nat → Int64} {NS NO : pA} (M : NMR np nu PN UN NA NS NO) {tok srt num : Int32} {val wrd : Int64} (R : TokR tok val srt wrd num) {flt pl wa : Int32} :
    (e_hA_X5_isName tok val = some 0 ∧ e_hP_X9_knownOne srt wrd (nn (np + nu)) NA flt pl wa NO NS 1 = some (0, 1, pl, 5)) ∨
    (e_hA_X5_isName tok val = some 1 ∧ e_hA_X5_indexOfUmbrella (nn nu) UN val = some (-1) ∧ e_hP_X9_knownOne srt wrd (nn (np + nu)) NA flt pl wa NO NS 1 = some (0, 2, pl, 5)) ∨
    ∃ p, p < nu ∧ e_hA_X5_isName tok val = some 1 ∧ e_hA_X5_indexOfUmbrella (nn nu) UN val = some (nn p) ∧ e_hP_X9_knownOne srt wrd (nn (np + nu)) NA flt pl wa NO NS 1 = some (nn p, flt, wa, srt) := by
  have n5 := R.ne5
  have no : ¬ tok = 1 → ¬ srt = 2 → (e_hA_X5_isName tok val = some 0 ∧ e_hP_X9_knownOne srt wrd (nn (np + nu)) NA flt pl wa NO NS 1 = some (0, 1, pl, 5)) := fun h1 h2 => ⟨cn_nameN h1, ko_bad (by omega) n5 (rn_nameN h2)⟩
  rcases R with ⟨e1, e2⟩ | ⟨e1, e2, r, hr, e3, e4⟩ | ⟨e1, e2, _⟩ | ⟨e1, e2⟩ | ⟨e1, e2⟩
  · exact Or.inl (no (by rw [e1]; decide) (by rw [e2]; decide))
  · subst e1 e2 e3 e4
    have c1 := cn_name hr
    have c2 := rn_name hr
    by_cases q : r ∈ heads
    · rw [if_pos q] at c1 c2
      exact Or.inl ⟨c1, ko_bad (by omega) n5 c2⟩
    · rw [if_neg q] at c1 c2
      right
      rw [ko_name c2]
      rcases q_who hp hu M hr with ⟨w1, w2, w3⟩ | ⟨p, k, h1, h2, h3, h4, w1, w2, w3⟩ | ⟨u, k, h1, h2, h3, h4, w1, w2, w3⟩
      · exact Or.inl ⟨c1, w2, j12_no w3⟩
      · exact Or.inl ⟨c1, w2, j12_else (by omega) w3 (by rw [h3]; decide)⟩
      · exact Or.inr ⟨u, h1, c1, w2, by rw [j12_yes (by omega) w3 h3, h4]⟩
  · exact Or.inl (no (by rw [e1]; decide) (by rw [e2]; decide))
  · exact Or.inl (no (by rw [e1]; decide) (by rw [e2]; decide))
  · exact Or.inl (no (by rw [e1]; decide) (by rw [e2]; decide))
section CTOLD
variable {tok got nx ln st flt idx : Int32} {val : Int64} {A : pA}
theorem ct_bad (h : e_hA_X5_isName tok val = some 0) : e_hA_X5_readTold tok val got nx ln st A flt idx = some (0, got, st, val, tok, nx, 1) := by
  unfold e_hA_X5_readTold e_hA_X5_fail
  rw [h]
  rfl
theorem ct_no (h : e_hA_X5_isName tok val = some 1) : e_hA_X5_readTold tok val got nx ln st A flt (-1) = some (0, got, st, val, tok, nx, 2) := by
  unfold e_hA_X5_readTold e_hA_X5_fail
  rw [h]
  rfl
theorem ct_yes (h : e_hA_X5_isName tok val = some 1) (hi : ¬ idx = -1) {s1 t1 k1 : Int32} {v1 : Int64} (ht : e_hA_X5_readToken nx ln st val tok A = some (s1, v1, t1, k1)) : e_hA_X5_readTold tok val got nx ln st A flt idx = some (1, idx, s1, v1, t1, k1, flt) := by
  unfold e_hA_X5_readTold
  rw [h, Option.bind_some, if_neg (by decide), if_neg hi, ht]
  rfl
end CTOLD
/-- a name that must be told -/
theorem q_toldPerson {n s k np nu : Nat} {A B : pA} (T : tpe n A B) (hp : np ≤ 6) (hu : nu ≤ 5) {PN UN NA : Nat → Int64} {NS NO : pA} (M : NMR np nu PN UN NA NS NO) {tok srt num : Int32} {val wrd : Int64} (R : RS n s k tok srt num val wrd) (got wa : Int32) : ∃ idx, e_hA_X5_indexOfPerson (nn np) PN val = some idx ∧
    ((∃ c : Int32, ¬ c ≤ 0 ∧ e_hA_X5_readTold tok val got (nn k) (nn n) (nn s) A 0 idx = some (0, got, nn s, val, tok, nn k, c) ∧ e_hP_X9_readKnown srt wrd (nn (np + nu)) NA 0 (nn s) wa NO NS (nn k) (nn n) B num 0 = some (0, c, nn s, 5, nn s, nn k, num, wrd)) ∨
    ∃ (p s1 k1 : Nat) (tok1 srt1 num1 : Int32) (val1 wrd1 : Int64), p < np ∧ k ≤ s1 ∧ RS n s1 k1 tok1 srt1 num1 val1 wrd1 ∧ e_hA_X5_readTold tok val got (nn k) (nn n) (nn s) A 0 idx = some (1, nn p, nn s1, val1, tok1, nn k1, 0) ∧ e_hP_X9_readKnown srt wrd (nn (np + nu)) NA 0 (nn s) wa NO NS (nn k) (nn n) B num 0 = some (nn p, 0, wa, srt1, nn s1, nn k1, num1, wrd1)) := by
  have bad : ∀ c : Int32, e_hP_X9_knownOne srt wrd (nn (np + nu)) NA 0 (nn s) wa NO NS 0 = some (0, c, nn s, 5) → e_hP_X9_readKnown srt wrd (nn (np + nu)) NA 0 (nn s) wa NO NS (nn k) (nn n) B num 0 = some (0, c, nn s, 5, nn s, nn k, num, wrd) := by
    intro c h
    unfold e_hP_X9_readKnown
    rw [h, Option.bind_some]
    simp only []
    rw [go5]
    rfl
  rcases q_knownPerson hp hu M R.2.2.2 (flt := 0) (pl := nn s) (wa := wa) with ⟨h1, h2⟩ | ⟨h1, h2, h3⟩ | ⟨p, hpp, h1, h2, h3⟩
  · obtain ⟨i, hi⟩ := anyP hp PN val
    exact ⟨i, hi, Or.inl ⟨1, by decide, ct_bad h1, bad 1 h2⟩⟩
  · exact ⟨-1, h2, Or.inl ⟨2, by decide, ct_no h1, bad 2 h3⟩⟩
  · obtain ⟨s1, k1, tok1, srt1, num1, val1, wrd1, g1, R1, e1, e2⟩ := rs_next T R.2.1 (p2 := nn s) (p4 := tok) (p3 := val) (q0 := srt) (q4 := nn s) (q5 := num) (q6 := wrd) R.2.2.2.ne5
    refine ⟨nn p, h2, Or.inr ⟨p, s1, k1, tok1, srt1, num1, val1, wrd1, hpp, g1, R1, ct_yes h1 (by rw [nn_ne1 (by omega)]; exact fun z => z) e1, ?_⟩⟩
    unfold e_hP_X9_readKnown
    rw [h3, Option.bind_some]
    simp only []
    rw [e2]
    rfl
/-- a name that must be told -/
theorem q_toldUmbrella {n s k np nu : Nat} {A B : pA} (T : tpe n A B) (hp : np ≤ 6) (hu : nu ≤ 5) {PN UN NA : Nat → Int64} {NS NO : pA} (M : NMR np nu PN UN NA NS NO) {tok srt num : Int32} {val wrd : Int64} (R : RS n s k tok srt num val wrd) (got wa : Int32) : ∃ idx, e_hA_X5_indexOfUmbrella (nn nu) UN val = some idx ∧
    ((∃ c : Int32, ¬ c ≤ 0 ∧ e_hA_X5_readTold tok val got (nn k) (nn n) (nn s) A 0 idx = some (0, got, nn s, val, tok, nn k, c) ∧ e_hP_X9_readKnown srt wrd (nn (np + nu)) NA 0 (nn s) wa NO NS (nn k) (nn n) B num 1 = some (0, c, nn s, 5, nn s, nn k, num, wrd)) ∨
    ∃ (p s1 k1 : Nat) (tok1 srt1 num1 : Int32) (val1 wrd1 : Int64), p < nu ∧ k ≤ s1 ∧ RS n s1 k1 tok1 srt1 num1 val1 wrd1 ∧ e_hA_X5_readTold tok val got (nn k) (nn n) (nn s) A 0 idx = some (1, nn p, nn s1, val1, tok1, nn k1, 0) ∧ e_hP_X9_readKnown srt wrd (nn (np + nu)) NA 0 (nn s) wa NO NS (nn k) (nn n) B num 1 = some (nn p, 0, wa, srt1, nn s1, nn k1, num1, wrd1)) := by
  have bad : ∀ c : Int32, e_hP_X9_knownOne srt wrd (nn (np + nu)) NA 0 (nn s) wa NO NS 1 = some (0, c, nn s, 5) → e_hP_X9_readKnown srt wrd (nn (np + nu)) NA 0 (nn s) wa NO NS (nn k) (nn n) B num 1 = some (0, c, nn s, 5, nn s, nn k, num, wrd) := by
    intro c h
    unfold e_hP_X9_readKnown
    rw [h, Option.bind_some]
    simp only []
    rw [go5]
    rfl
  rcases q_knownUmbrella hp hu M R.2.2.2 (flt := 0) (pl := nn s) (wa := wa) with ⟨h1, h2⟩ | ⟨h1, h2, h3⟩ | ⟨p, hpp, h1, h2, h3⟩
  · obtain ⟨i, hi⟩ := anyU hu UN val
    exact ⟨i, hi, Or.inl ⟨1, by decide, ct_bad h1, bad 1 h2⟩⟩
  · exact ⟨-1, h2, Or.inl ⟨2, by decide, ct_no h1, bad 2 h3⟩⟩
  · obtain ⟨s1, k1, tok1, srt1, num1, val1, wrd1, g1, R1, e1, e2⟩ := rs_next T R.2.1 (p2 := nn s) (p4 := tok) (p3 := val) (q0 := srt) (q4 := nn s) (q5 := num) (q6 := wrd) R.2.2.2.ne5
    refine ⟨nn p, h2, Or.inr ⟨p, s1, k1, tok1, srt1, num1, val1, wrd1, hpp, g1, R1, ct_yes h1 (by rw [nn_ne1 (by omega)]; exact fun z => z) e1, ?_⟩⟩
    unfold e_hP_X9_readKnown
    rw [h3, Option.bind_some]
    simp only []
    rw [e2]
    rfl
