/-! THE PURE PART: new names, sorts and kinds -/
theorem rf5 {N : Nat} (hN : N ≤ 11) {w : Int64} {NA : Nat → Int64} {sp sz pl num flt wa : Int32} {B : pA} : e_hP_X9_readFresh 5 w (nn N) NA sp sz B pl num flt wa = some (w, pl, 5, sp, num, w, flt, wa) := by
  unfold e_hP_X9_readFresh
  rw [rn_nameN (by decide), Option.bind_some, if_pos rfl, fl5, Option.bind_some]
  unfold J_hP_X9_readFresh_12
  rcases q_any hN (NA := NA) (w := w) with e | ⟨k, hk, e⟩
  · rw [e, Option.bind_some, if_pos rfl, go5]
    rfl
  · rw [e, Option.bind_some, if_neg (by rw [nn_ne1 (by omega)]; exact fun z => z), fl5, Option.bind_some, go5]
    rfl
theorem rf_bad {N : Nat} (hN : N ≤ 11) {srt : Int32} (n5 : ¬ srt = 5) {w : Int64} {NA : Nat → Int64} {sp sz pl num flt wa : Int32} {B : pA} (h : e_hP_X9_isName srt w = some 0) : e_hP_X9_readFresh srt w (nn N) NA sp sz B pl num flt wa = some (w, pl, 5, sp, num, w, 1, pl) := by
  unfold e_hP_X9_readFresh
  rw [h, Option.bind_some, if_pos rfl, fl0 n5, Option.bind_some]
  unfold J_hP_X9_readFresh_12
  rcases q_any hN (NA := NA) (w := w) with e | ⟨k, hk, e⟩
  · rw [e, Option.bind_some, if_pos rfl, go5]
    rfl
  · rw [e, Option.bind_some, if_neg (by rw [nn_ne1 (by omega)]; exact fun z => z), fl5, Option.bind_some, go5]
    rfl
theorem rf_again {N : Int32} {k : Nat} (hk : k < 11) {w : Int64} {NA : Nat → Int64} {sp sz pl num flt wa : Int32} {B : pA} (h : e_hP_X9_isName 2 w = some 1) (hf : e_hP_X8_find N NA w = some (nn k)) : e_hP_X9_readFresh 2 w N NA sp sz B pl num flt wa = some (w, pl, 5, sp, num, w, 3, pl) := by
  unfold e_hP_X9_readFresh
  rw [h, Option.bind_some, if_neg (by decide)]
  unfold J_hP_X9_readFresh_12
  rw [hf, Option.bind_some, if_neg (by rw [nn_ne1 (by omega)]; exact fun z => z), fl0 (by decide), Option.bind_some, go5]
  rfl
theorem rf_new {N : Int32} {w : Int64} {NA : Nat → Int64} {sp sz pl num flt wa : Int32} {B : pA} (h : e_hP_X9_isName 2 w = some 1) (hf : e_hP_X8_find N NA w = some (-1)) {s1 t1 k1 n1 : Int32} {w1 : Int64} (ht : e_hP_X9_goesOn 2 sp sz B pl num w = some (s1, t1, k1, n1, w1)) : e_hP_X9_readFresh 2 w N NA sp sz B pl num flt wa = some (w, s1, t1, k1, n1, w1, flt, wa) := by
  unfold e_hP_X9_readFresh
  rw [h, Option.bind_some, if_neg (by decide)]
  unfold J_hP_X9_readFresh_12
  rw [hf, Option.bind_some, if_pos rfl, ht]
  rfl
section CNEW
variable {tok np nu nx ln st flt : Int32} {val : Int64} {PN UN : Nat → Int64} {A : pA}
theorem cw_bad (h : e_hA_X5_isName tok val = some 0) : e_hA_X5_readNewName tok val np PN flt nu UN nx ln st A = some (0, 1, st, val, tok, nx) := by
  unfold e_hA_X5_readNewName e_hA_X5_fail
  rw [h]
  rfl
theorem cw_p (h : e_hA_X5_isName tok val = some 1) {i : Int32} (hi : ¬ i = -1) (hp : e_hA_X5_indexOfPerson np PN val = some i) : e_hA_X5_readNewName tok val np PN flt nu UN nx ln st A = some (0, 3, st, val, tok, nx) := by
  unfold e_hA_X5_readNewName e_hA_X5_fail
  rw [h, Option.bind_some, if_neg (by decide), hp, Option.bind_some, if_neg hi]
  rfl
theorem cw_u (h : e_hA_X5_isName tok val = some 1) {i : Int32} (hi : ¬ i = -1) (hp : e_hA_X5_indexOfPerson np PN val = some (-1)) (hu : e_hA_X5_indexOfUmbrella nu UN val = some i) : e_hA_X5_readNewName tok val np PN flt nu UN nx ln st A = some (0, 3, st, val, tok, nx) := by
  unfold e_hA_X5_readNewName e_hA_X5_fail
  rw [h, Option.bind_some, if_neg (by decide), hp, Option.bind_some, if_pos rfl, hu, Option.bind_some, if_neg hi]
  rfl
theorem cw_new (h : e_hA_X5_isName tok val = some 1) (hp : e_hA_X5_indexOfPerson np PN val = some (-1)) (hu : e_hA_X5_indexOfUmbrella nu UN val = some (-1)) {s1 t1 k1 : Int32} {v1 : Int64} (ht : e_hA_X5_readToken nx ln st val tok A = some (s1, v1, t1, k1)) : e_hA_X5_readNewName tok val np PN flt nu UN nx ln st A = some (1, flt, s1, v1, t1, k1) := by
  unfold e_hA_X5_readNewName e_hA_X5_fail
  rw [h, Option.bind_some, if_neg (by decide), hp, Option.bind_some, if_pos rfl, hu, Option.bind_some, if_pos rfl, ht]
  rfl
end CNEW
/-- a name that must be new -/
theorem q_fresh {n s k np nu : Nat} {A B : pA} (T : tpe n A B) (hp : np ≤ 6) (hu : nu ≤ 5) {PN UN NA : Nat → Int64} {NS NO : pA} (M : NMR np nu PN UN NA NS NO) {tok srt num : Int32} {val wrd : Int64} (R : RS n s k tok srt num val wrd) (wa : Int32) :
    (∃ c : Int32, ¬ c ≤ 0 ∧ e_hA_X5_readNewName tok val (nn np) PN 0 (nn nu) UN (nn k) (nn n) (nn s) A = some (0, c, nn s, val, tok, nn k) ∧ e_hP_X9_readFresh srt wrd (nn (np + nu)) NA (nn k) (nn n) B (nn s) num 0 wa = some (wrd, nn s, 5, nn k, num, wrd, c, nn s)) ∨
    ∃ (r : List Nat) (s1 k1 : Nat) (tok1 srt1 num1 : Int32) (val1 wrd1 : Int64), okw r ∧ val = ll (enr 27 r) ∧ wrd = ll (enr 32 r) ∧ (∀ j, j < np + nu → ¬ NA j = wrd) ∧ k ≤ s1 ∧ RS n s1 k1 tok1 srt1 num1 val1 wrd1 ∧ e_hA_X5_readNewName tok val (nn np) PN 0 (nn nu) UN (nn k) (nn n) (nn s) A = some (1, 0, nn s1, val1, tok1, nn k1) ∧ e_hP_X9_readFresh srt wrd (nn (np + nu)) NA (nn k) (nn n) B (nn s) num 0 wa = some (wrd, nn s1, srt1, nn k1, num1, wrd1, 0, wa) := by
  have n5 := R.2.2.2.ne5
  have no : ¬ tok = 1 → ¬ srt = 2 → ∃ c : Int32, ¬ c ≤ 0 ∧ e_hA_X5_readNewName tok val (nn np) PN 0 (nn nu) UN (nn k) (nn n) (nn s) A = some (0, c, nn s, val, tok, nn k) ∧ e_hP_X9_readFresh srt wrd (nn (np + nu)) NA (nn k) (nn n) B (nn s) num 0 wa = some (wrd, nn s, 5, nn k, num, wrd, c, nn s) := fun h1 h2 => ⟨1, by decide, cw_bad (cn_nameN h1), rf_bad (by omega) n5 (rn_nameN h2)⟩
  rcases R.2.2.2 with ⟨e1, e2⟩ | ⟨e1, e2, r, hr, e3, e4⟩ | ⟨e1, e2, _⟩ | ⟨e1, e2⟩ | ⟨e1, e2⟩
  · exact Or.inl (no (by rw [e1]; decide) (by rw [e2]; decide))
  · subst e1 e2 e3 e4
    have c1 := cn_name hr
    have c2 := rn_name hr
    by_cases q : r ∈ heads
    · rw [if_pos q] at c1 c2
      exact Or.inl ⟨1, by decide, cw_bad c1, rf_bad (by omega) n5 c2⟩
    · rw [if_neg q] at c1 c2
      have n1 : ∀ j, j < 1000 → ¬ nn j = -1 := fun j hj => by rw [nn_ne1 (by omega)]; exact fun z => z
      rcases q_who hp hu M hr with ⟨w1, w2, w3⟩ | ⟨p, j, h1, h2, h3, h4, w1, w2, w3⟩ | ⟨u, j, h1, h2, h3, h4, w1, w2, w3⟩
      · right
        obtain ⟨s1, k1, tok1, srt1, num1, val1, wrd1, g1, R1, f1, f2⟩ := rs_next T R.2.1 (p2 := nn s) (p4 := 1) (p3 := ll (enr 27 r)) (q0 := 2) (q4 := nn s) (q5 := num) (q6 := ll (enr 32 r)) (by decide)
        refine ⟨r, s1, k1, tok1, srt1, num1, val1, wrd1, hr, rfl, rfl, ?_, g1, R1, cw_new c1 w1 w2 f1, rf_new c2 w3 f2⟩
        unfold e_hP_X8_find at w3
        rcases q_find (show np + nu ≤ 11 by omega) (NA := NA) (w := ll (enr 32 r)) (np + nu) 0 200000 (by omega) (by omega) with ⟨_, z⟩ | ⟨j, _, j2, _, z⟩
        · exact fun j hj => z j (by omega) hj
        · exact absurd (Option.some.inj (z.symm.trans w3)) (n1 j (by omega))
      · exact Or.inl ⟨3, by decide, cw_p c1 (n1 p (by omega)) w1, rf_again (by omega) c2 w3⟩
      · exact Or.inl ⟨3, by decide, cw_u c1 (n1 u (by omega)) w1 w2, rf_again (by omega) c2 w3⟩
  · exact Or.inl (no (by rw [e1]; decide) (by rw [e2]; decide))
  · exact Or.inl (no (by rw [e1]; decide) (by rw [e2]; decide))
  · exact Or.inl (no (by rw [e1]; decide) (by rw [e2]; decide))
theorem q_sorts {tok srt num : Int32} {val wrd : Int64} (R : TokR tok val srt wrd num) : (e_hA_X5_indexAmong tok val (xsy 5) = some (-1) ∧ e_hP_X9_isWord srt wrd (xsy 22) = some 0 ∧ e_hP_X9_isWord srt wrd (xsy 23) = some 0 ∧ e_hP_X9_isWord srt wrd (xsy 24) = some 0) ∨ (tok = 1 ∧ srt = 2 ∧ ((e_hA_X5_indexAmong tok val (xsy 5) = some 0 ∧ e_hP_X9_isWord srt wrd (xsy 22) = some 1) ∨ (e_hA_X5_indexAmong tok val (xsy 5) = some 1 ∧ e_hP_X9_isWord srt wrd (xsy 22) = some 0 ∧ e_hP_X9_isWord srt wrd (xsy 23) = some 1) ∨ (e_hA_X5_indexAmong tok val (xsy 5) = some 2 ∧ e_hP_X9_isWord srt wrd (xsy 22) = some 0 ∧ e_hP_X9_isWord srt wrd (xsy 23) = some 0 ∧ e_hP_X9_isWord srt wrd (xsy 24) = some 1))) := by
  have no : ¬ tok = 1 → ¬ srt = 2 → (e_hA_X5_indexAmong tok val (xsy 5) = some (-1) ∧ e_hP_X9_isWord srt wrd (xsy 22) = some 0 ∧ e_hP_X9_isWord srt wrd (xsy 23) = some 0 ∧ e_hP_X9_isWord srt wrd (xsy 24) = some 0) := fun h1 h2 => ⟨qc_amongN h1, qr_isWordN h2, qr_isWordN h2, qr_isWordN h2⟩
  rcases R with ⟨e1, e2⟩ | ⟨e1, e2, r, hr, e3, e4⟩ | ⟨e1, e2, _⟩ | ⟨e1, e2⟩ | ⟨e1, e2⟩
  · exact Or.inl (no (by rw [e1]; decide) (by rw [e2]; decide))
  · subst e1 e2 e3 e4
    have g := am_5 hr
    simp only [lookr] at g
    have i0 := iw_22 hr
    have i1 := iw_23 hr
    have i2 := iw_24 hr
    by_cases q0 : r = [14, 9, 1, 12, 16]
    · rw [if_pos q0] at g
      rw [if_pos q0] at i0
      exact Or.inr ⟨rfl, rfl, Or.inl ⟨g, i0⟩⟩
    ·
      by_cases q1 : r = [4, 12, 9, 8, 3]
      · rw [if_neg q0, if_pos q1] at g
        rw [if_neg q0] at i0
        rw [if_pos q1] at i1
        exact Or.inr ⟨rfl, rfl, Or.inr (Or.inl ⟨g, i0, i1⟩)⟩
      ·
        by_cases q2 : r = [19, 19, 5, 12, 5, 18, 1, 3]
        · rw [if_neg q0, if_neg q1, if_pos q2] at g
          rw [if_neg q0] at i0
          rw [if_neg q1] at i1
          rw [if_pos q2] at i2
          exact Or.inr ⟨rfl, rfl, Or.inr (Or.inr (⟨g, i0, i1, i2⟩))⟩
        · rw [if_neg q0, if_neg q1, if_neg q2] at g
          rw [if_neg q0] at i0
          rw [if_neg q1] at i1
          rw [if_neg q2] at i2
          exact Or.inl ⟨g, i0, i1, i2⟩
  · exact Or.inl (no (by rw [e1]; decide) (by rw [e2]; decide))
  · exact Or.inl (no (by rw [e1]; decide) (by rw [e2]; decide))
  · exact Or.inl (no (by rw [e1]; decide) (by rw [e2]; decide))
theorem q_kinds {tok srt num : Int32} {val wrd : Int64} (R : TokR tok val srt wrd num) : (e_hA_X5_indexAmong tok val (xsy 6) = some (-1) ∧ e_hP_X9_isWord srt wrd (xsy 25) = some 0 ∧ e_hP_X9_isWord srt wrd (xsy 26) = some 0 ∧ e_hP_X9_isWord srt wrd (xsy 27) = some 0 ∧ e_hP_X9_isWord srt wrd (xsy 28) = some 0) ∨ (tok = 1 ∧ srt = 2 ∧ ((e_hA_X5_indexAmong tok val (xsy 6) = some 0 ∧ e_hP_X9_isWord srt wrd (xsy 25) = some 1) ∨ (e_hA_X5_indexAmong tok val (xsy 6) = some 1 ∧ e_hP_X9_isWord srt wrd (xsy 25) = some 0 ∧ e_hP_X9_isWord srt wrd (xsy 26) = some 1) ∨ (e_hA_X5_indexAmong tok val (xsy 6) = some 2 ∧ e_hP_X9_isWord srt wrd (xsy 25) = some 0 ∧ e_hP_X9_isWord srt wrd (xsy 26) = some 0 ∧ e_hP_X9_isWord srt wrd (xsy 27) = some 1) ∨ (e_hA_X5_indexAmong tok val (xsy 6) = some 3 ∧ e_hP_X9_isWord srt wrd (xsy 25) = some 0 ∧ e_hP_X9_isWord srt wrd (xsy 26) = some 0 ∧ e_hP_X9_isWord srt wrd (xsy 27) = some 0 ∧ e_hP_X9_isWord srt wrd (xsy 28) = some 1))) := by
  have no : ¬ tok = 1 → ¬ srt = 2 → (e_hA_X5_indexAmong tok val (xsy 6) = some (-1) ∧ e_hP_X9_isWord srt wrd (xsy 25) = some 0 ∧ e_hP_X9_isWord srt wrd (xsy 26) = some 0 ∧ e_hP_X9_isWord srt wrd (xsy 27) = some 0 ∧ e_hP_X9_isWord srt wrd (xsy 28) = some 0) := fun h1 h2 => ⟨qc_amongN h1, qr_isWordN h2, qr_isWordN h2, qr_isWordN h2, qr_isWordN h2⟩
  rcases R with ⟨e1, e2⟩ | ⟨e1, e2, r, hr, e3, e4⟩ | ⟨e1, e2, _⟩ | ⟨e1, e2⟩ | ⟨e1, e2⟩
  · exact Or.inl (no (by rw [e1]; decide) (by rw [e2]; decide))
  · subst e1 e2 e3 e4
    have g := am_6 hr
    simp only [lookr] at g
    have i0 := iw_25 hr
    have i1 := iw_26 hr
    have i2 := iw_27 hr
    have i3 := iw_28 hr
    by_cases q0 : r = [11, 12, 9, 19]
    · rw [if_pos q0] at g
      rw [if_pos q0] at i0
      exact Or.inr ⟨rfl, rfl, Or.inl ⟨g, i0⟩⟩
    ·
      by_cases q1 : r = [14, 15, 20, 20, 15, 3]
      · rw [if_neg q0, if_pos q1] at g
        rw [if_neg q0] at i0
        rw [if_pos q1] at i1
        exact Or.inr ⟨rfl, rfl, Or.inr (Or.inl ⟨g, i0, i1⟩)⟩
      ·
        by_cases q2 : r = [11, 3, 9, 20, 19]
        · rw [if_neg q0, if_neg q1, if_pos q2] at g
          rw [if_neg q0] at i0
          rw [if_neg q1] at i1
          rw [if_pos q2] at i2
          exact Or.inr ⟨rfl, rfl, Or.inr (Or.inr (Or.inl ⟨g, i0, i1, i2⟩))⟩
        ·
          by_cases q3 : r = [12, 15, 19, 1, 18, 1, 16]
          · rw [if_neg q0, if_neg q1, if_neg q2, if_pos q3] at g
            rw [if_neg q0] at i0
            rw [if_neg q1] at i1
            rw [if_neg q2] at i2
            rw [if_pos q3] at i3
            exact Or.inr ⟨rfl, rfl, Or.inr (Or.inr (Or.inr (⟨g, i0, i1, i2, i3⟩)))⟩
          · rw [if_neg q0, if_neg q1, if_neg q2, if_neg q3] at g
            rw [if_neg q0] at i0
            rw [if_neg q1] at i1
            rw [if_neg q2] at i2
            rw [if_neg q3] at i3
            exact Or.inl ⟨g, i0, i1, i2, i3⟩
  · exact Or.inl (no (by rw [e1]; decide) (by rw [e2]; decide))
  · exact Or.inl (no (by rw [e1]; decide) (by rw [e2]; decide))
  · exact Or.inl (no (by rw [e1]; decide) (by rw [e2]; decide))
