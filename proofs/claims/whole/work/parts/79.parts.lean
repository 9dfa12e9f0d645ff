/-! THE PURE PART: parts of a line -/
def RS (n s k : Nat) (tok srt num : Int32) (val wrd : Int64) : Prop := s ≤ k ∧ k ≤ n ∧ (tok = 3 → s < k) ∧ TokR tok val srt wrd num
theorem TokR.ne5 {tok srt num : Int32} {val wrd : Int64} (h : TokR tok val srt wrd num) : ¬ srt = 5 := by
  rcases h with ⟨_, e⟩ | ⟨_, e, _⟩ | ⟨_, e, _⟩ | ⟨_, e⟩ | ⟨_, e⟩ <;> rw [e] <;> decide
theorem go5 {a b d e : Int32} {c : pA} {f : Int64} : e_hP_X9_goesOn 5 a b c d e f = some (d, 5, a, e, f) := by
  unfold e_hP_X9_goesOn
  rw [if_pos rfl]
theorem fl5 {a b c x : Int32} : e_hP_X9_flaw 5 a b c x = some (a, c, 5) := by
  unfold e_hP_X9_flaw
  rw [if_pos rfl]
theorem fl0 {p a b c x : Int32} (h : ¬ p = 5) : e_hP_X9_flaw p a b c x = some (x, b, 5) := by
  unfold e_hP_X9_flaw
  rw [if_neg h]
theorem iw5 {w : Int64} {s : List Int32} : e_hP_X9_isWord 5 w s = some 0 := qr_isWordN (by decide)
theorem rs_next {n k : Nat} {A B : pA} (T : tpe n A B) (hk : k ≤ n) {p2 p4 : Int32} {p3 : Int64} {q0 q4 q5 : Int32} {q6 : Int64} (h5 : ¬ q0 = 5) : ∃ (s1 k1 : Nat) (tok srt num : Int32) (val wrd : Int64), k ≤ s1 ∧ RS n s1 k1 tok srt num val wrd ∧ e_hA_X5_readToken (nn k) (nn n) p2 p3 p4 A = some (nn s1, val, tok, nn k1) ∧ e_hP_X9_goesOn q0 (nn k) (nn n) B q4 q5 q6 = some (nn s1, srt, nn k1, num, wrd) := by
  obtain ⟨s, k', tok, srt, num, val, wrd, h1, h2, h3, h4, h5, h6, h7⟩ := q_token T hk (p2 := p2) (p4 := p4) (p3 := p3) (q0 := q0) (q4 := q4) (q5 := q5) (q6 := q6) h5
  exact ⟨s, k', tok, srt, num, val, wrd, h1, ⟨h2, h3, h4, h5⟩, h6, h7⟩
/-- a text of one word -/
def one (w1 w2 : List Int32) : Prop := ∀ {tok srt num : Int32} {val wrd : Int64}, TokR tok val srt wrd num → (e_hA_X5_indexAmong tok val w1 = some (-1) ∧ e_hP_X9_isWord srt wrd w2 = some 0) ∨ (tok = 1 ∧ srt = 2 ∧ e_hA_X5_indexAmong tok val w1 = some 0 ∧ e_hP_X9_isWord srt wrd w2 = some 1)
theorem one_of {w1 w2 : List Int32} {r0 : List Nat} (h1 : ∀ {r : List Nat}, okw r → e_hA_X5_indexAmong 1 (ll (enr 27 r)) w1 = some (lookr r [r0] 0)) (h2 : ∀ {r : List Nat}, okw r → e_hP_X9_isWord 2 (ll (enr 32 r)) w2 = some (if r = r0 then 1 else 0)) : one w1 w2 := by
  intro tok srt num val wrd h
  rcases h with ⟨e1, e2⟩ | ⟨e1, e2, r, hr, rfl, rfl⟩ | ⟨e1, e2, _⟩ | ⟨e1, e2⟩ | ⟨e1, e2⟩
  · exact Or.inl ⟨qc_amongN (by rw [e1]; decide), qr_isWordN (by rw [e2]; decide)⟩
  · subst e1 e2
    have g1 := h1 hr
    have g2 := h2 hr
    simp only [lookr] at g1
    by_cases q : r = r0
    · rw [if_pos q] at g1 g2
      exact Or.inr ⟨rfl, rfl, g1, g2⟩
    · rw [if_neg q] at g1 g2
      exact Or.inl ⟨g1, g2⟩
  · exact Or.inl ⟨qc_amongN (by rw [e1]; decide), qr_isWordN (by rw [e2]; decide)⟩
  · exact Or.inl ⟨qc_amongN (by rw [e1]; decide), qr_isWordN (by rw [e2]; decide)⟩
  · exact Or.inl ⟨qc_amongN (by rw [e1]; decide), qr_isWordN (by rw [e2]; decide)⟩
theorem one_2 : one (xsy 2) (xsy 19) := one_of am_2 iw_19
theorem one_3 : one (xsy 3) (xsy 20) := one_of am_3 iw_20
theorem one_4 : one (xsy 4) (xsy 21) := one_of am_4 iw_21
theorem one_7 : one (xsy 7) (xsy 29) := one_of am_7 iw_29
theorem one_8 : one (xsy 8) (xsy 30) := one_of am_8 iw_30
theorem one_9 : one (xsy 9) (xsy 31) := one_of am_9 iw_31
theorem one_10 : one (xsy 10) (xsy 32) := one_of am_10 iw_32
theorem lgc_lt {d a : Nat} (hd : d < 2147483648) (ha : a < 2147483648) : (lg_cmp (ll d) (nn a).toInt64 < (0 : Int32)) = (d < a) := by
  rw [nn_64 ha]
  have i1 : (ll d).toInt = d := Int64.toInt_ofNat_of_lt (by omega)
  have i2 : (ll a).toInt = a := Int64.toInt_ofNat_of_lt (by omega)
  unfold lg_cmp
  refine propext ⟨fun h => ?_, fun h => ?_⟩
  · split at h
    · exact absurd h (by decide)
    · rename_i q
      split at h
      · exact absurd h (by decide)
      · rename_i q2
        have q3 : ¬ (ll a).toInt < (ll d).toInt := fun z => q (Int64.lt_iff_toInt_lt.mpr z)
        have q4 : ¬ d = a := fun z => q2 (by rw [z])
        omega
  · rw [if_neg (show ¬ ll d > ll a from fun z => by have := Int64.lt_iff_toInt_lt.mp z; omega), if_neg (show ¬ ll d = ll a from fun z => by have := ll_inj (by omega) (by omega) z; omega)]
    decide
theorem lgc_le {d a : Nat} (hd : d < 2147483648) (ha : a < 2147483648) : (lg_cmp (ll d) (nn a).toInt64 ≤ (0 : Int32)) = (d ≤ a) := by
  rw [nn_64 ha]
  have i1 : (ll d).toInt = d := Int64.toInt_ofNat_of_lt (by omega)
  have i2 : (ll a).toInt = a := Int64.toInt_ofNat_of_lt (by omega)
  unfold lg_cmp
  refine propext ⟨fun h => ?_, fun h => ?_⟩
  · split at h
    · exact absurd h (by decide)
    · rename_i q
      have q3 : ¬ (ll a).toInt < (ll d).toInt := fun z => q (Int64.lt_iff_toInt_lt.mpr z)
      omega
  · rw [if_neg (show ¬ ll d > ll a from fun z => by have := Int64.lt_iff_toInt_lt.mp z; omega)]
    split <;> decide
theorem rw5 {p1 p2 p3 p5 p7 p8 x1 x2 : Int32} {p4 : pA} {p6 : Int64} : e_hP_X9_readWhole 5 p1 p2 p3 p4 p5 p6 p7 p8 x1 x2 = some (x1, p5, 5, p2, p1, p6, p7, p8) := by
  unfold e_hP_X9_readWhole
  rw [if_neg (by decide), fl5, Option.bind_some]
  unfold J_hP_X9_readWhole_33
  rw [if_pos rfl, go5]
  rfl
theorem rpt5 {p1 : Int64} {p2 p3 p5 p6 p7 p8 x2 x3 : Int32} {p4 : pA} {s0 : List Int32} : e_hP_X9_readPart 5 p1 p2 p3 p4 p5 p6 p7 p8 s0 x2 x3 = some (x2, p5, 5, p2, p6, p1, p7, p8) := by
  unfold e_hP_X9_readPart e_hP_X9_needs
  rw [iw5, Option.bind_some, if_pos rfl, fl5, Option.bind_some]
  simp only []
  rw [go5, Option.bind_some, Option.bind_some]
  simp only []
  rw [rw5]
  rfl
section CNUM
variable {tok nx ln st f got lo hi : Int32} {val : Int64} {A : pA} {w : List Int32}
theorem cn_bad (h : e_hA_X5_indexAmong tok val w = some (-1)) : e_hA_X5_readNumber tok val nx ln st A f got w lo hi = some (0, st, val, tok, nx, 1, got) := by
  unfold e_hA_X5_readNumber e_hA_X5_fail
  rw [h]
  rfl
theorem cn_go (h : e_hA_X5_indexAmong tok val w = some 0) {s1 t1 k1 : Int32} {v1 : Int64} (ht : e_hA_X5_readToken nx ln st val tok A = some (s1, v1, t1, k1)) : e_hA_X5_readNumber tok val nx ln st A f got w lo hi = if t1 = (2 : Int32) then if (lg_cmp v1 lo.toInt64) < (0 : Int32) then some (0, s1, v1, t1, k1, 4, got) else if (lg_cmp v1 hi.toInt64) ≤ (0 : Int32) then ((e_hA_X5_readToken k1 ln s1 v1 t1 A).bind fun z69 => some ((1 : Int32), z69.1, z69.2.1, z69.2.2.1, z69.2.2.2, f, v1.toInt32)) else some (0, s1, v1, t1, k1, 4, got) else some (0, s1, v1, t1, k1, 1, got) := by
  unfold e_hA_X5_readNumber e_hA_X5_fail
  rw [h, Option.bind_some, if_neg (by decide), ht, Option.bind_some]
  rfl
end CNUM
section RNUM
variable {srt sp sz pl num flt wa lo hi : Int32} {wrd : Int64} {B : pA} {w : List Int32}
theorem rn_bad (n5 : ¬ srt = 5) (h : e_hP_X9_isWord srt wrd w = some 0) : e_hP_X9_readPart srt wrd sp sz B pl num flt wa w lo hi = some (lo, pl, 5, sp, num, wrd, 1, pl) := by
  unfold e_hP_X9_readPart e_hP_X9_needs
  rw [h, Option.bind_some, if_pos rfl, fl0 n5, Option.bind_some]
  simp only []
  rw [go5, Option.bind_some, Option.bind_some]
  simp only []
  rw [rw5]
  rfl
theorem rn_go (h : e_hP_X9_isWord srt wrd w = some 1) {s1 t1 k1 n1 : Int32} {w1 : Int64} (ht : e_hP_X9_goesOn srt sp sz B pl num wrd = some (s1, t1, k1, n1, w1)) : e_hP_X9_readPart srt wrd sp sz B pl num flt wa w lo hi = e_hP_X9_readWhole t1 n1 k1 sz B s1 w1 flt wa lo hi := by
  unfold e_hP_X9_readPart e_hP_X9_needs
  rw [h, Option.bind_some, if_neg (by decide), ht, Option.bind_some, Option.bind_some]
  simp only []
  cases e_hP_X9_readWhole t1 n1 k1 sz B s1 w1 flt wa lo hi <;> rfl
theorem rwh_bad (n5 : ¬ srt = 5) (n3 : ¬ srt = 3) : e_hP_X9_readWhole srt num sp sz B pl wrd flt wa lo hi = some (lo, pl, 5, sp, num, wrd, 1, pl) := by
  unfold e_hP_X9_readWhole
  rw [if_neg n3, fl0 n5, Option.bind_some]
  unfold J_hP_X9_readWhole_33
  rw [if_pos rfl, go5]
  rfl
theorem rwh_out (h : e_hP_X9_in num lo hi = some 0) : e_hP_X9_readWhole 3 num sp sz B pl wrd flt wa lo hi = some (lo, pl, 5, sp, num, wrd, 4, pl) := by
  unfold e_hP_X9_readWhole
  rw [if_pos rfl, h, Option.bind_some, if_pos rfl, fl0 (by decide), Option.bind_some]
  unfold J_hP_X9_readWhole_33
  rw [if_pos rfl, go5]
  rfl
theorem rwh_in (h : e_hP_X9_in num lo hi = some 1) {s1 t1 k1 n1 : Int32} {w1 : Int64} (ht : e_hP_X9_goesOn 3 sp sz B pl num wrd = some (s1, t1, k1, n1, w1)) : e_hP_X9_readWhole 3 num sp sz B pl wrd flt wa lo hi = some (num, s1, t1, k1, n1, w1, flt, wa) := by
  unfold e_hP_X9_readWhole
  rw [if_pos rfl, h, Option.bind_some, if_neg (by decide)]
  unfold J_hP_X9_readWhole_33
  rw [if_neg (by decide), ht]
  rfl
end RNUM
/-- a word and the number behind it -/
theorem q_num {n s k : Nat} {A B : pA} (T : tpe n A B) {tok srt num : Int32} {val wrd : Int64} (R : RS n s k tok srt num val wrd) {w1 w2 : List Int32} (hw : one w1 w2) {lo hi : Nat} (hlo : lo < 1000) (hhi : hi < 1000) (got wa : Int32) :
    (∃ (c : Int32) (s1 k1 : Nat) (tok1 : Int32) (val1 : Int64) (v p q r : Int32) (w : Int64), ¬ c ≤ 0 ∧ e_hA_X5_readNumber tok val (nn k) (nn n) (nn s) A 0 got w1 (nn lo) (nn hi) = some (0, nn s1, val1, tok1, nn k1, c, got) ∧ e_hP_X9_readPart srt wrd (nn k) (nn n) B (nn s) num 0 wa w2 (nn lo) (nn hi) = some (v, p, 5, q, r, w, c, nn s1)) ∨
    (∃ (d s1 k1 : Nat) (tok1 srt1 num1 : Int32) (val1 wrd1 : Int64), lo ≤ d ∧ d ≤ hi ∧ k ≤ s1 ∧ RS n s1 k1 tok1 srt1 num1 val1 wrd1 ∧ e_hA_X5_readNumber tok val (nn k) (nn n) (nn s) A 0 got w1 (nn lo) (nn hi) = some (1, nn s1, val1, tok1, nn k1, 0, nn d) ∧ e_hP_X9_readPart srt wrd (nn k) (nn n) B (nn s) num 0 wa w2 (nn lo) (nn hi) = some (nn d, nn s1, srt1, nn k1, num1, wrd1, 0, wa)) := by
  obtain ⟨r1, r2, r3, r4⟩ := R
  have n5 := r4.ne5
  rcases hw r4 with ⟨a1, a2⟩ | ⟨rfl, rfl, a1, a2⟩
  · exact Or.inl ⟨1, s, k, tok, val, _, _, _, _, _, by decide, cn_bad a1, rn_bad n5 a2⟩
  · obtain ⟨s1, k1, tok1, srt1, num1, val1, wrd1, h1, R1, e1, e2⟩ := rs_next T r2 (p2 := nn s) (p4 := 1) (p3 := val) (q0 := 2) (q4 := nn s) (q5 := num) (q6 := wrd) (by decide)
    have c1 := cn_go (f := 0) (got := got) (lo := nn lo) (hi := nn hi) a1 e1
    have c2 := rn_go (flt := 0) (wa := wa) (lo := nn lo) (hi := nn hi) a2 e2
    rw [c1, c2]
    have m5 := R1.2.2.2.ne5
    rcases R1.2.2.2 with ⟨y1, y2⟩ | ⟨y1, y2, _⟩ | ⟨y1, y2, d, d9, y3, y4⟩ | ⟨y1, y2⟩ | ⟨y1, y2⟩
    · exact Or.inl ⟨1, s1, k1, tok1, val1, _, _, _, _, _, by decide, if_neg (by rw [y1]; decide), rwh_bad m5 (by rw [y2]; decide)⟩
    · exact Or.inl ⟨1, s1, k1, tok1, val1, _, _, _, _, _, by decide, if_neg (by rw [y1]; decide), rwh_bad m5 (by rw [y2]; decide)⟩
    · subst y2 y4
      rw [if_pos y1, y3]
      by_cases z1 : d < lo
      · have o : e_hP_X9_in (nn d) (nn lo) (nn hi) = some 0 := by
          unfold e_hP_X9_in
          rw [if_pos (show nn d < nn lo from by rw [nn_lt (by omega) (by omega)]; exact z1)]
        exact Or.inl ⟨4, s1, k1, tok1, ll d, _, _, _, _, _, by decide, if_pos (by rw [lgc_lt (by omega) (by omega)]; exact z1), rwh_out o⟩
      · have g1 : ¬ nn d < nn lo := by rw [nn_lt (by omega) (by omega)]; exact z1
        rw [if_neg (show ¬ lg_cmp (ll d) (nn lo).toInt64 < 0 from by rw [lgc_lt (by omega) (by omega)]; exact z1)]
        by_cases z2 : d ≤ hi
        · right
          obtain ⟨s2, k2, tok2, srt2, num2, val2, wrd2, h2, R2, e3, e4⟩ := rs_next T R1.2.1 (p2 := nn s1) (p4 := tok1) (p3 := ll d) (q0 := 3) (q4 := nn s1) (q5 := nn d) (q6 := wrd1) (by decide)
          have o : e_hP_X9_in (nn d) (nn lo) (nn hi) = some 1 := by
            unfold e_hP_X9_in
            rw [if_neg g1, if_neg (show ¬ nn hi < nn d from by rw [nn_lt (by omega) (by omega)]; omega)]
          refine ⟨d, s2, k2, tok2, srt2, num2, val2, wrd2, by omega, z2, by have := R1.1; omega, R2, ?_, rwh_in o e4⟩
          rw [if_pos (show lg_cmp (ll d) (nn hi).toInt64 ≤ 0 from by rw [lgc_le (by omega) (by omega)]; exact z2), e3, Option.bind_some, ll_32]
        · have o : e_hP_X9_in (nn d) (nn lo) (nn hi) = some 0 := by
            unfold e_hP_X9_in
            rw [if_neg g1, if_pos (show nn hi < nn d from by rw [nn_lt (by omega) (by omega)]; omega)]
          exact Or.inl ⟨4, s1, k1, tok1, ll d, _, _, _, _, _, by decide, if_neg (by rw [lgc_le (by omega) (by omega)]; exact z2), rwh_out o⟩
    · exact Or.inl ⟨1, s1, k1, tok1, val1, _, _, _, _, _, by decide, if_neg (by rw [y1]; decide), rwh_bad m5 (by rw [y2]; decide)⟩
    · exact Or.inl ⟨1, s1, k1, tok1, val1, _, _, _, _, _, by decide, if_neg (by rw [y1]; decide), rwh_bad m5 (by rw [y2]; decide)⟩
