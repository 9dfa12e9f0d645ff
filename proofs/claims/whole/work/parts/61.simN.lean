/-! THE PURE PART: without a county -/
theorem isU0 (x : Int32) : e_hA_X7_isUmbrella 0 x = some 0 := by
  unfold e_hA_X7_isUmbrella
  by_cases q : x < 0
  · rw [if_pos q]
  · rw [if_neg q, if_pos (Int32.not_lt.mp q)]
theorem isP0 (x : Int32) : e_hA_X7_isPerson 0 x = some 0 := by
  unfold e_hA_X7_isPerson
  by_cases q : x < 0
  · rw [if_pos q]
  · rw [if_neg q, if_pos (Int32.not_lt.mp q)]
theorem isT0 : e_hA_X7_isTold 0 = some 0 := rfl
theorem aP0 (x : Int32) : e_hA_X7_arePeople 0 x = some 0 := by
  unfold e_hA_X7_arePeople
  by_cases q : x < 1
  · rw [if_pos q]
  · rw [if_neg q, if_pos (Int32.not_lt.mp q)]
theorem ite_ite_same0 {R : Type} {x : Int32} {A B : R} : (if x < 0 then A else if x < 0 then B else A) = A := by
  by_cases q : x < 0
  · rw [if_pos q]
  · rw [if_neg q, if_neg q]
theorem sz_cases (x : Int32) : ((x.toInt < 0 ∨ 10 < x.toInt) ∧ ¬ x = 10 ∧ (x < 0 ∨ 9 < x)) ∨ x = 0 ∨ x = 1 ∨ x = 2 ∨ x = 3 ∨ x = 4 ∨ x = 5 ∨ x = 6 ∨ x = 7 ∨ x = 8 ∨ x = 9 ∨ x = 10 := by
  by_cases h : x.toInt < 0 ∨ 10 < x.toInt
  · left
    refine ⟨h, fun e => ?_, ?_⟩
    · subst e; revert h; decide
    · rcases h with h | h
      · left; rw [Int32.lt_iff_toInt_lt]; exact h
      · right; rw [Int32.lt_iff_toInt_lt]
        have : (9 : Int32).toInt = 9 := rfl
        omega
  · right
    have : x.toInt = 0 ∨ x.toInt = 1 ∨ x.toInt = 2 ∨ x.toInt = 3 ∨ x.toInt = 4 ∨ x.toInt = 5 ∨ x.toInt = 6 ∨ x.toInt = 7 ∨ x.toInt = 8 ∨ x.toInt = 9 ∨ x.toInt = 10 := by omega
    rcases this with e | e | e | e | e | e | e | e | e | e | e
    · exact Or.inl (Int32.toInt.inj e)
    · exact Or.inr (Or.inl (Int32.toInt.inj e))
    · exact Or.inr (Or.inr (Or.inl (Int32.toInt.inj e)))
    · exact Or.inr (Or.inr (Or.inr (Or.inl (Int32.toInt.inj e))))
    · exact Or.inr (Or.inr (Or.inr (Or.inr (Or.inl (Int32.toInt.inj e)))))
    · exact Or.inr (Or.inr (Or.inr (Or.inr (Or.inr (Or.inl (Int32.toInt.inj e))))))
    · exact Or.inr (Or.inr (Or.inr (Or.inr (Or.inr (Or.inr (Or.inl (Int32.toInt.inj e)))))))
    · exact Or.inr (Or.inr (Or.inr (Or.inr (Or.inr (Or.inr (Or.inr (Or.inl (Int32.toInt.inj e))))))))
    · exact Or.inr (Or.inr (Or.inr (Or.inr (Or.inr (Or.inr (Or.inr (Or.inr (Or.inl (Int32.toInt.inj e)))))))))
    · exact Or.inr (Or.inr (Or.inr (Or.inr (Or.inr (Or.inr (Or.inr (Or.inr (Or.inr (Or.inl (Int32.toInt.inj e))))))))))
    · exact Or.inr (Or.inr (Or.inr (Or.inr (Or.inr (Or.inr (Or.inr (Or.inr (Or.inr (Or.inr (Int32.toInt.inj e))))))))))
section SIMN
variable {tp : Nat} {g7 g8 g9 g10 g11 g12 g13 g14 g15 g17 g18 g19 g20 g21 g23 g24 g25 g26 g27 g28 g29 g30 g31 g32 g33 g34 : Int32} {a0 a1 a2 a3 a4 a5 a6 a7 a8 a9 a10 a11 a12 a13 a14 a15 a16 a17 a18 a19 a20 a21 a22 a23 a24 a25 a26 a27 a28 a29 a30 a31 a32 a33 a34 a35 a36 a37 a38 a39 : pA} {b0 b1 b2 b3 b4 : Nat → Int64} {w0 : Int64}
variable {G0 G2 G4 G5 G6 G7 G8 G10 G11 G12 G13 G14 G15 G16 G17 G18 : Int32} {A0 A1 A2 A3 A4 A5 A6 A7 A8 A9 : pA} {W0 : Int64} {rv : Value}
theorem N_fault (I : IN tp g33 g34 G2 a13 A0 A1 A2) : ∃ (v : Int32), e_hA_X7_fault g32 = some v ∧ e_hN_X9_fault G0 g32 = some (v, 0) := ⟨_, rfl, rfl⟩
theorem N_where (I : IN tp g33 g34 G2 a13 A0 A1 A2) : ∃ (v : Int32), e_hA_X7_where g34 g33 = some v ∧ e_hN_X9_where G0 G2 = some (v, 0) := by
  refine ⟨G2, ?_, rfl⟩
  rw [I.2.2.2]
  unfold e_hA_X7_where whr
  split <;> rfl
theorem N_umbrella (I : IN tp g33 g34 G2 a13 A0 A1 A2) (x1 x2 : Int32) : ∃ (v : Int32) (c : Int32), e_hA_X7_umbrella 0 g34 a1 a2 a3 a27 a28 x1 x2 = some (v, c) ∧ e_hN_X9_umbrella G0 g34 G2 A1 x1 x2 = some (v, 0, c, (-1)) ∧ c ≠ 4 := ⟨-1, 1, by unfold e_hA_X7_umbrella; simp only [isU0, isP0, isT0, aP0]; rfl, rfl, by decide⟩
theorem N_person (I : IN tp g33 g34 G2 a13 A0 A1 A2) (x1 x2 : Int32) : ∃ (v : Int32) (c : Int32), e_hA_X7_person 0 g34 a0 0 a27 a28 a2 x1 x2 = some (v, c) ∧ e_hN_X9_person G0 g34 G2 x1 x2 = some (v, 0, c, (-1)) ∧ c ≠ 4 := ⟨-1, 1, by unfold e_hA_X7_person; simp only [isU0, isP0, isT0, aP0]; rfl, rfl, by decide⟩
theorem N_alike (I : IN tp g33 g34 G2 a13 A0 A1 A2) (x1 : Int32) : ∃ (v : Int32) (c : Int32), e_hA_X7_alike 0 g34 a1 a3 x1 = some (v, c) ∧ e_hN_X9_alike G0 g34 G2 x1 = some (v, 0, c, (-1)) ∧ c ≠ 4 := ⟨-1, 1, by unfold e_hA_X7_alike; simp only [isU0, isP0, isT0, aP0]; rfl, rfl, by decide⟩
theorem N_right (I : IN tp g33 g34 G2 a13 A0 A1 A2) : ∃ (v : Int32) (c : Int32), e_hA_X7_right 0 a28 a27 g34 = some (v, c) ∧ e_hN_X9_right G0 g34 G2 = some (v, 0, c, (-1)) ∧ c ≠ 4 := ⟨-1, 1, by unfold e_hA_X7_right; simp only [isU0, isP0, isT0, aP0]; rfl, rfl, by decide⟩
theorem N_richest (I : IN tp g33 g34 G2 a13 A0 A1 A2) : ∃ (v : Int32) (c : Int32), e_hA_X7_richest 0 0 g34 a28 a2 = some (v, c) ∧ e_hN_X9_richest G0 g34 G2 = some (v, 0, c, (-1)) ∧ c ≠ 4 := ⟨-1, 1, by unfold e_hA_X7_richest; simp only [isU0, isP0, isT0, aP0]; rfl, rfl, by decide⟩
theorem N_hasIt (I : IN tp g33 g34 G2 a13 A0 A1 A2) (x1 x2 : Int32) : ∃ (v : Int32) (g24' : Int32) (a33' : (Nat → Int32)) (a32' : (Nat → Int32)) (c : Int32) (A2' : (Nat → Int32)), e_hA_X7_hasIt 0 b2 g24 a33 a32 g34 x1 x2 = some (v, g24', a33', a32', c) ∧ e_hN_X9_hasIt G0 A2 g34 G2 x1 x2 = some (v, 0, A2', c, (-1)) ∧ c ≠ 4 ∧ cn A2' := ⟨-1, g24, a33, a32, 1, A2, by unfold e_hA_X7_hasIt; simp only [isU0, isP0, isT0, aP0]; rfl, rfl, by decide, I.2.2.1⟩
theorem N_titleOf (I : IN tp g33 g34 G2 a13 A0 A1 A2) (x1 x2 : Int32) : ∃ (v : Int32) (g24' : Int32) (a33' : (Nat → Int32)) (a32' : (Nat → Int32)) (c : Int32) (A2' : (Nat → Int32)), e_hA_X7_titleOf 0 b2 g24 a33 a32 g34 x1 x2 = some (v, g24', a33', a32', c) ∧ e_hN_X9_titleOf G0 A2 g34 G2 x1 x2 = some (v, 0, A2', c, (-1)) ∧ c ≠ 4 ∧ cn A2' := ⟨-1, g24, a33, a32, 1, A2, by unfold e_hA_X7_titleOf; simp only [isU0, isP0, isT0, aP0]; rfl, rfl, by decide, I.2.2.1⟩
theorem N_landsOf (I : IN tp g33 g34 G2 a13 A0 A1 A2) (x1 x2 : Int32) : ∃ (v : Int32) (g24' : Int32) (a33' : (Nat → Int32)) (a32' : (Nat → Int32)) (c : Int32) (A2' : (Nat → Int32)), e_hA_X7_landsOf 0 b2 g24 a33 a32 0 a2 g34 x1 x2 = some (v, g24', a33', a32', c) ∧ e_hN_X9_landsOf G0 A2 g34 G2 x1 x2 = some (v, 0, A2', c, (-1)) ∧ c ≠ 4 ∧ cn A2' := ⟨-1, g24, a33, a32, 1, A2, by unfold e_hA_X7_landsOf; simp only [isU0, isP0, isT0, aP0]; rfl, rfl, by decide, I.2.2.1⟩
theorem N_lapsed (I : IN tp g33 g34 G2 a13 A0 A1 A2) (x1 : Int32) : ∃ (v : Int32) (g24' : Int32) (a33' : (Nat → Int32)) (a32' : (Nat → Int32)) (c : Int32) (A2' : (Nat → Int32)), e_hA_X7_lapsed 0 b2 g24 a33 a32 a2 g34 x1 = some (v, g24', a33', a32', c) ∧ e_hN_X9_lapsed G0 A2 g34 G2 x1 = some (v, 0, A2', c, (-1)) ∧ c ≠ 4 ∧ cn A2' := ⟨-1, g24, a33, a32, 1, A2, by unfold e_hA_X7_lapsed; simp only [isU0, isP0, isT0, aP0]; rfl, rfl, by decide, I.2.2.1⟩
theorem N_passed (I : IN tp g33 g34 G2 a13 A0 A1 A2) (x1 : Int32) : ∃ (v : Int32) (g24' : Int32) (a33' : (Nat → Int32)) (a32' : (Nat → Int32)) (c : Int32) (A2' : (Nat → Int32)), e_hA_X7_passed 0 b2 g24 a33 a32 g34 x1 = some (v, g24', a33', a32', c) ∧ e_hN_X9_passed G0 A2 g34 G2 x1 = some (v, 0, A2', c, (-1)) ∧ c ≠ 4 ∧ cn A2' := ⟨-1, g24, a33, a32, 1, A2, by unfold e_hA_X7_passed; simp only [isU0, isP0, isT0, aP0]; rfl, rfl, by decide, I.2.2.1⟩
theorem N_judge (I : IN tp g33 g34 G2 a13 A0 A1 A2) : ∃ (v : Int32) (c : Int32) (g24' : Int32) (a33' : (Nat → Int32)) (a32' : (Nat → Int32)), e_hA_X7_judge 0 0 g34 a12 b2 g24 a33 a32 a10 a11 = some (v, c, g24', a33', a32') ∧ e_hN_X9_judge G0 g34 G2 = some (v, 0, c, (-1)) ∧ c ≠ 4 := ⟨-1, 1, g24, a33, a32, by unfold e_hA_X7_judge; simp only [isU0, isP0, isT0, aP0]; rfl, rfl, by decide⟩
theorem N_ways (I : IN tp g33 g34 G2 a13 A0 A1 A2) : ∃ (v : Int32) (g25' : Int32) (g27' : Int32) (g26' : Int32) (a31' : (Nat → Int32)) (g24' : Int32) (a33' : (Nat → Int32)) (a32' : (Nat → Int32)) (c : Int32), e_hA_X7_ways 0 g25 g27 0 g26 a31 a1 a3 b2 g24 a33 a32 0 0 a0 a2 0 a8 a5 a6 a7 a12 a10 a11 g34 = some (v, g25', g27', g26', a31', g24', a33', a32', c) ∧ e_hN_X9_ways G0 g34 G2 = some (v, 0, c, (-1)) ∧ c ≠ 4 := ⟨-1, g25, g27, g26, a31, g24, a33, a32, 1, by unfold e_hA_X7_ways; simp only [isU0, isP0, isT0, aP0]; rfl, rfl, by decide⟩
theorem N_wayAt (I : IN tp g33 g34 G2 a13 A0 A1 A2) (x1 : Int32) : ∃ (v : Int32) (c : Int32) (g25' : Int32) (g27' : Int32) (g26' : Int32) (a31' : (Nat → Int32)) (g24' : Int32) (a33' : (Nat → Int32)) (a32' : (Nat → Int32)), e_hA_X7_wayAt 0 g34 g25 g27 0 g26 a31 a1 a3 b2 g24 a33 a32 0 0 a0 a2 0 a8 a5 a6 a7 a12 a10 a11 x1 = some (v, c, g25', g27', g26', a31', g24', a33', a32') ∧ e_hN_X9_wayAt G0 g34 G2 x1 = some (v, 0, c, (-1)) ∧ c ≠ 4 := ⟨-1, 1, g25, g27, g26, a31, g24, a33, a32, by unfold e_hA_X7_wayAt; simp only [isU0, isP0, isT0, aP0]; rfl, rfl, by decide⟩
theorem N_longest (I : IN tp g33 g34 G2 a13 A0 A1 A2) (x1 : Int32) : ∃ (v : Int32) (c : Int32) (g24' : Int32) (a33' : (Nat → Int32)) (a32' : (Nat → Int32)) (A2' : (Nat → Int32)), e_hA_X7_longest 0 g34 b2 g24 a33 a32 x1 = some (v, c, g24', a33', a32') ∧ e_hN_X9_longest G0 A2 g34 G2 x1 = some (v, 0, A2', c, (-1)) ∧ c ≠ 4 ∧ cn A2' := ⟨-1, 1, g24, a33, a32, A2, by unfold e_hA_X7_longest; simp only [isU0, isP0, isT0, aP0]; rfl, rfl, by decide, I.2.2.1⟩
theorem N_worstDay (I : IN tp g33 g34 G2 a13 A0 A1 A2) : ∃ (v : Int32) (c : Int32) (g24' : Int32) (a33' : (Nat → Int32)) (a32' : (Nat → Int32)), e_hA_X7_worstDay 0 g34 b2 g24 a33 a32 a2 = some (v, c, g24', a33', a32') ∧ e_hN_X9_worstDay G0 g34 G2 = some (v, 0, c, (-1)) ∧ c ≠ 4 := ⟨-1, 1, g24, a33, a32, by unfold e_hA_X7_worstDay; simp only [isU0, isP0, isT0, aP0]; rfl, rfl, by decide⟩
theorem N_owing (I : IN tp g33 g34 G2 a13 A0 A1 A2) (x1 x2 : Int32) : ∃ (v : Int32) (c : Int32), e_hA_X7_owing 0 g34 0 a28 a27 x1 x2 = some (v, c) ∧ e_hN_X9_owing G0 g34 G2 x1 x2 = some (v, 0, c, (-1)) ∧ c ≠ 4 := ⟨-1, 1, by unfold e_hA_X7_owing; simp only [isU0, isP0, isT0, aP0]; rfl, rfl, by decide⟩
theorem N_change (I : IN tp g33 g34 G2 a13 A0 A1 A2) (x1 x2 : Int32) : ∃ (v : Int32) (g23' : Int32) (a29' : (Nat → Int32)) (a30' : (Nat → Int32)) (c : Int32) (A2' : (Nat → Int32)), e_hA_X7_change 0 0 g23 a27 a29 a28 a30 0 a0 a2 0 a1 g34 x1 x2 = some (v, g23', a29', a30', c) ∧ e_hN_X9_change G0 A1 A2 g34 G2 x1 x2 = some (v, 0, A2', c, (-1)) ∧ c ≠ 4 ∧ cn A2' := ⟨-1000, g23, a29, a30, 1, A2, by unfold e_hA_X7_change; simp only [isU0, isP0, isT0, aP0]; rfl, rfl, by decide, I.2.2.1⟩
theorem N_lapsesIn (I : IN tp g33 g34 G2 a13 A0 A1 A2) (x1 : Int32) : ∃ (v : Int32) (g23' : Int32) (a29' : (Nat → Int32)) (a30' : (Nat → Int32)) (c : Int32) (A2' : (Nat → Int32)), e_hA_X7_lapsesIn 0 0 g23 a27 a29 a28 a30 g34 0 a0 a2 0 a1 x1 = some (v, g23', a29', a30', c) ∧ e_hN_X9_lapsesIn G0 A1 A2 g34 G2 x1 = some (v, 0, A2', c, (-1)) ∧ c ≠ 4 ∧ cn A2' := ⟨-1, g23, a29, a30, 1, A2, by unfold e_hA_X7_lapsesIn; simp only [isU0, isP0, isT0, aP0]; rfl, rfl, by decide, I.2.2.1⟩
theorem N_guest (I : IN tp g33 g34 G2 a13 A0 A1 A2) (x1 : Int32) : ∃ (v : Int32) (c : Int32) (g28' : Int32) (g29' : Int32) (a34' : (Nat → Int32)) (a37' : (Nat → Int32)) (a36' : (Nat → Int32)) (a35' : (Nat → Int32)), e_hA_X7_guest 0 g34 g28 g29 0 a27 a34 a3 a37 a28 a2 a35 a36 x1 = some (v, c, g28', g29', a34', a37', a36', a35') ∧ e_hN_X9_guest G0 g34 G2 x1 = some (v, 0, c, (-1)) ∧ c ≠ 4 := ⟨-1, 1, g28, g29, a34, a37, a36, a35, by unfold e_hA_X7_guest; simp only [isU0, isP0, isT0, aP0]; rfl, rfl, by decide⟩
theorem N_putRight (I : IN tp g33 g34 G2 a13 A0 A1 A2) : ∃ (v : Int32) (g23' : Int32) (a29' : (Nat → Int32)) (a30' : (Nat → Int32)) (g30' : Int32) (g31' : Int32) (a39' : (Nat → Int32)) (a38' : (Nat → Int32)) (c : Int32), e_hA_X7_putRight 0 0 g23 a27 a29 a28 a30 g30 g31 a38 a39 g34 = some (v, g23', a29', a30', g30', g31', a39', a38', c) ∧ e_hN_X9_putRight G0 g34 G2 = some (v, 0, c, (-1)) ∧ c ≠ 4 := ⟨-1, g23, a29, a30, g30, g31, a39, a38, 1, by unfold e_hA_X7_putRight; simp only [isU0, isP0, isT0, aP0]; rfl, rfl, by decide⟩
theorem N_exchanges (I : IN tp g33 g34 G2 a13 A0 A1 A2) : ∃ (v : Int32) (g23' : Int32) (a29' : (Nat → Int32)) (a30' : (Nat → Int32)) (g30' : Int32) (g31' : Int32) (a39' : (Nat → Int32)) (a38' : (Nat → Int32)) (c : Int32), e_hA_X7_exchanges 0 0 g23 a27 a29 a28 a30 g30 g31 a38 a39 g34 = some (v, g23', a29', a30', g30', g31', a39', a38', c) ∧ e_hN_X9_exchanges G0 g34 G2 = some (v, 0, c, (-1)) ∧ c ≠ 4 := ⟨-1, g23, a29, a30, g30, g31, a39, a38, 1, by unfold e_hA_X7_exchanges; simp only [isU0, isP0, isT0, aP0]; rfl, rfl, by decide⟩
theorem N_exchangeAt (I : IN tp g33 g34 G2 a13 A0 A1 A2) (x1 : Int32) : ∃ (v : Int32) (c : Int32) (g23' : Int32) (a29' : (Nat → Int32)) (a30' : (Nat → Int32)) (g30' : Int32) (g31' : Int32) (a39' : (Nat → Int32)) (a38' : (Nat → Int32)), e_hA_X7_exchangeAt 0 g34 0 g23 a27 a29 a28 a30 g30 g31 a38 a39 x1 = some (v, c, g23', a29', a30', g30', g31', a39', a38') ∧ e_hN_X9_exchangeAt G0 g34 G2 x1 = some (v, 0, c, (-1)) ∧ c ≠ 4 := ⟨-1, 1, g23, a29, a30, g30, g31, a39, a38, by unfold e_hA_X7_exchangeAt; simp only [isU0, isP0, isT0, aP0]; rfl, rfl, by decide⟩
theorem N_party (I : IN tp g33 g34 G2 a13 A0 A1 A2) (x1 : Int32) : ∃ (v : Int32) (g28' : Int32) (g29' : Int32) (a34' : (Nat → Int32)) (a37' : (Nat → Int32)) (a36' : (Nat → Int32)) (a35' : (Nat → Int32)) (c : Int32) (G16' : Int32) (A8' : (Nat → Int32)) (A7' : (Nat → Int32)), e_hA_X7_party 0 g28 g29 0 a27 a34 a3 a37 a28 a2 a35 a36 g34 x1 = some (v, g28', g29', a34', a37', a36', a35', c) ∧ e_hN_X9_party G0 G16 A7 A8 g34 G2 x1 = some (v, 0, G16', A8', A7', c, (-1)) ∧ c ≠ 4 := ⟨-1, g28, g29, a34, a37, a36, a35, 1, G16, A8, A7, by unfold e_hA_X7_party; simp only [isU0, isP0, isT0, aP0]; rfl, rfl, by decide⟩
theorem N_partyOf (I : IN tp g33 g34 G2 a13 A0 A1 A2) (x1 x2 : Int32) : ∃ (v : Int32) (c : Int32) (g28' : Int32) (g29' : Int32) (a34' : (Nat → Int32)) (a37' : (Nat → Int32)) (a36' : (Nat → Int32)) (a35' : (Nat → Int32)) (G16' : Int32) (A8' : (Nat → Int32)) (A7' : (Nat → Int32)), e_hA_X7_partyOf 0 g34 g28 g29 0 a27 a34 a3 a37 a28 a2 a35 a36 x1 x2 = some (v, c, g28', g29', a34', a37', a36', a35') ∧ e_hN_X9_partyOf G0 g34 G2 G16 A7 A8 x1 x2 = some (v, 0, c, (-1), G16', A8', A7') ∧ c ≠ 4 := ⟨-1, 1, g28, g29, a34, a37, a36, a35, G16, A8, A7, by unfold e_hA_X7_partyOf; simp only [isU0, isP0, isT0, aP0]; rfl, rfl, by decide⟩
theorem N_room (I : IN tp g33 g34 G2 a13 A0 A1 A2) (x1 : Int32) : ∃ (v : Int32) (a34' : (Nat → Int32)) (c : Int32), e_hA_X7_room 0 0 a27 a34 a3 g34 x1 = some (v, a34', c) ∧ e_hN_X9_room G0 g34 G2 x1 = some (v, 0, c, (-1)) ∧ c ≠ 4 := ⟨-1, a34, 1, by unfold e_hA_X7_room; simp only [isU0, isP0, isT0, aP0]; rfl, rfl, by decide⟩
theorem N_whole (I : IN tp g33 g34 G2 a13 A0 A1 A2) (x1 x2 x3 : Int32) : ∃ (v : Int64) (c : Int32), e_hA_X7_whole 0 g34 a1 0 x1 x2 x3 = some (v, c) ∧ e_hN_X9_whole G0 g34 G2 x1 x2 x3 = some (v, 0, c, (-1)) ∧ c ≠ 4 := ⟨-1, 1, by unfold e_hA_X7_whole; simp only [isU0, isP0, isT0, aP0]; rfl, rfl, by decide⟩
theorem N_allWhole (I : IN tp g33 g34 G2 a13 A0 A1 A2) (x1 x2 x3 : Int32) : ∃ (v : Int64) (c : Int32), e_hA_X7_allWhole 0 g34 0 a27 a1 0 x1 x2 x3 = some (v, c) ∧ e_hN_X9_allWhole G0 g34 G2 x1 x2 x3 = some (v, 0, c, (-1)) ∧ c ≠ 4 := ⟨-1, 1, by unfold e_hA_X7_allWhole; simp only [isU0, isP0, isT0, aP0]; rfl, rfl, by decide⟩
theorem N_divided (I : IN tp g33 g34 G2 a13 A0 A1 A2) (x1 x2 x3 : Int32) : ∃ (v : Int32) (c : Int32), e_hA_X7_divided 0 g34 a2 x1 x2 x3 = some (v, c) ∧ e_hN_X9_divided G0 g34 G2 x1 x2 x3 = some (v, 0, c, (-1)) ∧ c ≠ 4 := ⟨-1, 1, by unfold e_hA_X7_divided; simp only [isU0, isP0, isT0, aP0]; rfl, rfl, by decide⟩
theorem N_heirs (I : IN tp g33 g34 G2 a13 A0 A1 A2) (x1 x2 x3 x4 : Int32) : ∃ (v : Int32) (c : Int32), e_hA_X7_heirs 0 g34 x1 x2 x3 x4 = some (v, c) ∧ e_hN_X9_heirs G0 g34 G2 x1 x2 x3 x4 = some (v, 0, c, (-1)) ∧ c ≠ 4 := ⟨-100, 1, by unfold e_hA_X7_heirs; simp only [isU0, isP0, isT0, aP0]; rfl, rfl, by decide⟩
theorem N_rests (I : IN tp g33 g34 G2 a13 A0 A1 A2) (x1 : Int32) : ∃ (v : Int32) (c : Int32), e_hA_X7_rests 0 g34 x1 = some (v, c) ∧ e_hN_X9_rests G0 g34 G2 x1 = some (v, 0, c, (-1)) ∧ c ≠ 4 := ⟨-1, 1, by unfold e_hA_X7_rests; simp only [isU0, isP0, isT0, aP0]; rfl, rfl, by decide⟩
theorem N_rest (I : IN tp g33 g34 G2 a13 A0 A1 A2) (x1 : Int32) : ∃ (v : Int32) (c : Int32), e_hA_X7_rest 0 g34 x1 = some (v, c) ∧ e_hN_X9_rest G0 g34 G2 x1 = some (v, 0, c, (-1)) ∧ c ≠ 4 := ⟨-1, 1, by unfold e_hA_X7_rest; simp only [isU0, isP0, isT0, aP0]; rfl, rfl, by decide⟩
theorem N_most (I : IN tp g33 g34 G2 a13 A0 A1 A2) (x1 : Int32) : ∃ (v : Int32) (c : Int32) (g23' : Int32) (a29' : (Nat → Int32)) (a30' : (Nat → Int32)), e_hA_X7_most 0 0 g34 0 g23 a27 a29 a28 a30 a0 a2 0 a1 x1 = some (v, c, g23', a29', a30') ∧ e_hN_X9_most G0 g34 G2 x1 = some (v, 0, c, (-1)) ∧ c ≠ 4 := ⟨-1, 1, g23, a29, a30, by unfold e_hA_X7_most; simp only [isU0, isP0, isT0, aP0]; rfl, rfl, by decide⟩
theorem N_mostLands (I : IN tp g33 g34 G2 a13 A0 A1 A2) (x1 : Int32) : ∃ (v : Int32) (c : Int32) (g23' : Int32) (a29' : (Nat → Int32)) (a30' : (Nat → Int32)), e_hA_X7_mostLands 0 0 g34 0 g23 a27 a29 a28 a30 a0 a2 0 a1 x1 = some (v, c, g23', a29', a30') ∧ e_hN_X9_mostLands G0 G17 g34 G2 x1 = some (v, 0, c, (-1)) ∧ c ≠ 4 := ⟨-1, 1, g23, a29, a30, by unfold e_hA_X7_mostLands; simp only [isU0, isP0, isT0, aP0]; rfl, rfl, by decide⟩
theorem N_century (I : IN tp g33 g34 G2 a13 A0 A1 A2) (x1 x2 x3 : Int32) : ∃ (v : Int32) (c : Int32) (g23' : Int32) (a29' : (Nat → Int32)) (a30' : (Nat → Int32)) (G18' : Int32) (A2' : (Nat → Int32)), e_hA_X7_century 0 g34 0 g23 a27 a29 a28 a30 0 0 a0 a2 0 a1 x1 x2 x3 = some (v, c, g23', a29', a30') ∧ e_hN_X9_century G0 G18 A1 A2 g34 G2 x1 x2 x3 = some (v, 0, G18', A2', c, (-1)) ∧ c ≠ 4 ∧ cn A2' := ⟨-1, 1, g23, a29, a30, G18, A2, by unfold e_hA_X7_century; simp only [isU0, isP0, isT0, aP0]; rfl, rfl, by decide, I.2.2.1⟩
theorem N_untitled (I : IN tp g33 g34 G2 a13 A0 A1 A2) (x1 x2 : Int32) : ∃ (v : Int32) (c : Int32) (g23' : Int32) (a29' : (Nat → Int32)) (a30' : (Nat → Int32)) (G18' : Int32) (A2' : (Nat → Int32)), e_hA_X7_untitled 0 g34 0 g23 a27 a29 a28 a30 0 0 a0 a2 0 a1 x1 x2 = some (v, c, g23', a29', a30') ∧ e_hN_X9_untitled G0 G18 A1 A2 g34 G2 x1 x2 = some (v, 0, G18', A2', c, (-1)) ∧ c ≠ 4 ∧ cn A2' := ⟨-1, 1, g23, a29, a30, G18, A2, by unfold e_hA_X7_untitled; simp only [isU0, isP0, isT0, aP0]; rfl, rfl, by decide, I.2.2.1⟩
theorem N_lend (I : IN tp g33 g34 G2 a13 A0 A1 A2) (x1 x2 : Int32) : ∃ (v : Int32) (c : Int32) (b3' : (Nat → Int64)) (a27' : (Nat → Int32)) (G11' : Int32) (A3' : (Nat → Int32)) (A1' : (Nat → Int32)), e_hA_X7_lend 0 g34 0 a27 0 0 a28 b3 x1 x2 = some (v, c, b3', 0, a27') ∧ e_hN_X9_lend G0 g34 G2 A1 G11 A3 x1 x2 = some (v, 0, c, (-1), G11', A3', A1') ∧ IN tp g33 c (-1) a13 A0 A1' A2 := ⟨0, 1, b3, a27, G11, A3, A1, by unfold e_hA_X7_lend; simp only [isU0, isP0, isT0, aP0]; rfl, rfl, I.1, I.2.1, I.2.2.1, whr_ne (by decide)⟩
theorem N_leave (I : IN tp g33 g34 G2 a13 A0 A1 A2) (x1 : Int32) : ∃ (v : Int32) (b3' : (Nat → Int64)) (a27' : (Nat → Int32)) (c : Int32) (G11' : Int32) (A3' : (Nat → Int32)) (A1' : (Nat → Int32)), e_hA_X7_leave 0 a27 0 0 a28 b3 g34 x1 = some (v, b3', 0, a27', c) ∧ e_hN_X9_leave G0 A1 G11 A3 g34 G2 x1 = some (v, 0, G11', A3', A1', c, (-1)) ∧ IN tp g33 c (-1) a13 A0 A1' A2 := ⟨0, b3, a27, 1, G11, A3, A1, by unfold e_hA_X7_leave; simp only [isU0, isP0, isT0, aP0]; rfl, rfl, I.1, I.2.1, I.2.2.1, whr_ne (by decide)⟩
theorem N_exchange (I : IN tp g33 g34 G2 a13 A0 A1 A2) (x1 x2 : Int32) : ∃ (v : Int32) (c : Int32) (b3' : (Nat → Int64)) (a27' : (Nat → Int32)) (G11' : Int32) (A3' : (Nat → Int32)) (A1' : (Nat → Int32)), e_hA_X7_exchange 0 g34 a27 0 0 a28 b3 x1 x2 = some (v, c, b3', 0, a27') ∧ e_hN_X9_exchange G0 g34 G2 A1 G11 A3 x1 x2 = some (v, 0, c, (-1), G11', A3', A1') ∧ IN tp g33 c (-1) a13 A0 A1' A2 := ⟨0, 1, b3, a27, G11, A3, A1, by unfold e_hA_X7_exchange; simp only [isU0, isP0, isT0, aP0]; rfl, rfl, I.1, I.2.1, I.2.2.1, whr_ne (by decide)⟩
theorem N_day (I : IN tp g33 g34 G2 a13 A0 A1 A2) (x1 : Int32) : ∃ (v : Int32) (b3' : (Nat → Int64)) (g23' : Int32) (a29' : (Nat → Int32)) (a30' : (Nat → Int32)) (a27' : (Nat → Int32)) (a28' : (Nat → Int32)) (c : Int32), e_hA_X7_day 0 0 0 a27 a28 b3 g23 a29 a30 0 a0 a2 0 a1 g34 x1 = some (v, b3', 0, g23', a29', a30', 0, a27', a28', c) ∧ e_hN_X9_day G0 g34 G2 x1 = some (v, 0, c, (-1)) ∧ c ≠ 4 := ⟨-1, b3, g23, a29, a30, a27, a28, 1, by unfold e_hA_X7_day; simp only [isU0, isP0, isT0, aP0]; rfl, rfl, by decide⟩
theorem N_undo (I : IN tp g33 g34 G2 a13 A0 A1 A2) : ∃ (v : Int32) (a28' : (Nat → Int32)) (a27' : (Nat → Int32)) (c : Int32), e_hA_X7_undo 0 b3 0 a28 a27 g34 = some (v, 0, 0, a28', a27', c) ∧ e_hN_X9_undo G0 g34 G2 = some (v, 0, c, (-1)) ∧ c ≠ 4 := ⟨0, a28, a27, 6, rfl, rfl, by decide⟩
theorem N_mark (I : IN tp g33 g34 G2 a13 A0 A1 A2) : ∃ (v : Int32) (b4' : (Nat → Int64)) (c : Int32), e_hA_X7_mark 0 0 0 a27 a28 b4 g34 = some (v, b4', 0, c) ∧ e_hN_X9_mark G0 g34 G2 = some (v, 0, c, (-1)) ∧ c ≠ 4 := ⟨-1, b4, 1, by unfold e_hA_X7_mark; simp only [isU0, isP0, isT0, aP0]; rfl, rfl, by decide⟩
theorem N_back (I : IN tp g33 g34 G2 a13 A0 A1 A2) (x1 : Int32) : ∃ (v : Int32) (c : Int32) (a28' : (Nat → Int32)) (a27' : (Nat → Int32)), e_hA_X7_back g34 0 b4 0 a28 a27 0 x1 = some (v, c, 0, a28', a27', 0) ∧ e_hN_X9_back G0 g34 G2 x1 = some (v, 0, c, (-1)) ∧ c ≠ 4 := ⟨0, 1, a28, a27, by unfold e_hA_X7_back; rw [ite_ite_same0]; rfl, rfl, by decide⟩
theorem N_size (I : IN tp g33 g34 G2 a13 A0 A1 A2) (x1 : Int32) : ∃ (v : Int32), e_hA_X7_size 0 0 0 0 0 0 0 0 0 0 (nn tp) x1 = some v ∧ e_hN_X9_size G0 (nn tp) x1 = some (v, 0) := by
  rcases sz_cases x1 with ⟨a, b, c⟩ | rfl | rfl | rfl | rfl | rfl | rfl | rfl | rfl | rfl | rfl | rfl
  · refine ⟨-1, if_pos a, ?_⟩
    unfold e_hN_X9_size e_hN_X9_in
    rw [if_neg b]
    rcases c with c | c
    · rw [if_pos c]; rfl
    · by_cases c2 : x1 < 0
      · rw [if_pos c2]; rfl
      · rw [if_neg c2, if_pos c]; rfl
  · exact ⟨_, rfl, rfl⟩
  · exact ⟨_, rfl, rfl⟩
  · exact ⟨_, rfl, rfl⟩
  · exact ⟨_, rfl, rfl⟩
  · exact ⟨_, rfl, rfl⟩
  · exact ⟨_, rfl, rfl⟩
  · exact ⟨_, rfl, rfl⟩
  · exact ⟨_, rfl, rfl⟩
  · exact ⟨_, rfl, rfl⟩
  · exact ⟨_, rfl, rfl⟩
  · exact ⟨_, rfl, rfl⟩
theorem N_trouble (I : IN tp g33 g34 G2 a13 A0 A1 A2) : ∃ (v : Int32), e_hA_X7_trouble g34 = some v ∧ e_hN_X9_trouble G0 g34 = some (v, 0) := ⟨_, rfl, rfl⟩
end SIMN
