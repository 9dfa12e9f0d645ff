/-! THE PURE PART: the head of a line; the two counties that are read -/
theorem q_heads {tok srt num : Int32} {val wrd : Int64} (R : TokR tok val srt wrd num) : (e_hA_X5_indexAmong tok val (xsy 1) = some (-1) ∧ e_hP_X9_isWord srt wrd (xsy 11) = some 0 ∧ e_hP_X9_isWord srt wrd (xsy 12) = some 0 ∧ e_hP_X9_isWord srt wrd (xsy 13) = some 0 ∧ e_hP_X9_isWord srt wrd (xsy 14) = some 0 ∧ e_hP_X9_isWord srt wrd (xsy 15) = some 0 ∧ e_hP_X9_isWord srt wrd (xsy 16) = some 0 ∧ e_hP_X9_isWord srt wrd (xsy 17) = some 0 ∧ e_hP_X9_isWord srt wrd (xsy 18) = some 0) ∨ (e_hA_X5_indexAmong tok val (xsy 1) = some 0 ∧ e_hP_X9_isWord srt wrd (xsy 11) = some 1) ∨ (e_hA_X5_indexAmong tok val (xsy 1) = some 1 ∧ e_hP_X9_isWord srt wrd (xsy 11) = some 0 ∧ e_hP_X9_isWord srt wrd (xsy 12) = some 1) ∨ (e_hA_X5_indexAmong tok val (xsy 1) = some 2 ∧ e_hP_X9_isWord srt wrd (xsy 11) = some 0 ∧ e_hP_X9_isWord srt wrd (xsy 12) = some 0 ∧ e_hP_X9_isWord srt wrd (xsy 13) = some 1) ∨ (e_hA_X5_indexAmong tok val (xsy 1) = some 3 ∧ e_hP_X9_isWord srt wrd (xsy 11) = some 0 ∧ e_hP_X9_isWord srt wrd (xsy 12) = some 0 ∧ e_hP_X9_isWord srt wrd (xsy 13) = some 0 ∧ e_hP_X9_isWord srt wrd (xsy 14) = some 1) ∨ (e_hA_X5_indexAmong tok val (xsy 1) = some 4 ∧ e_hP_X9_isWord srt wrd (xsy 11) = some 0 ∧ e_hP_X9_isWord srt wrd (xsy 12) = some 0 ∧ e_hP_X9_isWord srt wrd (xsy 13) = some 0 ∧ e_hP_X9_isWord srt wrd (xsy 14) = some 0 ∧ e_hP_X9_isWord srt wrd (xsy 15) = some 1) ∨ (e_hA_X5_indexAmong tok val (xsy 1) = some 5 ∧ e_hP_X9_isWord srt wrd (xsy 11) = some 0 ∧ e_hP_X9_isWord srt wrd (xsy 12) = some 0 ∧ e_hP_X9_isWord srt wrd (xsy 13) = some 0 ∧ e_hP_X9_isWord srt wrd (xsy 14) = some 0 ∧ e_hP_X9_isWord srt wrd (xsy 15) = some 0 ∧ e_hP_X9_isWord srt wrd (xsy 16) = some 1) ∨ (e_hA_X5_indexAmong tok val (xsy 1) = some 6 ∧ e_hP_X9_isWord srt wrd (xsy 11) = some 0 ∧ e_hP_X9_isWord srt wrd (xsy 12) = some 0 ∧ e_hP_X9_isWord srt wrd (xsy 13) = some 0 ∧ e_hP_X9_isWord srt wrd (xsy 14) = some 0 ∧ e_hP_X9_isWord srt wrd (xsy 15) = some 0 ∧ e_hP_X9_isWord srt wrd (xsy 16) = some 0 ∧ e_hP_X9_isWord srt wrd (xsy 17) = some 1) ∨ (e_hA_X5_indexAmong tok val (xsy 1) = some 7 ∧ e_hP_X9_isWord srt wrd (xsy 11) = some 0 ∧ e_hP_X9_isWord srt wrd (xsy 12) = some 0 ∧ e_hP_X9_isWord srt wrd (xsy 13) = some 0 ∧ e_hP_X9_isWord srt wrd (xsy 14) = some 0 ∧ e_hP_X9_isWord srt wrd (xsy 15) = some 0 ∧ e_hP_X9_isWord srt wrd (xsy 16) = some 0 ∧ e_hP_X9_isWord srt wrd (xsy 17) = some 0 ∧ e_hP_X9_isWord srt wrd (xsy 18) = some 1) := by
  have no : ¬ tok = 1 → ¬ srt = 2 → (e_hA_X5_indexAmong tok val (xsy 1) = some (-1) ∧ e_hP_X9_isWord srt wrd (xsy 11) = some 0 ∧ e_hP_X9_isWord srt wrd (xsy 12) = some 0 ∧ e_hP_X9_isWord srt wrd (xsy 13) = some 0 ∧ e_hP_X9_isWord srt wrd (xsy 14) = some 0 ∧ e_hP_X9_isWord srt wrd (xsy 15) = some 0 ∧ e_hP_X9_isWord srt wrd (xsy 16) = some 0 ∧ e_hP_X9_isWord srt wrd (xsy 17) = some 0 ∧ e_hP_X9_isWord srt wrd (xsy 18) = some 0) := fun h1 h2 => ⟨qc_amongN h1, qr_isWordN h2, qr_isWordN h2, qr_isWordN h2, qr_isWordN h2, qr_isWordN h2, qr_isWordN h2, qr_isWordN h2, qr_isWordN h2⟩
  rcases R with ⟨e1, e2⟩ | ⟨e1, e2, r, hr, e3, e4⟩ | ⟨e1, e2, _⟩ | ⟨e1, e2⟩ | ⟨e1, e2⟩
  · exact Or.inl (no (by rw [e1]; decide) (by rw [e2]; decide))
  · subst e1 e2 e3 e4
    have g := am_1 hr
    simp only [lookr] at g
    have i0 := iw_11 hr
    have i1 := iw_12 hr
    have i2 := iw_13 hr
    have i3 := iw_14 hr
    have i4 := iw_15 hr
    have i5 := iw_16 hr
    have i6 := iw_17 hr
    have i7 := iw_18 hr
    by_cases q0 : r = [25, 20, 14, 21, 15, 3]
    · rw [if_pos q0] at g
      rw [if_pos q0] at i0
      exact Or.inr (Or.inl ⟨g, i0⟩)
    ·
      by_cases q1 : r = [14, 15, 19, 18, 5, 16]
      · rw [if_neg q0, if_pos q1] at g
        rw [if_neg q0] at i0
        rw [if_pos q1] at i1
        exact Or.inr (Or.inr (Or.inl ⟨g, i0, i1⟩))
      ·
        by_cases q2 : r = [1, 12, 12, 5, 18, 2, 13, 21]
        · rw [if_neg q0, if_neg q1, if_pos q2] at g
          rw [if_neg q0] at i0
          rw [if_neg q1] at i1
          rw [if_pos q2] at i2
          exact Or.inr (Or.inr (Or.inr (Or.inl ⟨g, i0, i1, i2⟩)))
        ·
          by_cases q3 : r = [20, 14, 5, 12]
          · rw [if_neg q0, if_neg q1, if_neg q2, if_pos q3] at g
            rw [if_neg q0] at i0
            rw [if_neg q1] at i1
            rw [if_neg q2] at i2
            rw [if_pos q3] at i3
            exact Or.inr (Or.inr (Or.inr (Or.inr (Or.inl ⟨g, i0, i1, i2, i3⟩))))
          ·
            by_cases q4 : r = [20, 6, 5, 12]
            · rw [if_neg q0, if_neg q1, if_neg q2, if_neg q3, if_pos q4] at g
              rw [if_neg q0] at i0
              rw [if_neg q1] at i1
              rw [if_neg q2] at i2
              rw [if_neg q3] at i3
              rw [if_pos q4] at i4
              exact Or.inr (Or.inr (Or.inr (Or.inr (Or.inr (Or.inl ⟨g, i0, i1, i2, i3, i4⟩)))))
            ·
              by_cases q5 : r = [4, 5, 7, 14, 1, 8, 3]
              · rw [if_neg q0, if_neg q1, if_neg q2, if_neg q3, if_neg q4, if_pos q5] at g
                rw [if_neg q0] at i0
                rw [if_neg q1] at i1
                rw [if_neg q2] at i2
                rw [if_neg q3] at i3
                rw [if_neg q4] at i4
                rw [if_pos q5] at i5
                exact Or.inr (Or.inr (Or.inr (Or.inr (Or.inr (Or.inr (Or.inl ⟨g, i0, i1, i2, i3, i4, i5⟩))))))
              ·
                by_cases q6 : r = [14, 9, 1, 18]
                · rw [if_neg q0, if_neg q1, if_neg q2, if_neg q3, if_neg q4, if_neg q5, if_pos q6] at g
                  rw [if_neg q0] at i0
                  rw [if_neg q1] at i1
                  rw [if_neg q2] at i2
                  rw [if_neg q3] at i3
                  rw [if_neg q4] at i4
                  rw [if_neg q5] at i5
                  rw [if_pos q6] at i6
                  exact Or.inr (Or.inr (Or.inr (Or.inr (Or.inr (Or.inr (Or.inr (Or.inl ⟨g, i0, i1, i2, i3, i4, i5, i6⟩)))))))
                ·
                  by_cases q7 : r = [19, 13, 9, 1, 12, 3]
                  · rw [if_neg q0, if_neg q1, if_neg q2, if_neg q3, if_neg q4, if_neg q5, if_neg q6, if_pos q7] at g
                    rw [if_neg q0] at i0
                    rw [if_neg q1] at i1
                    rw [if_neg q2] at i2
                    rw [if_neg q3] at i3
                    rw [if_neg q4] at i4
                    rw [if_neg q5] at i5
                    rw [if_neg q6] at i6
                    rw [if_pos q7] at i7
                    exact Or.inr (Or.inr (Or.inr (Or.inr (Or.inr (Or.inr (Or.inr (Or.inr (⟨g, i0, i1, i2, i3, i4, i5, i6, i7⟩))))))))
                  ·
                    rw [if_neg q0, if_neg q1, if_neg q2, if_neg q3, if_neg q4, if_neg q5, if_neg q6, if_neg q7] at g
                    rw [if_neg q0] at i0
                    rw [if_neg q1] at i1
                    rw [if_neg q2] at i2
                    rw [if_neg q3] at i3
                    rw [if_neg q4] at i4
                    rw [if_neg q5] at i5
                    rw [if_neg q6] at i6
                    rw [if_neg q7] at i7
                    exact Or.inl ⟨g, i0, i1, i2, i3, i4, i5, i6, i7⟩
  · exact Or.inl (no (by rw [e1]; decide) (by rw [e2]; decide))
  · exact Or.inl (no (by rw [e1]; decide) (by rw [e2]; decide))
  · exact Or.inl (no (by rw [e1]; decide) (by rw [e2]; decide))
/-- the rows of both counties -/
def CtL (np nu nl nc : Nat) (a0 a1 a2 a3 a4 a5 a6 a7 a8 a10 a11 a12 A10 A11 A12 A13 A14 A15 A16 A17 A18 A19 A20 A21 : pA) : Prop :=
  (∀ p, p < np → a0 p = A10 p) ∧ (∀ u, u < nu → a1 u = A11 u) ∧ (∀ u, u < nu → a2 u = A12 u) ∧ (∀ u, u < nu → a3 u = A13 u) ∧ (∀ u, u < nu → a4 u = A14 u) ∧
  (∀ u, u < nu → ∃ k, k ≤ 99 ∧ a2 u = nn k) ∧ (∀ u, u < nu → ∃ k, 4 ≤ k ∧ k ≤ 12 ∧ a3 u = nn k) ∧ (∀ u, u < nu → wv np (a4 u)) ∧
  lgEq nl a5 a6 a7 a8 A15 A16 A17 A18 ∧ (∀ k, k < nl → lgOk nu np a5 a6 a7 k) ∧
  (∀ k, k < nc → a10 k = A20 k ∧ a11 k = A19 k ∧ a12 k = A21 k ∧ (∃ u, u < nu ∧ a10 k = nn u) ∧ ∃ d, d < 41 ∧ a12 k = nn d)
def RC (np nu nl nc : Nat) (td la gu ra L G Rn : Int32) (S K1 K2 K3 K4 WA OA XA DA cO cX cD SR H1 H2 H3 H4 WB OB XB DB cA cB cC : pA) : Prop :=
  (np ≤ 6 ∧ nu ≤ 5 ∧ nl ≤ 16 ∧ nc ≤ 6) ∧
  ((td = 0 ∧ L = 0 ∧ np = 0 ∧ nu = 0 ∧ nl = 0 ∧ nc = 0) ∨ (td = 1 ∧ L = la ∧ G = gu ∧ Rn = ra ∧ (∃ k, 1 ≤ k ∧ k ≤ 30 ∧ la = nn k) ∧ (∃ k, k ≤ 99 ∧ gu = nn k) ∧ ∃ k, k ≤ 99 ∧ ra = nn k)) ∧
  (∃ lo, lo ≤ 40 ∧ ((nl = 0 ∧ lo = 0) ∨ (0 < nl ∧ DA (nl - 1) = nn lo ∧ DB (nl - 1) = nn lo))) ∧
  CtL np nu nl nc S K1 K2 K3 K4 WA OA XA DA cO cX cD SR H1 H2 H3 H4 WB OB XB DB cA cB cC
theorem ag_upd {n : Nat} {a b : pA} (h : ∀ p, p < n → a p = b p) (v : Int32) : ∀ p, p < n + 1 → upd a n v p = upd b n v p := by
  intro p hp
  by_cases q : p = n
  · subst q; rw [upd_at, upd_at]
  · rw [upd_ne _ _ q, upd_ne _ _ q]; exact h p (by omega)
theorem ex_upd {n : Nat} {a : pA} {P : Int32 → Prop} (h : ∀ u, u < n → P (a u)) {v : Int32} (hv : P v) : ∀ u, u < n + 1 → P (upd a n v u) := by
  intro p hp
  by_cases q : p = n
  · subst q; rw [upd_at]; exact hv
  · rw [upd_ne _ _ q]; exact h p (by omega)
theorem wv_mono {a b : Nat} (h : a ≤ b) {v : Int32} (w : wv a v) : wv b v := by
  rcases w with e | ⟨p, h1, h2⟩
  · exact Or.inl e
  · exact Or.inr ⟨p, by omega, h2⟩
theorem lgOk_mono {nu np nu' np' k : Nat} (h1 : nu ≤ nu') (h2 : np ≤ np') {w o x : pA} (h : lgOk nu np w o x k) : lgOk nu' np' w o x k := by
  rcases h with ⟨a, ⟨u, hu, b⟩, p, hp, c⟩ | ⟨a, u, hu, b⟩ | ⟨a, ⟨u, hu, b⟩, v, hv, c⟩ | a
  · exact Or.inl ⟨a, ⟨u, by omega, b⟩, p, by omega, c⟩
  · exact Or.inr (Or.inl ⟨a, u, by omega, b⟩)
  · exact Or.inr (Or.inr (Or.inl ⟨a, ⟨u, by omega, b⟩, v, by omega, c⟩))
  · exact Or.inr (Or.inr (Or.inr a))
section RCS
variable {np nu nl nc : Nat} {td la gu ra L G Rn : Int32} {S K1 K2 K3 K4 WA OA XA DA cO cX cD SR H1 H2 H3 H4 WB OB XB DB cA cB cC : pA}
theorem RC.L1 (C : RC np nu nl nc td la gu ra L G Rn S K1 K2 K3 K4 WA OA XA DA cO cX cD SR H1 H2 H3 H4 WB OB XB DB cA cB cC) (h : td = 1) : ¬ L ≤ 0 ∧ ¬ L = 0 := by
  rcases C.2.1 with ⟨a, _⟩ | ⟨_, e, _, _, ⟨k, k1, k2, k3⟩, _⟩
  · rw [h] at a; exact absurd a (by decide)
  · rw [e, k3]
    constructor
    · rw [show (0 : Int32) = nn 0 from rfl, nn_le (by omega) (by omega)]; omega
    · rw [show (0 : Int32) = nn 0 from rfl, nn_inj (by omega) (by omega)]; omega
theorem RC.told (C : RC np nu nl nc td la gu ra L G Rn S K1 K2 K3 K4 WA OA XA DA cO cX cD SR H1 H2 H3 H4 WB OB XB DB cA cB cC) : (td = 0 ∧ L = 0) ∨ (td = 1 ∧ ¬ L ≤ 0) := by
  by_cases h : td = 1
  · exact Or.inr ⟨h, (C.L1 h).1⟩
  · rcases C.2.1 with ⟨a, b, _⟩ | ⟨a, _⟩
    · exact Or.inl ⟨a, b⟩
    · exact absurd a h
theorem RC.T1 (C : RC np nu nl nc td la gu ra L G Rn S K1 K2 K3 K4 WA OA XA DA cO cX cD SR H1 H2 H3 H4 WB OB XB DB cA cB cC) (h : td = 1) : td = 1 ∧ L = la ∧ G = gu ∧ Rn = ra ∧ (∃ k, 1 ≤ k ∧ k ≤ 30 ∧ la = nn k) ∧ (∃ k, k ≤ 99 ∧ gu = nn k) ∧ ∃ k, k ≤ 99 ∧ ra = nn k := by
  rcases C.2.1 with ⟨a, _⟩ | a
  · rw [h] at a; exact absurd a (by decide)
  · exact a
theorem RC.county (C : RC np nu nl nc td la gu ra L G Rn S K1 K2 K3 K4 WA OA XA DA cO cX cD SR H1 H2 H3 H4 WB OB XB DB cA cB cC) {a b e : Nat} (h1 : 1 ≤ a) (h2 : a ≤ 30) (h3 : b ≤ 99) (h4 : e ≤ 99) : RC np nu nl nc 1 (nn a) (nn b) (nn e) (nn a) (nn b) (nn e) S K1 K2 K3 K4 WA OA XA DA cO cX cD SR H1 H2 H3 H4 WB OB XB DB cA cB cC :=
  ⟨C.1, Or.inr ⟨rfl, rfl, rfl, rfl, ⟨a, h1, h2, rfl⟩, ⟨b, h3, rfl⟩, e, h4, rfl⟩, C.2.2.1, C.2.2.2⟩
theorem RC.person (C : RC np nu nl nc td la gu ra L G Rn S K1 K2 K3 K4 WA OA XA DA cO cX cD SR H1 H2 H3 H4 WB OB XB DB cA cB cC) (h : td = 1) (h6 : np < 6) (i : Int32) : RC (np + 1) nu nl nc td la gu ra L G Rn (upd S np i) K1 K2 K3 K4 WA OA XA DA cO cX cD (upd SR np i) H1 H2 H3 H4 WB OB XB DB cA cB cC := by
  obtain ⟨c1, c2, c3, c4, c5, c6, c7, c8, c9, c10, c11⟩ := C.2.2.2
  exact ⟨⟨by omega, C.1.2⟩, Or.inr (C.T1 h), C.2.2.1, ag_upd c1 i, c2, c3, c4, c5, c6, c7, fun u hu => wv_mono (by omega) (c8 u hu), c9, fun k hk => lgOk_mono (by omega) (by omega) (c10 k hk), c11⟩
theorem RC.umbrella (C : RC np nu nl nc td la gu ra L G Rn S K1 K2 K3 K4 WA OA XA DA cO cX cD SR H1 H2 H3 H4 WB OB XB DB cA cB cC) (h : td = 1) (h5 : nu < 5) {i a b : Nat} {v : Int32} {M4 : pA} (ha : a ≤ 99) (hb : 4 ≤ b) (hb2 : b ≤ 12) (hv : wv np v) (hm : M4 nu = v) (hm2 : ∀ j, j ≠ nu → M4 j = K4 j) : RC np (nu + 1) nl nc td la gu ra L G Rn S (upd K1 nu (nn i)) (upd K2 nu (nn a)) (upd K3 nu (nn b)) M4 WA OA XA DA cO cX cD SR (upd H1 nu (nn i)) (upd H2 nu (nn a)) (upd H3 nu (nn b)) (upd H4 nu v) WB OB XB DB cA cB cC := by
  obtain ⟨c1, c2, c3, c4, c5, c6, c7, c8, c9, c10, c11⟩ := C.2.2.2
  refine ⟨⟨C.1.1, by omega, C.1.2.2⟩, Or.inr (C.T1 h), C.2.2.1, c1, ag_upd c2 _, ag_upd c3 _, ag_upd c4 _, ?_, ex_upd (P := fun x => ∃ k, k ≤ 99 ∧ x = nn k) c6 ⟨a, ha, rfl⟩, ex_upd (P := fun x => ∃ k, 4 ≤ k ∧ k ≤ 12 ∧ x = nn k) c7 ⟨b, hb, hb2, rfl⟩, ?_, c9, fun k hk => lgOk_mono (by omega) (by omega) (c10 k hk), ?_⟩
  · intro u hu
    by_cases q : u = nu
    · subst q; rw [upd_at, hm]
    · rw [upd_ne _ _ q, hm2 u q]; exact c5 u (by omega)
  · intro u hu
    by_cases q : u = nu
    · subst q; rw [hm]; exact hv
    · rw [hm2 u q]; exact c8 u (by omega)
  · intro k hk
    obtain ⟨d1, d2, d3, ⟨u, d4, d5⟩, d6⟩ := c11 k hk
    exact ⟨d1, d2, d3, ⟨u, by omega, d5⟩, d6⟩
theorem RC.log (C : RC np nu nl nc td la gu ra L G Rn S K1 K2 K3 K4 WA OA XA DA cO cX cD SR H1 H2 H3 H4 WB OB XB DB cA cB cC) (h : td = 1) (h16 : nl < 16) {w o x o' x' : Int32} {d : Nat} (hd : d ≤ 40) (e1 : w ≠ 3 → o = o') (e2 : w = 0 ∨ w = 2 → x = x') (ok : (w = 0 ∧ (∃ u, u < nu ∧ o = nn u) ∧ ∃ p, p < np ∧ x = nn p) ∨ (w = 1 ∧ ∃ u, u < nu ∧ o = nn u) ∨ (w = 2 ∧ (∃ u, u < nu ∧ o = nn u) ∧ ∃ v, v < nu ∧ x = nn v) ∨ w = 3) : RC np nu (nl + 1) nc td la gu ra L G Rn S K1 K2 K3 K4 (upd WA nl w) (upd OA nl o) (upd XA nl x) (upd DA nl (nn d)) cO cX cD SR H1 H2 H3 H4 (upd WB nl w) (upd OB nl o') (upd XB nl x') (upd DB nl (nn d)) cA cB cC := by
  obtain ⟨c1, c2, c3, c4, c5, c6, c7, c8, c9, c10, c11⟩ := C.2.2.2
  refine ⟨⟨C.1.1, C.1.2.1, by omega, C.1.2.2.2⟩, Or.inr (C.T1 h), ⟨d, hd, Or.inr ⟨by omega, ?_, ?_⟩⟩, c1, c2, c3, c4, c5, c6, c7, c8, ?_, ?_, c11⟩
  · rw [show nl + 1 - 1 = nl from by omega, upd_at]
  · rw [show nl + 1 - 1 = nl from by omega, upd_at]
  · intro k hk
    by_cases q : k = nl
    · subst q
      rw [upd_at, upd_at, upd_at, upd_at, upd_at, upd_at, upd_at, upd_at]
      exact ⟨rfl, rfl, e1, e2⟩
    · rw [upd_ne _ _ q, upd_ne _ _ q, upd_ne _ _ q, upd_ne _ _ q, upd_ne _ _ q, upd_ne _ _ q, upd_ne _ _ q, upd_ne _ _ q]
      exact c9 k (by omega)
  · intro k hk
    unfold lgOk
    by_cases q : k = nl
    · subst q
      rw [upd_at, upd_at, upd_at]
      exact ok
    · rw [upd_ne _ _ q, upd_ne _ _ q, upd_ne _ _ q]
      exact c10 k (by omega)
theorem RC.claim (C : RC np nu nl nc td la gu ra L G Rn S K1 K2 K3 K4 WA OA XA DA cO cX cD SR H1 H2 H3 H4 WB OB XB DB cA cB cC) (h : td = 1) (h6 : nc < 6) {p u d : Nat} (hu : u < nu) (hd : d ≤ 40) : RC np nu nl (nc + 1) td la gu ra L G Rn S K1 K2 K3 K4 WA OA XA DA (upd cO nc (nn u)) (upd cX nc (nn p)) (upd cD nc (nn d)) SR H1 H2 H3 H4 WB OB XB DB (upd cA nc (nn p)) (upd cB nc (nn u)) (upd cC nc (nn d)) := by
  obtain ⟨c1, c2, c3, c4, c5, c6, c7, c8, c9, c10, c11⟩ := C.2.2.2
  refine ⟨⟨C.1.1, C.1.2.1, C.1.2.2.1, by omega⟩, Or.inr (C.T1 h), C.2.2.1, c1, c2, c3, c4, c5, c6, c7, c8, c9, c10, ?_⟩
  intro k hk
  by_cases q : k = nc
  · subst q
    rw [upd_at, upd_at, upd_at, upd_at, upd_at, upd_at]
    exact ⟨rfl, rfl, rfl, ⟨u, hu, rfl⟩, d, by omega, rfl⟩
  · rw [upd_ne _ _ q, upd_ne _ _ q, upd_ne _ _ q, upd_ne _ _ q, upd_ne _ _ q, upd_ne _ _ q]
    exact c11 k (by omega)
end RCS
section OVER
variable {p1 srt sp sz pl num flt wa pl' sp' num' flt' wa' : Int32} {w w' : Int64} {NA : Nat → Int64} {B NO NS DB WB OB XB : pA}
theorem rrain_over {nl np nu : Nat} (hl : nl ≤ 16) (hN : np + nu ≤ 11) (h : e_hP_X9_lineBegins p1 srt sp sz B pl num w flt wa (nn nl) 16 = some (pl', 5, sp', num', w', flt', wa')) : e_hP_X9_readRain (nn nl) p1 srt sp sz B pl num w flt wa DB WB OB XB = some (pl', 5, sp', num', w', flt', wa', WB, OB, XB, DB, nn nl) := by
  unfold e_hP_X9_readRain
  rw [h, Option.bind_some]
  dsimp only
  rw [lg5n hl]
  rfl
theorem rleft_over {nl np nu : Nat} (hl : nl ≤ 16) (hN : np + nu ≤ 11) (h : e_hP_X9_lineBegins p1 srt sp sz B pl num w flt wa (nn nl) 16 = some (pl', 5, sp', num', w', flt', wa')) : e_hP_X9_readLeft (nn nl) p1 srt sp sz B pl num w flt wa (nn (np + nu)) NA NO NS DB WB OB XB = some (pl', 5, sp', num', w', flt', wa', WB, OB, XB, DB, nn nl) := by
  unfold e_hP_X9_readLeft
  rw [h, Option.bind_some]
  dsimp only
  rw [rk5 (by omega), Option.bind_some]
  dsimp only
  rw [lg5n hl]
  rfl
theorem rlent_over {nl np nu : Nat} (hl : nl ≤ 16) (hN : np + nu ≤ 11) (h : e_hP_X9_lineBegins p1 srt sp sz B pl num w flt wa (nn nl) 16 = some (pl', 5, sp', num', w', flt', wa')) : e_hP_X9_readLent (nn nl) p1 srt sp sz B pl num w flt wa (nn (np + nu)) NA NO NS DB WB OB XB = some (pl', 5, sp', num', w', flt', wa', WB, OB, XB, DB, nn nl) := by
  unfold e_hP_X9_readLent
  rw [h, Option.bind_some]
  dsimp only
  rw [rk5 (by omega), Option.bind_some]
  dsimp only
  rw [rk5 (by omega), Option.bind_some]
  dsimp only
  rw [lg5n hl]
  rfl
theorem rchanged_over {nl np nu : Nat} (hl : nl ≤ 16) (hN : np + nu ≤ 11) (h : e_hP_X9_lineBegins p1 srt sp sz B pl num w flt wa (nn nl) 16 = some (pl', 5, sp', num', w', flt', wa')) : e_hP_X9_readChanged (nn nl) p1 srt sp sz B pl num w flt wa (nn (np + nu)) NA NO NS DB WB OB XB = some (pl', 5, sp', num', w', flt', wa', WB, OB, XB, DB, nn nl) := by
  unfold e_hP_X9_readChanged
  rw [h, Option.bind_some]
  dsimp only
  rw [rk5 (by omega), Option.bind_some]
  dsimp only
  rw [ko5 (by omega), Option.bind_some]
  dsimp only
  rw [if_pos rfl, go5, Option.bind_some]
  dsimp only
  rw [lg5n hl]
  rfl
theorem rclaims_over {nl np nu : Nat} (hl : nl ≤ 16) (hN : np + nu ≤ 11) (h : e_hP_X9_lineBegins p1 srt sp sz B pl num w flt wa (nn nl) 6 = some (pl', 5, sp', num', w', flt', wa')) : e_hP_X9_readClaims (nn nl) p1 srt sp sz B pl num w flt wa (nn (np + nu)) NA NO NS OB XB DB = some (pl', 5, sp', num', w', flt', wa', OB, XB, DB, nn nl) := by
  unfold e_hP_X9_readClaims
  rw [h, Option.bind_some]
  dsimp only
  rw [rk5 (by omega), Option.bind_some]
  dsimp only
  rw [rk5 (by omega), Option.bind_some]
  dsimp only
  rw [rpt5, Option.bind_some]
  exact if_pos rfl
end OVER
