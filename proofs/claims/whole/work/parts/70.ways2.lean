/-! THE PURE PART: how many ways, and which -/
def mkq (b0 b1 b2 b3 b4 b5 b6 b7 b8 b9 : Bool) : Nat → Bool := fun pr => if pr = 1 then b0 else if pr = 2 then b1 else if pr = 3 then b2 else if pr = 4 then b3 else if pr = 7 then b4 else if pr = 8 then b5 else if pr = 9 then b6 else if pr = 13 then b7 else if pr = 14 then b8 else if pr = 19 then b9 else false
def cI (q : Nat → Bool) : Nat → Nat → Nat
  | 0, _ => 0
  | m + 1, k => (if q k = true then 1 else 0) + cI q m (k + 1)
set_option maxRecDepth 100000 in
theorem bits_cnt : ∀ b0 b1 b2 b3 b4 b5 b6 b7 b8 b9 : Bool, xbc (sBits (mkq b0 b1 b2 b3 b4 b5 b6 b7 b8 b9) 25 0 0) = nn (cI (mkq b0 b1 b2 b3 b4 b5 b6 b7 b8 b9) 25 0) := by decide +kernel
set_option maxRecDepth 100000 in
theorem bits_at : ∀ b0 b1 b2 b3 b4 b5 b6 b7 b8 b9 : Bool, ∀ i : Fin 25, decide ((((sBits (mkq b0 b1 b2 b3 b4 b5 b6 b7 b8 b9) 25 0 0) >>> (nn i.val &&& 31)) &&& (1 : Int32)) = (0 : Int32)) = !(mkq b0 b1 b2 b3 b4 b5 b6 b7 b8 b9 i.val) := by decide +kernel
theorem sBits_congr {f g : Nat → Bool} {n : Nat} (h : ∀ k, k < n → f k = g k) : ∀ (m k : Nat) (acc : Int32), k + m ≤ n → sBits f m k acc = sBits g m k acc := by
  intro m
  induction m with
  | zero => intro k acc _; rfl
  | succ m ih =>
    intro k acc e
    simp only [sBits]
    rw [h k (by omega), ih (k + 1) _ (by omega)]
theorem cI_congr {f g : Nat → Bool} {n : Nat} (h : ∀ k, k < n → f k = g k) : ∀ (m k : Nat), k + m ≤ n → cI f m k = cI g m k := by
  intro m
  induction m with
  | zero => intro k _; rfl
  | succ m ih =>
    intro k e
    simp only [cI]
    rw [h k (by omega), ih (k + 1) (by omega)]
theorem cI_le {q : Nat → Bool} : ∀ (m k : Nat), cI q m k ≤ m := by
  intro m
  induction m with
  | zero => intro k; exact Nat.le_refl _
  | succ m ih =>
    intro k
    simp only [cI]
    have := ih (k + 1)
    split <;> omega
/-- pairs of two unlike, the lesser first -/
def okq (q : Nat → Bool) : Prop := ∀ pr, ¬ pr / 5 < pr % 5 → q pr = false
theorem mkq_eq {q : Nat → Bool} (h : okq q) : ∀ k, k < 25 → q k = mkq (q 1) (q 2) (q 3) (q 4) (q 7) (q 8) (q 9) (q 13) (q 14) (q 19) k := by
  intro k hk
  have : k = 0 ∨ k = 1 ∨ k = 2 ∨ k = 3 ∨ k = 4 ∨ k = 5 ∨ k = 6 ∨ k = 7 ∨ k = 8 ∨ k = 9 ∨ k = 10 ∨ k = 11 ∨ k = 12 ∨ k = 13 ∨ k = 14 ∨ k = 15 ∨ k = 16 ∨ k = 17 ∨ k = 18 ∨ k = 19 ∨ k = 20 ∨ k = 21 ∨ k = 22 ∨ k = 23 ∨ k = 24 := by omega
  rcases this with rfl | rfl | rfl | rfl | rfl | rfl | rfl | rfl | rfl | rfl | rfl | rfl | rfl | rfl | rfl | rfl | rfl | rfl | rfl | rfl | rfl | rfl | rfl | rfl | rfl
  · exact h 0 (by decide)
  · rfl
  · rfl
  · rfl
  · rfl
  · exact h 5 (by decide)
  · exact h 6 (by decide)
  · rfl
  · rfl
  · rfl
  · exact h 10 (by decide)
  · exact h 11 (by decide)
  · exact h 12 (by decide)
  · rfl
  · rfl
  · exact h 15 (by decide)
  · exact h 16 (by decide)
  · exact h 17 (by decide)
  · exact h 18 (by decide)
  · rfl
  · exact h 20 (by decide)
  · exact h 21 (by decide)
  · exact h 22 (by decide)
  · exact h 23 (by decide)
  · exact h 24 (by decide)
theorem q_cnt {q : Nat → Bool} (h : okq q) : xbc (sBits q 25 0 0) = nn (cI q 25 0) := by
  rw [sBits_congr (mkq_eq h) 25 0 0 (by omega), cI_congr (mkq_eq h) 25 0 (by omega)]
  exact bits_cnt _ _ _ _ _ _ _ _ _ _
theorem q_at {q : Nat → Bool} (h : okq q) {k : Nat} (hk : k < 25) : ((((sBits q 25 0 0) >>> (nn k &&& 31)) &&& (1 : Int32)) = (0 : Int32)) = (q k = false) := by
  rw [sBits_congr (mkq_eq h) 25 0 0 (by omega), mkq_eq h k hk]
  have := bits_at (q 1) (q 2) (q 3) (q 4) (q 7) (q 8) (q 9) (q 13) (q 14) (q 19) ⟨k, hk⟩
  refine propext ⟨fun z => ?_, fun z => ?_⟩
  · rw [decide_eq_true z] at this
    simpa using this.symm
  · rw [z] at this
    simpa using this
/-! counting and finding: (how many, the i-th) -/
def stW (i : Int32) (b : Bool) (c : Nat) (st : Nat × Int32) : Nat × Int32 := if b = true then (st.1 + 1, if nn st.1 = i then nn c else st.2) else st
def fo (f : Nat → Nat × Int32 → Nat × Int32) : Nat → Nat → Nat × Int32 → Nat × Int32
  | 0, _, st => st
  | m + 1, k, st => fo f m (k + 1) (f k st)
theorem fo_add (f : Nat → Nat × Int32 → Nat × Int32) : ∀ (a b k : Nat) (st : Nat × Int32), fo f (a + b) k st = fo f b (k + a) (fo f a k st) := by
  intro a
  induction a with
  | zero => intro b k st; rw [Nat.zero_add]; rfl
  | succ a ih =>
    intro b k st
    rw [show a + 1 + b = (a + b) + 1 by omega]
    simp only [fo]
    rw [ih b (k + 1), show k + 1 + a = k + (a + 1) by omega]
theorem fo_shift (f : Nat → Nat × Int32 → Nat × Int32) (s : Nat) : ∀ (m k : Nat) (st : Nat × Int32), fo f m (s + k) st = fo (fun j => f (s + j)) m k st := by
  intro m
  induction m with
  | zero => intro k st; rfl
  | succ m ih =>
    intro k st
    simp only [fo]
    rw [show s + k + 1 = s + (k + 1) by omega, ih]
/-- a day's pairs -/
def inW (i : Int32) (q : Nat → Bool) (d : Nat) : Nat → Nat × Int32 → Nat × Int32 := fun pr => stW i (q pr) (100 * d + 10 * (pr / 5) + pr % 5)
def dyW (i : Int32) (Q : Nat → Nat → Bool) : Nat → Nat × Int32 → Nat × Int32 := fun d => fo (inW i (Q d) d) 25 0
set_option maxRecDepth 10000 in
theorem fo25 {f : Nat → Nat × Int32 → Nat × Int32} (h : ∀ j, ¬ (j / 5 < j % 5) → ∀ st, f j st = st) (st : Nat × Int32) : fo f 25 0 st = f 19 (f 14 (f 13 (f 9 (f 8 (f 7 (f 4 (f 3 (f 2 (f 1 st))))))))) := by
  simp only [fo, Nat.zero_add, Nat.reduceAdd]
  simp (disch := decide) only [h]
set_option maxRecDepth 10000 in
theorem fo100 {f : Nat → Nat × Int32 → Nat × Int32} (h : ∀ j, j < 100 → ¬ (j / 10 < j % 10 ∧ j % 10 < 5) → ∀ st, f j st = st) (st : Nat × Int32) : fo f 100 0 st = f 34 (f 24 (f 23 (f 14 (f 13 (f 12 (f 4 (f 3 (f 2 (f 1 st))))))))) := by
  simp only [fo, Nat.zero_add, Nat.reduceAdd]
  simp (disch := decide) only [h]
theorem inW_cnt {i : Int32} {q : Nat → Bool} {d : Nat} : ∀ (m k : Nat) (st : Nat × Int32), (fo (inW i q d) m k st).1 = st.1 + cI q m k := by
  intro m
  induction m with
  | zero => intro k st; rfl
  | succ m ih =>
    intro k st
    simp only [fo, cI]
    rw [ih]
    unfold inW stW
    split
    · simp only; omega
    · omega
def cD (Q : Nat → Nat → Bool) : Nat → Nat → Nat
  | 0, _ => 0
  | m + 1, d => cI (Q d) 25 0 + cD Q m (d + 1)
theorem cD_le {Q : Nat → Nat → Bool} : ∀ (m d : Nat), cD Q m d ≤ 25 * m := by
  intro m
  induction m with
  | zero => intro d; exact Nat.le_refl _
  | succ m ih =>
    intro d
    simp only [cD]
    have h1 := ih (d + 1)
    have h2 := cI_le (q := Q d) 25 0
    omega
theorem dyW_cnt {i : Int32} {Q : Nat → Nat → Bool} : ∀ (m d : Nat) (st : Nat × Int32), (fo (dyW i Q) m d st).1 = st.1 + cD Q m d := by
  intro m
  induction m with
  | zero => intro d st; rfl
  | succ m ih =>
    intro d st
    simp only [fo, cD]
    rw [ih]
    unfold dyW
    rw [inW_cnt]
    omega
theorem inW_after {i : Nat} {q : Nat → Bool} {d : Nat} (hi : i < 2147483648) : ∀ (m k n : Nat) (f : Int32), i < n → n + m < 2147483648 → (fo (inW (nn i) q d) m k (n, f)).2 = f := by
  intro m
  induction m with
  | zero => intro k n f _ _; rfl
  | succ m ih =>
    intro k n f h1 h2
    simp only [fo]
    unfold inW stW
    have z : ¬ nn n = nn i := by rw [nn_inj (by omega) hi]; omega
    simp only [z, ↓reduceIte]
    by_cases q1 : q k = true
    · simp only [q1, ↓reduceIte]
      exact ih (k + 1) (n + 1) f (by omega) (by omega)
    · simp only [q1]
      exact ih (k + 1) n f (by omega) (by omega)
theorem dyW_after {i : Nat} {Q : Nat → Nat → Bool} (hi : i < 2147483648) : ∀ (m d n : Nat) (f : Int32), i < n → n + 25 * m < 2147483648 → (fo (dyW (nn i) Q) m d (n, f)).2 = f := by
  intro m
  induction m with
  | zero => intro d n f _ _; rfl
  | succ m ih =>
    intro d n f h1 h2
    simp only [fo]
    have e1 := inW_cnt (i := nn i) (q := Q d) (d := d) 25 0 (n, f)
    have e2 := inW_after (q := Q d) (d := d) hi 25 0 n f h1 (by omega)
    have e3 := cI_le (q := Q d) 25 0
    unfold dyW
    generalize hst : fo (inW (nn i) (Q d) d) 25 0 (n, f) = st at *
    obtain ⟨n', f'⟩ := st
    simp only at e1 e2
    subst e2
    exact ih (d + 1) n' f' (by omega) (by omega)
/-! the class -/
theorem pc_find32 {q : Nat → Bool} (hq : okq q) {d i : Nat} (hd : d < 41) (hi : i < 2147483648) {A : pA} (hA : A d = sBits q 25 0 0) {p0 : Int32} {K : Int32 → Int32 → Option Int32} (hK : ∀ a b b', K a b = K a b') : ∀ (m k F n : Nat) (f : Int32), k + m = 25 → m < F → n ≤ i → n + m ≤ 2000 → ((fo (inW (nn i) q d) m k (n, f)).1 ≤ i → L_hA_X0_findWay_32 p0 A (nn i) (nn d) K F (nn n) (nn k) = K (nn (fo (inW (nn i) q d) m k (n, f)).1) 0) ∧ (i < (fo (inW (nn i) q d) m k (n, f)).1 → L_hA_X0_findWay_32 p0 A (nn i) (nn d) K F (nn n) (nn k) = some (fo (inW (nn i) q d) m k (n, f)).2) := by
  have n25 : (25 : Int32) = nn 25 := rfl
  intro m
  induction m with
  | zero =>
    intro k F n f e hF hn h2
    obtain ⟨F, rfl⟩ : ∃ f, F = f + 1 := ⟨F - 1, by omega⟩
    obtain rfl : k = 25 := by omega
    refine ⟨fun _ => ?_, fun z => absurd z (by simp only [fo]; omega)⟩
    simp (disch := omega) only [L_hA_X0_findWay_32, n25, nn_le, Nat.le_refl, ↓reduceIte, fo]
    exact hK _ _ _
  | succ m ih =>
    intro k F n f e hF hn h2
    obtain ⟨F, rfl⟩ : ∃ f, F = f + 1 := ⟨F - 1, by omega⟩
    have i1 : ¬ (25 : Int32) ≤ nn k := by rw [n25, nn_le (by omega) (by omega)]; omega
    have hb := q_at hq (show k < 25 by omega)
    have ec : (((100 : Int32) * nn d) + ((10 : Int32) * (nn k / (5 : Int32)))) + (nn k - nn k / (5 : Int32) * (5 : Int32)) = nn (100 * d + 10 * (k / 5) + k % 5) := by
      rw [show (5 : Int32) = nn 5 from rfl, nn_mod (by omega) (by omega), nn_div (by omega) (by omega), show (100 : Int32) = nn 100 from rfl, show (10 : Int32) = nn 10 from rfl, nn_mul, nn_mul, nn_add, nn_add]
    simp only [fo]
    by_cases q1 : q k = true
    · have i2 : ¬ ((A d >>> (nn k &&& 31)) &&& (1 : Int32)) = (0 : Int32) := by rw [hA, hb, q1]; decide
      by_cases q2 : n = i
      · subst q2
        have ei : inW (nn n) q d k (n, f) = (n + 1, nn (100 * d + 10 * (k / 5) + k % 5)) := by
          unfold inW stW
          simp only [q1, ↓reduceIte]
        rw [ei]
        have e1 := inW_cnt (i := nn n) (q := q) (d := d) m (k + 1) (n + 1, nn (100 * d + 10 * (k / 5) + k % 5))
        simp only at e1
        refine ⟨fun z => absurd z (by omega), fun _ => ?_⟩
        rw [inW_after hi m (k + 1) (n + 1) _ (by omega) (by omega), L_hA_X0_findWay_32, if_neg i1, xix_nn (by omega) (by omega), nn_nat (by omega), if_neg i2, if_pos rfl, ec]
      · have i3 : ¬ nn n = nn i := by rw [nn_inj (by omega) hi]; exact q2
        have ei : inW (nn i) q d k (n, f) = (n + 1, f) := by
          unfold inW stW
          simp only [q1, i3, ↓reduceIte]
        have est : L_hA_X0_findWay_32 p0 A (nn i) (nn d) K (F + 1) (nn n) (nn k) = L_hA_X0_findWay_32 p0 A (nn i) (nn d) K F (nn (n + 1)) (nn (k + 1)) := by
          rw [L_hA_X0_findWay_32, if_neg i1, xix_nn (by omega) (by omega), nn_nat (by omega), if_neg i2, if_neg i3, nn_succ, nn_succ]
        rw [ei, est]
        exact ih (k + 1) F (n + 1) f (by omega) (by omega) (by omega) (by omega)
    · have i2 : ((A d >>> (nn k &&& 31)) &&& (1 : Int32)) = (0 : Int32) := by rw [hA, hb]; simpa using q1
      have ei : inW (nn i) q d k (n, f) = (n, f) := by
        unfold inW stW
        simp only [q1]
        rfl
      have est : L_hA_X0_findWay_32 p0 A (nn i) (nn d) K (F + 1) (nn n) (nn k) = L_hA_X0_findWay_32 p0 A (nn i) (nn d) K F (nn n) (nn (k + 1)) := by
        rw [L_hA_X0_findWay_32, if_neg i1, xix_nn (by omega) (by omega), nn_nat (by omega), if_pos i2, nn_succ]
      rw [ei, est]
      exact ih (k + 1) F n f (by omega) (by omega) hn (by omega)
theorem pc_find23 {Q : Nat → Nat → Bool} (hq : ∀ d, okq (Q d)) {i : Nat} (hi : i < 2147483648) {A : pA} (hA : ∀ d, d < 41 → A d = sBits (Q d) 25 0 0) {p0 : Int32} {K : Int32 → Int32 → Option Int32} : ∀ (m d F n : Nat) (f : Int32), d + m = 41 → m < F → n ≤ i → n + 25 * m ≤ 1500 → i < (fo (dyW (nn i) Q) m d (n, f)).1 → L_hA_X0_findWay_23 p0 A (nn i) K F (nn n) (nn d) = some (fo (dyW (nn i) Q) m d (n, f)).2 := by
  intro m
  induction m with
  | zero => intro d F n f e hF hn h2 hz; simp only [fo] at hz; omega
  | succ m ih =>
    intro d F n f e hF hn h2 hz
    obtain ⟨F, rfl⟩ : ∃ f, F = f + 1 := ⟨F - 1, by omega⟩
    have i1 : ¬ (41 : Int32) ≤ nn d := by rw [n41_, nn_le (by omega) (by omega)]; omega
    have key := pc_find32 (hq d) (show d < 41 by omega) hi (hA d (by omega)) (p0 := p0) (K := (fun l2_32 l4_32 => L_hA_X0_findWay_23 p0 A (nn i) K F l2_32 (nn d + (1 : Int32)))) (fun _ _ _ => rfl) 25 0 200000 n f (by omega) (by omega) hn (by omega)
    have e1 := inW_cnt (i := nn i) (q := Q d) (d := d) 25 0 (n, f)
    have e3 := cI_le (q := Q d) 25 0
    simp only [fo] at hz ⊢
    unfold dyW at hz ⊢
    generalize hst : fo (inW (nn i) (Q d) d) 25 0 (n, f) = st at *
    obtain ⟨n', f'⟩ := st
    simp only at e1 key
    rw [L_hA_X0_findWay_23, if_neg i1]
    by_cases q : n' ≤ i
    · refine (key.1 q).trans ?_
      rw [nn_succ]
      exact ih (d + 1) F n' f' (by omega) (by omega) q (by omega) hz
    · have h3 := dyW_after (Q := Q) hi m (d + 1) n' f' (by omega) (by omega)
      unfold dyW at h3
      rw [h3]
      exact key.2 (by omega)
theorem pc_cnt20 {Q : Nat → Nat → Bool} (hq : ∀ d, okq (Q d)) {A : pA} (hA : ∀ d, d < 41 → A d = sBits (Q d) 25 0 0) {p0 p1 p2 p3 p5 p9 p12 p13 p16 : Int32} {p6 p7 p10 p11 p14 p15 p17 p18 p19 p20 p21 p22 p23 : pA} {p8 : Nat → Int64} {K : Int32 → Int32 → Option (Int32 × Int32 × Int32 × Int32 × pA × Int32 × pA × pA)} : ∀ (m d F n : Nat), d + m = 41 → m < F → L_hA_X0_countWays_20 p0 p1 p2 p3 A p5 p6 p7 p8 p9 p10 p11 p12 p13 p14 p15 p16 p17 p18 p19 p20 p21 p22 p23 K F (nn n) (nn d) = K (nn (n + cD Q m d)) (nn 41) := by
  intro m
  induction m with
  | zero =>
    intro d F n e hF
    obtain ⟨F, rfl⟩ : ∃ f, F = f + 1 := ⟨F - 1, by omega⟩
    obtain rfl : d = 41 := by omega
    simp (disch := omega) only [L_hA_X0_countWays_20, n41_, nn_le, Nat.le_refl, ↓reduceIte, cD, Nat.add_zero]
  | succ m ih =>
    intro d F n e hF
    obtain ⟨F, rfl⟩ : ∃ f, F = f + 1 := ⟨F - 1, by omega⟩
    have i1 : ¬ (41 : Int32) ≤ nn d := by rw [n41_, nn_le (by omega) (by omega)]; omega
    simp only [cD]
    rw [← Nat.add_assoc, ← ih (d + 1) F (n + cI (Q d) 25 0) (by omega) (by omega), L_hA_X0_countWays_20, if_neg i1, xix_nn (by omega) (by omega), nn_nat (by omega), hA d (by omega), q_cnt (hq d), nn_add, nn_succ]
section WAYS2
variable {np nu nl nc tp na nm : Nat} {la gu ra : Int32} {g7 g8 g9 g10 g11 g12 g13 g14 g15 g17 g18 g19 g20 g21 g22 g23 g24 g25 g26 g27 g28 g29 g30 g31 g32 g33 g34 : Int32} {a0 a1 a2 a3 a4 a5 a6 a7 a8 a9 a10 a11 a12 a13 a14 a15 a16 a17 a18 a19 a20 a21 a22 a23 a24 a25 a26 a27 a28 a29 a30 a31 a32 a33 a34 a35 a36 a37 a38 a39 : pA} {b0 b1 b2 b3 b4 : Nat → Int64} {w0 : Int64}
variable {G0 G2 G4 G5 G6 G7 G8 G10 G13 G14 G15 G16 G17 G18 G26 : Int32} {A0 A2 A3 A4 A5 A6 A7 A8 A9 A10 A11 A12 A13 A14 A15 A16 A17 A18 A19 A20 A21 A22 A23 : pA} {B0 : Nat → Int64} {W0 : Int64} {rb : Nat}
theorem hQok : ∀ d, okq ((fun d pr => decide (gP np nu nl nc la a0 a1 a2 a3 a4 a5 a6 a7 a8 a10 a11 a12 d pr)) d) := fun d pr h => by
  simp only [decide_eq_false_iff_not]
  exact fun z => h z.1
/-- how many ways -/
def nW (np nu nl nc : Nat) (la : Int32) (a0 a1 a2 a3 a4 a5 a6 a7 a8 a10 a11 a12 : pA) : Nat := (if wayP nc a10 a11 a12 (mor np nu nl la a0 a1 a2 a4 a5 a6 a7 a8 cNo) then 1 else 0) + cD (fun d pr => decide (gP np nu nl nc la a0 a1 a2 a3 a4 a5 a6 a7 a8 a10 a11 a12 d pr)) 41 0
theorem nW_le : nW np nu nl nc la a0 a1 a2 a3 a4 a5 a6 a7 a8 a10 a11 a12 ≤ 1026 := by
  unfold nW
  have := cD_le (Q := (fun d pr => decide (gP np nu nl nc la a0 a1 a2 a3 a4 a5 a6 a7 a8 a10 a11 a12 d pr))) 41 0
  split <;> omega
theorem qc_countWays (H : Cty np nu nl nc la gu ra a0 a1 a2 a3 a4 a5 a6 a7 a8 a10 a11 a12 A10 A11 A12 A13 A14 A15 A16 A17 A18 A19 A20 A21) (hC : Chr np nu nl nc la a0 a1 a2 a3 a4 a5 a6 a7 a8 a10 a11 a12 b2 g25 g26 a31) (g27 g24 : Int32) (a33 a32 : pA) : ∃ g27' g26' a31' g24' a33' a32', e_hA_X0_countWays g25 g27 (nn nc) g26 a31 (nn nu) a1 a3 b2 g24 a33 a32 (nn nl) (nn np) a0 a2 la a8 a5 a6 a7 a12 a10 a11 = some (nn (nW np nu nl nc la a0 a1 a2 a3 a4 a5 a6 a7 a8 a10 a11 a12), 1, g27', g26', a31', g24', a33', a32') ∧ Sch np nu nl nc la a0 a1 a2 a3 a4 a5 a6 a7 a8 a10 a11 a12 g26' a31' := by
  obtain ⟨g27', g26', a31', g24', a33', a32', e1, hS⟩ := qc_search H hC g27 g24 a33 a32
  refine ⟨g27', g26', a31', g24', a33', a32', ?_, hS⟩
  unfold e_hA_X0_countWays nW
  rw [e1, Option.bind_some]
  have h26 := hS.1
  by_cases q : wayP nc a10 a11 a12 (mor np nu nl la a0 a1 a2 a4 a5 a6 a7 a8 cNo)
  · rw [if_pos q] at h26
    rw [if_pos q, if_neg (show ¬ g26' = 0 from by rw [h26]; decide)]
    exact pc_cnt20 hQok hS.2 41 0 200000 1 (by omega) (by omega)
  · rw [if_neg q] at h26
    rw [if_neg q, if_pos h26]
    exact pc_cnt20 hQok hS.2 41 0 200000 0 (by omega) (by omega)
/-- the start of counting -/
def sW (np nu nl nc : Nat) (la : Int32) (a0 a1 a2 a4 a5 a6 a7 a8 a10 a11 a12 : pA) (i : Int32) : Nat × Int32 := if wayP nc a10 a11 a12 (mor np nu nl la a0 a1 a2 a4 a5 a6 a7 a8 cNo) then (1, if i = 0 then -2 else -1) else (0, -1)
theorem qc_findWay {g26' : Int32} {a31' : pA} (hS : Sch np nu nl nc la a0 a1 a2 a3 a4 a5 a6 a7 a8 a10 a11 a12 g26' a31') {i : Nat} (hi : i < nW np nu nl nc la a0 a1 a2 a3 a4 a5 a6 a7 a8 a10 a11 a12) : e_hA_X0_findWay g26' a31' (nn i) = some (fo (dyW (nn i) (fun d pr => decide (gP np nu nl nc la a0 a1 a2 a3 a4 a5 a6 a7 a8 a10 a11 a12 d pr))) 41 0 (sW np nu nl nc la a0 a1 a2 a4 a5 a6 a7 a8 a10 a11 a12 (nn i))).2 := by
  have hle := nW_le (np := np) (nu := nu) (nl := nl) (nc := nc) (la := la) (a0 := a0) (a1 := a1) (a2 := a2) (a3 := a3) (a4 := a4) (a5 := a5) (a6 := a6) (a7 := a7) (a8 := a8) (a10 := a10) (a11 := a11) (a12 := a12)
  have h26 := hS.1
  unfold e_hA_X0_findWay sW
  unfold nW at hi hle
  by_cases q : wayP nc a10 a11 a12 (mor np nu nl la a0 a1 a2 a4 a5 a6 a7 a8 cNo)
  · rw [if_pos q] at h26 hi hle
    rw [if_pos q, if_neg (by rw [h26]; decide)]
    by_cases q2 : i = 0
    · subst q2
      rw [if_neg (by decide), dyW_after (by omega) 41 0 1 _ (by omega) (by omega)]
      rfl
    · rw [if_pos (by rw [show (1 : Int32) = nn 1 from rfl, nn_le (by omega) (by omega)]; omega)]
      refine pc_find23 hQok (by omega) hS.2 41 0 200000 1 _ (by omega) (by omega) (by omega) (by omega) ?_
      rw [dyW_cnt]
      exact hi
  · rw [if_neg q] at h26 hi hle
    rw [if_neg q, if_pos h26, if_pos (by rw [show (0 : Int32) = nn 0 from rfl, nn_le (by omega) (by omega)]; omega)]
    refine pc_find23 hQok (by omega) hS.2 41 0 200000 0 _ (by omega) (by omega) (by omega) (by omega) ?_
    rw [dyW_cnt]
    exact hi
/-! the reference -/
theorem lw_way {X : Nat → pA} (hc : nc ≤ 6) : (fwA (lw (badC a10 a11 a12 X) nc 0) = -2) ↔ wayP nc a10 a11 a12 X := by
  have h1 := lw_ge (P := badC a10 a11 a12 X) nc 0 (by omega)
  rw [wayP_iff]
  constructor
  · intro h
    have h6 : lw (badC a10 a11 a12 X) nc 0 = 6 := by
      unfold fwA at h
      by_cases q : lw (badC a10 a11 a12 X) nc 0 = 6
      · exact q
      · rw [if_neg q] at h
        have := nn_ne2 (k := lw (badC a10 a11 a12 X) nc 0) (by omega)
        rw [this] at h
        exact absurd h (fun z => z)
    intro k hk
    exact (lw_six hc nc 0 (by omega)).mp h6 k (by omega) hk
  · intro h
    have h6 := (lw_six hc nc 0 (by omega)).mpr (fun j _ hj => h j hj)
    unfold fwA
    rw [if_pos h6]
/-- a code that counts -/
def RR (np nu nl nc : Nat) (la : Int32) (a0 a1 a2 a3 a4 a5 a6 a7 a8 a10 a11 a12 : pA) (code : Nat) : Bool := decide (code / 10 % 10 < code % 10 ∧ code % 10 < nu ∧ alk a1 a3 (code / 10 % 10) (code % 10) ∧ wayP nc a10 a11 a12 (mor np nu nl la a0 a1 a2 a4 a5 a6 a7 a8 (cAt (code / 100) (code / 10 % 10) (code % 10))))
theorem pr_cw34 (H : Cty np nu nl nc la gu ra a0 a1 a2 a3 a4 a5 a6 a7 a8 a10 a11 a12 A10 A11 A12 A13 A14 A15 A16 A17 A18 A19 A20 A21) {f1 : Int32} {K : Int32 → Int32 → pA → Int32 → Option (Int32 × Int32 × pA)} : ∀ (m code F : Nat) (st : Nat × Int32) (x : pA), code + m = 4100 → m < F → cn x → ∃ x', cn x' ∧ L_hB_X9_countsWays_34 (nn nu) A11 A10 A14 (nn nl) A18 A16 A15 A17 la (nn np) A12 (nn nc) A21 A20 A19 A13 f1 K F (nn st.1) (nn code) x st.2 = K (nn (fo (fun c => stW f1 (RR np nu nl nc la a0 a1 a2 a3 a4 a5 a6 a7 a8 a10 a11 a12 c) c) m code st).1) (nn 4100) x' (fo (fun c => stW f1 (RR np nu nl nc la a0 a1 a2 a3 a4 a5 a6 a7 a8 a10 a11 a12 c) c) m code st).2 := by
  have hn := H.1.2.2.2.1
  have hp := H.1.2.1
  have hl := H.1.2.2.2.2.1
  have hc := H.1.2.2.2.2.2
  have eK := H.2.2.2.1
  have eR := H.2.2.2.2.2.1
  have n4100 : (4100 : Int32) = nn 4100 := rfl
  intro m
  induction m with
  | zero =>
    intro code F st x e hF hx
    obtain ⟨F, rfl⟩ : ∃ f, F = f + 1 := ⟨F - 1, by omega⟩
    obtain rfl : code = 4100 := by omega
    refine ⟨x, hx, ?_⟩
    rw [L_hB_X9_countsWays_34, if_pos (by rw [n4100, nn_le (by omega) (by omega)]; omega)]
    rfl
  | succ m ih =>
    intro code F st x e hF hx
    obtain ⟨F, rfl⟩ : ∃ f, F = f + 1 := ⟨F - 1, by omega⟩
    have i1 : ¬ (4100 : Int32) ≤ nn code := by rw [n4100, nn_le (by omega) (by omega)]; omega
    have d1 : nn code / (10 : Int32) = nn (code / 10) := nn_div (b := 10) (by omega) (by omega)
    have d2 : nn code - nn (code / 10) * (10 : Int32) = nn (code % 10) := nn_mod2 (b := 10) (by omega) (by omega)
    have d3 : nn (code / 10) / (10 : Int32) = nn (code / 10 / 10) := nn_div (b := 10) (by omega) (by omega)
    have d4 : nn (code / 10) - nn (code / 10 / 10) * (10 : Int32) = nn (code / 10 % 10) := nn_mod2 (b := 10) (by omega) (by omega)
    have d5 : nn code / (100 : Int32) = nn (code / 100) := nn_div (b := 100) (by omega) (by omega)
    simp only [fo]
    have skip : RR np nu nl nc la a0 a1 a2 a3 a4 a5 a6 a7 a8 a10 a11 a12 code = false → stW f1 (RR np nu nl nc la a0 a1 a2 a3 a4 a5 a6 a7 a8 a10 a11 a12 code) code st = st := fun z => by
      unfold stW
      rw [if_neg (by rw [z]; decide)]
    by_cases q1 : code % 10 ≤ code / 10 % 10
    · rw [skip (by unfold RR; simp only [decide_eq_false_iff_not]; exact fun z => by omega)]
      obtain ⟨x', hx', ee⟩ := ih (code + 1) F st x (by omega) (by omega) hx
      refine ⟨x', hx', ?_⟩
      rw [← ee, L_hB_X9_countsWays_34, if_neg i1]
      simp only [d1, d2, d3, d4]
      rw [if_pos (by rw [nn_le (by omega) (by omega)]; exact q1), nn_succ]
    · by_cases q2 : nu ≤ code % 10
      · rw [skip (by unfold RR; simp only [decide_eq_false_iff_not]; exact fun z => by omega)]
        obtain ⟨x', hx', ee⟩ := ih (code + 1) F st x (by omega) (by omega) hx
        refine ⟨x', hx', ?_⟩
        rw [← ee, L_hB_X9_countsWays_34, if_neg i1]
        simp only [d1, d2, d3, d4]
        rw [if_neg (by rw [nn_le (by omega) (by omega)]; exact q1), if_pos (by rw [nn_le (by omega) (by omega)]; exact q2), nn_succ]
      · have b1 : code / 10 % 10 < 5 := by omega
        have b2 : code % 10 < 5 := by omega
        have b3 : code / 100 < 41 := by omega
        have hne : ¬ nn (code / 10 % 10) = nn (code % 10) := by rw [nn_inj (by omega) (by omega)]; omega
        by_cases q3 : alk a1 a3 (code / 10 % 10) (code % 10)
        · have ea : e_hB_X8_areAlike A11 A13 (nn (code / 10 % 10)) (nn (code % 10)) = some 1 := by
            unfold e_hB_X8_areAlike
            rw [if_neg hne, xix_nn b1 (by omega), xix_nn b2 (by omega), nn_nat (by omega), nn_nat (by omega), ← eK _ (by omega), ← eK _ (by omega), if_pos q3.1, xix_nn b1 (by omega), xix_nn b2 (by omega), ← eR _ (by omega), ← eR _ (by omega), if_pos q3.2]
          have ew := qr_wrongClaim hn hp hl hc (la_pos H.2.1.1) hx (oGr H) (wWr H) H.clr (kind := A11) (sort := A10) (lands := A12) (dy := A18) (cp := A19) (cAt_ok (day := code / 100) b1 b2) (hf_at b3 b1 b2)
          rw [show morF nu np la A11 A10 A12 A14 nl A15 A16 A17 A18 (cAt (code / 100) (code / 10 % 10) (code % 10)) = mor np nu nl la a0 a1 a2 a4 a5 a6 a7 a8 (cAt (code / 100) (code / 10 % 10) (code % 10)) from funext (mor_eq H (cAt_ok b1 b2)), H.bad] at ew
          have hw := lw_way (a10 := a10) (a11 := a11) (a12 := a12) (X := mor np nu nl la a0 a1 a2 a4 a5 a6 a7 a8 (cAt (code / 100) (code / 10 % 10) (code % 10))) hc
          have hcn := (mor_ok H (C := cAt (code / 100) (code / 10 % 10) (code % 10)) (cAt_ok b1 b2) 41).2
          by_cases q4 : wayP nc a10 a11 a12 (mor np nu nl la a0 a1 a2 a4 a5 a6 a7 a8 (cAt (code / 100) (code / 10 % 10) (code % 10)))
          · have eR : RR np nu nl nc la a0 a1 a2 a3 a4 a5 a6 a7 a8 a10 a11 a12 code = true := by
              unfold RR; simp only [decide_eq_true_eq]; exact ⟨by omega, by omega, q3, q4⟩
            have es : stW f1 (RR np nu nl nc la a0 a1 a2 a3 a4 a5 a6 a7 a8 a10 a11 a12 code) code st = (st.1 + 1, if nn st.1 = f1 then nn code else st.2) := by
              unfold stW
              rw [if_pos eR]
            rw [es]
            obtain ⟨x', hx', ee⟩ := ih (code + 1) F (st.1 + 1, if nn st.1 = f1 then nn code else st.2) _ (by omega) (by omega) hcn
            refine ⟨x', hx', ?_⟩
            rw [← ee, L_hB_X9_countsWays_34, if_neg i1]
            simp only [d1, d2, d3, d4, d5]
            rw [if_neg (by rw [nn_le (by omega) (by omega)]; exact q1), if_neg (by rw [nn_le (by omega) (by omega)]; exact q2), ea, Option.bind_some, if_neg (by decide), ew, Option.bind_some, if_pos (hw.mpr q4), nn_succ, nn_succ]
            by_cases q5 : nn st.1 = f1
            · rw [if_pos q5, if_pos q5]
            · rw [if_neg q5, if_neg q5]
          · rw [skip (by unfold RR; simp only [decide_eq_false_iff_not]; exact fun z => q4 z.2.2.2)]
            obtain ⟨x', hx', ee⟩ := ih (code + 1) F st _ (by omega) (by omega) hcn
            refine ⟨x', hx', ?_⟩
            rw [← ee, L_hB_X9_countsWays_34, if_neg i1]
            simp only [d1, d2, d3, d4, d5]
            rw [if_neg (by rw [nn_le (by omega) (by omega)]; exact q1), if_neg (by rw [nn_le (by omega) (by omega)]; exact q2), ea, Option.bind_some, if_neg (by decide), ew, Option.bind_some, if_neg (fun z => q4 (hw.mp z)), nn_succ]
        · rw [skip (by unfold RR; simp only [decide_eq_false_iff_not]; exact fun z => q3 z.2.2.1)]
          have ea : e_hB_X8_areAlike A11 A13 (nn (code / 10 % 10)) (nn (code % 10)) = some 0 := by
            unfold e_hB_X8_areAlike
            rw [if_neg hne, xix_nn b1 (by omega), xix_nn b2 (by omega), nn_nat (by omega), nn_nat (by omega), ← eK _ (by omega), ← eK _ (by omega)]
            by_cases z : a1 (code / 10 % 10) = a1 (code % 10)
            · rw [if_pos z, xix_nn b1 (by omega), xix_nn b2 (by omega), ← eR _ (by omega), ← eR _ (by omega), if_neg (fun y => q3 ⟨z, y⟩)]
            · rw [if_neg z]
          obtain ⟨x', hx', ee⟩ := ih (code + 1) F st x (by omega) (by omega) hx
          refine ⟨x', hx', ?_⟩
          rw [← ee, L_hB_X9_countsWays_34, if_neg i1]
          simp only [d1, d2, d3, d4]
          rw [if_neg (by rw [nn_le (by omega) (by omega)]; exact q1), if_neg (by rw [nn_le (by omega) (by omega)]; exact q2), ea, Option.bind_some, if_pos rfl, nn_succ]
theorem RR_day {d : Nat} (hn : nu ≤ 5) {f1 : Int32} (st : Nat × Int32) : fo (fun c => stW f1 (RR np nu nl nc la a0 a1 a2 a3 a4 a5 a6 a7 a8 a10 a11 a12 c) c) 100 (100 * d) st = dyW f1 (fun d pr => decide (gP np nu nl nc la a0 a1 a2 a3 a4 a5 a6 a7 a8 a10 a11 a12 d pr)) d st := by
  have e0 := fo_shift (fun c => stW f1 (RR np nu nl nc la a0 a1 a2 a3 a4 a5 a6 a7 a8 a10 a11 a12 c) c) (100 * d) 100 0 st
  rw [Nat.add_zero] at e0
  rw [e0, fo100 (fun j h100 hj st => by
    unfold stW
    rw [if_neg]
    unfold RR
    simp only [decide_eq_true_eq]
    intro z
    exact hj ⟨by omega, by omega⟩)]
  unfold dyW
  rw [fo25 (fun j hj st => by
    unfold inW stW
    rw [if_neg]
    simp only [decide_eq_true_eq]
    exact fun z => hj z.1)]
  have same : ∀ (u w : Nat), u < w → w < 5 → ∀ st, stW f1 (RR np nu nl nc la a0 a1 a2 a3 a4 a5 a6 a7 a8 a10 a11 a12 (100 * d + (10 * u + w))) (100 * d + (10 * u + w)) st = inW f1 ((fun d pr => decide (gP np nu nl nc la a0 a1 a2 a3 a4 a5 a6 a7 a8 a10 a11 a12 d pr)) d) d (5 * u + w) st := fun u w h1 h2 st => by
    unfold inW
    have ec : 100 * d + (10 * u + w) = 100 * d + 10 * ((5 * u + w) / 5) + (5 * u + w) % 5 := by omega
    have er : RR np nu nl nc la a0 a1 a2 a3 a4 a5 a6 a7 a8 a10 a11 a12 (100 * d + (10 * u + w)) = decide (gP np nu nl nc la a0 a1 a2 a3 a4 a5 a6 a7 a8 a10 a11 a12 d (5 * u + w)) := by
      unfold RR gP
      have x1 : (100 * d + (10 * u + w)) / 10 % 10 = u := by omega
      have x2 : (100 * d + (10 * u + w)) % 10 = w := by omega
      have x3 : (100 * d + (10 * u + w)) / 100 = d := by omega
      have x4 : (5 * u + w) / 5 = u := by omega
      have x5 : (5 * u + w) % 5 = w := by omega
      simp only [x1, x2, x3, x4, x5]
    rw [er, ← ec]
  have p34 := same 3 4 (by omega) (by omega)
  have p24 := same 2 4 (by omega) (by omega)
  have p23 := same 2 3 (by omega) (by omega)
  have p14 := same 1 4 (by omega) (by omega)
  have p13 := same 1 3 (by omega) (by omega)
  have p12 := same 1 2 (by omega) (by omega)
  have p04 := same 0 4 (by omega) (by omega)
  have p03 := same 0 3 (by omega) (by omega)
  have p02 := same 0 2 (by omega) (by omega)
  have p01 := same 0 1 (by omega) (by omega)
  simp only [Nat.reduceMul, Nat.reduceAdd, Nat.zero_add] at p34 p24 p23 p14 p13 p12 p04 p03 p02 p01
  rw [p34, p24, p23, p14, p13, p12, p04, p03, p02, p01]
theorem RR_all (hn : nu ≤ 5) {f1 : Int32} : ∀ (m d : Nat) (st : Nat × Int32), fo (fun c => stW f1 (RR np nu nl nc la a0 a1 a2 a3 a4 a5 a6 a7 a8 a10 a11 a12 c) c) (100 * m) (100 * d) st = fo (dyW f1 (fun d pr => decide (gP np nu nl nc la a0 a1 a2 a3 a4 a5 a6 a7 a8 a10 a11 a12 d pr))) m d st := by
  intro m
  induction m with
  | zero => intro d st; rfl
  | succ m ih =>
    intro d st
    rw [show 100 * (m + 1) = 100 + 100 * m by omega, fo_add, RR_day hn, show 100 * d + 100 = 100 * (d + 1) by omega, ih]
    rfl
theorem qr_countsWays (H : Cty np nu nl nc la gu ra a0 a1 a2 a3 a4 a5 a6 a7 a8 a10 a11 a12 A10 A11 A12 A13 A14 A15 A16 A17 A18 A19 A20 A21) {x : pA} (hx : cn x) (g13 i : Int32) : ∃ x', cn x' ∧ e_hB_X9_countsWays g13 x (nn nu) A11 A10 A14 (nn nl) A18 A16 A15 A17 la (nn np) A12 (nn nc) A21 A20 A19 A13 i = some (nn (nW np nu nl nc la a0 a1 a2 a3 a4 a5 a6 a7 a8 a10 a11 a12), (fo (dyW i (fun d pr => decide (gP np nu nl nc la a0 a1 a2 a3 a4 a5 a6 a7 a8 a10 a11 a12 d pr))) 41 0 (sW np nu nl nc la a0 a1 a2 a4 a5 a6 a7 a8 a10 a11 a12 i)).2, x') := by
  have hn := H.1.2.2.2.1
  have hp := H.1.2.1
  have hl := H.1.2.2.2.2.1
  have hc := H.1.2.2.2.2.2
  have ew := qr_wrongClaim hn hp hl hc (la_pos H.2.1.1) hx (oGr H) (wWr H) H.clr (kind := A11) (sort := A10) (lands := A12) (dy := A18) (cp := A19) cNo_ok hf_no
  rw [show morF nu np la A11 A10 A12 A14 nl A15 A16 A17 A18 cNo = mor np nu nl la a0 a1 a2 a4 a5 a6 a7 a8 cNo from funext (mor_eq H cNo_ok), H.bad] at ew
  have hw := lw_way (a10 := a10) (a11 := a11) (a12 := a12) (X := mor np nu nl la a0 a1 a2 a4 a5 a6 a7 a8 cNo) hc
  have hcn := (mor_ok H (C := cNo) cNo_ok 41).2
  obtain ⟨x', hx', ee⟩ := pr_cw34 H (f1 := i) (K := (fun l2_34 l3_34 ma2_34 mg13_34 => some (l2_34, mg13_34, ma2_34))) 4100 0 200000 (sW np nu nl nc la a0 a1 a2 a4 a5 a6 a7 a8 a10 a11 a12 i) _ (by omega) (by omega) hcn
  refine ⟨x', hx', ?_⟩
  have er := RR_all (np := np) (nl := nl) (nc := nc) (la := la) (a0 := a0) (a1 := a1) (a2 := a2) (a3 := a3) (a4 := a4) (a5 := a5) (a6 := a6) (a7 := a7) (a8 := a8) (a10 := a10) (a11 := a11) (a12 := a12) hn (f1 := i) 41 0 (sW np nu nl nc la a0 a1 a2 a4 a5 a6 a7 a8 a10 a11 a12 i)
  simp only [Nat.reduceMul] at er
  rw [er] at ee
  have ec : (fo (dyW i (fun d pr => decide (gP np nu nl nc la a0 a1 a2 a3 a4 a5 a6 a7 a8 a10 a11 a12 d pr))) 41 0 (sW np nu nl nc la a0 a1 a2 a4 a5 a6 a7 a8 a10 a11 a12 i)).1 = nW np nu nl nc la a0 a1 a2 a3 a4 a5 a6 a7 a8 a10 a11 a12 := by
    rw [dyW_cnt]
    unfold sW nW
    split <;> rfl
  rw [ec] at ee
  rw [← ee]
  unfold e_hB_X9_countsWays sW
  rw [ew, Option.bind_some]
  by_cases q : wayP nc a10 a11 a12 (mor np nu nl la a0 a1 a2 a4 a5 a6 a7 a8 cNo)
  · rw [if_pos (hw.mpr q), if_pos q]
    by_cases q2 : i = 0
    · rw [if_pos q2, if_pos q2]
      rfl
    · rw [if_neg q2, if_neg q2]
      rfl
  · rw [if_neg (fun z => q (hw.mp z)), if_neg q]
    rfl
theorem IC.way (I : IC np nu nl nc tp na nm la gu ra g22 g25 g26 g33 g34 G2 a0 a1 a2 a3 a4 a5 a6 a7 a8 a10 a11 a12 a13 a27 a28 a31 b2 b3 b4 A0 A2 A3 A4 A10 A11 A12 A13 A14 A15 A16 A17 A18 A19 A20 A21) {g26' : Int32} {a31' A2' : pA} {c : Int32} (hS : Sch np nu nl nc la a0 a1 a2 a3 a4 a5 a6 a7 a8 a10 a11 a12 g26' a31') (hc : c ≠ 4) (h2 : cn A2') : IC np nu nl nc tp na nm la gu ra g22 1 g26' g33 c (-1) a0 a1 a2 a3 a4 a5 a6 a7 a8 a10 a11 a12 a13 a27 a28 a31' b2 b3 b4 A0 A2' A3 A4 A10 A11 A12 A13 A14 A15 A16 A17 A18 A19 A20 A21 := ⟨I.1, I.2.1, I.2.2.1, h2, I.2.2.2.2.1, I.2.2.2.2.2.1, ⟨I.2.2.2.2.2.2.1.1, Or.inr ⟨rfl, hS⟩⟩, whr_ne hc⟩
theorem C_ways (I : IC np nu nl nc tp na nm la gu ra g22 g25 g26 g33 g34 G2 a0 a1 a2 a3 a4 a5 a6 a7 a8 a10 a11 a12 a13 a27 a28 a31 b2 b3 b4 A0 A2 A3 A4 A10 A11 A12 A13 A14 A15 A16 A17 A18 A19 A20 A21) : ∃ (v : Int32) (g25' : Int32) (g27' : Int32) (g26' : Int32) (a31' : (Nat → Int32)) (g24' : Int32) (a33' : (Nat → Int32)) (a32' : (Nat → Int32)) (c : Int32) (G13' : Int32) (A2' : (Nat → Int32)), e_hA_X7_ways (nn nu) g25 g27 (nn nc) g26 a31 a1 a3 b2 g24 a33 a32 (nn nl) (nn np) a0 a2 la a8 a5 a6 a7 a12 a10 a11 g34 = some (v, g25', g27', g26', a31', g24', a33', a32', c) ∧ e_hB_X9_ways G0 G13 A2 (nn nu) A11 A10 A14 (nn nl) A18 A16 A15 A17 la (nn np) A12 (nn nc) A21 A20 A19 A13 g34 G2 = some (v, 0, G13', A2', c, (-1)) ∧ IC np nu nl nc tp na nm la gu ra g22 g25' g26' g33 c (-1) a0 a1 a2 a3 a4 a5 a6 a7 a8 a10 a11 a12 a13 a27 a28 a31' b2 b3 b4 A0 A2' A3 A4 A10 A11 A12 A13 A14 A15 A16 A17 A18 A19 A20 A21 := by
  obtain ⟨⟨hp1, hp, hn1, hn, hl, hc⟩, ⟨hla, hgu, hra⟩, eS, eK, eL, eR, eW, bL, bR, wW, eG, oG, eC⟩ := I.1
  obtain ⟨g27', g26', a31', g24', a33', a32', e1, hS⟩ := qc_countWays I.1 I.2.2.2.2.2.2.1 g27 g24 a33 a32
  obtain ⟨x', hx', f1⟩ := qr_countsWays I.1 I.2.2.2.1 G13 (-1)
  refine ⟨nn (nW np nu nl nc la a0 a1 a2 a3 a4 a5 a6 a7 a8 a10 a11 a12), 1, g27', g26', a31', g24', a33', a32', 0, (fo (dyW (-1) (fun d pr => decide (gP np nu nl nc la a0 a1 a2 a3 a4 a5 a6 a7 a8 a10 a11 a12 d pr))) 41 0 (sW np nu nl nc la a0 a1 a2 a4 a5 a6 a7 a8 a10 a11 a12 (-1))).2, x', ?_, ?_, I.way hS (by decide) hx'⟩
  · unfold e_hA_X7_ways
    rw [isT1 hn1 hn, Option.bind_some, if_neg (by decide), e1]
    rfl
  · unfold e_hB_X9_ways
    rw [f1]
    rfl
theorem C_wayAt (I : IC np nu nl nc tp na nm la gu ra g22 g25 g26 g33 g34 G2 a0 a1 a2 a3 a4 a5 a6 a7 a8 a10 a11 a12 a13 a27 a28 a31 b2 b3 b4 A0 A2 A3 A4 A10 A11 A12 A13 A14 A15 A16 A17 A18 A19 A20 A21) (x1 : Int32) : ∃ (v : Int32) (c : Int32) (g25' : Int32) (g27' : Int32) (g26' : Int32) (a31' : (Nat → Int32)) (g24' : Int32) (a33' : (Nat → Int32)) (a32' : (Nat → Int32)) (G13' : Int32) (A2' : (Nat → Int32)), e_hA_X7_wayAt (nn nu) g34 g25 g27 (nn nc) g26 a31 a1 a3 b2 g24 a33 a32 (nn nl) (nn np) a0 a2 la a8 a5 a6 a7 a12 a10 a11 x1 = some (v, c, g25', g27', g26', a31', g24', a33', a32') ∧ e_hB_X9_wayAt G0 g34 G2 G13 A2 (nn nu) A11 A10 A14 (nn nl) A18 A16 A15 A17 la (nn np) A12 (nn nc) A21 A20 A19 A13 x1 = some (v, 0, c, (-1), G13', A2') ∧ IC np nu nl nc tp na nm la gu ra g22 g25' g26' g33 c (-1) a0 a1 a2 a3 a4 a5 a6 a7 a8 a10 a11 a12 a13 a27 a28 a31' b2 b3 b4 A0 A2' A3 A4 A10 A11 A12 A13 A14 A15 A16 A17 A18 A19 A20 A21 := by
  obtain ⟨⟨hp1, hp, hn1, hn, hl, hc⟩, ⟨hla, hgu, hra⟩, eS, eK, eL, eR, eW, bL, bR, wW, eG, oG, eC⟩ := I.1
  have hT := isT1 hn1 hn
  by_cases q1 : x1 < 0
  · refine ⟨-1, 1, g25, g27, g26, a31, g24, a33, a32, G13, A2, ?_, ?_, I.no (by decide)⟩
    · unfold e_hA_X7_wayAt
      rw [hT, Option.bind_some, if_neg (by decide), if_pos q1]
      rfl
    · unfold e_hB_X9_wayAt
      rw [if_pos q1]
      rfl
  · obtain ⟨i, hi, rfl⟩ : ∃ i, i < 2147483648 ∧ x1 = nn i := ⟨x1.toNatClampNeg, Int32.toNatClampNeg_lt x1, (Int32.ofNat_toNatClampNeg x1 (Int32.not_lt.mp q1)).symm⟩
    obtain ⟨g27', g26', a31', g24', a33', a32', e1, hS⟩ := qc_countWays I.1 I.2.2.2.2.2.2.1 g27 g24 a33 a32
    obtain ⟨x', hx', f1⟩ := qr_countsWays I.1 I.2.2.2.1 G13 (nn i)
    have hle := nW_le (np := np) (nu := nu) (nl := nl) (nc := nc) (la := la) (a0 := a0) (a1 := a1) (a2 := a2) (a3 := a3) (a4 := a4) (a5 := a5) (a6 := a6) (a7 := a7) (a8 := a8) (a10 := a10) (a11 := a11) (a12 := a12)
    by_cases q2 : i < nW np nu nl nc la a0 a1 a2 a3 a4 a5 a6 a7 a8 a10 a11 a12
    · have i2 : nn i < nn (nW np nu nl nc la a0 a1 a2 a3 a4 a5 a6 a7 a8 a10 a11 a12) := by rw [nn_lt hi (by omega)]; exact q2
      refine ⟨(fo (dyW (nn i) (fun d pr => decide (gP np nu nl nc la a0 a1 a2 a3 a4 a5 a6 a7 a8 a10 a11 a12 d pr))) 41 0 (sW np nu nl nc la a0 a1 a2 a4 a5 a6 a7 a8 a10 a11 a12 (nn i))).2, 0, 1, g27', g26', a31', g24', a33', a32', (fo (dyW (nn i) (fun d pr => decide (gP np nu nl nc la a0 a1 a2 a3 a4 a5 a6 a7 a8 a10 a11 a12 d pr))) 41 0 (sW np nu nl nc la a0 a1 a2 a4 a5 a6 a7 a8 a10 a11 a12 (nn i))).2, x', ?_, ?_, I.way hS (by decide) hx'⟩
      · unfold e_hA_X7_wayAt
        rw [hT, Option.bind_some, if_neg (by decide), if_neg q1, e1, Option.bind_some, if_pos i2]
        simp only []
        rw [qc_findWay hS q2]
        rfl
      · unfold e_hB_X9_wayAt
        rw [if_neg q1, f1, Option.bind_some, if_neg (Int32.not_le.mpr i2)]
        rfl
    · have i2 : ¬ nn i < nn (nW np nu nl nc la a0 a1 a2 a3 a4 a5 a6 a7 a8 a10 a11 a12) := by rw [nn_lt hi (by omega)]; exact q2
      refine ⟨-1, 1, 1, g27', g26', a31', g24', a33', a32', (fo (dyW (nn i) (fun d pr => decide (gP np nu nl nc la a0 a1 a2 a3 a4 a5 a6 a7 a8 a10 a11 a12 d pr))) 41 0 (sW np nu nl nc la a0 a1 a2 a4 a5 a6 a7 a8 a10 a11 a12 (nn i))).2, x', ?_, ?_, I.way hS (by decide) hx'⟩
      · unfold e_hA_X7_wayAt
        rw [hT, Option.bind_some, if_neg (by decide), if_neg q1, e1, Option.bind_some, if_neg i2]
        rfl
      · unfold e_hB_X9_wayAt
        rw [if_neg q1, f1, Option.bind_some, if_pos (Int32.not_lt.mp i2)]
        rfl
end WAYS2
