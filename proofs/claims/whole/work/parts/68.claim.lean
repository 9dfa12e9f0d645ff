/-! THE PURE PART: claims -/
/-- the first from k on, 6 if there is none -/
def lw (P : Nat → Bool) : Nat → Nat → Nat
  | 0, _ => 6
  | m + 1, k => if P k = true then k else lw P m (k + 1)
theorem lw_ge {P : Nat → Bool} : ∀ (m k : Nat), k + m ≤ 6 → k ≤ lw P m k ∧ lw P m k ≤ 6 := by
  intro m
  induction m with
  | zero => intro k h; exact ⟨by simp only [lw]; omega, by simp only [lw]; omega⟩
  | succ m ih =>
    intro k h
    simp only [lw]
    split
    · exact ⟨Nat.le_refl _, by omega⟩
    · have := ih (k + 1) (by omega)
      exact ⟨by omega, this.2⟩
theorem lw_congr {P Q : Nat → Bool} {n : Nat} (h : ∀ k, k < n → P k = Q k) : ∀ (m k : Nat), k + m ≤ n → lw P m k = lw Q m k := by
  intro m
  induction m with
  | zero => intro k _; rfl
  | succ m ih =>
    intro k e
    simp only [lw]
    rw [h k (by omega), ih (k + 1) (by omega)]
theorem lw_six {P : Nat → Bool} {n : Nat} (hn : n ≤ 6) : ∀ (m k : Nat), k + m = n → (lw P m k = 6 ↔ ∀ j, k ≤ j → j < n → P j = false) := by
  intro m
  induction m with
  | zero => intro k e; exact ⟨fun _ j h1 h2 => by omega, fun _ => rfl⟩
  | succ m ih =>
    intro k e
    simp only [lw]
    by_cases q : P k = true
    · rw [if_pos q]
      constructor
      · intro h; omega
      · intro h
        have := h k (Nat.le_refl _) (by omega)
        rw [this] at q
        exact absurd q (by decide)
    · rw [if_neg q, ih (k + 1) (by omega)]
      constructor
      · intro h j h1 h2
        by_cases e : j = k
        · subst e; simpa using q
        · exact h j (by omega) h2
      · intro h j h1 h2
        exact h j (by omega) h2
/-- a claim that isn't so -/
def badC (cu cp cd : pA) (X : Nat → pA) (k : Nat) : Bool := decide (X ((cd k).toNatClampNeg + 1) (5 + (cu k).toNatClampNeg) ≠ cp k)
/-- the answer: the first that isn't so -/
def fwA (w : Nat) : Int32 := if w = 6 then -2 else nn w
theorem pr_wc46 {nu nc d : Nat} (hn : nu ≤ 5) (hc : nc ≤ 6) {x cd cu cp : pA} (hcl : ∀ k, k < nc → ∃ u, u < nu ∧ cu k = nn u) {P : Nat → Bool} {p1 p5 p10 p11 f1 f2 f3 : Int32} {p2 p3 p4 p6 p7 p8 p9 p12 : pA} {K : Int32 → Int32 → Option (Int32 × pA)} (hK : ∀ a b b', K a b = K a b') : ∀ (m k F : Nat), k + m = nc → m + 1 < F → L_hB_X9_wrongClaim_46 x p1 p2 p3 p4 p5 p6 p7 p8 p9 p10 p11 p12 (nn nc) cd cu cp f1 f2 f3 (nn d) K F (nn (lw P m k)) (nn k) = K (nn (lw (fun k => P k || decide (cd k = nn d ∧ x (5 + (cu k).toNatClampNeg) ≠ cp k)) m k)) 0 := by
  intro m
  induction m with
  | zero =>
    intro k F e hF
    obtain ⟨F, rfl⟩ : ∃ f, F = f + 1 := ⟨F - 1, by omega⟩
    obtain rfl : k = nc := by omega
    simp only [lw]
    by_cases q : 6 ≤ k
    · simp (disch := omega) only [L_hB_X9_wrongClaim_46, nn_le, q, ↓reduceIte]
      exact hK _ _ _
    · simp (disch := omega) only [L_hB_X9_wrongClaim_46, nn_le, q, Nat.le_refl, ↓reduceIte]
      exact hK _ _ _
  | succ m ih =>
    intro k F e hF
    obtain ⟨F, rfl⟩ : ∃ f, F = f + 1 := ⟨F - 1, by omega⟩
    have hk : ¬ nc ≤ k := by omega
    obtain ⟨u, hu, eu⟩ := hcl k (by omega)
    simp only [lw]
    by_cases q : P k = true
    · simp (disch := omega) only [L_hB_X9_wrongClaim_46, nn_le, q, Nat.le_refl, ↓reduceIte, Bool.true_or]
      exact hK _ _ _
    · have hg := lw_ge (P := P) m (k + 1) (by omega)
      have h1 : ¬ lw P m (k + 1) ≤ k := by omega
      have q' : P k = false := by simpa using q
      by_cases q2 : cd k = nn d
      · by_cases q3 : x (5 + u) = cp k
        · have z : (P k || decide (cd k = nn d ∧ x (5 + (cu k).toNatClampNeg) ≠ cp k)) = false := by
            rw [q', eu, nn_nat (by omega), q3]; simp
          rw [if_neg q, if_neg (by rw [z]; decide), ← ih (k + 1) F (by omega) (by omega)]
          simp (disch := omega) only [L_hB_X9_wrongClaim_46, nn_le, h1, hk, ↓reduceIte, xix_nn, nn_nat, q2, eu, nn_5add, q3, nn_succ]
        · have z : (P k || decide (cd k = nn d ∧ x (5 + (cu k).toNatClampNeg) ≠ cp k)) = true := by
            rw [q', eu, nn_nat (by omega), q2]; simp [q3]
          rw [if_neg q, if_pos z]
          obtain ⟨F, rfl⟩ : ∃ f, F = f + 1 := ⟨F - 1, by omega⟩
          have h2 : k ≤ k + 1 := by omega
          have e1 : ∀ F, L_hB_X9_wrongClaim_46 x p1 p2 p3 p4 p5 p6 p7 p8 p9 p10 p11 p12 (nn nc) cd cu cp f1 f2 f3 (nn d) K (F + 1) (nn k) (nn (k + 1)) = K (nn k) 0 := by
            intro F
            simp (disch := omega) only [L_hB_X9_wrongClaim_46, nn_le, h2, ↓reduceIte]
            exact hK _ _ _
          rw [← e1 F]
          have e2 : ∀ G, L_hB_X9_wrongClaim_46 x p1 p2 p3 p4 p5 p6 p7 p8 p9 p10 p11 p12 (nn nc) cd cu cp f1 f2 f3 (nn d) K (G + 1) (nn (lw P m (k + 1))) (nn k) = L_hB_X9_wrongClaim_46 x p1 p2 p3 p4 p5 p6 p7 p8 p9 p10 p11 p12 (nn nc) cd cu cp f1 f2 f3 (nn d) K G (nn k) (nn (k + 1)) := by
            intro G
            simp (disch := omega) only [L_hB_X9_wrongClaim_46, nn_le, h1, hk, ↓reduceIte, xix_nn, nn_nat, q2, eu, nn_5add, q3, nn_succ]
          exact e2 (F + 1)
      · have z : (P k || decide (cd k = nn d ∧ x (5 + (cu k).toNatClampNeg) ≠ cp k)) = false := by
          rw [q']; simp [q2]
        rw [if_neg q, if_neg (by rw [z]; decide), ← ih (k + 1) F (by omega) (by omega)]
        simp (disch := omega) only [L_hB_X9_wrongClaim_46, nn_le, h1, hk, ↓reduceIte, xix_nn, nn_nat, q2, nn_succ]
/-- claims of days ahead of d that aren't so -/
def badD (cu cp cd : pA) (X : Nat → pA) (d : Nat) (k : Nat) : Bool := decide ((cd k).toNatClampNeg < d) && badC cu cp cd X k
theorem pr_wc15 {nu np nl nc : Nat} (hn : nu ≤ 5) (hp : np ≤ 6) (hl : nl ≤ 16) (hc : nc ≤ 6) {lapse : Int32} (hla : (0 : Int32) < lapse) {kind sort lands w wh on ot dy : pA} (hk : ∀ k, k < nl → lgOk nu np wh on ot k) (hw : ∀ u, u < nu → wv np (w u)) {cd cu cp : pA} (hcl : ∀ k, k < nc → (∃ u, u < nu ∧ cu k = nn u) ∧ ∃ d, d < 41 ∧ cd k = nn d) {C : Nat → pA → pA} (hC : ∀ d r, wr np r → cn r → wr np (C d r) ∧ cn (C d r)) {f1 f2 f3 : Int32} (hf : ∀ d r, d < 41 → wr np r → cn r → (if nn d = f1 then e_hB_X9_changes r f2 f3 else some r) = some (C d r)) {K : Int32 → Int32 → pA → Option (Int32 × pA)} : ∀ (m d F : Nat), d + m = 41 → m < F → L_hB_X9_wrongClaim_15 (nn nu) kind sort w (nn nl) dy on wh ot lapse (nn np) lands (nn nc) cd cu cp f1 f2 f3 K F (nn (lw (badD cu cp cd (morF nu np lapse kind sort lands w nl wh on ot dy C) d) nc 0)) (nn d) (morF nu np lapse kind sort lands w nl wh on ot dy C d) = K (nn (lw (badD cu cp cd (morF nu np lapse kind sort lands w nl wh on ot dy C) 41) nc 0)) (nn 41) (morF nu np lapse kind sort lands w nl wh on ot dy C 41) := by
  intro m
  induction m with
  | zero =>
    intro d F e hF
    obtain ⟨F, rfl⟩ : ∃ f, F = f + 1 := ⟨F - 1, by omega⟩
    obtain rfl : d = 41 := by omega
    simp (disch := omega) only [L_hB_X9_wrongClaim_15, n41_, nn_le, Nat.le_refl, ↓reduceIte]
  | succ m ih =>
    intro d F e hF
    obtain ⟨F, rfl⟩ : ∃ f, F = f + 1 := ⟨F - 1, by omega⟩
    have hd : ¬ 41 ≤ d := by omega
    have hok := morF_ok (kind := kind) (sort := sort) (lands := lands) (dy := dy) hn hp hla hk hw hC d
    have hoc := hC d _ hok.1 hok.2
    have es : sDay nu np lapse kind sort lands nl wh on ot dy (nn d) (C d (morF nu np lapse kind sort lands w nl wh on ot dy C d)) = morF nu np lapse kind sort lands w nl wh on ot dy C (d + 1) := rfl
    have hlw : lw (fun k => badD cu cp cd (morF nu np lapse kind sort lands w nl wh on ot dy C) d k || decide (cd k = nn d ∧ morF nu np lapse kind sort lands w nl wh on ot dy C (d + 1) (5 + (cu k).toNatClampNeg) ≠ cp k)) nc 0 = lw (badD cu cp cd (morF nu np lapse kind sort lands w nl wh on ot dy C) (d + 1)) nc 0 := by
      refine lw_congr (n := nc) (fun k hkk => ?_) nc 0 (by omega)
      obtain ⟨⟨u, hu, eu⟩, dd, hdd, ed⟩ := hcl k hkk
      unfold badD badC
      rw [ed, eu, nn_nat (by omega), nn_nat (by omega)]
      simp (disch := omega) only [nn_inj]
      by_cases q : dd = d
      · subst q
        simp
      · by_cases q2 : dd < d
        · have q3 : dd < d + 1 := by omega
          simp [q, q2, q3]
        · have q3 : ¬ dd < d + 1 := by omega
          simp [q, q2, q3]
    rw [← ih (d + 1) F (by omega) (by omega), ← hlw]
    have key : ∀ G, 41 < G → L_hB_X9_wrongClaim_46 (morF nu np lapse kind sort lands w nl wh on ot dy C (d + 1)) (nn nu) kind sort w (nn nl) dy on wh ot lapse (nn np) lands (nn nc) cd cu cp f1 f2 f3 (nn d) (fun l4_46 l6_46 => L_hB_X9_wrongClaim_15 (nn nu) kind sort w (nn nl) dy on wh ot lapse (nn np) lands (nn nc) cd cu cp f1 f2 f3 K F l4_46 (nn (d + 1)) (morF nu np lapse kind sort lands w nl wh on ot dy C (d + 1))) G (nn (lw (badD cu cp cd (morF nu np lapse kind sort lands w nl wh on ot dy C) d) nc 0)) (nn 0) = _ := fun G hG => pr_wc46 hn hc (fun k hkk => (hcl k hkk).1) (fun _ _ _ => rfl) nc 0 G (by omega) (by omega)
    rw [← key 200000 (by omega)]
    have hfd := hf d _ (by omega) hok.1 hok.2
    by_cases q : nn d = f1
    · rw [if_pos q] at hfd
      have hdI : ¬ (41 : Int32) ≤ nn d := by rw [n41_, nn_le (by omega) (by omega)]; exact hd
      rw [L_hB_X9_wrongClaim_15, if_neg hdI, if_pos q, hfd, Option.bind_some, qr_goesBy hn hp hl hla hk hoc.1 hoc.2, Option.bind_some, es, nn_succ]
      rfl
    · rw [if_neg q] at hfd
      have hdI : ¬ (41 : Int32) ≤ nn d := by rw [n41_, nn_le (by omega) (by omega)]; exact hd
      have hcd : C d (morF nu np lapse kind sort lands w nl wh on ot dy C d) = morF nu np lapse kind sort lands w nl wh on ot dy C d := (Option.some.inj hfd).symm
      rw [hcd] at es hoc
      rw [L_hB_X9_wrongClaim_15, if_neg hdI, if_neg q, qr_goesBy hn hp hl hla hk hoc.1 hoc.2, Option.bind_some, es, nn_succ]
      rfl
theorem qr_wrongClaim {nu np nl nc : Nat} (hn : nu ≤ 5) (hp : np ≤ 6) (hl : nl ≤ 16) (hc : nc ≤ 6) {lapse : Int32} (hla : (0 : Int32) < lapse) {kind sort lands w wh on ot dy x : pA} (hx : cn x) (hk : ∀ k, k < nl → lgOk nu np wh on ot k) (hw : ∀ u, u < nu → wv np (w u)) {cd cu cp : pA} (hcl : ∀ k, k < nc → (∃ u, u < nu ∧ cu k = nn u) ∧ ∃ d, d < 41 ∧ cd k = nn d) {C : Nat → pA → pA} (hC : ∀ d r, wr np r → cn r → wr np (C d r) ∧ cn (C d r)) {f1 f2 f3 : Int32} (hf : ∀ d r, d < 41 → wr np r → cn r → (if nn d = f1 then e_hB_X9_changes r f2 f3 else some r) = some (C d r)) : e_hB_X9_wrongClaim x (nn nu) kind sort w (nn nl) dy on wh ot lapse (nn np) lands (nn nc) cd cu cp f1 f2 f3 = some (fwA (lw (badC cu cp cd (morF nu np lapse kind sort lands w nl wh on ot dy C)) nc 0), morF nu np lapse kind sort lands w nl wh on ot dy C 41) := by
  unfold e_hB_X9_wrongClaim
  rw [qr_starts hn hp hw hx, Option.bind_some]
  have e0 : lw (badD cu cp cd (morF nu np lapse kind sort lands w nl wh on ot dy C) 0) nc 0 = 6 := (lw_six hc nc 0 (by omega)).mpr fun j _ _ => by simp [badD]
  have e1 : lw (badD cu cp cd (morF nu np lapse kind sort lands w nl wh on ot dy C) 41) nc 0 = lw (badC cu cp cd (morF nu np lapse kind sort lands w nl wh on ot dy C)) nc 0 := by
    refine lw_congr (n := nc) (fun k hkk => ?_) nc 0 (by omega)
    obtain ⟨_, dd, hdd, ed⟩ := hcl k hkk
    unfold badD
    rw [ed, nn_nat (by omega)]
    simp [hdd]
  have := pr_wc15 (kind := kind) (sort := sort) (lands := lands) (dy := dy) hn hp hl hc hla hk hw hcl hC hf (cp := cp) (K := (fun l4_15 l5_15 ma2_15 => if l4_15 = (6 : Int32) then some ((-2 : Int32), ma2_15) else some (l4_15, ma2_15))) 41 0 200000 (by omega) (by omega)
  rw [e0, e1] at this
  refine Eq.trans (Eq.trans rfl this) ?_
  have hg := lw_ge (P := badC cu cp cd (morF nu np lapse kind sort lands w nl wh on ot dy C)) nc 0 (by omega)
  unfold fwA
  by_cases q : lw (badC cu cp cd (morF nu np lapse kind sort lands w nl wh on ot dy C)) nc 0 = 6
  · rw [q]; rfl
  · rw [if_neg q, if_neg (by rw [show (6 : Int32) = nn 6 from rfl, nn_inj (by omega) (by omega)]; exact q)]
theorem hf_no {np : Nat} : ∀ (d : Nat) (r : pA), d < 41 → wr np r → cn r → (if nn d = (-1 : Int32) then e_hB_X9_changes r 0 0 else some r) = some (cNo d r) := fun d r hd _ _ => by
  rw [if_neg (by rw [nn_ne1 (by omega)]; exact fun z => z)]
  rfl
theorem hf_at {np day u v : Nat} (hday : day < 41) (hu : u < 5) (hv : v < 5) : ∀ (d : Nat) (r : pA), d < 41 → wr np r → cn r → (if nn d = nn day then e_hB_X9_changes r (nn u) (nn v) else some r) = some (cAt day u v d r) := fun d r hd _ _ => by
  unfold cAt
  by_cases q : d = day
  · rw [if_pos (by rw [q]), if_pos q]
    unfold e_hB_X9_changes swp
    simp (disch := omega) only [nn_0add, xix_nn, nn_nat]
  · rw [if_neg (by rw [nn_inj (by omega) (by omega)]; exact q), if_neg q]
/-! the class -/
theorem qc_claimIsSo {np nu nc i : Nat} (hp : np ≤ 6) (hn : nu ≤ 5) (hc : nc ≤ 6) {X : Nat → pA} (hX : ∀ d, wr np (X d) ∧ cn (X d)) {b : Nat → Int64} (hb : ∀ j, j ≤ 41 → b j = ll (pkR (X j))) {cd cu cp : pA} (hcl : ∀ k, k < nc → (∃ u, u < nu ∧ cu k = nn u) ∧ ∃ d, d < 41 ∧ cd k = nn d) (hi : i < nc) (g : Int32) (t h : pA) : ∃ d' t' h', e_hA_X0_claimIsSo cd b g t h cu cp (nn i) = some (if badC cu cp cd X i = true then 0 else 1, d', t', h') := by
  obtain ⟨⟨u, hu, eu⟩, d, hd, ed⟩ := hcl i hi
  obtain ⟨d', t', h', e1, e2⟩ := qc_behind hp hX hb g t h hd
  refine ⟨d', t', h', ?_⟩
  unfold e_hA_X0_claimIsSo badC
  have e3 : t' u = X (d + 1) (5 + u) := by rw [← e2, mkr_t (by omega)]
  simp (disch := omega) only [xix_nn, nn_nat, ed, e1, Option.bind_some, eu, e3]
  by_cases q : X (d + 1) (5 + u) = cp i
  · simp [q]
  · simp [q]
theorem pc_judge {np nu nc : Nat} (hp : np ≤ 6) (hn : nu ≤ 5) (hc : nc ≤ 6) {X : Nat → pA} (hX : ∀ d, wr np (X d) ∧ cn (X d)) {b : Nat → Int64} (hb : ∀ j, j ≤ 41 → b j = ll (pkR (X j))) {cd cu cp : pA} (hcl : ∀ k, k < nc → (∃ u, u < nu ∧ cu k = nn u) ∧ ∃ d, d < 41 ∧ cd k = nn d) {p0 g34 : Int32} : ∀ (m k F : Nat) (g : Int32) (t h : pA), k + m = nc → m < F → ∃ d' t' h', L_hA_X7_judge_15 p0 (nn nc) g34 cd b cu cp (fun l1_15 mg24_15 ma33_15 ma32_15 => ((e_hA_X7_answer g34 (-2 : Int32)).bind fun z59 => some (z59.1, z59.2, mg24_15, ma33_15, ma32_15))) F (nn k) g t h = some (fwA (lw (badC cu cp cd X) m k), 0, d', t', h') := by
  intro m
  induction m with
  | zero =>
    intro k F g t h e hF
    obtain ⟨F, rfl⟩ : ∃ f, F = f + 1 := ⟨F - 1, by omega⟩
    obtain rfl : k = nc := by omega
    refine ⟨g, t, h, ?_⟩
    simp (disch := omega) only [L_hA_X7_judge_15, nn_le, Nat.le_refl, ↓reduceIte]
    rfl
  | succ m ih =>
    intro k F g t h e hF
    obtain ⟨F, rfl⟩ : ∃ f, F = f + 1 := ⟨F - 1, by omega⟩
    have hk : ¬ nc ≤ k := by omega
    obtain ⟨d1, t1, h1, e1⟩ := qc_claimIsSo hp hn hc hX hb hcl (show k < nc by omega) g t h (cp := cp)
    simp only [lw]
    by_cases q : badC cu cp cd X k = true
    · refine ⟨d1, t1, h1, ?_⟩
      rw [if_pos q] at e1 ⊢
      simp (disch := omega) only [L_hA_X7_judge_15, nn_le, hk, ↓reduceIte, e1, Option.bind_some]
      unfold fwA
      rw [if_neg (by omega)]
      rfl
    · obtain ⟨d', t', h', ee⟩ := ih (k + 1) F d1 t1 h1 (by omega) (by omega)
      refine ⟨d', t', h', ?_⟩
      rw [if_neg q] at e1 ⊢
      rw [← ee]
      simp (disch := omega) only [L_hA_X7_judge_15, nn_le, hk, ↓reduceIte, e1, Option.bind_some, nn_succ, nz10]
section CLAIM
variable {np nu nl nc tp na nm : Nat} {la gu ra : Int32} {g7 g8 g9 g10 g11 g12 g13 g14 g15 g17 g18 g19 g20 g21 g22 g23 g24 g25 g26 g27 g28 g29 g30 g31 g32 g33 g34 : Int32} {a0 a1 a2 a3 a4 a5 a6 a7 a8 a9 a10 a11 a12 a13 a14 a15 a16 a17 a18 a19 a20 a21 a22 a23 a24 a25 a26 a27 a28 a29 a30 a31 a32 a33 a34 a35 a36 a37 a38 a39 : pA} {b0 b1 b2 b3 b4 : Nat → Int64} {w0 : Int64}
variable {G0 G2 G4 G5 G6 G7 G8 G10 G13 G14 G15 G16 G17 G18 G26 : Int32} {A0 A2 A3 A4 A5 A6 A7 A8 A9 A10 A11 A12 A13 A14 A15 A16 A17 A18 A19 A20 A21 A22 A23 : pA} {B0 : Nat → Int64} {W0 : Int64} {rb : Nat}
theorem Cty.cl (H : Cty np nu nl nc la gu ra a0 a1 a2 a3 a4 a5 a6 a7 a8 a10 a11 a12 A10 A11 A12 A13 A14 A15 A16 A17 A18 A19 A20 A21) : ∀ k, k < nc → (∃ u, u < nu ∧ a10 k = nn u) ∧ ∃ d, d < 41 ∧ a12 k = nn d := fun k hk => by
  obtain ⟨_, _, _, h4, h5⟩ := H.2.2.2.2.2.2.2.2.2.2.2.2 k hk
  exact ⟨h4, h5⟩
theorem Cty.clr (H : Cty np nu nl nc la gu ra a0 a1 a2 a3 a4 a5 a6 a7 a8 a10 a11 a12 A10 A11 A12 A13 A14 A15 A16 A17 A18 A19 A20 A21) : ∀ k, k < nc → (∃ u, u < nu ∧ A20 k = nn u) ∧ ∃ d, d < 41 ∧ A21 k = nn d := fun k hk => by
  obtain ⟨h1, _, h3, h4, h5⟩ := H.2.2.2.2.2.2.2.2.2.2.2.2 k hk
  rw [← h1, ← h3]
  exact ⟨h4, h5⟩
theorem Cty.bad (H : Cty np nu nl nc la gu ra a0 a1 a2 a3 a4 a5 a6 a7 a8 a10 a11 a12 A10 A11 A12 A13 A14 A15 A16 A17 A18 A19 A20 A21) (X : Nat → pA) : lw (badC A20 A19 A21 X) nc 0 = lw (badC a10 a11 a12 X) nc 0 := by
  refine lw_congr (n := nc) (fun k hk => ?_) nc 0 (by omega)
  obtain ⟨h1, h2, h3, _, _⟩ := H.2.2.2.2.2.2.2.2.2.2.2.2 k hk
  unfold badC
  rw [h1, h2, h3]
theorem C_judge (I : IC np nu nl nc tp na nm la gu ra g22 g25 g26 g33 g34 G2 a0 a1 a2 a3 a4 a5 a6 a7 a8 a10 a11 a12 a13 a27 a28 a31 b2 b3 b4 A0 A2 A3 A4 A10 A11 A12 A13 A14 A15 A16 A17 A18 A19 A20 A21) : ∃ (v : Int32) (c : Int32) (g24' : Int32) (a33' : (Nat → Int32)) (a32' : (Nat → Int32)) (A2' : (Nat → Int32)), e_hA_X7_judge (nn nu) (nn nc) g34 a12 b2 g24 a33 a32 a10 a11 = some (v, c, g24', a33', a32') ∧ e_hB_X9_judge G0 A2 (nn nu) A11 A10 A14 (nn nl) A18 A16 A15 A17 la (nn np) A12 (nn nc) A21 A20 A19 g34 G2 = some (v, 0, A2', c, (-1)) ∧ c ≠ 4 ∧ cn A2' := by
  obtain ⟨⟨hp1, hp, hn1, hn, hl, hc⟩, ⟨hla, hgu, hra⟩, eS, eK, eL, eR, eW, bL, bR, wW, eG, oG, eC⟩ := I.1
  have hX := mor_ok I.1 (C := cNo) cNo_ok
  obtain ⟨d', t', h', e1⟩ := pc_judge hp hn hc hX I.2.2.2.2.2.2.1.1 I.1.cl (cp := a11) (p0 := nn nu) (g34 := g34) nc 0 200000 g24 a33 a32 (by omega) (by omega)
  refine ⟨fwA (lw (badC a10 a11 a12 (mor np nu nl la a0 a1 a2 a4 a5 a6 a7 a8 cNo)) nc 0), 0, d', t', h', mor np nu nl la a0 a1 a2 a4 a5 a6 a7 a8 cNo 41, ?_, ?_, by decide, (hX 41).2⟩
  · unfold e_hA_X7_judge
    rw [isT1 hn1 hn, Option.bind_some, if_neg (by decide)]
    exact e1
  · unfold e_hB_X9_judge
    rw [qr_wrongClaim hn hp hl hc (la_pos hla) I.2.2.2.1 (oGr I.1) (wWr I.1) I.1.clr cNo_ok hf_no, Option.bind_some, show morF nu np la A11 A10 A12 A14 nl A15 A16 A17 A18 cNo = mor np nu nl la a0 a1 a2 a4 a5 a6 a7 a8 cNo from funext (mor_eq I.1 cNo_ok), I.1.bad]
    rfl
end CLAIM
