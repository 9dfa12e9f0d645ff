/-! THE PURE PART: a day that passes, by the class -/
theorem mkr_n {h t : pA} {d : Int32} {k : Nat} (hk : 11 ≤ k) : mkr h t d k = 0 := by
  simp [mkr, show ¬ k < 5 by omega, show ¬ k < 10 by omega, show ¬ k = 10 by omega]
/-- a row that is nothing beyond its eleven -/
def cn (r : pA) : Prop := ∀ k, 11 ≤ k → r k = 0
theorem cn_mkr (h t : pA) (d : Int32) : cn (mkr h t d) := fun _ hk => mkr_n hk
theorem cn_eq {r s : pA} (hr : cn r) (hs : cn s) (h : ∀ k, k < 11 → r k = s k) : r = s := by
  funext k
  by_cases e : k < 11
  · exact h k e
  · rw [hr k (by omega), hs k (by omega)]
theorem cn_upd {r : pA} {k : Nat} {v : Int32} (h : cn r) (hk : k < 11) : cn (upd r k v) := fun j hj => by
  rw [upd_ne _ _ (by omega)]; exact h j hj
theorem mkr_eta {r : pA} (h : cn r) : mkr r (fun u => r (5 + u)) (r 10) = r := by
  refine cn_eq (cn_mkr _ _ _) h fun k hk => ?_
  unfold mkr
  split
  · rfl
  · split
    · simp only
      congr 1
      omega
    · rw [if_pos (by omega)]
      congr 1
      omega
theorem mkr_congr {h h' t t' : pA} {d : Int32} (e1 : ∀ u, u < 5 → h u = h' u) (e2 : ∀ u, u < 5 → t u = t' u) : mkr h t d = mkr h' t' d := by
  funext k
  unfold mkr
  split
  · exact e1 _ (by assumption)
  · split
    · exact e2 _ (by omega)
    · rfl
theorem lt0_2 : ((-2 : Int32) < 0) = True := by decide
theorem qc_takeTitle {np u : Nat} {h sort t : pA} (hu : u < 5) (hp : np ≤ 6) (hw : wv np (h u)) (d : Int32) : ∃ t', e_hA_X3_takeTitle h sort t (nn u) = some t' ∧ mkr h t' d = sTake sort (mkr h t d) u := by
  unfold e_hA_X3_takeTitle sTake
  rw [mkr_h hu]
  rcases hw with e | ⟨p, hpp, e⟩
  · refine ⟨t, ?_, ?_⟩
    · simp (disch := omega) only [xix_nn, nn_nat, e, lt0_2, ↓reduceIte]
    · rw [if_pos (Or.inl e)]
  · by_cases q : sort p = 1
    · refine ⟨t, ?_, ?_⟩
      · simp (disch := omega) only [xix_nn, nn_nat, e, nn_pos, ↓reduceIte, q]
      · rw [e, if_pos (Or.inr (by rw [nn_nat (by omega)]; exact q))]
    · refine ⟨upd t u (nn p), ?_, ?_⟩
      · simp (disch := omega) only [xix_nn, nn_nat, e, nn_pos, ↓reduceIte, q]
      · rw [e, if_neg (fun z => ?_), mkr_ut hu]
        rcases z with z | z
        · rw [nn_ne2 (by omega)] at z; exact z
        · rw [nn_nat (by omega)] at z; exact q z
theorem pc_passDay_2 {nu np : Nat} (hn : nu ≤ 5) (hp : np ≤ 6) {dry lapse rain : Int32} {sort h lands kind : pA} {K : Int32 → pA → Option (Int32 × pA × pA)} (hb : rain = 0 ∨ rain = 1) (hw : ∀ u, u < 5 → wv np (h u)) (d : Int32) : ∀ (m k F : Nat) (t : pA), k + m = nu → m < F → ∃ t', L_hA_X3_passDay_2 (nn nu) dry (nn np) sort h lands lapse kind rain K F (nn k) t = K (nn nu) t' ∧ mkr h t' d = sTitles kind sort rain m k (mkr h t d) := by
  intro m
  induction m with
  | zero =>
    intro k F t e hF
    obtain ⟨F, rfl⟩ : ∃ f, F = f + 1 := ⟨F - 1, by omega⟩
    obtain rfl : k = nu := by omega
    refine ⟨t, ?_, rfl⟩
    simp (disch := omega) only [L_hA_X3_passDay_2, nn_le, Nat.le_refl, ↓reduceIte]
  | succ m ih =>
    intro k F t e hF
    obtain ⟨F, rfl⟩ : ∃ f, F = f + 1 := ⟨F - 1, by omega⟩
    have hk : ¬ nu ≤ k := by omega
    simp only [sTitles]
    obtain ⟨t2, e1, e2⟩ := qc_takeTitle (sort := sort) (t := t) (show k < 5 by omega) hp (hw k (by omega)) d
    by_cases k2 : kind k = 2
    · obtain ⟨t', g1, g2⟩ := ih (k + 1) F t (by omega) (by omega)
      refine ⟨t', ?_, ?_⟩
      · rw [← g1]
        simp (disch := omega) only [L_hA_X3_passDay_2, nn_le, hk, ↓reduceIte, xix_nn, nn_nat, nn_succ, k2]
      · rw [g2]; simp only [k2, ↓reduceIte]
    · by_cases k3 : kind k = 3
      · rcases hb with rfl | rfl
        · obtain ⟨t', g1, g2⟩ := ih (k + 1) F t2 (by omega) (by omega)
          refine ⟨t', ?_, ?_⟩
          · rw [← g1]
            simp (disch := omega) only [L_hA_X3_passDay_2, nn_le, hk, ↓reduceIte, xix_nn, nn_nat, nn_succ, k2, k3, nz10, e1, Option.bind_some, show ((3 : Int32) = 2) = False from by decide]
          · rw [g2, e2]; simp only [k2, k3, ↓reduceIte, show ((3 : Int32) = 2) = False from by decide]
        · obtain ⟨t', g1, g2⟩ := ih (k + 1) F t (by omega) (by omega)
          refine ⟨t', ?_, ?_⟩
          · rw [← g1]
            simp (disch := omega) only [L_hA_X3_passDay_2, nn_le, hk, ↓reduceIte, xix_nn, nn_nat, nn_succ, k2, k3, show ((3 : Int32) = 2) = False from by decide]
          · rw [g2]; simp only [k2, k3, ↓reduceIte, nz10, show ((3 : Int32) = 2) = False from by decide]
      · rcases hb with rfl | rfl
        · obtain ⟨t', g1, g2⟩ := ih (k + 1) F t (by omega) (by omega)
          refine ⟨t', ?_, ?_⟩
          · rw [← g1]
            simp (disch := omega) only [L_hA_X3_passDay_2, nn_le, hk, ↓reduceIte, xix_nn, nn_nat, nn_succ, k2, k3]
          · rw [g2]; simp only [k2, k3, ↓reduceIte]
        · obtain ⟨t', g1, g2⟩ := ih (k + 1) F t2 (by omega) (by omega)
          refine ⟨t', ?_, ?_⟩
          · rw [← g1]
            simp (disch := omega) only [L_hA_X3_passDay_2, nn_le, hk, ↓reduceIte, xix_nn, nn_nat, nn_succ, k2, k3, nz01, e1, Option.bind_some]
          · rw [g2, e2]; simp only [k2, k3, ↓reduceIte, nz10]
theorem pc_lapse {nu : Nat} (hn : nu ≤ 5) {kind h : pA} {d : Int32} {K : Int32 → pA → Option pA} : ∀ (m k F : Nat) (t : pA), k + m = nu → m < F → ∃ t', L_hA_X3_lapse_2 (nn nu) kind K F (nn k) t = K (nn nu) t' ∧ mkr h t' d = sLapse kind m k (mkr h t d) := by
  intro m
  induction m with
  | zero =>
    intro k F t e hF
    obtain ⟨F, rfl⟩ : ∃ f, F = f + 1 := ⟨F - 1, by omega⟩
    obtain rfl : k = nu := by omega
    refine ⟨t, ?_, rfl⟩
    simp (disch := omega) only [L_hA_X3_lapse_2, nn_le, Nat.le_refl, ↓reduceIte]
  | succ m ih =>
    intro k F t e hF
    obtain ⟨F, rfl⟩ : ∃ f, F = f + 1 := ⟨F - 1, by omega⟩
    have hk : ¬ nu ≤ k := by omega
    simp only [sLapse]
    by_cases q : kind k = 0
    · obtain ⟨t', g1, g2⟩ := ih (k + 1) F t (by omega) (by omega)
      refine ⟨t', ?_, ?_⟩
      · rw [← g1]
        simp (disch := omega) only [L_hA_X3_lapse_2, nn_le, hk, ↓reduceIte, xix_nn, nn_nat, nn_succ, q]
      · rw [g2]; simp only [q, ↓reduceIte]
    · obtain ⟨t', g1, g2⟩ := ih (k + 1) F (upd t k (-2)) (by omega) (by omega)
      refine ⟨t', ?_, ?_⟩
      · rw [← g1]
        simp (disch := omega) only [L_hA_X3_lapse_2, nn_le, hk, ↓reduceIte, xix_nn, nn_nat, nn_succ, q]
      · rw [g2, mkr_ut (by omega)]; simp only [q, ↓reduceIte]
theorem sCount_le {r : pA} {p : Int32} : ∀ (m k c : Nat), sCount r p m k c ≤ c + m := by
  intro m
  induction m with
  | zero => intro k c; exact Nat.le_refl _
  | succ m ih =>
    intro k c
    simp only [sCount]
    split
    · have := ih (k + 1) (c + 1); omega
    · have := ih (k + 1) c; omega
theorem pc_forget {nu : Nat} (hn : nu ≤ 5) {lands h r : pA} (hr : ∀ u, u < 5 → r u = h u) {p : Int32} {K : Int32 → Int32 → Int32 → Option pA} : ∀ (m k F c : Nat) (least : Int32), k + m = nu → m < F → c ≤ k → (least = -1 ∨ ∃ j, j < k ∧ least = nn j) → L_hA_X3_forgetOne_8 (nn nu) h lands p K F (nn c) least (nn k) = K (nn (sCount r p m k c)) (sLeast lands r p m k least) (nn nu) := by
  intro m
  induction m with
  | zero =>
    intro k F c least e hF _ _
    obtain ⟨F, rfl⟩ : ∃ f, F = f + 1 := ⟨F - 1, by omega⟩
    obtain rfl : k = nu := by omega
    simp (disch := omega) only [L_hA_X3_forgetOne_8, nn_le, Nat.le_refl, ↓reduceIte, sCount, sLeast]
  | succ m ih =>
    intro k F c least e hF hc hl
    obtain ⟨F, rfl⟩ : ∃ f, F = f + 1 := ⟨F - 1, by omega⟩
    have hk : ¬ nu ≤ k := by omega
    have ihk : ∀ (c2 : Nat) (l2 : Int32), c2 ≤ k + 1 → (l2 = -1 ∨ ∃ j, j < k + 1 ∧ l2 = nn j) → L_hA_X3_forgetOne_8 (nn nu) h lands p K F (nn c2) l2 (nn (k + 1)) = K (nn (sCount r p m (k + 1) c2)) (sLeast lands r p m (k + 1) l2) (nn nu) := fun c2 l2 h1 h2 => ih (k + 1) F c2 l2 (by omega) (by omega) h1 h2
    simp (disch := omega) only [L_hA_X3_forgetOne_8, nn_le, hk, ↓reduceIte, xix_nn, nn_nat, nn_succ, sLeast, sCount, hr k (by omega)]
    by_cases q : h k = p
    · simp only [q, ↓reduceIte]
      rcases hl with rfl | ⟨j, hj, rfl⟩
      · simp only [↓reduceIte]
        exact ihk _ _ (by omega) (Or.inr ⟨k, by omega, rfl⟩)
      · simp (disch := omega) only [nn_ne1, ↓reduceIte, xix_nn, nn_nat]
        by_cases q2 : lands j ≤ lands k
        · simp only [q2, ↓reduceIte]
          exact ihk _ _ (by omega) (Or.inr ⟨j, by omega, rfl⟩)
        · simp only [q2, ↓reduceIte]
          exact ihk _ _ (by omega) (Or.inr ⟨k, by omega, rfl⟩)
    · simp only [q, ↓reduceIte]
      exact ihk _ _ (by omega) (hl.imp_right fun ⟨j, hj, e⟩ => ⟨j, by omega, e⟩)
theorem qc_forgetOne {nu : Nat} (hn : nu ≤ 5) (lands h t : pA) (d p : Int32) : ∃ h', e_hA_X3_forgetOne (nn nu) h lands p = some h' ∧ mkr h' t d = sForget nu lands (mkr h t d) p := by
  have e0 : e_hA_X3_forgetOne (nn nu) h lands p = _ := pc_forget hn (r := mkr h t d) (fun u hu => mkr_h hu) nu 0 200000 0 (-1) (by omega) (by omega) (by omega) (Or.inl rfl)
  rw [e0]
  have hc := sCount_le (r := mkr h t d) (p := p) nu 0 0
  have hle : (nn (sCount (mkr h t d) p nu 0 0) ≤ (1 : Int32)) = (sCount (mkr h t d) p nu 0 0 ≤ 1) := nn_le (b := 1) (by omega) (by omega)
  simp only [hle]
  by_cases q : sCount (mkr h t d) p nu 0 0 ≤ 1
  · refine ⟨h, if_pos q, ?_⟩
    unfold sForget
    rw [if_pos (by omega)]
  · rw [if_neg q]
    rcases sLeast_ok (lands := lands) (r := mkr h t d) (p := p) nu 0 (-1) 0 (Or.inl ⟨rfl, rfl⟩) with ⟨_, h2⟩ | ⟨j, hj, e1⟩
    · omega
    · refine ⟨upd h j (-2), ?_, ?_⟩
      · rw [e1]
        simp (disch := omega) only [nn_pos, ↓reduceIte, xix_nn, nn_nat]
      · unfold sForget
        rw [if_neg (by omega), e1, nn_nat (by omega), mkr_uh (by omega)]
theorem pc_passDay_96 {nu np : Nat} (hn : nu ≤ 5) (hp : np ≤ 6) {dry lapse : Int32} {sort lands kind t : pA} {K : Int32 → pA → Option (Int32 × pA × pA)} (d : Int32) : ∀ (m k F : Nat) (h : pA), k + m = np → m < F → ∃ h', L_hA_X3_passDay_96 (nn nu) dry (nn np) sort lands lapse kind t K F (nn k) h = K (nn np) h' ∧ mkr h' t d = sForgets nu sort lands m k (mkr h t d) := by
  intro m
  induction m with
  | zero =>
    intro k F h e hF
    obtain ⟨F, rfl⟩ : ∃ f, F = f + 1 := ⟨F - 1, by omega⟩
    obtain rfl : k = np := by omega
    refine ⟨h, ?_, rfl⟩
    simp (disch := omega) only [L_hA_X3_passDay_96, nn_le, Nat.le_refl, ↓reduceIte]
  | succ m ih =>
    intro k F h e hF
    obtain ⟨F, rfl⟩ : ∃ f, F = f + 1 := ⟨F - 1, by omega⟩
    have hk : ¬ np ≤ k := by omega
    simp only [sForgets]
    by_cases q : sort k = 2
    · obtain ⟨h2, e1, e2⟩ := qc_forgetOne hn lands h t d (nn k)
      obtain ⟨h', g1, g2⟩ := ih (k + 1) F h2 (by omega) (by omega)
      refine ⟨h', ?_, ?_⟩
      · rw [← g1]
        simp (disch := omega) only [L_hA_X3_passDay_96, nn_le, hk, ↓reduceIte, xix_nn, nn_nat, nn_succ, q, e1, Option.bind_some]
      · rw [g2, e2]; simp only [q, ↓reduceIte]
    · obtain ⟨h', g1, g2⟩ := ih (k + 1) F h (by omega) (by omega)
      refine ⟨h', ?_, ?_⟩
      · rw [← g1]
        simp (disch := omega) only [L_hA_X3_passDay_96, nn_le, hk, ↓reduceIte, xix_nn, nn_nat, nn_succ, q]
      · rw [g2]; simp only [q, ↓reduceIte]
theorem mkr_d2 {h t : pA} {d v : Int32} : upd (mkr h t d) 10 v = mkr h t v := mkr_ud.symm
theorem dry_min {d : Nat} (hd : d ≤ 30) : (if (30 : Int32) < nn d + 1 then (30 : Int32) else nn d + 1) = sDry 0 (nn d) := by
  unfold sDry
  simp (disch := omega) only [nn_succ, n30, nn_lt, nn_le, ↓reduceIte]
  by_cases q : 30 ≤ d
  · rw [if_pos q, if_pos (by omega)]
    congr 1
    omega
  · rw [if_neg q, if_neg (by omega)]
theorem qc_passDay {nu np : Nat} (hn : nu ≤ 5) (hp : np ≤ 6) {lapse rain dry : Int32} (hl : (0 : Int32) < lapse) (hb : rain = 0 ∨ rain = 1) {sort lands kind h t : pA} (hw : ∀ u, u < 5 → wv np (h u)) {d : Nat} (hd : d ≤ 30) (ed : dry = nn d) : ∃ d' h' t', e_hA_X3_passDay (nn nu) dry (nn np) sort h lands lapse kind t rain = some (d', h', t') ∧ mkr h' t' d' = sEnds nu np lapse kind sort lands rain (mkr h t dry) := by
  subst ed
  unfold e_hA_X3_passDay
  obtain ⟨t1, e1, e2⟩ := pc_passDay_2 hn hp (dry := nn d) (lapse := lapse) (rain := rain) (sort := sort) (h := h) (lands := lands) (kind := kind) (K := (fun l3_2 ma33_2 => if rain = (0 : Int32) then if rain = (0 : Int32) then if (if (30 : Int32) < (nn d + (1 : Int32)) then (30 : Int32) else (nn d + (1 : Int32))) < lapse then L_hA_X3_passDay_96 (nn nu) (if (30 : Int32) < (nn d + (1 : Int32)) then (30 : Int32) else (nn d + (1 : Int32))) (nn np) sort lands lapse kind ma33_2  (fun l3_96 ma32_96 => some ((if (30 : Int32) < (nn d + (1 : Int32)) then (30 : Int32) else (nn d + (1 : Int32))), ma32_96, ma33_2)) 200000 (0 : Int32) h else ((e_hA_X3_lapse (nn nu) kind ma33_2).bind fun z91 => L_hA_X3_passDay_96 (nn nu) (if (30 : Int32) < (nn d + (1 : Int32)) then (30 : Int32) else (nn d + (1 : Int32))) (nn np) sort lands lapse kind z91  (fun l3_96 ma32_96 => some ((if (30 : Int32) < (nn d + (1 : Int32)) then (30 : Int32) else (nn d + (1 : Int32))), ma32_96, z91)) 200000 (0 : Int32) h) else L_hA_X3_passDay_96 (nn nu) (if (30 : Int32) < (nn d + (1 : Int32)) then (30 : Int32) else (nn d + (1 : Int32))) (nn np) sort lands lapse kind ma33_2  (fun l3_96 ma32_96 => some ((if (30 : Int32) < (nn d + (1 : Int32)) then (30 : Int32) else (nn d + (1 : Int32))), ma32_96, ma33_2)) 200000 (0 : Int32) h else if rain = (0 : Int32) then if (0 : Int32) < lapse then L_hA_X3_passDay_96 (nn nu) (0 : Int32) (nn np) sort lands lapse kind ma33_2  (fun l3_96 ma32_96 => some ((0 : Int32), ma32_96, ma33_2)) 200000 (0 : Int32) h else ((e_hA_X3_lapse (nn nu) kind ma33_2).bind fun z91 => L_hA_X3_passDay_96 (nn nu) (0 : Int32) (nn np) sort lands lapse kind z91  (fun l3_96 ma32_96 => some ((0 : Int32), ma32_96, z91)) 200000 (0 : Int32) h) else L_hA_X3_passDay_96 (nn nu) (0 : Int32) (nn np) sort lands lapse kind ma33_2  (fun l3_96 ma32_96 => some ((0 : Int32), ma32_96, ma33_2)) 200000 (0 : Int32) h)) hb hw (nn d) nu 0 200000 t (by omega) (by omega)
  rw [← nn_0] at e1
  rw [e1]
  clear e1
  simp only [dry_min hd]
  have f96 : ∀ (t2 : pA) (dd : Int32), ∃ h', L_hA_X3_passDay_96 (nn nu) dd (nn np) sort lands lapse kind t2 (fun _ ma32_96 => some (dd, ma32_96, t2)) 200000 0 h = some (dd, h', t2) ∧ mkr h' t2 dd = sForgets nu sort lands np 0 (mkr h t2 dd) := fun t2 dd => by
    have := pc_passDay_96 hn hp (dry := dd) (lapse := lapse) (sort := sort) (lands := lands) (kind := kind) (t := t2) (K := fun _ ma32_96 => some (dd, ma32_96, t2)) dd np 0 200000 h (by omega) (by omega)
    exact this
  unfold sEnds sPass
  rw [show mkr h t (nn d) 10 = nn d from mkr_d, ← e2]
  rcases hb with rfl | rfl
  · simp only [↓reduceIte, mkr_d2, true_and]
    by_cases q : sDry 0 (nn d) < lapse
    · simp only [q, ↓reduceIte, not_true_eq_false]
      obtain ⟨h', g1, g2⟩ := f96 t1 (sDry 0 (nn d))
      exact ⟨_, _, _, g1, g2⟩
    · simp only [q, ↓reduceIte, not_false_eq_true]
      obtain ⟨t2, l1, l2⟩ := pc_lapse hn (kind := kind) (h := h) (d := sDry 0 (nn d)) (K := fun _ ma33_2 => some ma33_2) nu 0 200000 t1 (by omega) (by omega)
      have l1' : e_hA_X3_lapse (nn nu) kind t1 = some t2 := l1
      rw [l1', Option.bind_some, ← l2]
      obtain ⟨h', g1, g2⟩ := f96 t2 (sDry 0 (nn d))
      exact ⟨_, _, _, g1, g2⟩
  · simp only [nz10, ↓reduceIte, mkr_d2, false_and, sDry]
    obtain ⟨h', g1, g2⟩ := f96 t1 0
    exact ⟨_, _, _, g1, g2⟩
theorem mkr_c {r : pA} (hr : cn r) : ∃ h t d, r = mkr h t d := ⟨_, _, _, (mkr_eta hr).symm⟩
theorem wr_h {np : Nat} {h t : pA} {d : Int32} (hw : wr np (mkr h t d)) : ∀ u, u < 5 → wv np (h u) := fun u hu => by
  have := hw.1 u hu
  rwa [mkr_h hu] at this
theorem wr_t {np : Nat} {h t : pA} {d : Int32} (hw : wr np (mkr h t d)) : ∀ u, u < 5 → wv np (t u) := fun u hu => by
  have := hw.2.1 u hu
  rwa [mkr_t hu] at this
theorem wr_d {np : Nat} {h t : pA} {d : Int32} (hw : wr np (mkr h t d)) : ∃ k, k ≤ 30 ∧ d = nn k := by
  have := hw.2.2
  rwa [mkr_d] at this
/-- passDay, over rows -/
theorem qc_pass {nu np : Nat} (hn : nu ≤ 5) (hp : np ≤ 6) {lapse rain dry : Int32} (hl : (0 : Int32) < lapse) (hb : rain = 0 ∨ rain = 1) {sort lands kind h t : pA} (hw : wr np (mkr h t dry)) : ∃ d' h' t', e_hA_X3_passDay (nn nu) dry (nn np) sort h lands lapse kind t rain = some (d', h', t') ∧ mkr h' t' d' = sEnds nu np lapse kind sort lands rain (mkr h t dry) := by
  obtain ⟨d, hd, ed⟩ := wr_d hw
  exact qc_passDay hn hp hl hb (wr_h hw) hd ed
theorem sEnds_cn {nu np : Nat} (hn : nu ≤ 5) (hp : np ≤ 6) {lapse rain : Int32} (hl : (0 : Int32) < lapse) (hb : rain = 0 ∨ rain = 1) {sort lands kind r : pA} (hw : wr np r) (hc : cn r) : cn (sEnds nu np lapse kind sort lands rain r) := by
  obtain ⟨h, t, d, rfl⟩ := mkr_c hc
  obtain ⟨d', h', t', _, e⟩ := qc_pass (lands := lands) (sort := sort) (kind := kind) hn hp hl hb hw
  rw [← e]
  exact cn_mkr _ _ _
