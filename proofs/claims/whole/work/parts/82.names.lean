/-! THE PURE PART: names -/
def heads : List (List Nat) := [[25, 20, 14, 21, 15, 3], [14, 15, 19, 18, 5, 16], [1, 12, 12, 5, 18, 2, 13, 21], [20, 14, 5, 12], [20, 6, 5, 12], [4, 5, 7, 14, 1, 8, 3], [14, 9, 1, 18], [19, 13, 9, 1, 12, 3]]
theorem lookr_none {r : List Nat} : ∀ (ws : List (List Nat)) (i : Int32), ¬ r ∈ ws → lookr r ws i = -1 := by
  intro ws
  induction ws with
  | nil => intro i _; rfl
  | cons w ws ih =>
    intro i h
    simp only [lookr]
    rw [if_neg (fun z => h (by rw [z]; exact List.mem_cons_self ..)), ih (i + 1) (fun z => h (List.mem_cons_of_mem _ z))]
theorem lookr_some {r : List Nat} : ∀ (ws : List (List Nat)) (i : Nat), r ∈ ws → ∃ j, j < ws.length ∧ lookr r ws (nn i) = nn (i + j) := by
  intro ws
  induction ws with
  | nil => intro i h; exact absurd h (List.not_mem_nil)
  | cons w ws ih =>
    intro i h
    simp only [lookr]
    by_cases q : r = w
    · exact ⟨0, by rw [List.length_cons]; omega, if_pos q⟩
    · rw [if_neg q, nn_succ]
      obtain ⟨j, j1, j2⟩ := ih (i + 1) ((List.mem_cons.mp h).resolve_left q)
      exact ⟨j + 1, by rw [List.length_cons]; omega, by rw [j2, show i + 1 + j = i + (j + 1) by omega]⟩
theorem cn_name {r : List Nat} (hr : okw r) : e_hA_X5_isName 1 (ll (enr 27 r)) = some (if r ∈ heads then 0 else 1) := by
  unfold e_hA_X5_isName
  rw [if_pos rfl, am_1 hr, Option.bind_some]
  by_cases q : r ∈ heads
  · obtain ⟨j, j1, j2⟩ := lookr_some heads 0 q
    have j3 : j < 8 := j1
    rw [if_pos q, show lookr r [[25, 20, 14, 21, 15, 3], [14, 15, 19, 18, 5, 16], [1, 12, 12, 5, 18, 2, 13, 21], [20, 14, 5, 12], [20, 6, 5, 12], [4, 5, 7, 14, 1, 8, 3], [14, 9, 1, 18], [19, 13, 9, 1, 12, 3]] 0 = nn (0 + j) from j2, if_neg (show ¬ nn (0 + j) = -1 from by rw [nn_ne1 (by omega)]; exact fun z => z)]
  · rw [if_neg q, show lookr r [[25, 20, 14, 21, 15, 3], [14, 15, 19, 18, 5, 16], [1, 12, 12, 5, 18, 2, 13, 21], [20, 14, 5, 12], [20, 6, 5, 12], [4, 5, 7, 14, 1, 8, 3], [14, 9, 1, 18], [19, 13, 9, 1, 12, 3]] 0 = -1 from lookr_none heads 0 q, if_pos rfl]
theorem cn_nameN {tok : Int32} {v : Int64} (h : ¬ tok = 1) : e_hA_X5_isName tok v = some 0 := by
  unfold e_hA_X5_isName
  rw [if_neg h]
theorem rn_nameN {srt : Int32} {w : Int64} (h : ¬ srt = 2) : e_hP_X9_isName srt w = some 0 := by
  unfold e_hP_X9_isName
  rw [if_neg h]
theorem rn_name {r : List Nat} (hr : okw r) : e_hP_X9_isName 2 (ll (enr 32 r)) = some (if r ∈ heads then 0 else 1) := by
  unfold e_hP_X9_isName
  rw [if_pos rfl, iw_11 hr, iw_12 hr, iw_13 hr, iw_14 hr, iw_15 hr, iw_16 hr, iw_17 hr, iw_18 hr]
  simp only [Option.bind_some, heads, List.mem_cons, List.not_mem_nil, or_false]
  by_cases q0 : r = [25, 20, 14, 21, 15, 3]
  · rw [if_pos q0, if_neg (by decide), if_pos (by simp only [q0, true_or, or_true])]
  ·
    by_cases q1 : r = [14, 15, 19, 18, 5, 16]
    · rw [if_neg q0, if_pos rfl, if_pos q1, if_neg (by decide), if_pos (by simp only [q1, true_or, or_true])]
    ·
      by_cases q2 : r = [1, 12, 12, 5, 18, 2, 13, 21]
      · rw [if_neg q0, if_pos rfl, if_neg q1, if_pos rfl, if_pos q2, if_neg (by decide), if_pos (by simp only [q2, true_or, or_true])]
      ·
        by_cases q3 : r = [20, 14, 5, 12]
        · rw [if_neg q0, if_pos rfl, if_neg q1, if_pos rfl, if_neg q2, if_pos rfl, if_pos q3, if_neg (by decide), if_pos (by simp only [q3, true_or, or_true])]
        ·
          by_cases q4 : r = [20, 6, 5, 12]
          · rw [if_neg q0, if_pos rfl, if_neg q1, if_pos rfl, if_neg q2, if_pos rfl, if_neg q3, if_pos rfl, if_pos q4, if_neg (by decide), if_pos (by simp only [q4, true_or, or_true])]
          ·
            by_cases q5 : r = [4, 5, 7, 14, 1, 8, 3]
            · rw [if_neg q0, if_pos rfl, if_neg q1, if_pos rfl, if_neg q2, if_pos rfl, if_neg q3, if_pos rfl, if_neg q4, if_pos rfl, if_pos q5, if_neg (by decide), if_pos (by simp only [q5, true_or, or_true])]
            ·
              by_cases q6 : r = [14, 9, 1, 18]
              · rw [if_neg q0, if_pos rfl, if_neg q1, if_pos rfl, if_neg q2, if_pos rfl, if_neg q3, if_pos rfl, if_neg q4, if_pos rfl, if_neg q5, if_pos rfl, if_pos q6, if_neg (by decide), if_pos (by simp only [q6, true_or, or_true])]
              ·
                by_cases q7 : r = [19, 13, 9, 1, 12, 3]
                · rw [if_neg q0, if_pos rfl, if_neg q1, if_pos rfl, if_neg q2, if_pos rfl, if_neg q3, if_pos rfl, if_neg q4, if_pos rfl, if_neg q5, if_pos rfl, if_neg q6, if_pos rfl, if_pos q7, if_neg (by decide), if_pos (by simp only [q7, true_or, or_true])]
                · rw [if_neg q0, if_pos rfl, if_neg q1, if_pos rfl, if_neg q2, if_pos rfl, if_neg q3, if_pos rfl, if_neg q4, if_pos rfl, if_neg q5, if_pos rfl, if_neg q6, if_pos rfl, if_neg q7, if_pos rfl, if_neg (by simp only [q0, q1, q2, q3, q4, q5, q6, q7, or_self, not_false_eq_true])]
/-- names told so far -/
def NMR (np nu : Nat) (PN UN : Nat → Int64) (NA : Nat → Int64) (NS NO : pA) : Prop :=
  (∀ k, k < np + nu → ∃ r, okw r ∧ NA k = ll (enr 32 r) ∧ ((NS k = 0 ∧ ∃ p, p < np ∧ NO k = nn p ∧ PN p = ll (enr 27 r)) ∨ (NS k = 1 ∧ ∃ u, u < nu ∧ NO k = nn u ∧ UN u = ll (enr 27 r)))) ∧
  (∀ p, p < np → ∃ k, k < np + nu ∧ NS k = 0 ∧ NO k = nn p) ∧ (∀ u, u < nu → ∃ k, k < np + nu ∧ NS k = 1 ∧ NO k = nn u) ∧
  ∀ k k', k < np + nu → k' < np + nu → NA k = NA k' → k = k'
theorem q_find {N : Nat} (hN : N ≤ 11) {NA : Nat → Int64} {w : Int64} : ∀ (m k F : Nat), k + m = N → m < F → (L_hP_X8_find_2 (nn N) NA w (fun l3_2 => some (-1 : Int32)) F (nn k) = some (-1) ∧ ∀ j, k ≤ j → j < N → ¬ NA j = w) ∨ ∃ j, k ≤ j ∧ j < N ∧ NA j = w ∧ L_hP_X8_find_2 (nn N) NA w (fun l3_2 => some (-1 : Int32)) F (nn k) = some (nn j) := by
  intro m
  induction m with
  | zero =>
    intro k F e hF
    obtain ⟨F, rfl⟩ : ∃ f, F = f + 1 := ⟨F - 1, by omega⟩
    left
    rw [L_hP_X8_find_2, if_pos (by rw [nn_le (by omega) (by omega)]; omega)]
    exact ⟨rfl, fun j h1 h2 => absurd h2 (by omega)⟩
  | succ m ih =>
    intro k F e hF
    obtain ⟨F, rfl⟩ : ∃ f, F = f + 1 := ⟨F - 1, by omega⟩
    rw [L_hP_X8_find_2, if_neg (by rw [nn_le (by omega) (by omega)]; omega), xix_nn (by omega) (by omega), nn_nat (by omega), nn_succ]
    by_cases q : NA k = w
    · right
      exact ⟨k, Nat.le_refl _, by omega, q, if_pos (by rw [lgc]; exact q)⟩
    · rw [if_neg (show ¬ lg_cmp (NA k) w = 0 from by rw [lgc]; exact q)]
      rcases ih (k + 1) F (by omega) (by omega) with ⟨e1, e2⟩ | ⟨j, j1, j2, j3, j4⟩
      · exact Or.inl ⟨e1, fun j h1 h2 => by
          by_cases z : j = k
          · subst z; exact q
          · exact e2 j (by omega) h2⟩
      · exact Or.inr ⟨j, by omega, j2, j3, j4⟩
theorem q_ofPerson {N : Nat} (hN : N ≤ 6) {NA : Nat → Int64} {w : Int64} : ∀ (m k F : Nat), k + m = N → m < F → (L_hA_X5_indexOfPerson_2 (nn N) NA w (fun l1_2 => some (-1 : Int32)) F (nn k) = some (-1) ∧ ∀ j, k ≤ j → j < N → ¬ NA j = w) ∨ ∃ j, k ≤ j ∧ j < N ∧ NA j = w ∧ L_hA_X5_indexOfPerson_2 (nn N) NA w (fun l1_2 => some (-1 : Int32)) F (nn k) = some (nn j) := by
  intro m
  induction m with
  | zero =>
    intro k F e hF
    obtain ⟨F, rfl⟩ : ∃ f, F = f + 1 := ⟨F - 1, by omega⟩
    left
    rw [L_hA_X5_indexOfPerson_2, if_pos (by rw [nn_le (by omega) (by omega)]; omega)]
    exact ⟨rfl, fun j h1 h2 => absurd h2 (by omega)⟩
  | succ m ih =>
    intro k F e hF
    obtain ⟨F, rfl⟩ : ∃ f, F = f + 1 := ⟨F - 1, by omega⟩
    rw [L_hA_X5_indexOfPerson_2, if_neg (by rw [nn_le (by omega) (by omega)]; omega), xix_nn (by omega) (by omega), nn_nat (by omega), nn_succ]
    by_cases q : NA k = w
    · right
      exact ⟨k, Nat.le_refl _, by omega, q, if_pos (by rw [lgc]; exact q)⟩
    · rw [if_neg (show ¬ lg_cmp (NA k) w = 0 from by rw [lgc]; exact q)]
      rcases ih (k + 1) F (by omega) (by omega) with ⟨e1, e2⟩ | ⟨j, j1, j2, j3, j4⟩
      · exact Or.inl ⟨e1, fun j h1 h2 => by
          by_cases z : j = k
          · subst z; exact q
          · exact e2 j (by omega) h2⟩
      · exact Or.inr ⟨j, by omega, j2, j3, j4⟩
theorem q_ofUmbrella {N : Nat} (hN : N ≤ 5) {NA : Nat → Int64} {w : Int64} : ∀ (m k F : Nat), k + m = N → m < F → (L_hA_X5_indexOfUmbrella_2 (nn N) NA w (fun l1_2 => some (-1 : Int32)) F (nn k) = some (-1) ∧ ∀ j, k ≤ j → j < N → ¬ NA j = w) ∨ ∃ j, k ≤ j ∧ j < N ∧ NA j = w ∧ L_hA_X5_indexOfUmbrella_2 (nn N) NA w (fun l1_2 => some (-1 : Int32)) F (nn k) = some (nn j) := by
  intro m
  induction m with
  | zero =>
    intro k F e hF
    obtain ⟨F, rfl⟩ : ∃ f, F = f + 1 := ⟨F - 1, by omega⟩
    left
    rw [L_hA_X5_indexOfUmbrella_2, if_pos (by rw [nn_le (by omega) (by omega)]; omega)]
    exact ⟨rfl, fun j h1 h2 => absurd h2 (by omega)⟩
  | succ m ih =>
    intro k F e hF
    obtain ⟨F, rfl⟩ : ∃ f, F = f + 1 := ⟨F - 1, by omega⟩
    rw [L_hA_X5_indexOfUmbrella_2, if_neg (by rw [nn_le (by omega) (by omega)]; omega), xix_nn (by omega) (by omega), nn_nat (by omega), nn_succ]
    by_cases q : NA k = w
    · right
      exact ⟨k, Nat.le_refl _, by omega, q, if_pos (by rw [lgc]; exact q)⟩
    · rw [if_neg (show ¬ lg_cmp (NA k) w = 0 from by rw [lgc]; exact q)]
      rcases ih (k + 1) F (by omega) (by omega) with ⟨e1, e2⟩ | ⟨j, j1, j2, j3, j4⟩
      · exact Or.inl ⟨e1, fun j h1 h2 => by
          by_cases z : j = k
          · subst z; exact q
          · exact e2 j (by omega) h2⟩
      · exact Or.inr ⟨j, by omega, j2, j3, j4⟩
theorem wd_eq {r s : List Nat} (hr : okw r) (hs : okw s) : (ll (enr 27 s) = ll (enr 27 r)) = (ll (enr 32 s) = ll (enr 32 r)) := by
  rw [(wd_iff hr hs).1, (wd_iff hs hr).2]
  exact propext ⟨fun h => h.symm, fun h => h.symm⟩
/-- who a word names -/
theorem q_who {np nu : Nat} (hp : np ≤ 6) (hu : nu ≤ 5) {PN UN NA : Nat → Int64} {NS NO : pA} (M : NMR np nu PN UN NA NS NO) {r : List Nat} (hr : okw r) :
    (e_hA_X5_indexOfPerson (nn np) PN (ll (enr 27 r)) = some (-1) ∧ e_hA_X5_indexOfUmbrella (nn nu) UN (ll (enr 27 r)) = some (-1) ∧ e_hP_X8_find (nn (np + nu)) NA (ll (enr 32 r)) = some (-1)) ∨
    (∃ p k, p < np ∧ k < np + nu ∧ NS k = 0 ∧ NO k = nn p ∧ e_hA_X5_indexOfPerson (nn np) PN (ll (enr 27 r)) = some (nn p) ∧ e_hA_X5_indexOfUmbrella (nn nu) UN (ll (enr 27 r)) = some (-1) ∧ e_hP_X8_find (nn (np + nu)) NA (ll (enr 32 r)) = some (nn k)) ∨
    (∃ u k, u < nu ∧ k < np + nu ∧ NS k = 1 ∧ NO k = nn u ∧ e_hA_X5_indexOfPerson (nn np) PN (ll (enr 27 r)) = some (-1) ∧ e_hA_X5_indexOfUmbrella (nn nu) UN (ll (enr 27 r)) = some (nn u) ∧ e_hP_X8_find (nn (np + nu)) NA (ll (enr 32 r)) = some (nn k)) := by
  obtain ⟨m1, m2, m3, m4⟩ := M
  -- the entry of a person, of an umbrella
  have pe : ∀ p, p < np → PN p = ll (enr 27 r) → ∃ k, k < np + nu ∧ NS k = 0 ∧ NO k = nn p ∧ NA k = ll (enr 32 r) := by
    intro p h1 h2
    obtain ⟨k, k1, k2, k3⟩ := m2 p h1
    obtain ⟨s, hs, s1, s2⟩ := m1 k k1
    rcases s2 with ⟨_, q, q1, q2, q3⟩ | ⟨z, _⟩
    · rw [k3, nn_inj (by omega) (by omega)] at q2
      subst q2
      rw [q3, wd_eq hr hs] at h2
      exact ⟨k, k1, k2, k3, s1.trans h2⟩
    · rw [k2] at z; exact absurd z (by decide)
  have ue : ∀ u, u < nu → UN u = ll (enr 27 r) → ∃ k, k < np + nu ∧ NS k = 1 ∧ NO k = nn u ∧ NA k = ll (enr 32 r) := by
    intro p h1 h2
    obtain ⟨k, k1, k2, k3⟩ := m3 p h1
    obtain ⟨s, hs, s1, s2⟩ := m1 k k1
    rcases s2 with ⟨z, _⟩ | ⟨_, q, q1, q2, q3⟩
    · rw [k2] at z; exact absurd z (by decide)
    · rw [k3, nn_inj (by omega) (by omega)] at q2
      subst q2
      rw [q3, wd_eq hr hs] at h2
      exact ⟨k, k1, k2, k3, s1.trans h2⟩
  unfold e_hA_X5_indexOfPerson e_hA_X5_indexOfUmbrella e_hP_X8_find
  rcases q_find (show np + nu ≤ 11 by omega) (NA := NA) (w := ll (enr 32 r)) (np + nu) 0 200000 (by omega) (by omega) with ⟨f1, f2⟩ | ⟨k, _, k2, k3, f1⟩
  · left
    refine ⟨?_, ?_, f1⟩
    · rcases q_ofPerson hp (NA := PN) (w := ll (enr 27 r)) np 0 200000 (by omega) (by omega) with ⟨g1, _⟩ | ⟨p, _, p2, p3, _⟩
      · exact g1
      · obtain ⟨k, k1, _, _, k4⟩ := pe p p2 p3
        exact absurd k4 (f2 k (by omega) k1)
    · rcases q_ofUmbrella hu (NA := UN) (w := ll (enr 27 r)) nu 0 200000 (by omega) (by omega) with ⟨g1, _⟩ | ⟨p, _, p2, p3, _⟩
      · exact g1
      · obtain ⟨k, k1, _, _, k4⟩ := ue p p2 p3
        exact absurd k4 (f2 k (by omega) k1)
  · right
    obtain ⟨s, hs, s1, s2⟩ := m1 k k2
    rw [k3] at s1
    have e27 : ll (enr 27 s) = ll (enr 27 r) := by rw [wd_eq hr hs]; exact s1.symm
    rcases s2 with ⟨z0, p, p1, p2, p3⟩ | ⟨z0, u, u1, u2, u3⟩
    · left
      refine ⟨p, k, p1, k2, z0, p2, ?_, ?_, f1⟩
      · rcases q_ofPerson hp (NA := PN) (w := ll (enr 27 r)) np 0 200000 (by omega) (by omega) with ⟨_, g2⟩ | ⟨p', _, p2', p3', g1⟩
        · exact absurd (p3.trans e27) (g2 p (by omega) p1)
        · obtain ⟨k', k1', _, k3', k4'⟩ := pe p' p2' p3'
          have := m4 k k' k2 k1' (k3.trans k4'.symm)
          subst this
          rw [p2, nn_inj (by omega) (by omega)] at k3'
          subst k3'
          exact g1
      · rcases q_ofUmbrella hu (NA := UN) (w := ll (enr 27 r)) nu 0 200000 (by omega) (by omega) with ⟨g1, _⟩ | ⟨u, _, u2, u3, _⟩
        · exact g1
        · obtain ⟨k', k1', k2', _, k4'⟩ := ue u u2 u3
          have := m4 k k' k2 k1' (k3.trans k4'.symm)
          subst this
          rw [z0] at k2'; exact absurd k2' (by decide)
    · right
      refine ⟨u, k, u1, k2, z0, u2, ?_, ?_, f1⟩
      · rcases q_ofPerson hp (NA := PN) (w := ll (enr 27 r)) np 0 200000 (by omega) (by omega) with ⟨g1, _⟩ | ⟨p, _, p2, p3, _⟩
        · exact g1
        · obtain ⟨k', k1', k2', _, k4'⟩ := pe p p2 p3
          have := m4 k k' k2 k1' (k3.trans k4'.symm)
          subst this
          rw [z0] at k2'; exact absurd k2' (by decide)
      · rcases q_ofUmbrella hu (NA := UN) (w := ll (enr 27 r)) nu 0 200000 (by omega) (by omega) with ⟨_, g2⟩ | ⟨u', _, u2', u3', g1⟩
        · exact absurd (u3.trans e27) (g2 u (by omega) u1)
        · obtain ⟨k', k1', _, k3', k4'⟩ := ue u' u2' u3'
          have := m4 k k' k2 k1' (k3.trans k4'.symm)
          subst this
          rw [u2, nn_inj (by omega) (by omega)] at k3'
          subst k3'
          exact g1
/-- any word is found or not -/
theorem q_any {N : Nat} (hN : N ≤ 11) {NA : Nat → Int64} {w : Int64} : e_hP_X8_find (nn N) NA w = some (-1) ∨ ∃ k, k < N ∧ e_hP_X8_find (nn N) NA w = some (nn k) := by
  unfold e_hP_X8_find
  rcases q_find hN (NA := NA) (w := w) N 0 200000 (by omega) (by omega) with ⟨f1, _⟩ | ⟨k, _, k2, _, f1⟩
  · exact Or.inl f1
  · exact Or.inr ⟨k, k2, f1⟩
