/-! THE PURE PART: the best party, what it is, and the class's search -/
abbrev pSt := Option (Nat × (Nat → Nat))
def us (s : Nat → Nat) (p u : Nat) : Nat → Nat := fun j => if j = p then u else s j
theorem us_at {s : Nat → Nat} {p u : Nat} : us s p u p = u := by unfold us; rw [if_pos rfl]
theorem us_ne {s : Nat → Nat} {p u j : Nat} (h : j ≠ p) : us s p u j = s j := by unfold us; rw [if_neg h]
def dc (cap : Nat → Nat) (u : Nat) : Nat → Nat := fun j => if j = u then cap j - 1 else cap j
theorem dc_at {cap : Nat → Nat} {u : Nat} : dc cap u u = cap u - 1 := by unfold dc; rw [if_pos rfl]
theorem dc_ne {cap : Nat → Nat} {u j : Nat} (h : j ≠ u) : dc cap u j = cap j := by unfold dc; rw [if_neg h]
theorem dc_le {cap : Nat → Nat} {u j : Nat} : dc cap u j ≤ cap j := by unfold dc; split <;> omega
def tk (D : Nat) (s : Nat → Nat) : pSt → pSt
  | none => some (D, s)
  | some (E, r) => if D < E then some (D, s) else some (E, r)
/-- all ways from p on, in their order -/
def pT (c : Nat → Bool) (d : Nat → Nat → Nat) (nu : Nat) : Nat → Nat → (Nat → Nat) → (Nat → Nat) → Nat → pSt → pSt
  | 0, _, _, s, sf, st => tk sf s st
  | r + 1, p, cap, s, sf, st => if c p = true then fx (fun u st => if 0 < cap u then pT c d nu r (p + 1) (dc cap u) (us s p u) (sf + d p u) st else st) nu 0 st else pT c d nu r (p + 1) cap s sf st
theorem sm_out {cap : Nat → Nat} {u : Nat} : ∀ (m k : Nat), u < k → sm (dc cap u) m k = sm cap m k := by
  intro m
  induction m with
  | zero => intro k _; rfl
  | succ m ih =>
    intro k hk
    simp only [sm]
    rw [ih (k + 1) (by omega), dc_ne (by omega)]
theorem sm_dc {cap : Nat → Nat} {u : Nat} (h : 0 < cap u) : ∀ (m k : Nat), k ≤ u → u < k + m → sm (dc cap u) m k + 1 = sm cap m k := by
  intro m
  induction m with
  | zero => intro k h1 h2; omega
  | succ m ih =>
    intro k h1 h2
    simp only [sm]
    by_cases z : k = u
    · subst z
      rw [sm_out m (k + 1) (by omega), dc_at]; omega
    · have := ih (k + 1) (by omega) (by omega)
      rw [dc_ne z]; omega
/-- more people than room -/
theorem pT_none {c : Nat → Bool} {d : Nat → Nat → Nat} {nu : Nat} : ∀ (r p : Nat) (cap s : Nat → Nat) (sf : Nat) (st : pSt), sm cap nu 0 < cI c r p → pT c d nu r p cap s sf st = st := by
  intro r
  induction r with
  | zero => intro p cap s sf st h; simp only [cI] at h; omega
  | succ r ih =>
    intro p cap s sf st h
    simp only [cI] at h
    simp only [pT]
    by_cases q : c p = true
    · rw [if_pos q] at h ⊢
      refine fx_id nu 0 (fun u _ hu => ?_)
      by_cases z : 0 < cap u
      · rw [if_pos z]
        have := sm_dc z nu 0 (by omega) hu
        exact ih (p + 1) _ _ _ _ (by omega)
      · rw [if_neg z]
    · rw [if_neg q] at h ⊢
      exact ih (p + 1) _ _ _ _ (by omega)
/-- what those from p on bring at least -/
def lowB (np nu : Nat) (c : Nat → Bool) (d : Nat → Nat → Nat) (cp : Nat → Nat) (lst : Nat → Nat) : Prop := lst np = 0 ∧ ∀ p, p < np → (c p = true → ∀ u, u < nu → 0 < cp u → lst p ≤ lst (p + 1) + d p u) ∧ (¬ c p = true → lst p = lst (p + 1))
theorem pT_prune {np nu : Nat} {c : Nat → Bool} {d : Nat → Nat → Nat} {cp lst : Nat → Nat} (hl : lowB np nu c d cp lst) : ∀ (r p : Nat) (cap s : Nat → Nat) (sf D : Nat) (s' : Nat → Nat), p + r = np → (∀ u, u < nu → 0 < cap u → 0 < cp u) → D ≤ sf + lst p → pT c d nu r p cap s sf (some (D, s')) = some (D, s') := by
  intro r
  induction r with
  | zero =>
    intro p cap s sf D s' e hc hD
    obtain rfl : p = np := by omega
    rw [hl.1] at hD
    simp only [pT, tk]
    rw [if_neg (by omega)]
  | succ r ih =>
    intro p cap s sf D s' e hc hD
    simp only [pT]
    obtain ⟨l1, l2⟩ := hl.2 p (by omega)
    by_cases q : c p = true
    · rw [if_pos q]
      refine fx_id nu 0 (fun u _ hu => ?_)
      by_cases z : 0 < cap u
      · rw [if_pos z]
        have := l1 q u (by omega) (hc u (by omega) z)
        exact ih (p + 1) _ _ _ _ _ (by omega) (fun w hw hw2 => hc w hw (by have := dc_le (cap := cap) (u := u) (j := w); omega)) (by omega)
      · rw [if_neg z]
    · rw [if_neg q]
      exact ih (p + 1) _ _ _ _ _ (by omega) hc (by rw [← l2 q]; exact hD)
/-- the class's state -/
def rS (np : Nat) (c : Nat → Bool) (st : pSt) (f g : Int32) (b : pA) : Prop := match st with
  | none => f = 0
  | some (D, s) => f = 1 ∧ g = nn D ∧ D < 1000 ∧ ∀ j, j < np → b j = if c j = true then nn (s j) else -2
theorem cpy6 {a b : pA} {i : Nat} (hi : i < 6) : va_cpy a b 0 0 6 i = a i := by
  unfold va_cpy
  rw [if_pos (by omega)]
  congr 1
  omega
theorem pl_stop {p0 p5 f3 f4 f5 : Int32} {p6 p7 p9 : pA} {er : Int32 → Int32 → Int32 → (Nat → Int32) → (Nat → Int32) → Int32 → (Nat → Int32) → (Nat → Int32) → (Nat → Int32) → (Nat → Int32) → Int32 → Int32 → Int32 → Option (Int32 × Int32 × (Nat → Int32) × (Nat → Int32) × (Nat → Int32))} {K : Int32 → (Nat → Int32) → (Nat → Int32) → Int32 → Int32 → (Nat → Int32) → Option (Int32 × Int32 × (Nat → Int32) × (Nat → Int32) × (Nat → Int32))} (F : Nat) (k : Int32) (A B C : pA) (g28 g29 : Int32) : L_hA_X6_place_90 p0 p5 p6 p7 p9 er f3 f4 f5 0 K (F + 1) k A B g28 g29 C = K k A B g28 g29 C := by
  rw [L_hA_X6_place_90, if_pos (show (0 : Int32) = 0 from rfl), ite_self]
theorem qc_place {np nu : Nat} (hp : np ≤ 6) (hn : nu ≤ 5) {x : Int32} {t l A37 : pA} (hL : lan nu l) {cp lst : Nat → Nat} (hl : lowB np nu (cm x) (dan t l) cp lst) (h37 : ∀ j, j ≤ np → A37 j = nn (lst j) ∧ lst j ≤ 600) : ∀ (r p n : Nat) (cap s : Nat → Nat) (sf : Nat) (st : pSt) (f g : Int32) (a35 a36 a34 : pA), p + r = np → r < n → (∀ u, u < nu → a34 u = nn (cap u) ∧ cap u ≤ 3) → (∀ u, u < nu → 0 < cap u → 0 < cp u) → (∀ j, j < p → a35 j = if cm x j = true then nn (s j) else -2) → sf ≤ 99 * p → rS np (cm x) st f g a36 → (∀ D s', st = some (D, s') → sf + lst p < D) → ∃ f' g' a36' a34' a35', e_hA_X6_place n (nn np) f g a35 a36 (nn nu) t l a34 A37 x (nn p) (nn sf) = some (f', g', a36', a34', a35') ∧ rS np (cm x) (pT (cm x) (dan t l) nu r p cap s sf st) f' g' a36' ∧ (∀ u, u < nu → a34' u = nn (cap u)) ∧ ∀ j, j < p → a35' j = a35 j := by
  intro r
  induction r with
  | zero =>
    intro p n cap s sf st f g a35 a36 a34 e hn1 hc hc2 ha hsf hs hst
    obtain ⟨n, rfl⟩ : ∃ f, n = f + 1 := ⟨n - 1, by omega⟩
    obtain rfl : p = np := by omega
    refine ⟨1, nn sf, va_cpy a35 a36 0 0 6, a34, a35, ?_, ?_, fun u hu => (hc u hu).1, fun j _ => rfl⟩
    · rw [e_hA_X6_place, if_pos (by rw [nn_le (by omega) (by omega)]; omega)]
    · have : pT (cm x) (dan t l) nu 0 p cap s sf st = some (sf, s) := by
        simp only [pT]
        match st, hst with
        | none, _ => rfl
        | some (D, s'), hst =>
          simp only [tk]
          have := hst D s' rfl
          rw [if_pos (by omega)]
      rw [this]
      exact ⟨rfl, rfl, by omega, fun j hj => by rw [cpy6 (by omega)]; exact ha j hj⟩
  | succ r ih =>
    intro p n cap s sf st f g a35 a36 a34 e hn1 hc hc2 ha hsf hs hst
    obtain ⟨n, rfl⟩ : ∃ f, n = f + 1 := ⟨n - 1, by omega⟩
    have i1 : ¬ nn np ≤ nn p := by rw [nn_le (by omega) (by omega)]; omega
    have i2 : nn p < (6 : Int32) := by rw [show (6 : Int32) = nn 6 from rfl, nn_lt (by omega) (by omega)]; omega
    obtain ⟨l1, l2⟩ := hl.2 p (by omega)
    obtain ⟨h37a, h37b⟩ := h37 (p + 1) (by omega)
    by_cases q : cm x p = true
    · have inner : ∀ (m k F : Nat) (st : pSt) (f g : Int32) (a35 a36 a34 : pA), k + m = nu → m < F → (∀ u, u < nu → a34 u = nn (cap u) ∧ cap u ≤ 3) → (∀ j, j < p → a35 j = if cm x j = true then nn (s j) else -2) → rS np (cm x) st f g a36 → ∃ f' g' a36' a34' a35', L_hA_X6_place_90 (nn np) (nn nu) t l A37 (e_hA_X6_place n) x (nn p) (nn sf) (1 : Int32) (fun l7_90 ma34_90 ma35_90 mg28_90 mg29_90 ma36_90 => some (mg28_90, mg29_90, ma36_90, ma34_90, ma35_90)) F (nn k) a34 a35 f g a36 = some (f', g', a36', a34', a35') ∧ rS np (cm x) (fx (fun u st => if 0 < cap u then pT (cm x) (dan t l) nu r (p + 1) (dc cap u) (us s p u) (sf + dan t l p u) st else st) m k st) f' g' a36' ∧ (∀ u, u < nu → a34' u = nn (cap u)) ∧ ∀ j, j < p → a35' j = a35 j := by
        intro m
        induction m with
        | zero =>
          intro k F st f g a35 a36 a34 e hF hc ha hs
          obtain ⟨F, rfl⟩ : ∃ f, F = f + 1 := ⟨F - 1, by omega⟩
          obtain rfl : k = nu := by omega
          refine ⟨f, g, a36, a34, a35, ?_, hs, fun u hu => (hc u hu).1, fun j _ => rfl⟩
          rw [L_hA_X6_place_90, if_pos (by rw [nn_le (by omega) (by omega)]; omega)]
        | succ m ih2 =>
          intro k F st f g a35 a36 a34 e hF hc ha hs
          obtain ⟨F, rfl⟩ : ∃ f, F = f + 1 := ⟨F - 1, by omega⟩
          have j1 : ¬ nn nu ≤ nn k := by rw [nn_le (by omega) (by omega)]; omega
          have hk : k < nu := by omega
          obtain ⟨ck, c3⟩ := hc k hk
          have dl := dan_le (t := t) hL (p := p) hk
          simp only [fx]
          by_cases z : 0 < cap k
          · have j2 : ¬ a34 k ≤ (0 : Int32) := by rw [ck, nn_0, nn_le (by omega) (by omega)]; omega
            rw [if_pos z]
            -- the way taken
            have go : ∀ (st : pSt) (f g : Int32) (a36 : pA), rS np (cm x) st f g a36 → (∀ D s', st = some (D, s') → sf + dan t l p k + lst (p + 1) < D) → ∃ f' g' a36' a34' a35', (xix (nn k) 5 (xix (nn k) 5 (xix (nn p) 6 ((e_hA_X6_place n (nn np) f g (upd a35 p (nn k)) a36 (nn nu) t l (upd a34 k (a34 k - (1 : Int32))) A37 x (nn p + (1 : Int32)) (nn sf + nn (dan t l p k))).bind fun z184 => xix (nn k) 5 (xix (nn k) 5 (L_hA_X6_place_90 (nn np) (nn nu) t l A37 (e_hA_X6_place n) x (nn p) (nn sf) (1 : Int32) (fun l7_90 ma34_90 ma35_90 mg28_90 mg29_90 ma36_90 => some (mg28_90, mg29_90, ma36_90, ma34_90, ma35_90)) F (nn k + (1 : Int32)) (upd z184.2.2.2.1 k (z184.2.2.2.1 k + (1 : Int32))) z184.2.2.2.2 z184.1 z184.2.1 z184.2.2.1)))))) = some (f', g', a36', a34', a35') ∧ rS np (cm x) (fx (fun u st => if 0 < cap u then pT (cm x) (dan t l) nu r (p + 1) (dc cap u) (us s p u) (sf + dan t l p u) st else st) m (k + 1) (pT (cm x) (dan t l) nu r (p + 1) (dc cap k) (us s p k) (sf + dan t l p k) st)) f' g' a36' ∧ (∀ u, u < nu → a34' u = nn (cap u)) ∧ ∀ j, j < p → a35' j = a35 j := by
              intro st f g a36 hs hst
              obtain ⟨f1, g1, b36, b34, b35, e1, e2, e3, e4⟩ := ih (p + 1) n (dc cap k) (us s p k) (sf + dan t l p k) st f g (upd a35 p (nn k)) a36 (upd a34 k (a34 k - (1 : Int32))) (by omega) (by omega) (fun u hu => by
                  by_cases w : u = k
                  · subst w
                    rw [upd_at, dc_at, ck]
                    exact ⟨nn_sub (b := 1) z, by omega⟩
                  · rw [upd_ne _ _ w, dc_ne w]
                    exact hc u hu) (fun u hu hu2 => hc2 u hu (by have := dc_le (cap := cap) (u := k) (j := u); omega)) (fun j hj => by
                  by_cases w : j = p
                  · subst w
                    rw [upd_at, us_at, if_pos q]
                  · rw [upd_ne _ _ w, us_ne w]
                    exact ha j (by omega)) (by omega) hs hst
              obtain ⟨f2, g2, d36, d34, d35, o1, o2, o3, o4⟩ := ih2 (k + 1) F _ f1 g1 b35 b36 (upd b34 k (b34 k + (1 : Int32))) (by omega) (by omega) (fun u hu => by
                  by_cases w : u = k
                  · subst w
                    rw [upd_at, e3 u hu, dc_at, nn_succ]
                    exact ⟨by rw [show cap u - 1 + 1 = cap u by omega], c3⟩
                  · rw [upd_ne _ _ w, e3 u hu, dc_ne w]
                    exact ⟨rfl, (hc u hu).2⟩) (fun j hj => by rw [e4 j (by omega), upd_ne _ _ (by omega)]; exact ha j hj) e2
              refine ⟨f2, g2, d36, d34, d35, ?_, o2, o3, fun j hj => by rw [o4 j hj, e4 j (by omega), upd_ne _ _ (by omega)]⟩
              rw [xix_nn (by omega) (by omega), xix_nn (by omega) (by omega), xix_nn (by omega) (by omega), nn_succ p, nn_add, e1, Option.bind_some, xix_nn (by omega) (by omega), xix_nn (by omega) (by omega), nn_succ k]
              exact o1
            rw [L_hA_X6_place_90, if_neg j1, if_neg (show ¬ (1 : Int32) = 0 from by decide), qc_dan hn hL hk, Option.bind_some, xix_nn (by omega) (by omega), nn_nat (show k < 2147483648 by omega), nn_nat (show p < 2147483648 by omega), if_neg j2]
            match st, hs with
            | none, hs =>
              rw [if_pos (show f = 0 from hs)]
              exact go none f g a36 hs (fun D s' w => absurd w (by simp))
            | some (D, s'), hs =>
              obtain ⟨w1, w2, w3, w4⟩ := hs
              rw [if_neg (show ¬ f = 0 from by rw [w1]; decide), nn_succ p, xix_nn (show p + 1 < 7 by omega) (by omega), nn_nat (show p + 1 < 2147483648 by omega), h37a, nn_add, nn_add]
              by_cases w : D ≤ sf + dan t l p k + lst (p + 1)
              · rw [if_pos (show g ≤ nn (sf + dan t l p k + lst (p + 1)) from by rw [w2, nn_le (by omega) (by omega)]; exact w), pT_prune hl r (p + 1) (dc cap k) (us s p k) (sf + dan t l p k) D s' (by omega) (fun u hu hu2 => hc2 u hu (by have := dc_le (cap := cap) (u := k) (j := u); omega)) w, nn_succ k]
                exact ih2 (k + 1) F _ f g a35 a36 a34 (by omega) (by omega) hc ha ⟨w1, w2, w3, w4⟩
              · rw [if_neg (show ¬ g ≤ nn (sf + dan t l p k + lst (p + 1)) from by rw [w2, nn_le (by omega) (by omega)]; exact w)]
                have := go (some (D, s')) f g a36 ⟨w1, w2, w3, w4⟩ (fun D1 s1 v => by
                  have v1 := Option.some.inj v
                  have v2 : D = D1 := congrArg Prod.fst v1
                  omega)
                rw [nn_succ p, nn_add] at this
                exact this
          · have j2 : a34 k ≤ (0 : Int32) := by rw [ck, nn_0, nn_le (by omega) (by omega)]; omega
            rw [if_neg z, L_hA_X6_place_90, if_neg j1, if_neg (show ¬ (1 : Int32) = 0 from by decide), qc_dan hn hL hk, Option.bind_some, xix_nn (by omega) (by omega), nn_nat (show k < 2147483648 by omega), if_pos j2, nn_succ]
            exact ih2 (k + 1) F _ f g a35 a36 a34 (by omega) (by omega) hc ha hs
      obtain ⟨f', g', a36', a34', a35', e1, e2, e3, e4⟩ := inner nu 0 200000 st f g a35 a36 a34 (by omega) (by omega) hc ha hs
      refine ⟨f', g', a36', a34', a35', ?_, ?_, e3, e4⟩
      · rw [e_hA_X6_place, if_neg i1, if_pos i2, if_pos (cm_t q), if_neg (show ¬ (1 : Int32) = 0 from by decide)]
        exact e1
      · simp only [pT]
        rw [if_pos q]
        exact e2
    · obtain ⟨f1, g1, b36, b34, b35, e1, e2, e3, e4⟩ := ih (p + 1) n cap s sf st f g (upd a35 p (-2)) a36 a34 (by omega) (by omega) hc hc2 (fun j hj => by
          by_cases w : j = p
          · subst w
            rw [upd_at, if_neg q]
          · rw [upd_ne _ _ w]
            exact ha j (by omega)) (by omega) hs (fun D s' w => by rw [← l2 q]; exact hst D s' w)
      refine ⟨f1, g1, b36, b34, b35, ?_, ?_, e3, fun j hj => by rw [e4 j (by omega), upd_ne _ _ (by omega)]⟩
      · rw [e_hA_X6_place, if_neg i1, if_pos i2, if_neg (cm_f q), if_pos (show (0 : Int32) = 0 from rfl), xix_nn (by omega) (by omega), nn_nat (by omega), nn_succ, e1, Option.bind_some]
        exact pl_stop 199999 _ _ _ _ _ _
      · simp only [pT]
        rw [if_neg q]
        exact e2
/-- the lower bounds -/
def lowR (nu p : Nat) (t l : pA) (cap : Nat → Nat) (k : Nat) (v : Int32) : Prop := (v = -1 ∧ ∀ u, u < k → cap u = 0) ∨ ∃ w, v = nn w ∧ w ≤ 99 ∧ ∀ u, u < k → 0 < cap u → w ≤ dan t l p u
theorem cl_in {nu p : Nat} (hn : nu ≤ 5) {x : Int32} {t l A34 p0 : pA} (hL : lan nu l) {cap : Nat → Nat} (hc : ∀ u, u < nu → A34 u = nn (cap u) ∧ cap u ≤ 3) (q : cm x p = true) {K : Int32 → Int32 → Option pA} : ∀ (m k F : Nat) (v : Int32), k + m = nu → m < F → lowR nu p t l cap k v → ∃ v', L_hA_X6_countLeast_22 p0 (nn nu) t l A34 x (nn p) K F v (nn k) = K v' (nn nu) ∧ lowR nu p t l cap nu v' := by
  intro m
  induction m with
  | zero =>
    intro k F v e hF hv
    obtain ⟨F, rfl⟩ : ∃ f, F = f + 1 := ⟨F - 1, by omega⟩
    obtain rfl : k = nu := by omega
    refine ⟨v, ?_, hv⟩
    rw [L_hA_X6_countLeast_22, if_pos (by rw [nn_le (by omega) (by omega)]; omega)]
  | succ m ih =>
    intro k F v e hF hv
    obtain ⟨F, rfl⟩ : ∃ f, F = f + 1 := ⟨F - 1, by omega⟩
    have hk : k < nu := by omega
    obtain ⟨ck, c3⟩ := hc k hk
    have dl := dan_le (t := t) hL (p := p) hk
    rw [L_hA_X6_countLeast_22, if_neg (by rw [nn_le (by omega) (by omega)]; omega), if_pos (cm_t q), qc_dan hn hL hk, Option.bind_some, xix_nn (by omega) (by omega), nn_nat (by omega), ck, nn_succ]
    by_cases z : 0 < cap k
    · rw [if_neg (show ¬ nn (cap k) ≤ (0 : Int32) from by rw [nn_0, nn_le (by omega) (by omega)]; omega)]
      rcases hv with ⟨rfl, h0⟩ | ⟨w, rfl, w9, hw⟩
      · rw [if_pos rfl]
        exact ih (k + 1) F _ (by omega) (by omega) (Or.inr ⟨_, rfl, dl, fun u hu hu2 => by
          by_cases y : u = k
          · subst y; exact Nat.le_refl _
          · have := h0 u (by omega)
            omega⟩)
      · rw [if_neg (show ¬ nn w = -1 from by rw [nn_ne1 (by omega)]; exact fun z => z)]
        by_cases y : w ≤ dan t l p k
        · rw [if_pos (show nn w ≤ nn (dan t l p k) from by rw [nn_le (by omega) (by omega)]; exact y)]
          exact ih (k + 1) F _ (by omega) (by omega) (Or.inr ⟨w, rfl, w9, fun u hu hu2 => by
            by_cases y2 : u = k
            · subst y2; exact y
            · exact hw u (by omega) hu2⟩)
        · rw [if_neg (show ¬ nn w ≤ nn (dan t l p k) from by rw [nn_le (by omega) (by omega)]; exact y)]
          exact ih (k + 1) F _ (by omega) (by omega) (Or.inr ⟨_, rfl, dl, fun u hu hu2 => by
            by_cases y2 : u = k
            · subst y2; exact Nat.le_refl _
            · have := hw u (by omega) hu2
              omega⟩)
    · rw [if_pos (show nn (cap k) ≤ (0 : Int32) from by rw [nn_0, nn_le (by omega) (by omega)]; omega)]
      exact ih (k + 1) F _ (by omega) (by omega) (by
        rcases hv with ⟨rfl, h0⟩ | ⟨w, rfl, w9, hw⟩
        · exact Or.inl ⟨rfl, fun u hu => by
            by_cases y : u = k
            · subst y; omega
            · exact h0 u (by omega)⟩
        · exact Or.inr ⟨w, rfl, w9, fun u hu hu2 => by
            by_cases y : u = k
            · subst y; omega
            · exact hw u (by omega) hu2⟩)
theorem cl_out {nu p : Nat} {x : Int32} {t l A34 p0 : pA} (q : ¬ cm x p = true) {K : Int32 → Int32 → Option pA} (F : Nat) (v k : Int32) : L_hA_X6_countLeast_22 p0 (nn nu) t l A34 x (nn p) K (F + 1) v k = K v k := by
  rw [L_hA_X6_countLeast_22, if_neg (cm_f q), ite_self]
def lsQ (nu : Nat) (x : Int32) (t l : pA) (cap : Nat → Nat) (A : pA) (q : Nat) : Prop := ∀ j, q ≤ j → j ≤ 6 → (∃ w, w ≤ 99 * (6 - j) ∧ A j = nn w) ∧ (j < 6 → (cm x j = true → ∀ u, u < nu → 0 < cap u → (A j).toNatClampNeg ≤ (A (j + 1)).toNatClampNeg + dan t l j u) ∧ (¬ cm x j = true → A j = A (j + 1)))
theorem nn_pred (q : Nat) : nn (q + 1) + (-1 : Int32) = nn q := by
  rw [← nn_succ, Int32.add_assoc, show (1 : Int32) + -1 = 0 from rfl, Int32.add_zero]
theorem lsQ_step {nu q w v : Nat} {x : Int32} {t l : pA} {cap : Nat → Nat} {A : pA} (hq : q < 6) (h : lsQ nu x t l cap A (q + 1)) (e : A (q + 1) = nn w) (hw : w ≤ 99 * (6 - (q + 1))) (hv : v ≤ 99) (h1 : cm x q = true → ∀ u, u < nu → 0 < cap u → v ≤ dan t l q u) (h2 : ¬ cm x q = true → v = 0) : lsQ nu x t l cap (upd A q (nn (w + v))) q := by
  intro j hj hj6
  by_cases z : j = q
  · subst z
    rw [upd_at, upd_ne _ _ (show j + 1 ≠ j by omega), e, nn_nat (by omega), nn_nat (by omega)]
    refine ⟨⟨w + v, by omega, rfl⟩, fun _ => ⟨fun c u hu hu2 => ?_, fun c => ?_⟩⟩
    · have := h1 c u hu hu2; omega
    · rw [h2 c, Nat.add_zero]
  · rw [upd_ne _ _ z, upd_ne _ _ (show j + 1 ≠ q by omega)]
    exact h j (by omega) hj6
theorem pc_least {nu : Nat} (hn : nu ≤ 5) {x : Int32} {t l A34 : pA} (hL : lan nu l) {cap : Nat → Nat} (hc : ∀ u, u < nu → A34 u = nn (cap u) ∧ cap u ≤ 3) : ∀ (q F : Nat) (A : pA), q ≤ 6 → q < F → lsQ nu x t l cap A q → ∃ A', L_hA_X6_countLeast_11 (nn nu) t l A34 x (fun l4_11 ma37_11 => some ma37_11) F (nn q + (-1 : Int32)) A = some A' ∧ lsQ nu x t l cap A' 0 := by
  intro q
  induction q with
  | zero =>
    intro F A _ hF h
    obtain ⟨F, rfl⟩ : ∃ f, F = f + 1 := ⟨F - 1, by omega⟩
    refine ⟨A, ?_, h⟩
    rw [L_hA_X6_countLeast_11, if_pos (by decide)]
  | succ q ih =>
    intro F A hq hF h
    obtain ⟨F, rfl⟩ : ∃ f, F = f + 1 := ⟨F - 1, by omega⟩
    obtain ⟨⟨w, hw, ew⟩, _⟩ := h (q + 1) (by omega) (by omega)
    rw [nn_pred, L_hA_X6_countLeast_11, if_neg (by rw [nn_pos (by omega)]; exact fun z => z), nn_succ, nn_nat (show q < 2147483648 by omega), nn_nat (show q + 1 < 2147483648 by omega), ew]
    by_cases c : cm x q = true
    · obtain ⟨v', e1, e2⟩ := cl_in hn (p0 := A) hL hc c (K := fun l5_22 l6_22 => (xix (nn (q + 1)) 7 (xix (nn q) 7 (L_hA_X6_countLeast_11 (nn nu) t l A34 x (fun l4_11 ma37_11 => some ma37_11) F (nn q + (-1 : Int32)) (upd A q (nn w + (if l5_22 < (0 : Int32) then (0 : Int32) else l5_22))))))) nu 0 200000 (-1) (by omega) (by omega) (Or.inl ⟨rfl, fun u hu => absurd hu (by omega)⟩)
      rcases e2 with ⟨rfl, h0⟩ | ⟨v, rfl, v9, hv⟩
      · obtain ⟨A', y1, y2⟩ := ih F _ (by omega) (by omega) (lsQ_step (v := 0) (by omega) h ew hw (by omega) (fun _ u hu hu2 => by omega) (fun _ => rfl))
        refine ⟨A', e1.trans ?_, y2⟩
        rw [xix_nn (by omega) (by omega), xix_nn (by omega) (by omega), if_pos (by decide), show nn w + (0 : Int32) = nn (w + 0) from nn_add w 0]
        exact y1
      · obtain ⟨A', y1, y2⟩ := ih F _ (by omega) (by omega) (lsQ_step (by omega) h ew hw v9 (fun _ u hu hu2 => hv u hu hu2) (fun z => absurd c z))
        refine ⟨A', e1.trans ?_, y2⟩
        rw [xix_nn (by omega) (by omega), xix_nn (by omega) (by omega), if_neg (show ¬ nn v < (0 : Int32) from by rw [nn_pos (by omega)]; exact fun z => z), nn_add]
        exact y1
    · have e1 := cl_out (nu := nu) (p := q) (x := x) (t := t) (l := l) (A34 := A34) (p0 := A) c (K := fun l5_22 l6_22 => (xix (nn (q + 1)) 7 (xix (nn q) 7 (L_hA_X6_countLeast_11 (nn nu) t l A34 x (fun l4_11 ma37_11 => some ma37_11) F (nn q + (-1 : Int32)) (upd A q (nn w + (if l5_22 < (0 : Int32) then (0 : Int32) else l5_22))))))) 199999 (-1) 0
      obtain ⟨A', y1, y2⟩ := ih F _ (by omega) (by omega) (lsQ_step (v := 0) (by omega) h ew hw (by omega) (fun _ u hu hu2 => by omega) (fun _ => rfl))
      refine ⟨A', e1.trans ?_, y2⟩
      rw [xix_nn (by omega) (by omega), xix_nn (by omega) (by omega), if_pos (by decide), show nn w + (0 : Int32) = nn (w + 0) from nn_add w 0]
      exact y1
theorem qc_least {nu : Nat} (hn : nu ≤ 5) {x : Int32} {t l A34 : pA} (hL : lan nu l) {cap : Nat → Nat} (hc : ∀ u, u < nu → A34 u = nn (cap u) ∧ cap u ≤ 3) (A : pA) : ∃ A', e_hA_X6_countLeast A (nn nu) t l A34 x = some A' ∧ lsQ nu x t l cap A' 0 := by
  unfold e_hA_X6_countLeast
  exact pc_least hn hL hc 6 200000 (upd A 6 0) (by omega) (by omega) (fun j h1 h2 => by
    obtain rfl : j = 6 := by omega
    rw [upd_at]
    exact ⟨⟨0, by omega, rfl⟩, fun z => absurd z (by omega)⟩)
theorem lsQ_low {np nu m : Nat} (hp : np ≤ 6) (hm : m < 2 ^ np) {t l A : pA} {cap : Nat → Nat} (h : lsQ nu (nn m) t l cap A 0) : lowB np nu (cm (nn m)) (dan t l) cap (fun j => (A j).toNatClampNeg) ∧ ∀ j, j ≤ np → A j = nn ((A j).toNatClampNeg) ∧ (A j).toNatClampNeg ≤ 600 := by
  refine ⟨⟨?_, fun p hpp => ⟨fun c u hu hu2 => ((h p (by omega) (by omega)).2 (by omega)).1 c u hu hu2, fun c => ?_⟩⟩, fun j hj => ?_⟩
  · have b := pow_np hp
    have : ∀ k, k + np ≤ 6 → (A (6 - k)).toNatClampNeg = 0 := by
      intro k
      induction k with
      | zero =>
        intro _
        obtain ⟨⟨w, hw, e⟩, _⟩ := h 6 (by omega) (by omega)
        show (A 6).toNatClampNeg = 0
        rw [e, nn_nat (by omega)]; omega
      | succ k ih =>
        intro hk
        have o := out_np ⟨np, by omega⟩ ⟨m, by omega⟩ hm ⟨6 - (k + 1), by omega⟩ (by show np ≤ 6 - (k + 1); omega)
        have o' : cm (nn m) (6 - (k + 1)) = false := o
        have := ((h (6 - (k + 1)) (by omega) (by omega)).2 (by omega)).2 (by rw [o']; exact Bool.false_ne_true)
        rw [this, show 6 - (k + 1) + 1 = 6 - k by omega]
        exact ih (by omega)
    have := this (6 - np) (by omega)
    rwa [show 6 - (6 - np) = np by omega] at this
  · show (A p).toNatClampNeg = (A (p + 1)).toNatClampNeg
    rw [((h p (by omega) (by omega)).2 (by omega)).2 c]
  · obtain ⟨⟨w, hw, e⟩, _⟩ := h j (by omega) (by omega)
    rw [e, nn_nat (by omega)]
    exact ⟨rfl, by omega⟩
/-- the best party -/
def bestP (np nu : Nat) (x : Int32) (h t r l : pA) : pSt := pT (cm x) (dan t l) nu np 0 (cap0 x h r) (fun _ => 0) 0 none
theorem qc_seat {np nu m : Nat} (hp : np ≤ 6) (hn : nu ≤ 5) (hm : m < 2 ^ np) {h t r l : pA} (hr : rib nu r) (hL : lan nu l) (g28 g29 : Int32) (a34 a37 a35 a36 : pA) : ∃ f g b34 b37 b36 b35, e_hA_X6_seat g28 g29 (nn nu) h a34 r a37 t l (nn np) a35 a36 (nn m) = some (f, f, g, b34, b37, b36, b35) ∧ rS np (cm (nn m)) (bestP np nu (nn m) h t r l) f g b36 := by
  unfold e_hA_X6_seat bestP
  have b := pow_np hp
  obtain ⟨A', e1, e2⟩ := qc_open hn (x := nn m) (h := h) hr a34
  have ec : xbc (nn m) = nn (cI (cm (nn m)) np 0) := cnt_np ⟨np, by omega⟩ ⟨m, by omega⟩ hm
  have cl := cI_le (q := cm (nn m)) np 0
  have sb : ∀ (k j : Nat), j + k = nu → sm (cap0 (nn m) h r) k j ≤ 3 * k := by
    intro k
    induction k with
    | zero => intro j _; exact Nat.le_refl _
    | succ k ih =>
      intro j hj
      simp only [sm]
      have := ih (j + 1) (by omega)
      have := cap_le (x := nn m) (h := h) hr (show j < nu by omega)
      omega
  have sb0 := sb nu 0 (by omega)
  rw [e1, Option.bind_some, ec]
  simp only []
  by_cases q : sm (cap0 (nn m) h r) nu 0 < cI (cm (nn m)) np 0
  · rw [if_pos (show nn (sm (cap0 (nn m) h r) nu 0) < nn (cI (cm (nn m)) np 0) from by rw [nn_lt (by omega) (by omega)]; exact q), pT_none np 0 _ _ _ _ q]
    exact ⟨0, 0, A', a37, a36, a35, rfl, rfl⟩
  · rw [if_neg (show ¬ nn (sm (cap0 (nn m) h r) nu 0) < nn (cI (cm (nn m)) np 0) from by rw [nn_lt (by omega) (by omega)]; exact q)]
    have hc : ∀ u, u < nu → A' u = nn (cap0 (nn m) h r u) ∧ cap0 (nn m) h r u ≤ 3 := fun u hu => ⟨e2 u hu, cap_le hr hu⟩
    obtain ⟨L', f1, f2⟩ := qc_least hn (x := nn m) (t := t) hL hc a37
    obtain ⟨lo, l37⟩ := lsQ_low hp hm f2
    obtain ⟨f', g', a36', a34', a35', p1, p2, _, _⟩ := qc_place hp hn hL lo l37 np 0 8 (cap0 (nn m) h r) (fun _ => 0) 0 none 0 0 a35 a36 A' (by omega) (by omega) hc (fun _ _ z => z) (fun j hj => absurd hj (by omega)) (by omega) rfl (fun D s' z => absurd z (by simp))
    rw [f1, Option.bind_some]
    have p1' : e_hA_X6_place 8 (nn np) 0 0 a35 a36 (nn nu) t l A' L' (nn m) 0 0 = some (f', g', a36', a34', a35') := p1
    rw [p1', Option.bind_some]
    refine ⟨f', g', a34', L', a36', a35', ?_, p2⟩
    simp only []
    have fz : f' = 0 ∨ f' = 1 := by
      unfold rS at p2
      split at p2
      · exact Or.inl p2
      · exact Or.inr p2.1
    unfold xbo
    rcases fz with rfl | rfl
    · rw [if_pos rfl]
    · rw [if_neg (show ¬ (1 : Int32) = 0 from by decide), if_pos rfl]
