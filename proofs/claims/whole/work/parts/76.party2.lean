/-! THE PURE PART: the best party by the reference -/
def pre (c : Nat → Bool) (d : Nat → Nat → Nat) (cp : Nat → Nat) : Nat → (Nat → Nat) → Option ((Nat → Nat) × Nat)
  | 0, _ => some (cp, 0)
  | p + 1, s => match pre c d cp p s with
    | none => none
    | some (cap, sf) => if c p = true then if 0 < cap (s p) then some (dc cap (s p), sf + d p (s p)) else none else some (cap, sf)
theorem pre_congr {c : Nat → Bool} {d : Nat → Nat → Nat} {cp s s' : Nat → Nat} : ∀ (p : Nat), (∀ j, j < p → s j = s' j) → pre c d cp p s = pre c d cp p s' := by
  intro p
  induction p with
  | zero => intro _; rfl
  | succ p ih =>
    intro h
    simp only [pre]
    rw [ih (fun j hj => h j (by omega)), h p (by omega)]
theorem pre_none {c : Nat → Bool} {d : Nat → Nat → Nat} {cp s : Nat → Nat} {p : Nat} (h : pre c d cp p s = none) : ∀ (k : Nat), pre c d cp (p + k) s = none := by
  intro k
  induction k with
  | zero => exact h
  | succ k ih =>
    rw [show p + (k + 1) = (p + k) + 1 by omega]
    simp only [pre]
    rw [ih]
/-- what comes of all rows that begin so -/
def blk (c : Nat → Bool) (d : Nat → Nat → Nat) (nu : Nat) (cp : Nat → Nat) (r p : Nat) (s : Nat → Nat) (st : pSt) : pSt := match pre c d cp p s with
  | none => st
  | some (cap, sf) => pT c d nu r p cap s sf st
theorem blk_n {c : Nat → Bool} {d : Nat → Nat → Nat} {nu : Nat} {cp : Nat → Nat} {r p : Nat} {s : Nat → Nat} {st : pSt} (q : ¬ c p = true) : blk c d nu cp (r + 1) p s st = blk c d nu cp r (p + 1) s st := by
  unfold blk
  simp only [pre]
  match pre c d cp p s with
  | none => rfl
  | some (cap, sf) =>
    simp only [pT]
    rw [if_neg q, if_neg q]
theorem blk_c {c : Nat → Bool} {d : Nat → Nat → Nat} {nu : Nat} {cp : Nat → Nat} {r p : Nat} {s : Nat → Nat} {st : pSt} (q : c p = true) : blk c d nu cp (r + 1) p s st = fx (fun u st => blk c d nu cp r (p + 1) (us s p u) st) nu 0 st := by
  have e : ∀ u, pre c d cp p (us s p u) = pre c d cp p s := fun u => pre_congr p (fun j hj => us_ne (by omega))
  unfold blk
  simp only [pre, e, us_at]
  match pre c d cp p s with
  | none => exact (fx_id nu 0 (fun u _ _ => rfl)).symm
  | some (cap, sf) =>
    simp only [pT]
    rw [if_pos q]
    refine fx_congr nu 0 st (fun u _ _ z => ?_)
    rw [if_pos q]
    by_cases w : 0 < cap u
    · rw [if_pos w, if_pos w]
    · rw [if_neg w, if_neg w]
theorem pr_cap {np nu : Nat} (hn : nu ≤ 5) (hp : np ≤ 6) {x : Int32} {h t r l v R L : pA} (S : same np nu h t r l v R L) (hr : rib nu r) {p1 f2 : Int32} {p2 : pA} {K : Int32 → pA → Option (Int32 × pA)} : ∀ (m k F : Nat) (A : pA), k + m = nu → m < F → (∀ u, u < k → A u = nn (cap0 x h r u)) → ∃ A', L_hB_X9_dangerOf_4 (nn nu) p1 p2 v L R x f2 K F (nn k) A = K (nn nu) A' ∧ ∀ u, u < nu → A' u = nn (cap0 x h r u) := by
  intro m
  induction m with
  | zero =>
    intro k F A e hF hA
    obtain ⟨F, rfl⟩ : ∃ f, F = f + 1 := ⟨F - 1, by omega⟩
    obtain rfl : k = nu := by omega
    refine ⟨A, ?_, hA⟩
    rw [L_hB_X9_dangerOf_4, if_pos (by rw [nn_le (by omega) (by omega)]; omega)]
  | succ m ih =>
    intro k F A e hF hA
    obtain ⟨F, rfl⟩ : ∃ f, F = f + 1 := ⟨F - 1, by omega⟩
    obtain ⟨A', e1, e2⟩ := ih (k + 1) F (upd A k (nn (cap0 x h r k))) (by omega) (by omega) (fun u hu => by
      by_cases z : u = k
      · subst z; rw [upd_at]
      · rw [upd_ne _ _ z]; exact hA u (by omega))
    refine ⟨A', ?_, e2⟩
    rw [L_hB_X9_dangerOf_4, if_neg (by rw [nn_le (by omega) (by omega)]; omega), qr_room hn hp S hr (by omega), Option.bind_some, xix_nn (by omega) (by omega), nn_nat (by omega), nn_succ, e1]
def rowR (np nu : Nat) (c : Nat → Bool) (row : pA) (s : Nat → Nat) : Prop := ∀ j, j < np → c j = true → row j = nn (s j) ∧ s j < nu
def evR (c : Nat → Bool) (d : Nat → Nat → Nat) (cp : Nat → Nat) (np : Nat) (s : Nat → Nat) (v : Int32) : Prop := match pre c d cp np s with
  | none => v = -2
  | some (_, D) => v = nn D ∧ D ≤ 594
theorem pr_dan {np nu : Nat} (hn : nu ≤ 5) (hp : np ≤ 6) {x : Int32} {h t r l v R L : pA} (S : same np nu h t r l v R L) (hL : lan nu l) {cp s : Nat → Nat} {row : pA} (hrow : rowR np nu (cm x) row s) : ∀ (m p F sf : Nat) (cap : Nat → Nat) (A : pA), p + m = np → m < F → pre (cm x) (dan t l) cp p s = some (cap, sf) → (∀ u, u < nu → A u = nn (cap u) ∧ cap u ≤ 3) → sf ≤ 99 * p → ∃ w A', L_hB_X9_dangerOf_35 (nn nu) (nn np) row v L R x (fun l2_35 l3_35 ma9_35 => some (l2_35, ma9_35)) F (nn sf) (nn p) A = some (w, A') ∧ evR (cm x) (dan t l) cp np s w := by
  obtain ⟨s1, s2, s3, s4, s5⟩ := S
  intro m
  induction m with
  | zero =>
    intro p F sf cap A e hF hp1 hA hs
    obtain ⟨F, rfl⟩ : ∃ f, F = f + 1 := ⟨F - 1, by omega⟩
    obtain rfl : p = np := by omega
    refine ⟨nn sf, A, ?_, ?_⟩
    · rw [L_hB_X9_dangerOf_35, if_pos (by rw [nn_le (by omega) (by omega)]; omega)]
    · unfold evR
      rw [hp1]
      exact ⟨rfl, by omega⟩
  | succ m ih =>
    intro p F sf cap A e hF hp1 hA hs
    obtain ⟨F, rfl⟩ : ∃ f, F = f + 1 := ⟨F - 1, by omega⟩
    rw [L_hB_X9_dangerOf_35, if_neg (show ¬ nn np ≤ nn p from by rw [nn_le (by omega) (by omega)]; omega), bit_cm, Option.bind_some]
    by_cases q : cm x p = true
    · obtain ⟨er, hu⟩ := hrow p (by omega) q
      obtain ⟨ea, c3⟩ := hA (s p) hu
      obtain ⟨k, k9, ek⟩ := hL (s p) hu
      rw [if_pos q, if_neg (show ¬ (1 : Int32) = 0 from by decide), xix_nn (by omega) (by omega), nn_nat (show p < 2147483648 by omega), er, xix_nn (by omega) (by omega), xix_nn (by omega) (by omega), xix_nn (by omega) (by omega), nn_nat (show s p < 2147483648 by omega), upd_at, ea]
      by_cases z : 0 < cap (s p)
      · have ez : nn (cap (s p)) - (1 : Int32) = nn (cap (s p) - 1) := nn_sub (b := 1) z
        have hpre : pre (cm x) (dan t l) cp (p + 1) s = some (dc cap (s p), sf + dan t l p (s p)) := by
          simp only [pre]
          rw [hp1]
          simp only []
          rw [if_pos q, if_pos z]
        have hA' : ∀ u, u < nu → upd A (s p) (nn (cap (s p) - 1)) u = nn (dc cap (s p) u) ∧ dc cap (s p) u ≤ 3 := fun u hu => by
          by_cases y : u = s p
          · subst y
            rw [upd_at, dc_at]
            exact ⟨rfl, by omega⟩
          · rw [upd_ne _ _ y, dc_ne y]
            exact hA u hu
        have dl := dan_le (t := t) hL (p := p) hu
        obtain ⟨w, A', e1, e2⟩ := ih (p + 1) F (sf + dan t l p (s p)) _ _ (by omega) (by omega) hpre hA' (by omega)
        refine ⟨w, A', ?_, e2⟩
        rw [← e1, ez, if_pos (nn_ge0 (by omega)), nn_5add, xix_nn (by omega) (by omega), nn_nat (show 5 + s p < 2147483648 by omega), s3 _ hu, nn_succ]
        unfold dan
        by_cases y : t (s p) = nn p
        · rw [if_pos y, if_pos y, show nn sf + (0 : Int32) = nn (sf + 0) from nn_add sf 0]
        · rw [if_neg y, if_neg y, xix_nn (by omega) (by omega), ← s5 _ hu, ek, nn_add, nn_nat (by omega)]
      · have z0 : cap (s p) = 0 := by omega
        have hpre : pre (cm x) (dan t l) cp (p + 1) s = none := by
          simp only [pre]
          rw [hp1]
          simp only []
          rw [if_pos q, if_neg z]
        rw [z0, if_neg (show ¬ (0 : Int32) ≤ nn 0 - 1 from by decide)]
        refine ⟨-2, _, rfl, ?_⟩
        unfold evR
        have := pre_none hpre m
        rw [show p + 1 + m = np by omega] at this
        rw [this]
    · have hpre : pre (cm x) (dan t l) cp (p + 1) s = some (cap, sf) := by
        simp only [pre]
        rw [hp1]
        simp only []
        rw [if_neg q]
      rw [if_neg q, if_pos rfl, nn_succ]
      exact ih (p + 1) F sf cap A (by omega) (by omega) hpre hA (by omega)
theorem qr_dan {np nu : Nat} (hn : nu ≤ 5) (hp : np ≤ 6) {x : Int32} {h t r l v R L : pA} (S : same np nu h t r l v R L) (hr : rib nu r) (hL : lan nu l) {s : Nat → Nat} {row : pA} (hrow : rowR np nu (cm x) row s) (A : pA) : ∃ w A', e_hB_X9_dangerOf (nn nu) (nn np) row A v L R x = some (w, A') ∧ evR (cm x) (dan t l) (cap0 x h r) np s w := by
  unfold e_hB_X9_dangerOf
  obtain ⟨A1, e1, e2⟩ := pr_cap hn hp (x := x) S hr (p1 := nn np) (f2 := 0) (p2 := row) (K := fun l3_4 ma9_4 => L_hB_X9_dangerOf_35 (nn nu) (nn np) row v L R x (fun l2_35 l3_35 ma9_35 => some (l2_35, ma9_35)) 200000 (0 : Int32) (0 : Int32) ma9_4) nu 0 200000 A (by omega) (by omega) (fun u hu => absurd hu (by omega))
  obtain ⟨w, A', o1, o2⟩ := pr_dan hn hp S hL (cp := cap0 x h r) hrow np 0 200000 0 (cap0 x h r) A1 (by omega) (by omega) rfl (fun u hu => ⟨e2 u hu, cap_le hr hu⟩) (by omega)
  exact ⟨w, A', e1.trans o1, o2⟩
/-- the next row -/
theorem nxl {np nu : Nat} (hp : np ≤ 6) (hn1 : 1 ≤ nu) (hn : nu ≤ 5) {x p0 : Int32} {K : Int32 → pA → Option (Int32 × pA)} {p' : Nat} : ∀ (m q F : Nat) (A : pA), q = p' + m → q ≤ np → m ≤ F → (∀ j, p' ≤ j → j < q → cm x j = true → A j = nn (nu - 1)) → ∃ A', L_hB_X9_nextUnder_10 p0 (nn nu) x K F (nn q + (-1 : Int32)) A = L_hB_X9_nextUnder_10 p0 (nn nu) x K (F - m) (nn p' + (-1 : Int32)) A' ∧ (∀ j, j < p' → A' j = A j) ∧ (∀ j, p' ≤ j → j < q → cm x j = true → A' j = 0) ∧ ∀ j, q ≤ j → A' j = A j := by
  intro m
  induction m with
  | zero =>
    intro q F A e hq hF h
    obtain rfl : q = p' := by omega
    exact ⟨A, rfl, fun j _ => rfl, fun j h1 h2 _ => absurd h2 (by omega), fun j _ => rfl⟩
  | succ m ih =>
    intro q F A e hq hF h
    obtain ⟨F, rfl⟩ : ∃ f, F = f + 1 := ⟨F - 1, by omega⟩
    obtain ⟨q, rfl⟩ : ∃ f, q = f + 1 := ⟨q - 1, by omega⟩
    rw [nn_pred, L_hB_X9_nextUnder_10, if_neg (by rw [nn_pos (by omega)]; exact fun z => z), bit_cm, Option.bind_some, show F + 1 - (m + 1) = F - m by omega]
    by_cases c : cm x q = true
    · have ea := h q (by omega) (by omega) c
      have e2 : nn (nu - 1) + (1 : Int32) = nn nu := by rw [nn_succ, show nu - 1 + 1 = nu by omega]
      rw [if_pos c, if_neg (show ¬ (1 : Int32) = 0 from by decide), xix_nn (by omega) (by omega), xix_nn (by omega) (by omega), xix_nn (by omega) (by omega), nn_nat (by omega), upd_at, ea, e2, if_pos (by rw [nn_le (by omega) (by omega)]; omega), xix_nn (by omega) (by omega)]
      obtain ⟨A', o1, o2, o3, o4⟩ := ih q F (upd (upd A q (nn nu)) q 0) (by omega) (by omega) (by omega) (fun j h1 h2 h3 => by rw [upd_ne _ _ (by omega), upd_ne _ _ (by omega)]; exact h j h1 (by omega) h3)
      refine ⟨A', o1, fun j hj => by rw [o2 j hj, upd_ne _ _ (by omega), upd_ne _ _ (by omega)], fun j h1 h2 h3 => ?_, fun j hj => by rw [o4 j (by omega), upd_ne _ _ (by omega), upd_ne _ _ (by omega)]⟩
      by_cases z : j = q
      · subst z
        rw [o4 j (by omega), upd_at]
      · exact o3 j h1 (by omega) h3
    · rw [if_neg c, if_pos rfl]
      obtain ⟨A', o1, o2, o3, o4⟩ := ih q F A (by omega) (by omega) (by omega) (fun j h1 h2 h3 => h j h1 (by omega) h3)
      refine ⟨A', o1, o2, fun j h1 h2 h3 => ?_, fun j hj => o4 j (by omega)⟩
      by_cases z : j = q
      · subst z; exact absurd h3 c
      · exact o3 j h1 (by omega) h3
theorem nx_start {np nu : Nat} (hp1 : 1 ≤ np) {x : Int32} {A : pA} : e_hB_X9_nextUnder (nn np) A (nn nu) x = L_hB_X9_nextUnder_10 (nn np) (nn nu) x (fun l2_10 ma7_10 => some ((0 : Int32), ma7_10)) 200000 (nn np + (-1 : Int32)) A := by
  unfold e_hB_X9_nextUnder
  obtain ⟨k, rfl⟩ : ∃ k, np = k + 1 := ⟨np - 1, by omega⟩
  rw [nn_pred, show nn (k + 1) - (1 : Int32) = nn k from nn_sub (b := 1) hp1]
theorem nx_step {np nu p k : Nat} (hp1 : 1 ≤ np) (hp : np ≤ 6) (hn1 : 1 ≤ nu) (hn : nu ≤ 5) {x : Int32} {A : pA} (hpp : p < np) (c : cm x p = true) (e : A p = nn k) (hk : k + 1 < nu) (h : ∀ j, p < j → j < np → cm x j = true → A j = nn (nu - 1)) : ∃ A', e_hB_X9_nextUnder (nn np) A (nn nu) x = some (1, A') ∧ (∀ j, j < p → A' j = A j) ∧ A' p = nn (k + 1) ∧ ∀ j, p < j → j < np → cm x j = true → A' j = 0 := by
  rw [nx_start hp1]
  obtain ⟨A', o1, o2, o3, o4⟩ := nxl hp hn1 hn (x := x) (p0 := nn np) (K := fun l2_10 ma7_10 => some ((0 : Int32), ma7_10)) (p' := p + 1) (np - (p + 1)) np 200000 A (by omega) (by omega) (by omega) (fun j h1 h2 h3 => h j (by omega) h2 h3)
  obtain ⟨F, hF⟩ : ∃ f, 200000 - (np - (p + 1)) = f + 1 := ⟨199999 - (np - (p + 1)), by omega⟩
  rw [o1, hF, nn_pred, L_hB_X9_nextUnder_10, if_neg (by rw [nn_pos (by omega)]; exact fun z => z), bit_cm, Option.bind_some, if_pos c, if_neg (show ¬ (1 : Int32) = 0 from by decide), xix_nn (by omega) (by omega), xix_nn (by omega) (by omega), xix_nn (by omega) (by omega), nn_nat (by omega), upd_at, o2 p (by omega), e, nn_succ, if_neg (by rw [nn_le (by omega) (by omega)]; omega)]
  refine ⟨_, rfl, fun j hj => by rw [upd_ne _ _ (by omega)]; exact o2 j (by omega), upd_at _ _ _, fun j h1 h2 h3 => by rw [upd_ne _ _ (by omega)]; exact o3 j (by omega) h2 h3⟩
theorem nx_end {np nu : Nat} (hp1 : 1 ≤ np) (hp : np ≤ 6) (hn1 : 1 ≤ nu) (hn : nu ≤ 5) {x : Int32} {A : pA} (h : ∀ j, j < np → cm x j = true → A j = nn (nu - 1)) : ∃ A', e_hB_X9_nextUnder (nn np) A (nn nu) x = some (0, A') := by
  rw [nx_start hp1]
  obtain ⟨A', o1, o2, o3, o4⟩ := nxl hp hn1 hn (x := x) (p0 := nn np) (K := fun l2_10 ma7_10 => some ((0 : Int32), ma7_10)) (p' := 0) np np 200000 A (by omega) (by omega) (by omega) (fun j h1 h2 h3 => h j h2 h3)
  obtain ⟨F, hF⟩ : ∃ f, 200000 - np = f + 1 := ⟨199999 - np, by omega⟩
  rw [o1, hF, L_hB_X9_nextUnder_10, if_pos (by decide)]
  exact ⟨A', rfl⟩
/-- how many rows -/
def nR (c : Nat → Bool) (nu : Nat) : Nat → Nat → Nat
  | 0, _ => 1
  | r + 1, p => if c p = true then nu * nR c nu r (p + 1) else nR c nu r (p + 1)
theorem nR_le {c : Nat → Bool} {nu : Nat} (hn1 : 1 ≤ nu) (hn : nu ≤ 5) : ∀ (r p : Nat), 1 ≤ nR c nu r p ∧ nR c nu r p ≤ 5 ^ r := by
  intro r
  induction r with
  | zero => intro p; exact ⟨Nat.le_refl _, Nat.le_refl _⟩
  | succ r ih =>
    intro p
    obtain ⟨a, b⟩ := ih (p + 1)
    simp only [nR]
    rw [Nat.pow_succ]
    split
    · exact ⟨Nat.mul_pos hn1 a, by rw [Nat.mul_comm]; exact Nat.mul_le_mul b hn⟩
    · exact ⟨a, by omega⟩
/-- the reference's state -/
def rfS (np : Nat) (c : Nat → Bool) (st : pSt) (g : Int32) (b : pA) : Prop := match st with
  | none => g = -2
  | some (D, s) => g = nn D ∧ D ≤ 594 ∧ ∀ j, j < np → c j = true → b j = nn (s j)
theorem pr_copy {p0 p1 p2 x : Int32} {A p4 p5 p6 p7 : pA} {K : Int32 → pA → Option (Int32 × pA × pA × pA)} : ∀ (m k F : Nat) (B : pA), k + m = 6 → m < F → (∀ j, j < k → B j = A j) → ∃ B', L_hB_X9_parties_70 p0 p1 p2 A p4 p5 p6 p7 x K F (nn k) B = K (nn 6) B' ∧ ∀ j, j < 6 → B' j = A j := by
  intro m
  induction m with
  | zero =>
    intro k F B e hF h
    obtain ⟨F, rfl⟩ : ∃ f, F = f + 1 := ⟨F - 1, by omega⟩
    obtain rfl : k = 6 := by omega
    refine ⟨B, ?_, h⟩
    rw [L_hB_X9_parties_70, if_pos (by decide)]
  | succ m ih =>
    intro k F B e hF h
    obtain ⟨F, rfl⟩ : ∃ f, F = f + 1 := ⟨F - 1, by omega⟩
    obtain ⟨B', e1, e2⟩ := ih (k + 1) F (upd B k (A k)) (by omega) (by omega) (fun j hj => by
      by_cases z : j = k
      · subst z; rw [upd_at]
      · rw [upd_ne _ _ z]; exact h j (by omega))
    refine ⟨B', ?_, e2⟩
    rw [L_hB_X9_parties_70, if_neg (show ¬ (6 : Int32) ≤ nn k from by rw [show (6 : Int32) = nn 6 from rfl, nn_le (by omega) (by omega)]; omega), xix_nn (by omega) (by omega), xix_nn (by omega) (by omega), nn_nat (by omega), nn_succ, e1]
theorem pr_block {np nu : Nat} (hp1 : 1 ≤ np) (hn1 : 1 ≤ nu) (hn : nu ≤ 5) (hp : np ≤ 6) {x : Int32} {h t r l v R L : pA} (S : same np nu h t r l v R L) (hr : rib nu r) (hL : lan nu l) {K : Int32 → pA → Int32 → pA → pA → Option (Int32 × pA × pA × pA)} : ∀ (n p : Nat) (s : Nat → Nat) (st : pSt) (F : Nat) (A9 : pA) (mg : Int32) (A8 A7 : pA), p + n = np → nR (cm x) nu n p ≤ F → (∀ j, j < p → cm x j = true → A7 j = nn (s j) ∧ s j < nu) → (∀ j, p ≤ j → j < np → cm x j = true → A7 j = 0) → rfS np (cm x) st mg A8 → ∃ B9 mg' B8 B7, L_hB_X9_parties_29 (nn nu) (nn np) v L R x K F 1 A9 mg A8 A7 = ((e_hB_X9_nextUnder (nn np) B7 (nn nu) x).bind fun z99 => L_hB_X9_parties_29 (nn nu) (nn np) v L R x K (F - nR (cm x) nu n p) z99.1 B9 mg' B8 z99.2) ∧ rfS np (cm x) (blk (cm x) (dan t l) nu (cap0 x h r) n p s st) mg' B8 ∧ (∀ j, j < p → B7 j = A7 j) ∧ ∀ j, p ≤ j → j < np → cm x j = true → B7 j = nn (nu - 1) := by
  intro n
  induction n with
  | zero =>
    intro p s st F A9 mg A8 A7 e hF h1 h2 hs
    simp only [nR] at hF ⊢
    obtain ⟨F, rfl⟩ : ∃ f, F = f + 1 := ⟨F - 1, by omega⟩
    obtain rfl : p = np := by omega
    obtain ⟨w, B9, d1, d2⟩ := qr_dan hn hp (x := x) S hr hL (s := s) (row := A7) h1 A9
    rw [show F + 1 - 1 = F from rfl]
    have head : ∀ (B : Option (Int32 × pA × pA × pA)), (if w = (-2 : Int32) then ((e_hB_X9_nextUnder (nn p) A7 (nn nu) x).bind fun z99 => L_hB_X9_parties_29 (nn nu) (nn p) v L R x K F z99.1 B9 mg A8 z99.2) else if mg = (-2 : Int32) then L_hB_X9_parties_70 w (nn nu) (nn p) A7 B9 v L R x (fun l4_70 ma8_70 => ((e_hB_X9_nextUnder (nn p) A7 (nn nu) x).bind fun z99 => L_hB_X9_parties_29 (nn nu) (nn p) v L R x K F z99.1 B9 w ma8_70 z99.2)) 200000 (0 : Int32) A8 else if mg ≤ w then ((e_hB_X9_nextUnder (nn p) A7 (nn nu) x).bind fun z99 => L_hB_X9_parties_29 (nn nu) (nn p) v L R x K F z99.1 B9 mg A8 z99.2) else L_hB_X9_parties_70 w (nn nu) (nn p) A7 B9 v L R x (fun l4_70 ma8_70 => ((e_hB_X9_nextUnder (nn p) A7 (nn nu) x).bind fun z99 => L_hB_X9_parties_29 (nn nu) (nn p) v L R x K F z99.1 B9 w ma8_70 z99.2)) 200000 (0 : Int32) A8) = B → L_hB_X9_parties_29 (nn nu) (nn p) v L R x K (F + 1) 1 A9 mg A8 A7 = B := by
      intro B hB
      rw [L_hB_X9_parties_29, if_neg (show ¬ (1 : Int32) = 0 from by decide), d1, Option.bind_some]
      exact hB
    have mx : ∀ j, p ≤ j → j < p → cm x j = true → A7 j = nn (nu - 1) := fun j z1 z2 _ => absurd z1 (by omega)
    unfold blk
    unfold evR at d2
    match hpr : pre (cm x) (dan t l) (cap0 x h r) p s, d2 with
    | none, d2 =>
      refine ⟨B9, mg, A8, A7, head _ ?_, hs, fun j _ => rfl, mx⟩
      rw [if_pos (show w = -2 from d2)]
    | some (cap, D), d2 =>
      obtain ⟨rfl, dD⟩ := (show w = nn D ∧ D ≤ 594 from d2)
      have nw : ¬ nn D = (-2 : Int32) := by rw [nn_ne2 (by omega)]; exact fun z => z
      obtain ⟨C8, c1, c2⟩ := pr_copy (p0 := nn D) (p1 := nn nu) (p2 := nn p) (x := x) (A := A7) (p4 := B9) (p5 := v) (p6 := L) (p7 := R) (K := fun l4_70 ma8_70 => ((e_hB_X9_nextUnder (nn p) A7 (nn nu) x).bind fun z99 => L_hB_X9_parties_29 (nn nu) (nn p) v L R x K F z99.1 B9 (nn D) ma8_70 z99.2)) 6 0 200000 A8 (by omega) (by omega) (fun j hj => absurd hj (by omega))
      have c3 : ∀ j, j < p → cm x j = true → C8 j = nn (s j) := fun j hj hc => by rw [c2 j (by omega)]; exact (h1 j hj hc).1
      simp only [pT]
      match st, hs with
      | none, hs =>
        refine ⟨B9, nn D, C8, A7, head _ ?_, ⟨rfl, dD, c3⟩, fun j _ => rfl, mx⟩
        rw [if_neg nw, if_pos (show mg = -2 from hs)]
        exact c1
      | some (E, s'), hs =>
        obtain ⟨rfl, hE, hb⟩ := (show mg = nn E ∧ E ≤ 594 ∧ ∀ j, j < p → cm x j = true → A8 j = nn (s' j) from hs)
        have nm : ¬ nn E = (-2 : Int32) := by rw [nn_ne2 (by omega)]; exact fun z => z
        simp only [tk]
        by_cases y : D < E
        · rw [if_pos y]
          refine ⟨B9, nn D, C8, A7, head _ ?_, ⟨rfl, dD, c3⟩, fun j _ => rfl, mx⟩
          rw [if_neg nw, if_neg nm, if_neg (show ¬ nn E ≤ nn D from by rw [nn_le (by omega) (by omega)]; omega)]
          exact c1
        · rw [if_neg y]
          refine ⟨B9, nn E, A8, A7, head _ ?_, ⟨rfl, hE, hb⟩, fun j _ => rfl, mx⟩
          rw [if_neg nw, if_neg nm, if_pos (show nn E ≤ nn D from by rw [nn_le (by omega) (by omega)]; omega)]
  | succ n ih =>
    intro p s st F A9 mg A8 A7 e hF h1 h2 hs
    by_cases c : cm x p = true
    · have eN : nR (cm x) nu (n + 1) p = nu * nR (cm x) nu n (p + 1) := by simp only [nR]; rw [if_pos c]
      rw [eN] at hF ⊢
      rw [blk_c c]
      obtain ⟨N1, _⟩ := nR_le (c := cm x) hn1 hn n (p + 1)
      generalize hN : nR (cm x) nu n (p + 1) = N at hF N1 ih ⊢
      have inner : ∀ (m k : Nat) (st : pSt) (F : Nat) (A9 : pA) (mg : Int32) (A8 A7 : pA), k + m + 1 = nu → (m + 1) * N ≤ F → (∀ j, j < p → cm x j = true → A7 j = nn (s j) ∧ s j < nu) → A7 p = nn k → (∀ j, p < j → j < np → cm x j = true → A7 j = 0) → rfS np (cm x) st mg A8 → ∃ B9 mg' B8 B7, L_hB_X9_parties_29 (nn nu) (nn np) v L R x K F 1 A9 mg A8 A7 = ((e_hB_X9_nextUnder (nn np) B7 (nn nu) x).bind fun z99 => L_hB_X9_parties_29 (nn nu) (nn np) v L R x K (F - (m + 1) * N) z99.1 B9 mg' B8 z99.2) ∧ rfS np (cm x) (fx (fun u st => blk (cm x) (dan t l) nu (cap0 x h r) n (p + 1) (us s p u) st) (m + 1) k st) mg' B8 ∧ (∀ j, j < p → B7 j = A7 j) ∧ ∀ j, p ≤ j → j < np → cm x j = true → B7 j = nn (nu - 1) := by
        intro m
        induction m with
        | zero =>
          intro k st F A9 mg A8 A7 e hF h1 h2 h3 hs
          obtain ⟨B9, mg', B8, B7, o1, o2, o3, o4⟩ := ih (p + 1) (us s p k) st F A9 mg A8 A7 (by omega) (by rw [hN]; omega) (fun j hj hc => by
            by_cases z : j = p
            · subst z; rw [us_at]; exact ⟨h2, by omega⟩
            · rw [us_ne z]; exact h1 j (by omega) hc) (fun j z1 z2 z3 => h3 j (by omega) z2 z3) hs
          rw [hN] at o1
          refine ⟨B9, mg', B8, B7, ?_, o2, fun j hj => o3 j (by omega), fun j z1 z2 z3 => ?_⟩
          · rw [Nat.zero_add, Nat.one_mul]; exact o1
          · by_cases z : j = p
            · subst z
              rw [o3 j (by omega), h2, show k = nu - 1 by omega]
            · exact o4 j (by omega) z2 z3
        | succ m ih2 =>
          intro k st F A9 mg A8 A7 e hF h1 h2 h3 hs
          have hF2 : (m + 1) * N + N ≤ F := by rw [Nat.succ_mul] at hF; exact hF
          obtain ⟨B9, mg', B8, B7, o1, o2, o3, o4⟩ := ih (p + 1) (us s p k) st F A9 mg A8 A7 (by omega) (by rw [hN]; omega) (fun j hj hc => by
            by_cases z : j = p
            · subst z; rw [us_at]; exact ⟨h2, by omega⟩
            · rw [us_ne z]; exact h1 j (by omega) hc) (fun j z1 z2 z3 => h3 j (by omega) z2 z3) hs
          rw [hN] at o1
          obtain ⟨C7, n1, n2, n3, n4⟩ := nx_step hp1 hp hn1 hn (x := x) (A := B7) (p := p) (k := k) (by omega) c (by rw [o3 p (by omega)]; exact h2) (by omega) (fun j z1 z2 z3 => o4 j (by omega) z2 z3)
          obtain ⟨D9, mg2, D8, D7, u1, u2, u3, u4⟩ := ih2 (k + 1) _ (F - N) B9 mg' B8 C7 (by omega) (by omega) (fun j hj hc => by rw [n2 j hj, o3 j (by omega)]; exact h1 j hj hc) n3 n4 o2
          refine ⟨D9, mg2, D8, D7, ?_, u2, fun j hj => by rw [u3 j hj, n2 j hj, o3 j (by omega)], u4⟩
          rw [o1, n1, Option.bind_some, show F - (m + 1 + 1) * N = F - N - (m + 1) * N by rw [Nat.succ_mul (m + 1)]; omega]
          exact u1
      obtain ⟨w, rfl⟩ : ∃ w, nu = w + 1 := ⟨nu - 1, by omega⟩
      exact inner w 0 st F A9 mg A8 A7 (by omega) hF h1 (h2 p (by omega) (by omega) c) (fun j z1 z2 z3 => h2 j (by omega) z2 z3) hs
    · have eN : nR (cm x) nu (n + 1) p = nR (cm x) nu n (p + 1) := by simp only [nR]; rw [if_neg c]
      rw [eN] at hF ⊢
      rw [blk_n c]
      obtain ⟨B9, mg', B8, B7, o1, o2, o3, o4⟩ := ih (p + 1) s st F A9 mg A8 A7 (by omega) hF (fun j hj hc => by
        by_cases z : j = p
        · subst z; exact absurd hc c
        · exact h1 j (by omega) hc) (fun j z1 z2 z3 => h2 j (by omega) z2 z3) hs
      refine ⟨B9, mg', B8, B7, o1, o2, fun j hj => o3 j (by omega), fun j z1 z2 z3 => ?_⟩
      by_cases z : j = p
      · subst z; exact absurd z3 c
      · exact o4 j (by omega) z2 z3
theorem pr_zero {p0 p1 p2 x : Int32} {p4 p5 p6 p7 p8 : pA} {K : Int32 → pA → Option (Int32 × pA × pA × pA)} : ∀ (m k F : Nat) (B : pA), k + m = 6 → m < F → (∀ j, j < k → B j = 0) → ∃ B', L_hB_X9_parties_8 p0 p1 p2 p4 p5 p6 p7 p8 x K F (nn k) B = K (nn 6) B' ∧ ∀ j, j < 6 → B' j = 0 := by
  intro m
  induction m with
  | zero =>
    intro k F B e hF h
    obtain ⟨F, rfl⟩ : ∃ f, F = f + 1 := ⟨F - 1, by omega⟩
    obtain rfl : k = 6 := by omega
    refine ⟨B, ?_, h⟩
    rw [L_hB_X9_parties_8, if_pos (by decide)]
  | succ m ih =>
    intro k F B e hF h
    obtain ⟨F, rfl⟩ : ∃ f, F = f + 1 := ⟨F - 1, by omega⟩
    obtain ⟨B', e1, e2⟩ := ih (k + 1) F (upd B k 0) (by omega) (by omega) (fun j hj => by
      by_cases z : j = k
      · subst z; rw [upd_at]
      · rw [upd_ne _ _ z]; exact h j (by omega))
    refine ⟨B', ?_, e2⟩
    rw [L_hB_X9_parties_8, if_neg (show ¬ (6 : Int32) ≤ nn k from by rw [show (6 : Int32) = nn 6 from rfl, nn_le (by omega) (by omega)]; omega), xix_nn (by omega) (by omega), nn_nat (by omega), nn_succ, e1]
theorem pt_end {p1 p2 x g : Int32} {p5 p6 p7 A B C : pA} {K : Int32 → pA → Int32 → pA → pA → Option (Int32 × pA × pA × pA)} (F : Nat) : L_hB_X9_parties_29 p1 p2 p5 p6 p7 x K (F + 1) 0 A g B C = K 0 A g B C := by
  rw [L_hB_X9_parties_29, if_pos rfl]
theorem qr_parties {np nu : Nat} (hp1 : 1 ≤ np) (hn1 : 1 ≤ nu) (hn : nu ≤ 5) (hp : np ≤ 6) {x : Int32} {h t r l v R L : pA} (S : same np nu h t r l v R L) (hr : rib nu r) (hL : lan nu l) (g16 : Int32) (A7 A8 A9 : pA) : ∃ g B9 B7 B8, e_hB_X9_parties g16 (nn nu) (nn np) A7 A9 v L R A8 x = some (g, B9, B7, B8) ∧ rfS np (cm x) (bestP np nu x h t r l) g B8 := by
  unfold e_hB_X9_parties
  obtain ⟨Z7, z1, z2⟩ := pr_zero (p0 := -2) (p1 := nn nu) (p2 := nn np) (x := x) (p4 := A9) (p5 := v) (p6 := L) (p7 := R) (p8 := A8) (K := fun l2_8 ma7_8 => L_hB_X9_parties_29 (nn nu) (nn np) v L R x (fun l2_29 ma9_29 mg16_29 ma8_29 ma7_29 => some (mg16_29, ma9_29, ma7_29, ma8_29)) 200000 (1 : Int32) A9 (-2 : Int32) A8 ma7_8) 6 0 200000 A7 (by omega) (by omega) (fun j hj => absurd hj (by omega))
  obtain ⟨N1, N2⟩ := nR_le (c := cm x) hn1 hn np 0
  have N3 : 5 ^ np ≤ 15625 := Nat.pow_le_pow_right (n := 5) (by omega) hp
  obtain ⟨B9, mg', B8, B7, o1, o2, o3, o4⟩ := pr_block hp1 hn1 hn hp (x := x) S hr hL (K := fun l2_29 ma9_29 mg16_29 ma8_29 ma7_29 => some (mg16_29, ma9_29, ma7_29, ma8_29)) np 0 (fun _ => 0) none 200000 A9 (-2) A8 Z7 (by omega) (by omega) (fun j hj => absurd hj (by omega)) (fun j _ hj _ => z2 j (by omega)) rfl
  obtain ⟨C7, n1⟩ := nx_end hp1 hp hn1 hn (x := x) (A := B7) (fun j hj hc => o4 j (by omega) hj hc)
  refine ⟨mg', B9, C7, B8, z1.trans (o1.trans ?_), o2⟩
  rw [n1, Option.bind_some]
  obtain ⟨F, hF⟩ : ∃ f, 200000 - nR (cm x) nu np 0 = f + 1 := ⟨199999 - nR (cm x) nu np 0, by omega⟩
  rw [hF]
  exact pt_end F
section PARTY2
variable {np nu nl nc tp na nm : Nat} {la gu ra : Int32} {g7 g8 g9 g10 g11 g12 g13 g14 g15 g17 g18 g19 g20 g21 g22 g23 g24 g25 g26 g27 g28 g29 g30 g31 g32 g33 g34 : Int32} {a0 a1 a2 a3 a4 a5 a6 a7 a8 a9 a10 a11 a12 a13 a14 a15 a16 a17 a18 a19 a20 a21 a22 a23 a24 a25 a26 a27 a28 a29 a30 a31 a32 a33 a34 a35 a36 a37 a38 a39 : pA} {b0 b1 b2 b3 b4 : Nat → Int64} {w0 : Int64}
variable {G0 G2 G4 G5 G6 G7 G8 G10 G13 G14 G15 G16 G17 G18 G26 : Int32} {A0 A2 A3 A4 A5 A6 A7 A8 A9 A10 A11 A12 A13 A14 A15 A16 A17 A18 A19 A20 A21 A22 A23 : pA} {B0 : Nat → Int64} {W0 : Int64} {rb : Nat}
theorem C_party (I : IC np nu nl nc tp na nm la gu ra g22 g25 g26 g33 g34 G2 a0 a1 a2 a3 a4 a5 a6 a7 a8 a10 a11 a12 a13 a27 a28 a31 b2 b3 b4 A0 A2 A3 A4 A10 A11 A12 A13 A14 A15 A16 A17 A18 A19 A20 A21) (x1 : Int32) : ∃ (v : Int32) (g28' : Int32) (g29' : Int32) (a34' : (Nat → Int32)) (a37' : (Nat → Int32)) (a36' : (Nat → Int32)) (a35' : (Nat → Int32)) (c : Int32) (G16' : Int32) (A9' : (Nat → Int32)) (A7' : (Nat → Int32)) (A8' : (Nat → Int32)), e_hA_X7_party (nn np) g28 g29 (nn nu) a27 a34 a3 a37 a28 a2 a35 a36 g34 x1 = some (v, g28', g29', a34', a37', a36', a35', c) ∧ e_hB_X9_party G0 (nn np) G16 (nn nu) A7 A9 (mkr a27 a28 g22) A12 A13 A8 g34 G2 x1 = some (v, 0, G16', A9', A7', A8', c, (-1)) ∧ c ≠ 4 := by
  have S := I.same_
  obtain ⟨⟨hp1, hp, hn1, hn, hl, hc⟩, ⟨hla, hgu, hra⟩, eS, eK, eL, eR, eW, bL, bR, wW, eG, oG, eC⟩ := I.1
  rcases party_cases hp x1 with ⟨z1, z2⟩ | ⟨m, hm, rfl, z1, z2⟩
  · refine ⟨-1, g28, g29, a34, a37, a36, a35, 1, G16, A9, A7, A8, ?_, ?_, by decide⟩
    · unfold e_hA_X7_party
      rw [z1, Option.bind_some, if_pos rfl]; rfl
    · unfold e_hB_X9_party
      rw [z2, Option.bind_some, if_pos rfl]; rfl
  · obtain ⟨f, g, b34, b37, b36, b35, e1, e2⟩ := qc_seat hp hn hm (h := a27) (t := a28) bR bL g28 g29 a34 a37 a35 a36
    obtain ⟨w, B9, B7, B8, f1, f2⟩ := qr_parties hp1 hn1 hn hp (x := nn m) S bR bL G16 A7 A8 A9
    match bestP np nu (nn m) a27 a28 a3 a2, e2, f2 with
    | none, e2, f2 =>
      obtain rfl : f = 0 := e2
      obtain rfl : w = -2 := f2
      refine ⟨-2, 0, g, b34, b37, b36, b35, 0, -2, B9, B7, B8, ?_, ?_, by decide⟩
      · unfold e_hA_X7_party
        rw [z1, Option.bind_some, if_neg (by decide), e1]; rfl
      · unfold e_hB_X9_party
        rw [z2, Option.bind_some, if_neg (by decide), f1]; rfl
    | some (D, s), e2, f2 =>
      obtain ⟨rfl, rfl, _, _⟩ := (show f = 1 ∧ g = nn D ∧ D < 1000 ∧ _ from e2)
      obtain ⟨rfl, _, _⟩ := (show w = nn D ∧ D ≤ 594 ∧ _ from f2)
      refine ⟨nn D, 1, nn D, b34, b37, b36, b35, 0, nn D, B9, B7, B8, ?_, ?_, by decide⟩
      · unfold e_hA_X7_party
        rw [z1, Option.bind_some, if_neg (by decide), e1]; rfl
      · unfold e_hB_X9_party
        rw [z2, Option.bind_some, if_neg (by decide), f1]; rfl
theorem C_partyOf (I : IC np nu nl nc tp na nm la gu ra g22 g25 g26 g33 g34 G2 a0 a1 a2 a3 a4 a5 a6 a7 a8 a10 a11 a12 a13 a27 a28 a31 b2 b3 b4 A0 A2 A3 A4 A10 A11 A12 A13 A14 A15 A16 A17 A18 A19 A20 A21) (x1 x2 : Int32) : ∃ (v : Int32) (c : Int32) (g28' : Int32) (g29' : Int32) (a34' : (Nat → Int32)) (a37' : (Nat → Int32)) (a36' : (Nat → Int32)) (a35' : (Nat → Int32)) (G16' : Int32) (A9' : (Nat → Int32)) (A7' : (Nat → Int32)) (A8' : (Nat → Int32)), e_hA_X7_partyOf (nn np) g34 g28 g29 (nn nu) a27 a34 a3 a37 a28 a2 a35 a36 x1 x2 = some (v, c, g28', g29', a34', a37', a36', a35') ∧ e_hB_X9_partyOf G0 (nn np) g34 G2 G16 (nn nu) A7 A9 (mkr a27 a28 g22) A12 A13 A8 x1 x2 = some (v, 0, c, (-1), G16', A9', A7', A8') ∧ c ≠ 4 := by
  have S := I.same_
  obtain ⟨⟨hp1, hp, hn1, hn, hl, hc⟩, ⟨hla, hgu, hra⟩, eS, eK, eL, eR, eW, bL, bR, wW, eG, oG, eC⟩ := I.1
  rcases party_cases hp x1 with ⟨z1, z2⟩ | ⟨m, hm, rfl, z1, z2⟩
  · refine ⟨-1, 1, g28, g29, a34, a37, a36, a35, G16, A9, A7, A8, ?_, ?_, by decide⟩
    · unfold e_hA_X7_partyOf
      rw [z1, Option.bind_some, if_pos rfl]; rfl
    · unfold e_hB_X9_partyOf
      rw [z2, Option.bind_some, if_pos rfl]; rfl
  · rcases isP_cases hp x2 with ⟨y1, y2⟩ | ⟨p, hpp, rfl, y1, y2⟩
    · refine ⟨-1, 1, g28, g29, a34, a37, a36, a35, G16, A9, A7, A8, ?_, ?_, by decide⟩
      · unfold e_hA_X7_partyOf
        rw [z1, Option.bind_some, if_neg (by decide), y1, Option.bind_some, if_pos rfl]; rfl
      · unfold e_hB_X9_partyOf
        rw [z2, Option.bind_some, if_neg (by decide), y2, Option.bind_some, if_pos rfl]; rfl
    · obtain ⟨f, g, b34, b37, b36, b35, e1, e2⟩ := qc_seat hp hn hm (h := a27) (t := a28) bR bL g28 g29 a34 a37 a35 a36
      obtain ⟨w, B9, B7, B8, f1, f2⟩ := qr_parties hp1 hn1 hn hp (x := nn m) S bR bL G16 A7 A8 A9
      match bestP np nu (nn m) a27 a28 a3 a2, e2, f2 with
      | none, e2, f2 =>
        obtain rfl : f = 0 := e2
        obtain rfl : w = -2 := f2
        refine ⟨-1, 6, 0, g, b34, b37, b36, b35, -2, B9, B7, B8, ?_, ?_, by decide⟩
        · unfold e_hA_X7_partyOf
          rw [z1, Option.bind_some, if_neg (by decide), y1, Option.bind_some, if_neg (by decide), e1]; rfl
        · unfold e_hB_X9_partyOf
          rw [z2, Option.bind_some, if_neg (by decide), y2, Option.bind_some, if_neg (by decide), f1]; rfl
      | some (D, s), e2, f2 =>
        obtain ⟨rfl, rfl, _, hb⟩ := (show f = 1 ∧ g = nn D ∧ D < 1000 ∧ ∀ j, j < np → b36 j = if cm (nn m) j = true then nn (s j) else -2 from e2)
        obtain ⟨rfl, d5, hb2⟩ := (show w = nn D ∧ D ≤ 594 ∧ ∀ j, j < np → cm (nn m) j = true → B8 j = nn (s j) from f2)
        have nw : ¬ nn D = (-2 : Int32) := by rw [nn_ne2 (by omega)]; exact fun z => z
        have ec : e_hA_X7_partyOf (nn np) g34 g28 g29 (nn nu) a27 a34 a3 a37 a28 a2 a35 a36 (nn m) (nn p) = some (b36 p, 0, 1, nn D, b34, b37, b36, b35) := by
          unfold e_hA_X7_partyOf
          rw [z1, Option.bind_some, if_neg (by decide), y1, Option.bind_some, if_neg (by decide), e1, Option.bind_some]
          simp only []
          rw [if_neg (show ¬ (1 : Int32) = 0 from by decide), xix_nn (by omega) (by omega), nn_nat (by omega)]
          rfl
        rw [hb p hpp] at ec
        by_cases c : cm (nn m) p = true
        · rw [if_pos c] at ec
          refine ⟨_, _, _, _, _, _, _, _, nn D, B9, B7, B8, ec, ?_, by decide⟩
          unfold e_hB_X9_partyOf
          rw [z2, Option.bind_some, if_neg (by decide), y2, Option.bind_some, if_neg (by decide), f1, Option.bind_some]
          simp only []
          rw [if_neg nw, bit_cm, if_pos c, Option.bind_some, if_neg (show ¬ (1 : Int32) = 0 from by decide), xix_nn (by omega) (by omega), nn_nat (by omega), hb2 p hpp c]
          rfl
        · rw [if_neg c] at ec
          refine ⟨_, _, _, _, _, _, _, _, nn D, B9, B7, B8, ec, ?_, by decide⟩
          unfold e_hB_X9_partyOf
          rw [z2, Option.bind_some, if_neg (by decide), y2, Option.bind_some, if_neg (by decide), f1, Option.bind_some]
          simp only []
          rw [if_neg nw, bit_cm, if_neg c, Option.bind_some, if_pos rfl]
          rfl
end PARTY2
/-- the guest: both go through the people -/
theorem p_guest {np nu m : Nat} (hp1 : 1 ≤ np) (hn1 : 1 ≤ nu) (hn : nu ≤ 5) (hp : np ≤ 6) (hm : m < 2 ^ np) {h t r l v R L : pA} (S : same np nu h t r l v R L) (hr : rib nu r) (hL : lan nu l) {q1 q0 q2 q3 : Int32} {K : Int32 → Int32 → Int32 → Int32 → Int32 → pA → pA → pA → pA → Option (Int32 × Int32 × Int32 × Int32 × pA × pA × pA × pA)} {K2 : Int32 → Int32 → Int32 → Int32 → pA → pA → pA → Option (Int32 × Int32 × Int32 × Int32 × Int32 × pA × pA × pA)} : ∀ (n k F : Nat) (b le : Int32) (f g : Int32) (a34 a37 a36 a35 : pA) (G : Int32) (A9 A7 A8 : pA), k + n = np → n < F → ∃ b' le' f' g' b34 b37 b36 b35 G' B9 B7 B8, L_hA_X7_guest_22 (nn np) q1 (nn nu) h r t l (nn m) K F b le (nn k) f g a34 a37 a36 a35 = K b' le' (nn np) f' g' b34 b37 b36 b35 ∧ L_hB_X9_guest_27 q0 (nn np) q2 q3 (nn nu) v L R (nn m) K2 F b le (nn k) G A9 A7 A8 = K2 b' le' (nn np) G' B9 B7 B8 := by
  have b64 := pow_np hp
  intro n
  induction n with
  | zero =>
    intro k F b le f g a34 a37 a36 a35 G A9 A7 A8 e hF
    obtain ⟨F, rfl⟩ : ∃ f, F = f + 1 := ⟨F - 1, by omega⟩
    obtain rfl : k = np := by omega
    refine ⟨b, le, f, g, a34, a37, a36, a35, G, A9, A7, A8, ?_, ?_⟩
    · rw [L_hA_X7_guest_22, if_pos (by rw [nn_le (by omega) (by omega)]; omega)]
    · rw [L_hB_X9_guest_27, if_pos (by rw [nn_le (by omega) (by omega)]; omega)]
  | succ n ih =>
    intro k F b le f g a34 a37 a36 a35 G A9 A7 A8 e hF
    obtain ⟨F, rfl⟩ : ∃ f, F = f + 1 := ⟨F - 1, by omega⟩
    have i1 : ¬ nn np ≤ nn k := by rw [nn_le (by omega) (by omega)]; omega
    by_cases c : cm (nn m) k = true
    · have ha := L_hA_X7_guest_22.eq_2 (nn np) q1 (nn nu) h r t l (nn m) K b le (nn k) f g a34 a37 a36 a35 F
      have hb := L_hB_X9_guest_27.eq_2 q0 (nn np) q2 q3 (nn nu) v L R (nn m) K2 b le (nn k) G A9 A7 A8 F
      rw [if_neg i1, if_pos (cm_t c), nn_succ] at ha
      rw [if_neg i1, bit_cm, if_pos c, Option.bind_some, if_neg (show ¬ (1 : Int32) = 0 from by decide), nn_succ] at hb
      rw [ha, hb]
      exact ih (k + 1) F b le f g a34 a37 a36 a35 G A9 A7 A8 (by omega) (by omega)
    · obtain ⟨or1, or2⟩ := or_np ⟨np, by omega⟩ ⟨m, by omega⟩ hm ⟨k, by omega⟩ (show k < np by omega)
      have or1' : nn m ||| ((1 : Int32) <<< (nn k &&& 31)) = nn (m ||| 2 ^ k) := or1
      have or2' : (m ||| 2 ^ k) < 2 ^ np := or2
      obtain ⟨f1, g1, b34, b37, b36, b35, e1, e2⟩ := qc_seat hp hn or2' (h := h) (t := t) hr hL f g a34 a37 a35 a36
      obtain ⟨w, B9, B7, B8, o1, o2⟩ := qr_parties hp1 hn1 hn hp (x := nn (m ||| 2 ^ k)) S hr hL G A7 A8 A9
      have ha := L_hA_X7_guest_22.eq_2 (nn np) q1 (nn nu) h r t l (nn m) K b le (nn k) f g a34 a37 a36 a35 F
      have hb := L_hB_X9_guest_27.eq_2 q0 (nn np) q2 q3 (nn nu) v L R (nn m) K2 b le (nn k) G A9 A7 A8 F
      rw [if_neg i1, if_neg (cm_f c), nn_succ, or1', e1, Option.bind_some] at ha
      rw [if_neg i1, bit_cm, if_neg c, Option.bind_some, if_pos rfl, nn_succ, or1', o1, Option.bind_some] at hb
      simp only [] at ha hb
      rw [ha, hb]
      match bestP np nu (nn (m ||| 2 ^ k)) h t r l, e2, o2 with
      | none, e2, o2 =>
        rw [if_pos (show f1 = 0 from e2), if_pos (show w = -2 from o2)]
        exact ih (k + 1) F b le _ _ _ _ _ _ _ _ _ _ (by omega) (by omega)
      | some (D, s), e2, o2 =>
        obtain ⟨rfl, rfl, _, _⟩ := (show f1 = 1 ∧ g1 = nn D ∧ D < 1000 ∧ _ from e2)
        obtain ⟨rfl, d5, _⟩ := (show w = nn D ∧ D ≤ 594 ∧ _ from o2)
        rw [if_neg (show ¬ (1 : Int32) = 0 from by decide), if_neg (show ¬ nn D = (-2 : Int32) from by rw [nn_ne2 (by omega)]; exact fun z => z)]
        by_cases y : b = (-2 : Int32)
        · rw [if_pos y, if_pos y]
          exact ih (k + 1) F _ _ _ _ _ _ _ _ _ _ _ _ (by omega) (by omega)
        · rw [if_neg y, if_neg y]
          by_cases y2 : le ≤ nn D
          · rw [if_pos y2, if_neg (Int32.not_lt.mpr y2)]
            exact ih (k + 1) F _ _ _ _ _ _ _ _ _ _ _ _ (by omega) (by omega)
          · rw [if_neg y2, if_pos (Int32.not_le.mp y2)]
            exact ih (k + 1) F _ _ _ _ _ _ _ _ _ _ _ _ (by omega) (by omega)
section PARTY3
variable {np nu nl nc tp na nm : Nat} {la gu ra : Int32} {g7 g8 g9 g10 g11 g12 g13 g14 g15 g17 g18 g19 g20 g21 g22 g23 g24 g25 g26 g27 g28 g29 g30 g31 g32 g33 g34 : Int32} {a0 a1 a2 a3 a4 a5 a6 a7 a8 a9 a10 a11 a12 a13 a14 a15 a16 a17 a18 a19 a20 a21 a22 a23 a24 a25 a26 a27 a28 a29 a30 a31 a32 a33 a34 a35 a36 a37 a38 a39 : pA} {b0 b1 b2 b3 b4 : Nat → Int64} {w0 : Int64}
variable {G0 G2 G4 G5 G6 G7 G8 G10 G13 G14 G15 G16 G17 G18 G26 : Int32} {A0 A2 A3 A4 A5 A6 A7 A8 A9 A10 A11 A12 A13 A14 A15 A16 A17 A18 A19 A20 A21 A22 A23 : pA} {B0 : Nat → Int64} {W0 : Int64} {rb : Nat}
theorem C_guest (I : IC np nu nl nc tp na nm la gu ra g22 g25 g26 g33 g34 G2 a0 a1 a2 a3 a4 a5 a6 a7 a8 a10 a11 a12 a13 a27 a28 a31 b2 b3 b4 A0 A2 A3 A4 A10 A11 A12 A13 A14 A15 A16 A17 A18 A19 A20 A21) (x1 : Int32) : ∃ (v : Int32) (c : Int32) (g28' : Int32) (g29' : Int32) (a34' : (Nat → Int32)) (a37' : (Nat → Int32)) (a36' : (Nat → Int32)) (a35' : (Nat → Int32)) (G16' : Int32) (A9' : (Nat → Int32)) (A7' : (Nat → Int32)) (A8' : (Nat → Int32)), e_hA_X7_guest (nn np) g34 g28 g29 (nn nu) a27 a34 a3 a37 a28 a2 a35 a36 x1 = some (v, c, g28', g29', a34', a37', a36', a35') ∧ e_hB_X9_guest G0 (nn np) g34 G2 G16 (nn nu) A7 A9 (mkr a27 a28 g22) A12 A13 A8 x1 = some (v, 0, c, (-1), G16', A9', A7', A8') ∧ c ≠ 4 := by
  have S := I.same_
  obtain ⟨⟨hp1, hp, hn1, hn, hl, hc⟩, ⟨hla, hgu, hra⟩, eS, eK, eL, eR, eW, bL, bR, wW, eG, oG, eC⟩ := I.1
  rcases party_cases hp x1 with ⟨z1, z2⟩ | ⟨m, hm, rfl, z1, z2⟩
  · refine ⟨-1, 1, g28, g29, a34, a37, a36, a35, G16, A9, A7, A8, ?_, ?_, by decide⟩
    · unfold e_hA_X7_guest
      rw [z1, Option.bind_some, if_pos rfl]; rfl
    · unfold e_hB_X9_guest
      rw [z2, Option.bind_some, if_pos rfl]; rfl
  · obtain ⟨b', le', f', g', b34, b37, b36, b35, G', B9, B7, B8, e1, e2⟩ := p_guest hp1 hn1 hn hp hm S bR bL (q1 := g34) (q0 := 0) (q2 := g34) (q3 := G2) (K := fun l2_22 l3_22 l4_22 mg28_22 mg29_22 ma34_22 ma37_22 ma36_22 ma35_22 => ((e_hA_X7_answer g34 l2_22).bind fun z107 => some (z107.1, z107.2, mg28_22, mg29_22, ma34_22, ma37_22, ma36_22, ma35_22))) (K2 := fun l2_27 l3_27 l4_27 mg16_27 ma9_27 ma7_27 ma8_27 => ((e_hB_X9_good g34 G2 l2_27).bind fun z103 => some (z103.1, (0 : Int32), z103.2.1, z103.2.2, mg16_27, ma9_27, ma7_27, ma8_27))) np 0 200000 (-2) 0 g28 g29 a34 a37 a36 a35 G16 A9 A7 A8 (by omega) (by omega)
    refine ⟨b', 0, f', g', b34, b37, b36, b35, G', B9, B7, B8, ?_, ?_, by decide⟩
    · unfold e_hA_X7_guest
      rw [z1, Option.bind_some, if_neg (by decide)]
      exact e1
    · unfold e_hB_X9_guest
      rw [z2, Option.bind_some, if_neg (by decide)]
      exact e2
end PARTY3
