/-! THE PURE PART: PUT RIGHT, by the reference -/
def simL (nu : Nat) : pA → List Nat → Option pA
  | h, [] => some h
  | h, c :: cs => if val nu h c = true then simL nu (swp (c / 10) (c % 10) h) cs else none
def sR (nu : Nat) (t h : pA) (pre ds : List Nat) (st : Nat × List Nat) : Nat × List Nat := match simL nu h ds with
  | some h' => tkM (sc h' t nu) (pre ++ ds) st
  | none => st
theorem sR_cons {nu : Nat} {t h : pA} {pre ds : List Nat} {c : Nat} {st : Nat × List Nat} : sR nu t h pre (c :: ds) st = if val nu h c = true then sR nu t (swp (c / 10) (c % 10) h) (pre ++ [c]) ds st else st := by
  unfold sR
  simp only [simL]
  by_cases q : val nu h c = true
  · rw [if_pos q, if_pos q]
    simp only [List.append_assoc, List.singleton_append]
  · rw [if_neg q, if_neg q]
theorem sR_nil {nu : Nat} {t h : pA} {pre : List Nat} {st : Nat × List Nat} : sR nu t h pre [] st = tkM (sc h t nu) pre st := by
  unfold sR
  simp only [simL, List.append_nil]
theorem sR1 {nu : Nat} {t h : pA} {pre : List Nat} (st : Nat × List Nat) : fx (fun N => sR nu t h pre [N]) 50 0 st = mT nu t 1 h pre st := by
  simp only [mT]
  exact fx_congr 50 0 st (fun j _ _ s => by rw [sR_cons, sR_nil])
theorem sR2 {nu : Nat} {t h : pA} {pre : List Nat} (st : Nat × List Nat) : fx (fun N => sR nu t h pre [N / 50, N % 50]) 2500 0 st = mT nu t 2 h pre st := by
  have := fx_block (fun N => sR nu t h pre [N / 50, N % 50]) 50 50 0 st
  rw [show 50 * 50 = 2500 from rfl, show 50 * 0 = 0 from rfl] at this
  rw [this, mT]
  refine fx_congr 50 0 st (fun a _ _ s => ?_)
  rw [fx_congr (g := fun b => sR nu t h pre [a, b]) 50 0 s (fun b _ hb s2 => by
    rw [show (50 * a + b) / 50 = a by omega, show (50 * a + b) % 50 = b by omega])]
  by_cases q : val nu h a = true
  · rw [if_pos q, ← sR1]
    exact fx_congr 50 0 s (fun b _ _ s2 => by rw [sR_cons, if_pos q])
  · rw [if_neg q]
    exact fx_id 50 0 (fun b _ _ => by rw [sR_cons, if_neg q])
theorem sR3 {nu : Nat} {t h : pA} {pre : List Nat} (st : Nat × List Nat) : fx (fun N => sR nu t h pre [N / 2500, N / 50 % 50, N % 50]) 125000 0 st = mT nu t 3 h pre st := by
  have := fx_block (fun N => sR nu t h pre [N / 2500, N / 50 % 50, N % 50]) 2500 50 0 st
  rw [show 2500 * 50 = 125000 from rfl, show 2500 * 0 = 0 from rfl] at this
  rw [this, mT]
  refine fx_congr 50 0 st (fun a _ _ s => ?_)
  rw [fx_congr (g := fun b => sR nu t h pre [a, b / 50, b % 50]) 2500 0 s (fun b _ hb s2 => by
    rw [show (2500 * a + b) / 2500 = a by omega, show (2500 * a + b) / 50 % 50 = b / 50 by omega, show (2500 * a + b) % 50 = b % 50 by omega])]
  by_cases q : val nu h a = true
  · rw [if_pos q, ← sR2]
    exact fx_congr 2500 0 s (fun b _ _ s2 => by rw [sR_cons, if_pos q])
  · rw [if_neg q]
    exact fx_id 2500 0 (fun b _ _ => by rw [sR_cons, if_neg q])
/-- the first ones of a row are these digits -/
def dgs (row : pA) (k : Nat) (ds : List Nat) : Prop := ∀ i, i < ds.length → row (k + i) = nn (ds.getD i 0) ∧ ds.getD i 0 < 50
theorem pr_isDone {nu many : Nat} (hn : nu ≤ 5) (hm : many ≤ 3) {row : pA} : ∀ (ds : List Nat) (k F : Nat) (x : pA), k + ds.length = many → ds.length < F → cn x → dgs row k ds → (simL nu x ds = none ∧ ∃ x', cn x' ∧ L_hB_X9_isDone_2 row (nn nu) (nn many) (fun _ ma2_2 => some ((1 : Int32), ma2_2)) F (nn k) x = some (0, x')) ∨ (∃ h, simL nu x ds = some h ∧ cn h ∧ L_hB_X9_isDone_2 row (nn nu) (nn many) (fun _ ma2_2 => some ((1 : Int32), ma2_2)) F (nn k) x = some (1, h)) := by
  intro ds
  induction ds with
  | nil =>
    intro k F x e hF hx _
    obtain ⟨F, rfl⟩ : ∃ f, F = f + 1 := ⟨F - 1, by omega⟩
    obtain rfl : k = many := by simpa using e
    right
    refine ⟨x, rfl, hx, ?_⟩
    simp (disch := omega) only [L_hB_X9_isDone_2, nn_le, Nat.le_refl, ↓reduceIte]
  | cons c cs ih =>
    intro k F x e hF hx hd
    obtain ⟨F, rfl⟩ : ∃ f, F = f + 1 := ⟨F - 1, by omega⟩
    rw [List.length_cons] at e hF
    have i1 : ¬ nn many ≤ nn k := by rw [nn_le (by omega) (by omega)]; omega
    obtain ⟨er, hc50⟩ := hd 0 (by rw [List.length_cons]; omega)
    rw [Nat.add_zero] at er
    have er' : row k = nn c := er
    have hc : c < 50 := hc50
    have hd' : dgs row (k + 1) cs := fun i hi => by
      have := hd (i + 1) (by rw [List.length_cons]; omega)
      rw [show k + (i + 1) = k + 1 + i by omega] at this
      exact this
    have d1 : nn c / (10 : Int32) = nn (c / 10) := nn_div (b := 10) (by omega) (by omega)
    have d2 : nn c - nn (c / 10) * (10 : Int32) = nn (c % 10) := nn_mod2 (b := 10) (by omega) (by omega)
    have head : L_hB_X9_isDone_2 row (nn nu) (nn many) (fun _ ma2_2 => some ((1 : Int32), ma2_2)) (F + 1) (nn k) x = if nn (c % 10) ≤ nn (c / 10) then some ((0 : Int32), x) else if nn nu ≤ nn (c % 10) then some ((0 : Int32), x) else ((e_hB_X9_canExchange x (nn (c / 10)) (nn (c % 10))).bind fun z54 => if z54 = (0 : Int32) then some ((0 : Int32), x) else ((e_hB_X9_changes x (nn (c / 10)) (nn (c % 10))).bind fun z69 => L_hB_X9_isDone_2 row (nn nu) (nn many) (fun _ ma2_2 => some ((1 : Int32), ma2_2)) F (nn (k + 1)) z69)) := by
      rw [L_hB_X9_isDone_2, if_neg i1, xix_nn (by omega) (by omega), xix_nn (by omega) (by omega), nn_nat (by omega), er']
      simp only [d1, d2, nn_succ]
    rw [head]
    simp only [simL]
    by_cases q1 : c % 10 ≤ c / 10
    · left
      have : val nu x c = false := by unfold val; simp only [decide_eq_false_iff_not]; exact fun z => by omega
      rw [this]
      exact ⟨rfl, x, hx, if_pos (show nn (c % 10) ≤ nn (c / 10) from by rw [nn_le (by omega) (by omega)]; exact q1)⟩
    · rw [if_neg (show ¬ nn (c % 10) ≤ nn (c / 10) from by rw [nn_le (by omega) (by omega)]; exact q1)]
      by_cases q2 : nu ≤ c % 10
      · left
        have : val nu x c = false := by unfold val; simp only [decide_eq_false_iff_not]; exact fun z => by omega
        rw [this]
        exact ⟨rfl, x, hx, if_pos (show nn nu ≤ nn (c % 10) from by rw [nn_le (by omega) (by omega)]; exact q2)⟩
      · rw [if_neg (show ¬ nn nu ≤ nn (c % 10) from by rw [nn_le (by omega) (by omega)]; exact q2)]
        have b1 : c / 10 < 5 := by omega
        have b2 : c % 10 < 5 := by omega
        have hne : ¬ nn (c / 10) = nn (c % 10) := by rw [nn_inj (by omega) (by omega)]; omega
        by_cases q3 : x (c / 10) = x (c % 10)
        · left
          have : val nu x c = false := by unfold val; simp only [decide_eq_false_iff_not]; exact fun z => z.2.2 q3
          rw [this]
          refine ⟨rfl, x, hx, ?_⟩
          have ec : e_hB_X9_canExchange x (nn (c / 10)) (nn (c % 10)) = some 0 := by
            unfold e_hB_X9_canExchange
            rw [if_neg hne, nn_0add, nn_0add, xix_nn (by omega) (by omega), xix_nn (by omega) (by omega), nn_nat (by omega), nn_nat (by omega), if_pos q3]
          rw [ec, Option.bind_some, if_pos rfl]
        · have ev : val nu x c = true := by unfold val; simp only [decide_eq_true_eq]; exact ⟨by omega, by omega, q3⟩
          have ec : e_hB_X9_canExchange x (nn (c / 10)) (nn (c % 10)) = some 1 := by
            unfold e_hB_X9_canExchange
            rw [if_neg hne, nn_0add, nn_0add, xix_nn (by omega) (by omega), xix_nn (by omega) (by omega), nn_nat (by omega), nn_nat (by omega), if_neg q3]
          have es : e_hB_X9_changes x (nn (c / 10)) (nn (c % 10)) = some (swp (c / 10) (c % 10) x) := by
            unfold e_hB_X9_changes swp
            simp (disch := omega) only [nn_0add, xix_nn, nn_nat]
          rw [ec, Option.bind_some, if_neg (show ¬ (1 : Int32) = 0 from by decide), es, Option.bind_some, if_pos ev]
          exact ih (k + 1) F _ (by omega) (by omega) (swp_cn b1 b2 hx) hd'
theorem simL_t {nu : Nat} (hn : nu ≤ 5) : ∀ (ds : List Nat) (x h : pA), simL nu x ds = some h → tR h = tR x := by
  intro ds
  induction ds with
  | nil => intro x h e; rw [show h = x from (Option.some.inj e).symm]
  | cons c cs ih =>
    intro x h e
    simp only [simL] at e
    by_cases q : val nu x c = true
    · rw [if_pos q] at e
      rw [ih _ _ e]
      unfold val at q
      simp only [decide_eq_true_eq] at q
      funext k
      unfold tR
      rw [swp_at (by omega) (by omega)]
    · rw [if_neg q] at e
      exact absurd e (by simp)
theorem pr_takes33 {many : Nat} (hm : many ≤ 3) {row : pA} {p0 p2 p3 : Int32} {p1 : pA} {K : Int32 → pA → Option (Int32 × Int32 × pA)} : ∀ (m k F : Nat) (best : pA), k + m = many → m < F → (∀ i, i < k → best i = row i) → ∃ best', L_hB_X9_takes_33 p0 p1 p2 p3 row (nn many) K F (nn k) best = K (nn many) best' ∧ ∀ i, i < many → best' i = row i := by
  intro m
  induction m with
  | zero =>
    intro k F best e hF hh
    obtain ⟨F, rfl⟩ : ∃ f, F = f + 1 := ⟨F - 1, by omega⟩
    obtain rfl : k = many := by omega
    refine ⟨best, ?_, hh⟩
    simp (disch := omega) only [L_hB_X9_takes_33, nn_le, Nat.le_refl, ↓reduceIte]
  | succ m ih =>
    intro k F best e hF hh
    obtain ⟨F, rfl⟩ : ∃ f, F = f + 1 := ⟨F - 1, by omega⟩
    have hk : ¬ many ≤ k := by omega
    obtain ⟨b', e1, e2⟩ := ih (k + 1) F (upd best k (row k)) (by omega) (by omega) (fun i hi => by
      by_cases z : i = k
      · subst z; rw [upd_at]
      · rw [upd_ne _ _ z]; exact hh i (by omega))
    refine ⟨b', ?_, e2⟩
    rw [← e1]
    simp (disch := omega) only [L_hB_X9_takes_33, nn_le, hk, ↓reduceIte, xix_nn, nn_nat, nn_succ]
/-- takes: right < score, or not -/
theorem qr_takes {nu many : Nat} (hn : nu ≤ 5) (hm : many ≤ 3) {x row best : pA} {g14 g15 : Int32} : ∃ best', e_hB_X9_takes (nn nu) x g14 g15 row best (nn many) = (if g14 < nn (sc x (tR x) nu) then some (nn (sc x (tR x) nu), nn many, best') else some (g14, g15, best)) ∧ ∀ i, i < many → best' i = row i := by
  obtain ⟨b', e1, e2⟩ := pr_takes33 hm (row := row) (p0 := nn nu) (p1 := x) (p2 := nn (sc x (tR x) nu)) (p3 := nn many) (K := fun _ ma6_33 => some (nn (sc x (tR x) nu), nn many, ma6_33)) many 0 200000 best (by omega) (by omega) (fun i hi => absurd hi (by omega))
  refine ⟨b', ?_, e2⟩
  unfold e_hB_X9_takes
  rw [qr_rightIn hn, Option.bind_some, sc_r hn, Option.bind_some]
  by_cases q : g14 < nn (sc x (tR x) nu)
  · rw [if_pos q, if_pos q]
    exact e1
  · rw [if_neg q, if_neg q]
theorem nr_inc {K : Int32 → pA → Option (Int32 × pA)} {F k c : Nat} {row : pA} (hk : k < 3) (hr : row k = nn c) (hc : c + 1 < 50) : L_hB_X9_nextRow_4 K (F + 1) (nn k) row = some (1, upd row k (nn (c + 1))) := by
  have i1 : ¬ (50 : Int32) ≤ nn (c + 1) := by rw [show (50 : Int32) = nn 50 from rfl, nn_le (by omega) (by omega)]; omega
  simp (disch := omega) only [L_hB_X9_nextRow_4, nn_pos, ↓reduceIte, xix_nn, nn_nat, upd_at, hr, nn_succ, i1]
theorem nr_car {K : Int32 → pA → Option (Int32 × pA)} {F k : Nat} {row : pA} (hk : k < 3) (hr : row k = nn 49) : L_hB_X9_nextRow_4 K (F + 1) (nn k) row = L_hB_X9_nextRow_4 K F (nn k + (-1)) (upd row k 0) := by
  have i1 : (50 : Int32) ≤ nn (49 + 1) := by decide
  simp (disch := omega) only [L_hB_X9_nextRow_4, nn_pos, ↓reduceIte, xix_nn, nn_nat, upd_at, hr, nn_succ, i1, upd_upd]
theorem nr_end {K : Int32 → pA → Option (Int32 × pA)} {F : Nat} {row : pA} : L_hB_X9_nextRow_4 K (F + 1) (-1) row = K (-1) row := by
  rw [L_hB_X9_nextRow_4, if_pos (by decide)]
def D1 (N : Nat) : List Nat := [N]
def D2 (N : Nat) : List Nat := [N / 50, N % 50]
def D3 (N : Nat) : List Nat := [N / 2500, N / 50 % 50, N % 50]
def nxOk (many T : Nat) (D : Nat → List Nat) : Prop := ∀ (N : Nat) (row : pA), N < T → dgs row 0 (D N) → (N + 1 < T → ∃ row', e_hB_X9_nextRow row (nn many) = some (1, row') ∧ dgs row' 0 (D (N + 1))) ∧ (N + 1 = T → ∃ row', e_hB_X9_nextRow row (nn many) = some (0, row'))
theorem dgs1 {row : pA} {a : Nat} : dgs row 0 [a] ↔ row 0 = nn a ∧ a < 50 := by
  constructor
  · intro h; exact h 0 (by simp)
  · intro h i hi
    have : i = 0 := by simp at hi; omega
    subst this
    exact h
theorem dgs2 {row : pA} {a b : Nat} : dgs row 0 [a, b] ↔ (row 0 = nn a ∧ a < 50) ∧ (row 1 = nn b ∧ b < 50) := by
  constructor
  · intro h; exact ⟨h 0 (by simp), h 1 (by simp)⟩
  · intro h i hi
    have : i = 0 ∨ i = 1 := by simp at hi; omega
    rcases this with rfl | rfl
    · exact h.1
    · exact h.2
theorem dgs3 {row : pA} {a b c : Nat} : dgs row 0 [a, b, c] ↔ (row 0 = nn a ∧ a < 50) ∧ (row 1 = nn b ∧ b < 50) ∧ (row 2 = nn c ∧ c < 50) := by
  constructor
  · intro h; exact ⟨h 0 (by simp), h 1 (by simp), h 2 (by simp)⟩
  · intro h i hi
    have : i = 0 ∨ i = 1 ∨ i = 2 := by simp at hi; omega
    rcases this with rfl | rfl | rfl
    · exact h.1
    · exact h.2.1
    · exact h.2.2
theorem nx1 : nxOk 1 50 D1 := by
  intro N row hN hd
  obtain ⟨h1, h2⟩ := dgs1.mp hd
  refine ⟨fun hT => ?_, fun hT => ?_⟩
  · refine ⟨upd row 0 (nn (N + 1)), ?_, dgs1.mpr ⟨upd_at _ _ _, hT⟩⟩
    exact (nr_inc (k := 0) (F := 199999) (by omega) h1 hT : _)
  · obtain rfl : N = 49 := by omega
    refine ⟨upd row 0 0, ?_⟩
    exact ((nr_car (k := 0) (F := 199999) (by omega) h1).trans (nr_end (F := 199998)) : _)
theorem nx2 : nxOk 2 2500 D2 := by
  intro N row hN hd
  obtain ⟨⟨h1, h2⟩, h3, h4⟩ := dgs2.mp hd
  refine ⟨fun hT => ?_, fun hT => ?_⟩
  · by_cases q : N % 50 + 1 < 50
    · refine ⟨upd row 1 (nn (N % 50 + 1)), (nr_inc (k := 1) (F := 199999) (by omega) h3 q : _), dgs2.mpr ⟨⟨?_, by omega⟩, ?_, by omega⟩⟩
      · rw [upd_ne _ _ (by omega), h1]; congr 1; omega
      · rw [upd_at]; congr 1; omega
    · have h3' : row 1 = nn 49 := by rw [h3]; congr 1; omega
      refine ⟨upd (upd row 1 0) 0 (nn (N / 50 + 1)), ((nr_car (k := 1) (F := 199999) (by omega) h3').trans (nr_inc (k := 0) (c := N / 50) (F := 199998) (by omega) (by rw [upd_ne _ _ (by omega)]; exact h1) (by omega)) : _), dgs2.mpr ⟨⟨?_, by omega⟩, ?_, by omega⟩⟩
      · rw [upd_at]; congr 1; omega
      · rw [upd_ne _ _ (by omega), upd_at, show (N + 1) % 50 = 0 by omega]; rfl
  · have h1' : row 0 = nn 49 := by rw [h1]; congr 1; omega
    have h3' : row 1 = nn 49 := by rw [h3]; congr 1; omega
    exact ⟨upd (upd row 1 0) 0 0, ((nr_car (k := 1) (F := 199999) (by omega) h3').trans ((nr_car (k := 0) (F := 199998) (by omega) (by rw [upd_ne _ _ (by omega)]; exact h1')).trans (nr_end (F := 199997))) : _)⟩
theorem nx3 : nxOk 3 125000 D3 := by
  intro N row hN hd
  obtain ⟨⟨h1, h2⟩, ⟨h3, h4⟩, h5, h6⟩ := dgs3.mp hd
  refine ⟨fun hT => ?_, fun hT => ?_⟩
  · by_cases q : N % 50 + 1 < 50
    · refine ⟨upd row 2 (nn (N % 50 + 1)), (nr_inc (k := 2) (F := 199999) (by omega) h5 q : _), dgs3.mpr ⟨⟨?_, by omega⟩, ⟨?_, by omega⟩, ?_, by omega⟩⟩
      · rw [upd_ne _ _ (by omega), h1]; congr 1; omega
      · rw [upd_ne _ _ (by omega), h3]; congr 1; omega
      · rw [upd_at]; congr 1; omega
    · have h5' : row 2 = nn 49 := by rw [h5]; congr 1; omega
      by_cases q2 : N / 50 % 50 + 1 < 50
      · refine ⟨upd (upd row 2 0) 1 (nn (N / 50 % 50 + 1)), ((nr_car (k := 2) (F := 199999) (by omega) h5').trans (nr_inc (k := 1) (c := N / 50 % 50) (F := 199998) (by omega) (by rw [upd_ne _ _ (by omega)]; exact h3) q2) : _), dgs3.mpr ⟨⟨?_, by omega⟩, ⟨?_, by omega⟩, ?_, by omega⟩⟩
        · rw [upd_ne _ _ (by omega), upd_ne _ _ (by omega), h1]; congr 1; omega
        · rw [upd_at]; congr 1; omega
        · rw [upd_ne _ _ (by omega), upd_at, show (N + 1) % 50 = 0 by omega]; rfl
      · have h3' : row 1 = nn 49 := by rw [h3]; congr 1; omega
        refine ⟨upd (upd (upd row 2 0) 1 0) 0 (nn (N / 2500 + 1)), ((nr_car (k := 2) (F := 199999) (by omega) h5').trans ((nr_car (k := 1) (F := 199998) (by omega) (by rw [upd_ne _ _ (by omega)]; exact h3')).trans (nr_inc (k := 0) (c := N / 2500) (F := 199997) (by omega) (by rw [upd_ne _ _ (by omega), upd_ne _ _ (by omega)]; exact h1) (by omega))) : _), dgs3.mpr ⟨⟨?_, by omega⟩, ⟨?_, by omega⟩, ?_, by omega⟩⟩
        · rw [upd_at]; congr 1; omega
        · rw [upd_ne _ _ (by omega), upd_at, show (N + 1) / 50 % 50 = 0 by omega]; rfl
        · rw [upd_ne _ _ (by omega), upd_ne _ _ (by omega), upd_at, show (N + 1) % 50 = 0 by omega]; rfl
  · have h1' : row 0 = nn 49 := by rw [h1]; congr 1; omega
    have h3' : row 1 = nn 49 := by rw [h3]; congr 1; omega
    have h5' : row 2 = nn 49 := by rw [h5]; congr 1; omega
    exact ⟨upd (upd (upd row 2 0) 1 0) 0 0, ((nr_car (k := 2) (F := 199999) (by omega) h5').trans ((nr_car (k := 1) (F := 199998) (by omega) (by rw [upd_ne _ _ (by omega)]; exact h3')).trans ((nr_car (k := 0) (F := 199997) (by omega) (by rw [upd_ne _ _ (by omega), upd_ne _ _ (by omega)]; exact h1')).trans (nr_end (F := 199996)))) : _)⟩
theorem pr_s34 {nu many T : Nat} (hn : nu ≤ 5) (hm : many ≤ 3) {D : Nat → List Nat} (hlen : ∀ N, (D N).length = many) (hnx : nxOk many T D) {v : pA} (hv : cn v) {K : Int32 → pA → Int32 → Int32 → pA → pA → Option (Int32 × pA × pA × Int32 × pA)} : ∀ (m N F : Nat) (x best row : pA) (g14 g15 : Int32) (st : Nat × List Nat), N + (m + 1) = T → m + 1 < F → cn x → dgs row 0 (D N) → Rp g14 g15 best st → ∃ x' g14' g15' best' row', cn x' ∧ L_hB_X9_seeks_34 v (nn nu) (nn many) K F 1 x g14 g15 best row = K 0 x' g14' g15' best' row' ∧ Rp g14' g15' best' (fx (fun N => sR nu (tR v) v [] (D N)) (m + 1) N st) := by
  have one : ∀ (N : Nat) (x best row : pA) (g14 g15 : Int32) (st : Nat × List Nat), cn x → dgs row 0 (D N) → Rp g14 g15 best st → ∃ x' g14' g15' best', cn x' ∧ Rp g14' g15' best' (sR nu (tR v) v [] (D N) st) ∧ ∀ F, L_hB_X9_seeks_34 v (nn nu) (nn many) K (F + 1) 1 x g14 g15 best row = ((e_hB_X9_nextRow row (nn many)).bind fun z57 => L_hB_X9_seeks_34 v (nn nu) (nn many) K F z57.1 x' g14' g15' best' z57.2) := by
    intro N x best row g14 g15 st hx hd hR
    have hz : ¬ (1 : Int32) = 0 := by decide
    rcases pr_isDone hn hm (D N) 0 200000 v (by rw [hlen]; omega) (by rw [hlen]; omega) hv hd with ⟨e0, x', hx', e1⟩ | ⟨h, e0, hh, e1⟩
    · have e1' : e_hB_X9_isDone row (nn nu) v (nn many) = some (0, x') := e1
      refine ⟨x', g14, g15, best, hx', ?_, fun F => ?_⟩
      · unfold sR
        rw [e0]
        exact hR
      · rw [L_hB_X9_seeks_34, if_neg hz, qr_tries hv hx, Option.bind_some, e1', Option.bind_some, if_pos rfl]
    · have e1' : e_hB_X9_isDone row (nn nu) v (nn many) = some (1, h) := e1
      obtain ⟨b', e2, e3⟩ := qr_takes hn hm (x := h) (row := row) (best := best) (g14 := g14) (g15 := g15)
      have ht := simL_t hn _ _ _ e0
      rw [ht] at e2
      obtain ⟨rfl, rfl, h5, h3, hb⟩ := hR
      have hs := sc_le (h := h) (t := tR v) (nu := nu)
      by_cases q : st.1 < sc h (tR v) nu
      · rw [if_pos (by rw [nn_lt (by omega) (by omega)]; exact q)] at e2
        refine ⟨h, nn (sc h (tR v) nu), nn many, b', hh, ?_, fun F => ?_⟩
        · unfold sR
          rw [e0]
          simp only [tkM, List.nil_append]
          rw [if_pos q]
          refine ⟨rfl, by rw [hlen], by show sc h (tR v) nu ≤ 5; omega, by show (D N).length ≤ 3; rw [hlen]; exact hm, fun i hi => ?_⟩
          have hi' : i < (D N).length := hi
          rw [e3 i (by rw [hlen] at hi'; exact hi')]
          have := (hd i hi').1
          rwa [Nat.zero_add] at this
        · rw [L_hB_X9_seeks_34, if_neg hz, qr_tries hv hx, Option.bind_some, e1', Option.bind_some, if_neg (show ¬ (1 : Int32) = 0 from hz)]
          simp only []
          rw [e2, Option.bind_some]
      · rw [if_neg (by rw [nn_lt (by omega) (by omega)]; exact q)] at e2
        refine ⟨h, nn st.1, nn st.2.length, best, hh, ?_, fun F => ?_⟩
        · unfold sR
          rw [e0]
          simp only [tkM]
          rw [if_neg q]
          exact ⟨rfl, rfl, h5, h3, hb⟩
        · rw [L_hB_X9_seeks_34, if_neg hz, qr_tries hv hx, Option.bind_some, e1', Option.bind_some, if_neg (show ¬ (1 : Int32) = 0 from hz)]
          simp only []
          rw [e2, Option.bind_some]
  intro m
  induction m with
  | zero =>
    intro N F x best row g14 g15 st e hF hx hd hR
    obtain ⟨F, rfl⟩ : ∃ f, F = f + 1 + 1 := ⟨F - 2, by omega⟩
    obtain ⟨x1, g1, g2, b1, hx1, hR1, st1⟩ := one N x best row g14 g15 st hx hd hR
    obtain ⟨row', e1⟩ := (hnx N row (by omega) hd).2 (by omega)
    refine ⟨x1, g1, g2, b1, row', hx1, ?_, hR1⟩
    rw [st1, e1, Option.bind_some, L_hB_X9_seeks_34, if_pos rfl]
  | succ m ih =>
    intro N F x best row g14 g15 st e hF hx hd hR
    obtain ⟨F, rfl⟩ : ∃ f, F = f + 1 := ⟨F - 1, by omega⟩
    obtain ⟨x1, g1, g2, b1, hx1, hR1, st1⟩ := one N x best row g14 g15 st hx hd hR
    obtain ⟨row', e1, hd1⟩ := (hnx N row (by omega) hd).1 (by omega)
    obtain ⟨x2, g3, g4, b2, row2, hx2, e2, hR2⟩ := ih (N + 1) F x1 b1 row' g1 g2 _ (by omega) (by omega) hx1 hd1 hR1
    refine ⟨x2, g3, g4, b2, row2, hx2, ?_, hR2⟩
    rw [st1, e1, Option.bind_some]
    exact e2
theorem pr_s14 {many : Nat} (hm : many ≤ 3) {p0 p4 p5 : Int32} {p1 p2 p6 : pA} {K : Int32 → pA → Option (Int32 × pA × pA × Int32 × pA)} : ∀ (m k F : Nat) (row : pA), k + m = many → m < F → (∀ i, i < k → row i = 0) → ∃ row', L_hB_X9_seeks_14 p0 p1 p2 p4 p5 p6 (nn many) K F (nn k) row = K (nn many) row' ∧ ∀ i, i < many → row' i = 0 := by
  intro m
  induction m with
  | zero =>
    intro k F row e hF hh
    obtain ⟨F, rfl⟩ : ∃ f, F = f + 1 := ⟨F - 1, by omega⟩
    obtain rfl : k = many := by omega
    refine ⟨row, ?_, hh⟩
    simp (disch := omega) only [L_hB_X9_seeks_14, nn_le, Nat.le_refl, ↓reduceIte]
  | succ m ih =>
    intro k F row e hF hh
    obtain ⟨F, rfl⟩ : ∃ f, F = f + 1 := ⟨F - 1, by omega⟩
    have hk : ¬ many ≤ k := by omega
    obtain ⟨r', e1, e2⟩ := ih (k + 1) F (upd row k 0) (by omega) (by omega) (fun i hi => by
      by_cases z : i = k
      · subst z; rw [upd_at]
      · rw [upd_ne _ _ z]; exact hh i (by omega))
    refine ⟨r', ?_, e2⟩
    rw [← e1]
    simp (disch := omega) only [L_hB_X9_seeks_14, nn_le, hk, ↓reduceIte, xix_nn, nn_nat, nn_succ]
/-- one length -/
theorem pr_s7 {nu many T : Nat} (hn : nu ≤ 5) (hm1 : 1 ≤ many) (hm : many ≤ 3) (hT : 1 ≤ T) (hT2 : T ≤ 125000) {D : Nat → List Nat} (hlen : ∀ N, (D N).length = many) (hD0 : ∀ i, i < many → (D 0).getD i 0 = 0) (hnx : nxOk many T D) {v : pA} (hv : cn v) {K : Int32 → pA → pA → Int32 → Int32 → pA → Option (Int32 × pA × pA × Int32 × pA)} (F : Nat) (x best row : pA) (g14 g15 : Int32) (st : Nat × List Nat) (hx : cn x) (hR : Rp g14 g15 best st) : ∃ x' g14' g15' best' row', cn x' ∧ L_hB_X9_seeks_7 v (nn nu) K (F + 1) (nn many) row x g14 g15 best = L_hB_X9_seeks_7 v (nn nu) K F (nn (many + 1)) row' x' g14' g15' best' ∧ Rp g14' g15' best' (fx (fun N => sR nu (tR v) v [] (D N)) T 0 st) := by
  obtain ⟨T', rfl⟩ : ∃ f, T = f + 1 := ⟨T - 1, by omega⟩
  have i1 : ¬ (3 : Int32) < nn many := by rw [show (3 : Int32) = nn 3 from rfl, nn_lt (by omega) (by omega)]; omega
  obtain ⟨row0, e0, hz⟩ := pr_s14 hm (p0 := g14) (p1 := v) (p2 := x) (p4 := nn nu) (p5 := g15) (p6 := best) (K := (fun l2_14 ma5_14 => L_hB_X9_seeks_34 v (nn nu) (nn many) (fun l2_34 ma2_34 mg14_34 mg15_34 ma6_34 ma5_34 => L_hB_X9_seeks_7 v (nn nu) K F (nn (many + 1)) ma5_34 ma2_34 mg14_34 mg15_34 ma6_34) 200000 (1 : Int32) x g14 g15 best ma5_14)) many 0 200000 row (by omega) (by omega) (fun i hi => absurd hi (by omega))
  obtain ⟨x1, g1, g2, b1, r1, hx1, e1, hR1⟩ := pr_s34 hn hm hlen hnx hv (K := (fun l2_34 ma2_34 mg14_34 mg15_34 ma6_34 ma5_34 => L_hB_X9_seeks_7 v (nn nu) K F (nn (many + 1)) ma5_34 ma2_34 mg14_34 mg15_34 ma6_34)) T' 0 200000 x best row0 g14 g15 st (by omega) (by omega) hx (fun i hi => by
    rw [hlen] at hi
    rw [Nat.zero_add, hz i hi, hD0 i hi]
    exact ⟨rfl, by omega⟩) hR
  refine ⟨x1, g1, g2, b1, r1, hx1, ?_, hR1⟩
  rw [L_hB_X9_seeks_7, if_neg i1, nn_succ]
  refine Eq.trans (Eq.trans rfl e0) ?_
  exact e1
theorem qr_seeks {nu : Nat} (hn : nu ≤ 5) {v x : pA} (hv : cn v) (hx : cn x) (g14 g15 : Int32) (row best : pA) : ∃ x' g14' g15' best' row', cn x' ∧ e_hB_X9_seeks g14 v x row (nn nu) g15 best = some (g14', x', row', g15', best') ∧ Rp g14' g15' best' (best3 nu v (tR v)) := by
  have hs := sc_le (h := v) (t := tR v) (nu := nu)
  -- no exchange at all
  have z0 : ∀ (F : Nat) (K : Int32 → pA → pA → Int32 → Int32 → pA → Option (Int32 × pA × pA × Int32 × pA)), ∃ b0, L_hB_X9_seeks_7 v (nn nu) K (F + 1) 0 row x (-1) g15 best = L_hB_X9_seeks_7 v (nn nu) K F (nn 1) row v (nn (sc v (tR v) nu)) 0 b0 := fun F K => by
    obtain ⟨b0, e1, _⟩ := qr_takes (many := 0) hn (by omega) (x := v) (row := row) (best := best) (g14 := -1) (g15 := g15)
    refine ⟨b0, ?_⟩
    have i2 : (-1 : Int32) < nn (sc v (tR v) nu) := by
      rw [Int32.lt_iff_toInt_lt, nn_int (by omega)]
      have : (-1 : Int32).toInt = -1 := rfl
      omega
    rw [if_pos i2] at e1
    have e1' : e_hB_X9_takes (nn nu) v (-1) g15 row best (0 : Int32) = _ := e1
    have s14 : ∀ (G : Nat) (K2 : Int32 → pA → Option (Int32 × pA × pA × Int32 × pA)), L_hB_X9_seeks_14 (-1) v x (nn nu) g15 best 0 K2 (G + 1) 0 row = K2 0 row := fun G K2 => by
      rw [L_hB_X9_seeks_14, if_pos (by decide)]
    have dn : ∀ G, L_hB_X9_isDone_2 row (nn nu) 0 (fun _ ma2_2 => some ((1 : Int32), ma2_2)) (G + 1) 0 v = some (1, v) := fun G => by
      rw [L_hB_X9_isDone_2, if_pos (by decide)]
    have dn' : e_hB_X9_isDone row (nn nu) v 0 = some (1, v) := dn 199999
    have nr : e_hB_X9_nextRow row 0 = some (0, row) := (nr_end (F := 199999) (K := fun _ ma5_4 => some ((0 : Int32), ma5_4)) : _)
    have s34 : ∀ (G : Nat) (K2 : Int32 → pA → Int32 → Int32 → pA → pA → Option (Int32 × pA × pA × Int32 × pA)), L_hB_X9_seeks_34 v (nn nu) 0 K2 (G + 1 + 1) 1 x (-1) g15 best row = K2 0 v (nn (sc v (tR v) nu)) 0 b0 row := fun G K2 => by
      rw [L_hB_X9_seeks_34, if_neg (by decide), qr_tries hv hx, Option.bind_some, dn', Option.bind_some, if_neg (show ¬ (1 : Int32) = 0 from by decide)]
      simp only []
      rw [e1', Option.bind_some, nr, Option.bind_some, L_hB_X9_seeks_34, if_pos rfl]
      rfl
    rw [L_hB_X9_seeks_7, if_neg (by decide)]
    refine Eq.trans (s14 199999 _) ?_
    exact s34 199998 _
  have R0 : ∀ b0, Rp (nn (sc v (tR v) nu)) 0 b0 (sc v (tR v) nu, []) := fun b0 => ⟨rfl, rfl, by show sc v (tR v) nu ≤ 5; omega, by show 0 ≤ 3; omega, fun i hi => absurd hi (by show ¬ i < 0; omega)⟩
  obtain ⟨b0, e0⟩ := z0 199999 (fun l1_7 ma5_7 ma2_7 mg14_7 mg15_7 ma6_7 => some (mg14_7, ma2_7, ma5_7, mg15_7, ma6_7))
  obtain ⟨x1, g1, h1, b1, r1, hx1, e1, R1⟩ := pr_s7 (many := 1) (T := 50) hn (by omega) (by omega) (by omega) (by omega) (D := D1) (fun _ => rfl) (fun i hi => by
    have : i = 0 := by omega
    subst this
    rfl) nx1 hv (K := (fun l1_7 ma5_7 ma2_7 mg14_7 mg15_7 ma6_7 => some (mg14_7, ma2_7, ma5_7, mg15_7, ma6_7))) 199998 v b0 row (nn (sc v (tR v) nu)) 0 _ hv (R0 b0)
  obtain ⟨x2, g2, h2, b2, r2, hx2, e2, R2⟩ := pr_s7 (many := 2) (T := 2500) hn (by omega) (by omega) (by omega) (by omega) (D := D2) (fun _ => rfl) (fun i hi => by
    have : i = 0 ∨ i = 1 := by omega
    rcases this with rfl | rfl <;> rfl) nx2 hv (K := (fun l1_7 ma5_7 ma2_7 mg14_7 mg15_7 ma6_7 => some (mg14_7, ma2_7, ma5_7, mg15_7, ma6_7))) 199997 x1 b1 r1 g1 h1 _ hx1 R1
  obtain ⟨x3, g3, h3, b3, r3, hx3, e3, R3⟩ := pr_s7 (many := 3) (T := 125000) hn (by omega) (by omega) (by omega) (by omega) (D := D3) (fun _ => rfl) (fun i hi => by
    have : i = 0 ∨ i = 1 ∨ i = 2 := by omega
    rcases this with rfl | rfl | rfl <;> rfl) nx3 hv (K := (fun l1_7 ma5_7 ma2_7 mg14_7 mg15_7 ma6_7 => some (mg14_7, ma2_7, ma5_7, mg15_7, ma6_7))) 199996 x2 b2 r2 g2 h2 _ hx2 R2
  refine ⟨x3, g3, h3, b3, r3, hx3, ?_, ?_⟩
  · unfold e_hB_X9_seeks
    refine e0.trans (e1.trans (e2.trans (e3.trans ?_)))
    have : ∀ (G : Nat) (K2 : Int32 → pA → pA → Int32 → Int32 → pA → Option (Int32 × pA × pA × Int32 × pA)), L_hB_X9_seeks_7 v (nn nu) K2 (G + 1) (nn (3 + 1)) r3 x3 g3 h3 b3 = K2 (nn (3 + 1)) r3 x3 g3 h3 b3 := fun G K2 => by
      rw [L_hB_X9_seeks_7, if_pos (by decide)]
    exact this 199995 _
  · unfold best3
    rw [← sR3, ← sR2, ← sR1]
    exact R3
section MEND
variable {np nu nl nc tp na nm : Nat} {la gu ra : Int32} {g7 g8 g9 g10 g11 g12 g13 g14 g15 g17 g18 g19 g20 g21 g22 g23 g24 g25 g26 g27 g28 g29 g30 g31 g32 g33 g34 : Int32} {a0 a1 a2 a3 a4 a5 a6 a7 a8 a9 a10 a11 a12 a13 a14 a15 a16 a17 a18 a19 a20 a21 a22 a23 a24 a25 a26 a27 a28 a29 a30 a31 a32 a33 a34 a35 a36 a37 a38 a39 : pA} {b0 b1 b2 b3 b4 : Nat → Int64} {w0 : Int64}
variable {G0 G2 G4 G5 G6 G7 G8 G10 G13 G14 G15 G16 G17 G18 G26 : Int32} {A0 A2 A3 A4 A5 A6 A7 A8 A9 A10 A11 A12 A13 A14 A15 A16 A17 A18 A19 A20 A21 A22 A23 : pA} {B0 : Nat → Int64} {W0 : Int64} {rb : Nat}
theorem best3_eq (hn : nu ≤ 5) : best3 nu (mkr a27 a28 g22) (tR (mkr a27 a28 g22)) = best3 nu a27 a28 := by
  unfold best3
  have e1 : ∀ u, u < 5 → mkr a27 a28 g22 u = a27 u := fun u hu => mkr_h hu
  have e2 : ∀ u, u < 5 → tR (mkr a27 a28 g22) u = a28 u := fun u hu => mkr_t hu
  rw [mT_congr hn e2 3 _ _ _ _ e1, mT_congr hn e2 2 _ _ _ _ e1, mT_congr hn e2 1 _ _ _ _ e1, sc_congr hn e1 e2]
theorem best3_congr {h h' t t' : pA} (hn : nu ≤ 5) (e1 : ∀ u, u < 5 → h u = h' u) (e2 : ∀ u, u < 5 → t u = t' u) : best3 nu h t = best3 nu h' t' := by
  unfold best3
  rw [mT_congr hn e2 3 _ _ _ _ e1, mT_congr hn e2 2 _ _ _ _ e1, mT_congr hn e2 1 _ _ _ _ e1, sc_congr hn e1 e2]
theorem qc_mend (hn : nu ≤ 5) (p6 : Int32) : ∃ hh tt len right best' row', e_hA_X7_mendTrial g22 g23 a27 a29 a28 a30 p6 (nn nu) g31 a38 a39 = some (g22, hh, tt, len, right, best', row') ∧ Rp right len best' (best3 nu a27 a28) := by
  obtain ⟨hh, tt, c1, c2⟩ := qc_copyFrom g22 g23 a27 a29 a28 a30
  obtain ⟨len, right, b', r', e1, R⟩ := qc_msearch hn tt hh p6 g31 a38 a39
  refine ⟨hh, tt, len, right, b', r', ?_, ?_⟩
  · unfold e_hA_X7_mendTrial
    rw [c1, Option.bind_some, e1]
    rfl
  · have e : best3 nu hh tt = best3 nu a27 a28 := best3_congr hn (fun u hu => by
      have := congrFun c2 u
      rwa [mkr_h hu, mkr_h hu] at this) (fun u hu => by
      have := congrFun c2 (5 + u)
      rwa [mkr_t hu, mkr_t hu] at this)
    rw [← e]
    exact R
theorem C_putRight (I : IC np nu nl nc tp na nm la gu ra g22 g25 g26 g33 g34 G2 a0 a1 a2 a3 a4 a5 a6 a7 a8 a10 a11 a12 a13 a27 a28 a31 b2 b3 b4 A0 A2 A3 A4 A10 A11 A12 A13 A14 A15 A16 A17 A18 A19 A20 A21) : ∃ (v : Int32) (g23' : Int32) (a29' : (Nat → Int32)) (a30' : (Nat → Int32)) (g30' : Int32) (g31' : Int32) (a39' : (Nat → Int32)) (a38' : (Nat → Int32)) (c : Int32) (G14' : Int32) (A2' : (Nat → Int32)) (A5' : (Nat → Int32)) (G15' : Int32) (A6' : (Nat → Int32)), e_hA_X7_putRight (nn nu) g22 g23 a27 a29 a28 a30 g30 g31 a38 a39 g34 = some (v, g23', a29', a30', g30', g31', a39', a38', c) ∧ e_hB_X9_putRight G0 G14 (mkr a27 a28 g22) A2 A5 (nn nu) G15 A6 g34 G2 = some (v, 0, G14', A2', A5', G15', A6', c, (-1)) ∧ c ≠ 4 ∧ cn A2' := by
  obtain ⟨⟨hp1, hp, hn1, hn, hl, hc⟩, ⟨hla, hgu, hra⟩, eS, eK, eL, eR, eW, bL, bR, wW, eG, oG, eC⟩ := I.1
  obtain ⟨hh, tt, len, right, b', r', e1, R⟩ := qc_mend hn g30 (a27 := a27) (a28 := a28) (g22 := g22) (g23 := g23) (a29 := a29) (a30 := a30) (g31 := g31) (a38 := a38) (a39 := a39)
  obtain ⟨x', g14', g15', best', row', hx', f1, RR⟩ := qr_seeks hn (cn_mkr a27 a28 g22) I.2.2.2.1 G14 G15 A5 A6
  rw [best3_eq hn] at RR
  obtain ⟨rfl, rfl, _⟩ := R
  obtain ⟨rfl, rfl, _⟩ := RR
  refine ⟨nn (best3 nu a27 a28).1, g22, hh, tt, nn (best3 nu a27 a28).2.length, nn (best3 nu a27 a28).1, b', r', 0, nn (best3 nu a27 a28).1, x', row', nn (best3 nu a27 a28).2.length, best', ?_, ?_, by decide, hx'⟩
  · unfold e_hA_X7_putRight
    rw [isT1 hn1 hn, Option.bind_some, if_neg (by decide), e1]
    rfl
  · unfold e_hB_X9_putRight
    rw [f1]
    rfl
theorem C_exchanges (I : IC np nu nl nc tp na nm la gu ra g22 g25 g26 g33 g34 G2 a0 a1 a2 a3 a4 a5 a6 a7 a8 a10 a11 a12 a13 a27 a28 a31 b2 b3 b4 A0 A2 A3 A4 A10 A11 A12 A13 A14 A15 A16 A17 A18 A19 A20 A21) : ∃ (v : Int32) (g23' : Int32) (a29' : (Nat → Int32)) (a30' : (Nat → Int32)) (g30' : Int32) (g31' : Int32) (a39' : (Nat → Int32)) (a38' : (Nat → Int32)) (c : Int32) (G14' : Int32) (A2' : (Nat → Int32)) (A5' : (Nat → Int32)) (G15' : Int32) (A6' : (Nat → Int32)), e_hA_X7_exchanges (nn nu) g22 g23 a27 a29 a28 a30 g30 g31 a38 a39 g34 = some (v, g23', a29', a30', g30', g31', a39', a38', c) ∧ e_hB_X9_exchanges G0 G14 (mkr a27 a28 g22) A2 A5 (nn nu) G15 A6 g34 G2 = some (v, 0, G14', A2', A5', G15', A6', c, (-1)) ∧ c ≠ 4 ∧ cn A2' := by
  obtain ⟨⟨hp1, hp, hn1, hn, hl, hc⟩, ⟨hla, hgu, hra⟩, eS, eK, eL, eR, eW, bL, bR, wW, eG, oG, eC⟩ := I.1
  obtain ⟨hh, tt, len, right, b', r', e1, R⟩ := qc_mend hn g30 (a27 := a27) (a28 := a28) (g22 := g22) (g23 := g23) (a29 := a29) (a30 := a30) (g31 := g31) (a38 := a38) (a39 := a39)
  obtain ⟨x', g14', g15', best', row', hx', f1, RR⟩ := qr_seeks hn (cn_mkr a27 a28 g22) I.2.2.2.1 G14 G15 A5 A6
  rw [best3_eq hn] at RR
  obtain ⟨rfl, rfl, _⟩ := R
  obtain ⟨rfl, rfl, _⟩ := RR
  refine ⟨nn (best3 nu a27 a28).2.length, g22, hh, tt, nn (best3 nu a27 a28).2.length, nn (best3 nu a27 a28).1, b', r', 0, nn (best3 nu a27 a28).1, x', row', nn (best3 nu a27 a28).2.length, best', ?_, ?_, by decide, hx'⟩
  · unfold e_hA_X7_exchanges
    rw [isT1 hn1 hn, Option.bind_some, if_neg (by decide), e1]
    rfl
  · unfold e_hB_X9_exchanges
    rw [f1]
    rfl
theorem C_exchangeAt (I : IC np nu nl nc tp na nm la gu ra g22 g25 g26 g33 g34 G2 a0 a1 a2 a3 a4 a5 a6 a7 a8 a10 a11 a12 a13 a27 a28 a31 b2 b3 b4 A0 A2 A3 A4 A10 A11 A12 A13 A14 A15 A16 A17 A18 A19 A20 A21) (x1 : Int32) : ∃ (v : Int32) (c : Int32) (g23' : Int32) (a29' : (Nat → Int32)) (a30' : (Nat → Int32)) (g30' : Int32) (g31' : Int32) (a39' : (Nat → Int32)) (a38' : (Nat → Int32)) (G14' : Int32) (A2' : (Nat → Int32)) (A5' : (Nat → Int32)) (G15' : Int32) (A6' : (Nat → Int32)), e_hA_X7_exchangeAt (nn nu) g34 g22 g23 a27 a29 a28 a30 g30 g31 a38 a39 x1 = some (v, c, g23', a29', a30', g30', g31', a39', a38') ∧ e_hB_X9_exchangeAt G0 G14 (mkr a27 a28 g22) A2 A5 (nn nu) G15 A6 g34 G2 x1 = some (v, 0, G14', A2', A5', G15', A6', c, (-1)) ∧ c ≠ 4 ∧ cn A2' := by
  obtain ⟨⟨hp1, hp, hn1, hn, hl, hc⟩, ⟨hla, hgu, hra⟩, eS, eK, eL, eR, eW, bL, bR, wW, eG, oG, eC⟩ := I.1
  obtain ⟨hh, tt, len, right, b', r', e1, R⟩ := qc_mend hn g30 (a27 := a27) (a28 := a28) (g22 := g22) (g23 := g23) (a29 := a29) (a30 := a30) (g31 := g31) (a38 := a38) (a39 := a39)
  obtain ⟨x', g14', g15', best', row', hx', f1, RR⟩ := qr_seeks hn (cn_mkr a27 a28 g22) I.2.2.2.1 G14 G15 A5 A6
  rw [best3_eq hn] at RR
  obtain ⟨rfl, rfl, _, hl3, hb⟩ := R
  obtain ⟨rfl, rfl, _, _, hb2⟩ := RR
  have hT := isT1 hn1 hn
  by_cases q1 : x1 < 0
  · refine ⟨-1, 1, g23, a29, a30, g30, g31, a39, a38, nn (best3 nu a27 a28).1, x', row', nn (best3 nu a27 a28).2.length, best', ?_, ?_, by decide, hx'⟩
    · unfold e_hA_X7_exchangeAt
      rw [hT, Option.bind_some, if_neg (by decide), if_pos q1]
      rfl
    · unfold e_hB_X9_exchangeAt
      rw [f1, Option.bind_some, if_pos q1]
      rfl
  · by_cases q2 : x1 < 3
    · obtain ⟨i, hi, rfl⟩ := nn_of (n := 3) (Int32.not_lt.mp q1) q2 (by omega)
      by_cases q3 : i < (best3 nu a27 a28).2.length
      · have i3 : nn i < nn (best3 nu a27 a28).2.length := by rw [nn_lt (by omega) (by omega)]; exact q3
        refine ⟨nn ((best3 nu a27 a28).2.getD i 0), 0, g22, hh, tt, nn (best3 nu a27 a28).2.length, nn (best3 nu a27 a28).1, b', r', nn (best3 nu a27 a28).1, x', row', nn (best3 nu a27 a28).2.length, best', ?_, ?_, by decide, hx'⟩
        · unfold e_hA_X7_exchangeAt
          rw [hT, Option.bind_some, if_neg (by decide), if_neg q1, if_pos q2, e1, Option.bind_some, if_pos i3, xix_nn (by omega) (by omega), nn_nat (by omega)]
          simp only []
          rw [hb i q3]
          rfl
        · unfold e_hB_X9_exchangeAt
          rw [f1, Option.bind_some, if_neg q1, if_neg (Int32.not_le.mpr i3), xix_nn (by omega) (by omega), nn_nat (by omega)]
          simp only []
          rw [hb2 i q3]
          rfl
      · have i3 : ¬ nn i < nn (best3 nu a27 a28).2.length := by rw [nn_lt (by omega) (by omega)]; exact q3
        refine ⟨-1, 1, g22, hh, tt, nn (best3 nu a27 a28).2.length, nn (best3 nu a27 a28).1, b', r', nn (best3 nu a27 a28).1, x', row', nn (best3 nu a27 a28).2.length, best', ?_, ?_, by decide, hx'⟩
        · unfold e_hA_X7_exchangeAt
          rw [hT, Option.bind_some, if_neg (by decide), if_neg q1, if_pos q2, e1, Option.bind_some, if_neg i3]
          rfl
        · unfold e_hB_X9_exchangeAt
          rw [f1, Option.bind_some, if_neg q1, if_pos (Int32.not_lt.mp i3)]
          rfl
    · refine ⟨-1, 1, g23, a29, a30, g30, g31, a39, a38, nn (best3 nu a27 a28).1, x', row', nn (best3 nu a27 a28).2.length, best', ?_, ?_, by decide, hx'⟩
      · unfold e_hA_X7_exchangeAt
        rw [hT, Option.bind_some, if_neg (by decide), if_neg q1, if_neg q2]
        rfl
      · unfold e_hB_X9_exchangeAt
        have i3 : nn (best3 nu a27 a28).2.length ≤ x1 := Int32.le_trans (by rw [show (3 : Int32) = nn 3 from rfl, nn_le (by omega) (by omega)]; exact hl3) (Int32.not_lt.mp q2)
        rw [f1, Option.bind_some, if_neg q1, if_pos i3]
        rfl
end MEND
