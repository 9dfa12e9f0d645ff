/-! THE PURE PART: PUT RIGHT -/
def fx {σ : Type} (f : Nat → σ → σ) : Nat → Nat → σ → σ
  | 0, _, st => st
  | m + 1, k, st => fx f m (k + 1) (f k st)
theorem fx_add {σ : Type} (f : Nat → σ → σ) : ∀ (a b k : Nat) (st : σ), fx f (a + b) k st = fx f b (k + a) (fx f a k st) := by
  intro a
  induction a with
  | zero => intro b k st; rw [Nat.zero_add]; rfl
  | succ a ih =>
    intro b k st
    rw [show a + 1 + b = (a + b) + 1 by omega]
    simp only [fx]
    rw [ih b (k + 1), show k + 1 + a = k + (a + 1) by omega]
theorem fx_id {σ : Type} {f : Nat → σ → σ} {st : σ} : ∀ (m k : Nat), (∀ j, k ≤ j → j < k + m → f j st = st) → fx f m k st = st := by
  intro m
  induction m with
  | zero => intro k _; rfl
  | succ m ih =>
    intro k h
    simp only [fx]
    rw [h k (Nat.le_refl _) (by omega)]
    exact ih (k + 1) (fun j h1 h2 => h j (by omega) (by omega))
theorem fx_congr {σ : Type} {f g : Nat → σ → σ} : ∀ (m k : Nat) (st : σ), (∀ j, k ≤ j → j < k + m → ∀ s, f j s = g j s) → fx f m k st = fx g m k st := by
  intro m
  induction m with
  | zero => intro k st _; rfl
  | succ m ih =>
    intro k st h
    simp only [fx]
    rw [h k (Nat.le_refl _) (by omega)]
    exact ih (k + 1) _ (fun j h1 h2 => h j (by omega) (by omega))
theorem fx_shift {σ : Type} (f : Nat → σ → σ) (s : Nat) : ∀ (m k : Nat) (st : σ), fx f m (s + k) st = fx (fun j => f (s + j)) m k st := by
  intro m
  induction m with
  | zero => intro k st; rfl
  | succ m ih =>
    intro k st
    simp only [fx]
    rw [show s + k + 1 = s + (k + 1) by omega, ih]
theorem fx_block {σ : Type} (f : Nat → σ → σ) (B : Nat) : ∀ (m k : Nat) (st : σ), fx f (B * m) (B * k) st = fx (fun a st => fx (fun b => f (B * a + b)) B 0 st) m k st := by
  intro m
  induction m with
  | zero => intro k st; rfl
  | succ m ih =>
    intro k st
    rw [show B * (m + 1) = B + B * m by rw [Nat.mul_succ]; omega, fx_add, show B * k + B = B * (k + 1) by rw [Nat.mul_succ], ih]
    simp only [fx]
    congr 1
    have := fx_shift f (B * k) B 0 st
    rw [Nat.add_zero] at this
    exact this
/-- right ones -/
def rb (h t : pA) (k : Nat) : Bool := decide (t k ≠ -2 ∧ t k = h k)
theorem pRight_bits {h t : pA} : ∀ (m k : Nat) (acc : Int32), pRight h t m k acc = sBits (rb h t) m k acc := by
  intro m
  induction m with
  | zero => intro k acc; rfl
  | succ m ih =>
    intro k acc
    simp only [pRight, sBits]
    rw [ih]
    congr 1
    unfold rb
    by_cases q : t k = -2
    · simp [q]
    · by_cases q2 : t k = h k
      · have q3 : ¬ h k = -2 := by rw [← q2]; exact q
        simp [q2, q3]
      · simp [q, q2]
def mk5 (b0 b1 b2 b3 b4 : Bool) : Nat → Bool := fun k => if k = 0 then b0 else if k = 1 then b1 else if k = 2 then b2 else if k = 3 then b3 else if k = 4 then b4 else false
theorem b5_x : ∀ b0 b1 b2 b3 b4 : Bool, ∀ n : Fin 6, xbc (sBits (mk5 b0 b1 b2 b3 b4) n.val 0 0) = nn (cI (mk5 b0 b1 b2 b3 b4) n.val 0) := by decide +kernel
theorem b5_r : ∀ b0 b1 b2 b3 b4 : Bool, ∀ n : Fin 6, e_hB_X9_bits (sBits (mk5 b0 b1 b2 b3 b4) n.val 0 0) = some (nn (cI (mk5 b0 b1 b2 b3 b4) n.val 0)) := by decide +kernel
theorem mk5_eq (q : Nat → Bool) : ∀ k, k < 5 → q k = mk5 (q 0) (q 1) (q 2) (q 3) (q 4) k := by
  intro k hk
  have : k = 0 ∨ k = 1 ∨ k = 2 ∨ k = 3 ∨ k = 4 := by omega
  rcases this with rfl | rfl | rfl | rfl | rfl <;> rfl
def sc (h t : pA) (nu : Nat) : Nat := cI (rb h t) nu 0
theorem sc_le {h t : pA} {nu : Nat} : sc h t nu ≤ nu := cI_le nu 0
theorem sc_x {nu : Nat} (hn : nu ≤ 5) (h t : pA) : xbc (pRight h t nu 0 0) = nn (sc h t nu) := by
  rw [pRight_bits, sBits_congr (mk5_eq (rb h t)) nu 0 0 (by omega)]
  unfold sc
  rw [cI_congr (mk5_eq (rb h t)) nu 0 (by omega)]
  exact b5_x _ _ _ _ _ ⟨nu, by omega⟩
theorem sc_r {nu : Nat} (hn : nu ≤ 5) (h t : pA) : e_hB_X9_bits (pRight h t nu 0 0) = some (nn (sc h t nu)) := by
  rw [pRight_bits, sBits_congr (mk5_eq (rb h t)) nu 0 0 (by omega)]
  unfold sc
  rw [cI_congr (mk5_eq (rb h t)) nu 0 (by omega)]
  exact b5_r _ _ _ _ _ ⟨nu, by omega⟩
theorem sc_congr {h h' t t' : pA} {nu : Nat} (hn : nu ≤ 5) (h1 : ∀ u, u < 5 → h u = h' u) (h2 : ∀ u, u < 5 → t u = t' u) : sc h t nu = sc h' t' nu := cI_congr (n := 5) (fun k hk => by unfold rb; rw [h1 k hk, h2 k hk]) nu 0 (by omega)
theorem swp_at {u v k : Nat} {r : pA} (h1 : k ≠ u) (h2 : k ≠ v) : swp u v r k = r k := by
  unfold swp
  rw [upd_ne _ _ h2, upd_ne _ _ h1]
theorem sc_swp_gen {u v : Nat} {h t : pA} : ∀ (m k : Nat), cI (rb (swp u v h) t) m k ≤ cI (rb h t) m k + (if k ≤ u ∧ u < k + m then 1 else 0) + (if k ≤ v ∧ v < k + m then 1 else 0) := by
  intro m
  induction m with
  | zero => intro k; simp only [cI]; omega
  | succ m ih =>
    intro k
    simp only [cI]
    have := ih (k + 1)
    by_cases h1 : k = u
    · subst h1
      have a1 : (if k ≤ k ∧ k < k + (m + 1) then 1 else 0) = 1 := if_pos ⟨by omega, by omega⟩
      have a2 : (if k + 1 ≤ k ∧ k < k + 1 + m then 1 else 0) = 0 := if_neg (by omega)
      rw [a1]
      rw [a2] at this
      have a3 : (if k + 1 ≤ v ∧ v < k + 1 + m then 1 else 0) ≤ (if k ≤ v ∧ v < k + (m + 1) then 1 else 0) := by
        split <;> split <;> omega
      split <;> split <;> omega
    · by_cases h2 : k = v
      · subst h2
        have a1 : (if k ≤ k ∧ k < k + (m + 1) then 1 else 0) = 1 := if_pos ⟨by omega, by omega⟩
        have a2 : (if k + 1 ≤ k ∧ k < k + 1 + m then 1 else 0) = 0 := if_neg (by omega)
        rw [a1]
        rw [a2] at this
        have a3 : (if k + 1 ≤ u ∧ u < k + 1 + m then 1 else 0) ≤ (if k ≤ u ∧ u < k + (m + 1) then 1 else 0) := by
          split <;> split <;> omega
        split <;> split <;> omega
      · have a0 : rb (swp u v h) t k = rb h t k := by unfold rb; rw [swp_at h1 h2]
        rw [a0]
        have a3 : (if k + 1 ≤ u ∧ u < k + 1 + m then 1 else 0) ≤ (if k ≤ u ∧ u < k + (m + 1) then 1 else 0) := by
          split <;> split <;> omega
        have a4 : (if k + 1 ≤ v ∧ v < k + 1 + m then 1 else 0) ≤ (if k ≤ v ∧ v < k + (m + 1) then 1 else 0) := by
          split <;> split <;> omega
        omega
theorem sc_swp {u v nu : Nat} {h t : pA} : sc (swp u v h) t nu ≤ sc h t nu + 2 := by
  have := sc_swp_gen (u := u) (v := v) (h := h) (t := t) nu 0
  unfold sc
  have a1 : (if 0 ≤ u ∧ u < 0 + nu then 1 else 0) ≤ 1 := by split <;> omega
  have a2 : (if 0 ≤ v ∧ v < 0 + nu then 1 else 0) ≤ 1 := by split <;> omega
  omega
def val (nu : Nat) (h : pA) (c : Nat) : Bool := decide (c / 10 < c % 10 ∧ c % 10 < nu ∧ h (c / 10) ≠ h (c % 10))
def tkM (s : Nat) (pre : List Nat) (st : Nat × List Nat) : Nat × List Nat := if st.1 < s then (s, pre) else st
/-- all rows of r more exchanges, in their order -/
def mT (nu : Nat) (t : pA) : Nat → pA → List Nat → Nat × List Nat → Nat × List Nat
  | 0, h, pre, st => tkM (sc h t nu) pre st
  | r + 1, h, pre, st => fx (fun c st => if val nu h c = true then mT nu t r (swp (c / 10) (c % 10) h) (pre ++ [c]) st else st) 50 0 st
theorem mT_prune {nu : Nat} {t : pA} : ∀ (r : Nat) (h : pA) (pre : List Nat) (st : Nat × List Nat), sc h t nu + 2 * r ≤ st.1 → mT nu t r h pre st = st := by
  intro r
  induction r with
  | zero => intro h pre st hs; simp only [mT, tkM]; rw [if_neg (by omega)]
  | succ r ih =>
    intro h pre st hs
    simp only [mT]
    refine fx_id 50 0 (fun c _ _ => ?_)
    split
    · have := sc_swp (u := c / 10) (v := c % 10) (h := h) (t := t) (nu := nu)
      exact ih _ _ _ (by omega)
    · rfl
theorem swp_congr {u v : Nat} (hu : u < 5) (hv : v < 5) {h h' : pA} (e : ∀ k, k < 5 → h k = h' k) : ∀ k, k < 5 → swp u v h k = swp u v h' k := by
  intro k hk
  unfold swp
  by_cases q : k = v
  · subst q; rw [upd_at, upd_at]; exact e u hu
  · rw [upd_ne _ _ q, upd_ne _ _ q]
    by_cases q2 : k = u
    · subst q2; rw [upd_at, upd_at]; exact e v hv
    · rw [upd_ne _ _ q2, upd_ne _ _ q2]; exact e k hk
theorem mT_congr {nu : Nat} (hn : nu ≤ 5) {t t' : pA} (e2 : ∀ u, u < 5 → t u = t' u) : ∀ (r : Nat) (h h' : pA) (pre : List Nat) (st : Nat × List Nat), (∀ u, u < 5 → h u = h' u) → mT nu t r h pre st = mT nu t' r h' pre st := by
  intro r
  induction r with
  | zero => intro h h' pre st e1; simp only [mT]; rw [sc_congr hn e1 e2]
  | succ r ih =>
    intro h h' pre st e1
    simp only [mT]
    refine fx_congr 50 0 st (fun c _ _ s => ?_)
    by_cases q : c / 10 < c % 10 ∧ c % 10 < nu
    · have ev : val nu h c = val nu h' c := by unfold val; rw [e1 _ (by omega), e1 _ (by omega)]
      rw [ev]
      split
      · exact ih _ _ _ _ (swp_congr (by omega) (by omega) e1)
      · rfl
    · have x1 : val nu h c = false := by unfold val; simp only [decide_eq_false_iff_not]; exact fun z => q ⟨z.1, z.2.1⟩
      have x2 : val nu h' c = false := by unfold val; simp only [decide_eq_false_iff_not]; exact fun z => q ⟨z.1, z.2.1⟩
      rw [x1, x2]
      rfl
/-- right, length and best, as the program holds them -/
def Rp (right len : Int32) (best : pA) (st : Nat × List Nat) : Prop := right = nn st.1 ∧ len = nn st.2.length ∧ st.1 ≤ 5 ∧ st.2.length ≤ 3 ∧ ∀ i, i < st.2.length → best i = nn (st.2.getD i 0)
theorem swp_swp {u v : Nat} (h : u ≠ v) (r : pA) : swp u v (swp u v r) = r := by
  funext k
  have a1 : swp u v r v = r u := by unfold swp; rw [upd_at]
  have a2 : swp u v r u = r v := by unfold swp; rw [upd_ne _ _ h, upd_at]
  by_cases q : k = v
  · subst q
    have : swp u k (swp u k r) k = swp u k r u := by
      conv => lhs; unfold swp
      rw [upd_at]
      rfl
    rw [this, a2]
  · by_cases q2 : k = u
    · subst q2
      have : swp k v (swp k v r) k = swp k v r v := by
        conv => lhs; unfold swp
        rw [upd_ne _ _ q, upd_at]
        rfl
      rw [this, a1]
    · rw [swp_at q2 q, swp_at q2 q]
theorem qc_swap {u v : Nat} (hu : u < 5) (hv : v < 5) (h : pA) : e_hA_X3_swap h (nn u) (nn v) = some (swp u v h) := by
  unfold e_hA_X3_swap swp
  simp (disch := omega) only [xix_nn, nn_nat]
/-- what a deeper extend must do -/
def erOk (nu many : Nat) (t : pA) (depth r : Nat) (er : Int32 → pA → pA → Int32 → Int32 → pA → pA → Int32 → Int32 → Option (Int32 × Int32 × pA × pA × pA)) : Prop :=
  ∀ (h row best : pA) (right len : Int32) (st : Nat × List Nat) (pre : List Nat), pre.length = depth → (∀ i, i < depth → row i = nn (pre.getD i 0)) → Rp right len best st → ∃ right' len' best' row', er (nn nu) t h right len row best (nn depth) (nn many) = some (right', len', best', row', h) ∧ Rp right' len' best' (mT nu t r h pre st) ∧ (∀ i, i < depth → row' i = row i)
theorem pc_ext83 {nu many depth r u : Nat} (hn : nu ≤ 5) (hd : depth < 3) (hm : many ≤ 3) (hu : u < nu) {t h : pA} {er : Int32 → pA → pA → Int32 → Int32 → pA → pA → Int32 → Int32 → Option (Int32 × Int32 × pA × pA × pA)} (her : erOk nu many t (depth + 1) r er) {pre : List Nat} (hpre : pre.length = depth) {K : Int32 → pA → pA → Int32 → Int32 → pA → Option (Int32 × Int32 × pA × pA × pA)} : ∀ (m v F : Nat) (row best : pA) (right len : Int32) (st : Nat × List Nat), v + m = nu → m < F → u < v → (∀ i, i < depth → row i = nn (pre.getD i 0)) → Rp right len best st → ∃ right' len' best' row', L_hA_X4_extend_83 (nn nu) t er (nn depth) (nn many) (nn u) K F (nn v) row h right len best = K (nn nu) row' h right' len' best' ∧ Rp right' len' best' (fx (fun c st => if val nu h c = true then mT nu t r (swp (c / 10) (c % 10) h) (pre ++ [c]) st else st) m (10 * u + v) st) ∧ (∀ i, i < depth → row' i = nn (pre.getD i 0)) := by
  intro m
  induction m with
  | zero =>
    intro v F row best right len st e hF huv hrow hR
    obtain ⟨F, rfl⟩ : ∃ f, F = f + 1 := ⟨F - 1, by omega⟩
    obtain rfl : v = nu := by omega
    refine ⟨right, len, best, row, ?_, hR, hrow⟩
    simp (disch := omega) only [L_hA_X4_extend_83, nn_le, Nat.le_refl, ↓reduceIte]
  | succ m ih =>
    intro v F row best right len st e hF huv hrow hR
    obtain ⟨F, rfl⟩ : ∃ f, F = f + 1 := ⟨F - 1, by omega⟩
    have i1 : ¬ nn nu ≤ nn v := by rw [nn_le (by omega) (by omega)]; omega
    have ec1 : (10 * u + v) / 10 = u := by omega
    have ec2 : (10 * u + v) % 10 = v := by omega
    simp only [fx]
    by_cases q : h u = h v
    · have ev : val nu h (10 * u + v) = false := by unfold val; rw [ec1, ec2]; simp [q]
      rw [ev]
      obtain ⟨r1, l1, b1, w1, e1, e2, e3⟩ := ih (v + 1) F row best right len st (by omega) (by omega) (by omega) hrow hR
      refine ⟨r1, l1, b1, w1, ?_, e2, e3⟩
      rw [← e1, L_hA_X4_extend_83, if_neg i1, xix_nn (by omega) (by omega), xix_nn (by omega) (by omega), nn_nat (by omega), nn_nat (by omega), if_pos q, nn_succ]
    · have ev : val nu h (10 * u + v) = true := by unfold val; rw [ec1, ec2]; simp only [decide_eq_true_eq]; exact ⟨huv, by omega, q⟩
      have ecode : ((10 : Int32) * nn u) + nn v = nn (10 * u + v) := by rw [show (10 : Int32) = nn 10 from rfl, nn_mul, nn_add]
      obtain ⟨r1, l1, b1, w1, f1, f2, f3⟩ := her (swp u v h) (upd row depth (nn (10 * u + v))) best right len st (pre ++ [10 * u + v]) (by rw [List.length_append, hpre]; rfl) (fun i hi => by
        by_cases z : i = depth
        · subst z
          rw [upd_at, ← hpre]
          simp
        · rw [upd_ne _ _ z, hrow i (by omega)]
          congr 1
          rw [List.getD_eq_getElem?_getD, List.getD_eq_getElem?_getD, List.getElem?_append_left (by omega)]) hR
      have hrow1 : ∀ i, i < depth → w1 i = nn (pre.getD i 0) := fun i hi => by
        rw [f3 i (by omega), upd_ne _ _ (by omega)]; exact hrow i hi
      obtain ⟨r2, l2, b2, w2, e1, e2, e3⟩ := ih (v + 1) F w1 b1 r1 l1 _ (by omega) (by omega) (by omega) hrow1 f2
      refine ⟨r2, l2, b2, w2, ?_, ?_, e3⟩
      · rw [← e1, L_hA_X4_extend_83, if_neg i1, xix_nn (by omega) (by omega), xix_nn (by omega) (by omega), nn_nat (by omega), nn_nat (by omega), if_neg q, xix_nn (by omega) (by omega), qc_swap (by omega) (by omega), Option.bind_some, nn_nat (by omega), ecode, nn_succ, f1, Option.bind_some, qc_swap (by omega) (by omega), Option.bind_some, swp_swp (by omega), nn_succ]
      · rw [if_pos ev, ec1, ec2]
        exact e2
theorem pc_ext68 {nu many depth r : Nat} (hn : nu ≤ 5) (hd : depth < 3) (hm : many ≤ 3) {t h : pA} {er : Int32 → pA → pA → Int32 → Int32 → pA → pA → Int32 → Int32 → Option (Int32 × Int32 × pA × pA × pA)} (her : erOk nu many t (depth + 1) r er) {pre : List Nat} (hpre : pre.length = depth) {K : Int32 → pA → pA → Int32 → Int32 → pA → Option (Int32 × Int32 × pA × pA × pA)} : ∀ (m u F : Nat) (row best : pA) (right len : Int32) (st : Nat × List Nat), u + m = nu → m < F → (∀ i, i < depth → row i = nn (pre.getD i 0)) → Rp right len best st → ∃ right' len' best' row', L_hA_X4_extend_68 (nn nu) t er (nn depth) (nn many) K F (nn u) row h right len best = K (nn nu) row' h right' len' best' ∧ Rp right' len' best' (fx (fun c st => if val nu h c = true then mT nu t r (swp (c / 10) (c % 10) h) (pre ++ [c]) st else st) (10 * m) (10 * u) st) ∧ (∀ i, i < depth → row' i = nn (pre.getD i 0)) := by
  intro m
  induction m with
  | zero =>
    intro u F row best right len st e hF hrow hR
    obtain ⟨F, rfl⟩ : ∃ f, F = f + 1 := ⟨F - 1, by omega⟩
    obtain rfl : u = nu := by omega
    refine ⟨right, len, best, row, ?_, hR, hrow⟩
    simp (disch := omega) only [L_hA_X4_extend_68, nn_le, Nat.le_refl, ↓reduceIte]
  | succ m ih =>
    intro u F row best right len st e hF hrow hR
    obtain ⟨F, rfl⟩ : ∃ f, F = f + 1 := ⟨F - 1, by omega⟩
    have i1 : ¬ nn nu ≤ nn u := by rw [nn_le (by omega) (by omega)]; omega
    obtain ⟨r1, l1, b1, w1, e1, e2, e3⟩ := pc_ext83 hn hd hm (show u < nu by omega) her hpre (h := h) (K := (fun l7_83 ma38_83 ma29_83 mg31_83 mg30_83 ma39_83 => L_hA_X4_extend_68 (nn nu) t er (nn depth) (nn many) K F (nn u + (1 : Int32)) ma38_83 ma29_83 mg31_83 mg30_83 ma39_83)) (nu - (u + 1)) (u + 1) 200000 row best right len st (by omega) (by omega) (by omega) hrow hR
    have eb : ∀ st, fx (fun c st => if val nu h c = true then mT nu t r (swp (c / 10) (c % 10) h) (pre ++ [c]) st else st) 10 (10 * u) st = fx (fun c st => if val nu h c = true then mT nu t r (swp (c / 10) (c % 10) h) (pre ++ [c]) st else st) (nu - (u + 1)) (10 * u + (u + 1)) st := fun st => by
      rw [show 10 = (u + 1) + ((nu - (u + 1)) + (10 - nu)) by omega, fx_add, fx_add]
      rw [show (u + 1 + (nu - (u + 1) + (10 - nu))) * u = 10 * u by congr 1; omega]
      rw [fx_id (u + 1) (10 * u) (fun j h1 h2 => by
        have : val nu h j = false := by unfold val; simp only [decide_eq_false_iff_not]; exact fun z => by omega
        simp only [this]; rfl)]
      exact fx_id _ _ (fun j h1 h2 => by
        have : val nu h j = false := by unfold val; simp only [decide_eq_false_iff_not]; exact fun z => by omega
        simp only [this]; rfl)
    rw [← eb st] at e2
    obtain ⟨r2, l2, b2, w2, f1, f2, f3⟩ := ih (u + 1) F w1 b1 r1 l1 _ (by omega) (by omega) e3 e2
    refine ⟨r2, l2, b2, w2, ?_, ?_, f3⟩
    · simp only [nn_succ] at e1
      rw [← f1, L_hA_X4_extend_68, if_neg i1]
      simp only [nn_succ]
      exact e1
    · rw [show 10 * (m + 1) = 10 + 10 * m by omega, fx_add, show 10 * u + 10 = 10 * (u + 1) by omega]
      exact f2
theorem mend_cpy {row best : pA} {i : Nat} (hi : i < 3) : va_cpy row best 0 0 3 i = row i := by
  unfold va_cpy
  rw [if_pos ⟨by omega, by omega⟩]
  congr 1
  omega
theorem pc_ext {nu many : Nat} (hn : nu ≤ 5) (hm : many ≤ 3) {t : pA} : ∀ (r depth n : Nat), depth + r = many → r < n → erOk nu many t depth r (e_hA_X4_extend n) := by
  intro r
  induction r with
  | zero =>
    intro depth n e hn2 h row best right len st pre hpre hrow hR
    obtain ⟨n, rfl⟩ : ∃ f, n = f + 1 := ⟨n - 1, by omega⟩
    obtain rfl : depth = many := by omega
    have hs := sc_le (h := h) (t := t) (nu := nu)
    obtain ⟨rfl, rfl, h5, h3, hb⟩ := hR
    have ez : nn (sc h t nu) + ((2 : Int32) * (nn depth - nn depth)) = nn (sc h t nu) := by
      rw [nn_sub (Nat.le_refl _), show (2 : Int32) = nn 2 from rfl, nn_mul, nn_add]
      congr 1
      omega
    have ee : ∀ (right len : Int32), e_hA_X4_extend (n + 1) (nn nu) t h right len row best (nn depth) (nn depth) = if right < nn (sc h t nu) then some (nn (sc h t nu), nn depth, va_cpy row best 0 0 3, row, h) else some (right, len, best, row, h) := fun right len => by
      rw [e_hA_X4_extend, qc_rightOnes hn, Option.bind_some, sc_x hn, ez, if_pos (Int32.le_refl (nn depth))]
    rw [ee]
    by_cases q : st.1 < sc h t nu
    · refine ⟨_, _, _, _, if_pos (by rw [nn_lt (by omega) (by omega)]; exact q), ?_, fun _ _ => rfl⟩
      simp only [mT, tkM]
      rw [if_pos q]
      refine ⟨rfl, by rw [hpre], by omega, by show pre.length ≤ 3; omega, fun i hi => ?_⟩
      rw [mend_cpy (by have : i < pre.length := hi; omega)]
      exact hrow i (by have : i < pre.length := hi; omega)
    · refine ⟨_, _, _, _, if_neg (by rw [nn_lt (by omega) (by omega)]; exact q), ?_, fun _ _ => rfl⟩
      simp only [mT, tkM]
      rw [if_neg q]
      exact ⟨rfl, rfl, h5, h3, hb⟩
  | succ r ih =>
    intro depth n e hn2 h row best right len st pre hpre hrow hR
    obtain ⟨n, rfl⟩ : ∃ f, n = f + 1 := ⟨n - 1, by omega⟩
    have hs := sc_le (h := h) (t := t) (nu := nu)
    have hR' := hR
    obtain ⟨rfl, rfl, h5, h3, hb⟩ := hR'
    have ez : nn (sc h t nu) + ((2 : Int32) * (nn many - nn depth)) = nn (sc h t nu + 2 * (r + 1)) := by
      rw [nn_sub (by omega), show (2 : Int32) = nn 2 from rfl, nn_mul, nn_add]
      congr 1
      omega
    by_cases q : st.1 < sc h t nu + 2 * (r + 1)
    · obtain ⟨r1, l1, b1, w1, e1, e2, e3⟩ := pc_ext68 hn (show depth < 3 by omega) hm (ih (depth + 1) n (by omega) (by omega)) hpre (h := h) (K := (fun l6_68 ma38_68 ma29_68 mg31_68 mg30_68 ma39_68 => some (mg31_68, mg30_68, ma39_68, ma38_68, ma29_68))) nu 0 200000 row best (nn st.1) (nn st.2.length) st (by omega) (by omega) hrow hR
      refine ⟨r1, l1, b1, w1, ?_, ?_, fun i hi => by rw [e3 i hi, hrow i hi]⟩
      · rw [e_hA_X4_extend, qc_rightOnes hn, Option.bind_some, sc_x hn, ez, if_pos (by rw [nn_lt (by omega) (by omega)]; exact q), if_neg (by rw [nn_le (by omega) (by omega)]; omega), if_pos (by rw [show (3 : Int32) = nn 3 from rfl, nn_lt (by omega) (by omega)]; omega)]
        exact e1
      · simp only [mT]
        rw [show 50 = 10 * nu + (50 - 10 * nu) by omega, fx_add]
        rw [fx_id (50 - 10 * nu) _ (fun j h1 h2 => by
          have : val nu h j = false := by unfold val; simp only [decide_eq_false_iff_not]; exact fun z => by omega
          simp only [this]; rfl)]
        exact e2
    · refine ⟨nn st.1, nn st.2.length, best, row, ?_, ?_, fun _ _ => rfl⟩
      · rw [e_hA_X4_extend, qc_rightOnes hn, Option.bind_some, sc_x hn, ez, if_neg (by rw [nn_lt (by omega) (by omega)]; exact q)]
      · rw [mT_prune _ _ _ _ (by omega)]
        exact hR
/-- the best of all rows -/
def best3 (nu : Nat) (h t : pA) : Nat × List Nat := mT nu t 3 h [] (mT nu t 2 h [] (mT nu t 1 h [] (sc h t nu, [])))
theorem qc_msearch {nu : Nat} (hn : nu ≤ 5) (t h : pA) (p0 p4 : Int32) (row best : pA) : ∃ len right best' row', e_hA_X4_search p0 (nn nu) t h p4 row best = some (len, right, best', row', h) ∧ Rp right len best' (best3 nu h t) := by
  have hs := sc_le (h := h) (t := t) (nu := nu)
  have R0 : Rp (nn (sc h t nu)) 0 best (sc h t nu, []) := ⟨rfl, rfl, by show sc h t nu ≤ 5; omega, by show 0 ≤ 3; omega, fun i hi => absurd hi (by show ¬ i < 0; omega)⟩
  obtain ⟨r1, l1, b1, w1, e1, R1, _⟩ := pc_ext (many := 1) hn (by omega) 1 0 5 (by omega) (by omega) h row best (nn (sc h t nu)) 0 _ [] rfl (fun i hi => absurd hi (by omega)) R0
  obtain ⟨r2, l2, b2, w2, e2, R2, _⟩ := pc_ext (many := 2) hn (by omega) 2 0 5 (by omega) (by omega) h w1 b1 r1 l1 _ [] rfl (fun i hi => absurd hi (by omega)) R1
  obtain ⟨r3, l3, b3, w3, e3, R3, _⟩ := pc_ext (many := 3) hn (by omega) 3 0 5 (by omega) (by omega) h w2 b2 r2 l2 _ [] rfl (fun i hi => absurd hi (by omega)) R2
  refine ⟨l3, r3, b3, w3, ?_, R3⟩
  have e1' : e_hA_X4_extend 5 (nn nu) t h (nn (sc h t nu)) 0 row best (0 : Int32) (1 : Int32) = _ := e1
  have e2' : e_hA_X4_extend 5 (nn nu) t h r1 l1 w1 b1 (0 : Int32) ((1 : Int32) + 1) = _ := e2
  have e3' : e_hA_X4_extend 5 (nn nu) t h r2 l2 w2 b2 (0 : Int32) ((1 : Int32) + 1 + 1) = _ := e3
  have s1 : ∀ (F : Nat) (K : Int32 → Int32 → Int32 → pA → pA → pA → Option (Int32 × Int32 × pA × pA × pA)), L_hA_X4_search_19 (nn nu) t K (F + 1 + 1 + 1 + 1) 1 (nn (sc h t nu)) 0 best row h = K ((1 : Int32) + 1 + 1 + 1) r3 l3 b3 w3 h := fun F K => by
    rw [L_hA_X4_search_19, if_neg (by decide), e1', Option.bind_some, L_hA_X4_search_19, if_neg (by decide), e2', Option.bind_some, L_hA_X4_search_19, if_neg (by decide), e3', Option.bind_some, L_hA_X4_search_19, if_pos (by decide)]
  unfold e_hA_X4_search
  rw [qc_rightOnes hn, Option.bind_some, sc_x hn]
  exact s1 199996 _
