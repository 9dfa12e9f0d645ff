/-! THE PURE PART: small loops over umbrellas, and a day that ends: one function for class and reference -/
/-- nobody, or a person -/
def wv (np : Nat) (v : Int32) : Prop := v = -2 ∨ ∃ p, p < np ∧ v = nn p
def wr (np : Nat) (r : pA) : Prop := (∀ u, u < 5 → wv np (r u)) ∧ (∀ u, u < 5 → wv np (r (5 + u))) ∧ ∃ d, d ≤ 30 ∧ r 10 = nn d
def pHeld (h : pA) (p : Int32) : Nat → Nat → Int32 → Int32
  | 0, _, acc => acc
  | m + 1, k, acc => pHeld h p m (k + 1) (if h k = p then acc ||| ((1 : Int32) <<< (nn k &&& 31)) else acc ||| 0)
def pLands (t lands : pA) (p : Int32) : Nat → Nat → Int32 → Int32
  | 0, _, acc => acc
  | m + 1, k, acc => pLands t lands p m (k + 1) (if t k = p then acc + lands k else acc + 0)
def pRight (h t : pA) : Nat → Nat → Int32 → Int32
  | 0, _, acc => acc
  | m + 1, k, acc => pRight h t m (k + 1) (if t k = -2 then acc ||| 0 else if t k = h k then acc ||| ((1 : Int32) <<< (nn k &&& 31)) else acc ||| 0)
def tR (r : pA) : pA := fun u => r (5 + u)
theorem tR_at (r : pA) (u : Nat) : r (5 + u) = tR r u := rfl
theorem pc_heldBy {nu : Nat} (hn : nu ≤ 5) {h : pA} {p : Int32} {K : Int32 → Int32 → Option Int32} : ∀ (m k F : Nat) (acc : Int32), k + m = nu → m < F → L_hA_X3_heldBy_5 (nn nu) h p K F acc (nn k) = K (pHeld h p m k acc) (nn nu) := by
  intro m
  induction m with
  | zero =>
    intro k F acc e hF
    obtain ⟨F, rfl⟩ : ∃ f, F = f + 1 := ⟨F - 1, by omega⟩
    obtain rfl : k = nu := by omega
    simp (disch := omega) only [L_hA_X3_heldBy_5, nn_le, Nat.le_refl, ↓reduceIte, pHeld]
  | succ m ih =>
    intro k F acc e hF
    obtain ⟨F, rfl⟩ : ∃ f, F = f + 1 := ⟨F - 1, by omega⟩
    have hk : ¬ nu ≤ k := by omega
    simp (disch := omega) only [L_hA_X3_heldBy_5, nn_le, hk, ↓reduceIte, xix_nn, nn_nat, nn_succ, nn_0add, nn_5add, pHeld, ih]
    (repeat' split) <;> simp_all
theorem pr_hadBy {nu : Nat} (hn : nu ≤ 5) {h : pA} {p : Int32} {K : Int32 → Int32 → Option Int32} : ∀ (m k F : Nat) (acc : Int32), k + m = nu → m < F → L_hB_X9_hadBy_5 (nn nu) h p K F acc (nn k) = K (pHeld h p m k acc) (nn nu) := by
  intro m
  induction m with
  | zero =>
    intro k F acc e hF
    obtain ⟨F, rfl⟩ : ∃ f, F = f + 1 := ⟨F - 1, by omega⟩
    obtain rfl : k = nu := by omega
    simp (disch := omega) only [L_hB_X9_hadBy_5, nn_le, Nat.le_refl, ↓reduceIte, pHeld]
  | succ m ih =>
    intro k F acc e hF
    obtain ⟨F, rfl⟩ : ∃ f, F = f + 1 := ⟨F - 1, by omega⟩
    have hk : ¬ nu ≤ k := by omega
    simp (disch := omega) only [L_hB_X9_hadBy_5, nn_le, hk, ↓reduceIte, xix_nn, nn_nat, nn_succ, nn_0add, nn_5add, pHeld, ih]
    (repeat' split) <;> simp_all
theorem pc_landsFor {nu : Nat} (hn : nu ≤ 5) {h l : pA} {p : Int32} {K : Int32 → Int32 → Option Int32} : ∀ (m k F : Nat) (acc : Int32), k + m = nu → m < F → L_hA_X3_landsFor_5 (nn nu) h l p K F acc (nn k) = K (pLands h l p m k acc) (nn nu) := by
  intro m
  induction m with
  | zero =>
    intro k F acc e hF
    obtain ⟨F, rfl⟩ : ∃ f, F = f + 1 := ⟨F - 1, by omega⟩
    obtain rfl : k = nu := by omega
    simp (disch := omega) only [L_hA_X3_landsFor_5, nn_le, Nat.le_refl, ↓reduceIte, pLands]
  | succ m ih =>
    intro k F acc e hF
    obtain ⟨F, rfl⟩ : ∃ f, F = f + 1 := ⟨F - 1, by omega⟩
    have hk : ¬ nu ≤ k := by omega
    simp (disch := omega) only [L_hA_X3_landsFor_5, nn_le, hk, ↓reduceIte, xix_nn, nn_nat, nn_succ, nn_0add, nn_5add, pLands, ih]
    (repeat' split) <;> simp_all
theorem pr_landsIn {nu : Nat} (hn : nu ≤ 5) {h l : pA} {p : Int32} {K : Int32 → Int32 → Option Int32} : ∀ (m k F : Nat) (acc : Int32), k + m = nu → m < F → L_hB_X9_landsIn_5 (nn nu) h l p K F acc (nn k) = K (pLands (tR h) l p m k acc) (nn nu) := by
  intro m
  induction m with
  | zero =>
    intro k F acc e hF
    obtain ⟨F, rfl⟩ : ∃ f, F = f + 1 := ⟨F - 1, by omega⟩
    obtain rfl : k = nu := by omega
    simp (disch := omega) only [L_hB_X9_landsIn_5, nn_le, Nat.le_refl, ↓reduceIte, pLands, tR]
  | succ m ih =>
    intro k F acc e hF
    obtain ⟨F, rfl⟩ : ∃ f, F = f + 1 := ⟨F - 1, by omega⟩
    have hk : ¬ nu ≤ k := by omega
    simp (disch := omega) only [L_hB_X9_landsIn_5, nn_le, hk, ↓reduceIte, xix_nn, nn_nat, nn_succ, nn_0add, nn_5add, pLands, tR, ih]
    (repeat' split) <;> simp_all
theorem pc_rightOnes {nu : Nat} (hn : nu ≤ 5) {h t : pA} {K : Int32 → Int32 → Option Int32} : ∀ (m k F : Nat) (acc : Int32), k + m = nu → m < F → L_hA_X3_rightOnes_4 (nn nu) t h K F acc (nn k) = K (pRight h t m k acc) (nn nu) := by
  intro m
  induction m with
  | zero =>
    intro k F acc e hF
    obtain ⟨F, rfl⟩ : ∃ f, F = f + 1 := ⟨F - 1, by omega⟩
    obtain rfl : k = nu := by omega
    simp (disch := omega) only [L_hA_X3_rightOnes_4, nn_le, Nat.le_refl, ↓reduceIte, pRight]
  | succ m ih =>
    intro k F acc e hF
    obtain ⟨F, rfl⟩ : ∃ f, F = f + 1 := ⟨F - 1, by omega⟩
    have hk : ¬ nu ≤ k := by omega
    simp (disch := omega) only [L_hA_X3_rightOnes_4, nn_le, hk, ↓reduceIte, xix_nn, nn_nat, nn_succ, nn_0add, nn_5add, pRight, ih]
    (repeat' split) <;> simp_all
theorem pr_rightIn {nu : Nat} (hn : nu ≤ 5) {h : pA} {K : Int32 → Int32 → Option Int32} : ∀ (m k F : Nat) (acc : Int32), k + m = nu → m < F → L_hB_X9_rightIn_4 (nn nu) h K F acc (nn k) = K (pRight h (tR h) m k acc) (nn nu) := by
  intro m
  induction m with
  | zero =>
    intro k F acc e hF
    obtain ⟨F, rfl⟩ : ∃ f, F = f + 1 := ⟨F - 1, by omega⟩
    obtain rfl : k = nu := by omega
    simp (disch := omega) only [L_hB_X9_rightIn_4, nn_le, Nat.le_refl, ↓reduceIte, pRight, tR]
  | succ m ih =>
    intro k F acc e hF
    obtain ⟨F, rfl⟩ : ∃ f, F = f + 1 := ⟨F - 1, by omega⟩
    have hk : ¬ nu ≤ k := by omega
    simp (disch := omega) only [L_hB_X9_rightIn_4, nn_le, hk, ↓reduceIte, xix_nn, nn_nat, nn_succ, nn_0add, nn_5add, pRight, tR, ih]
    (repeat' split) <;> simp_all
theorem qc_heldBy {nu : Nat} (hn : nu ≤ 5) (h : pA) (p : Int32) : e_hA_X3_heldBy (nn nu) h p = some (pHeld h p nu 0 0) := pc_heldBy hn nu 0 200000 0 (by omega) (by omega)
theorem qr_hadBy {nu : Nat} (hn : nu ≤ 5) (h : pA) (p : Int32) : e_hB_X9_hadBy (nn nu) h p = some (pHeld h p nu 0 0) := pr_hadBy hn nu 0 200000 0 (by omega) (by omega)
theorem qc_landsFor {nu : Nat} (hn : nu ≤ 5) (t l : pA) (p : Int32) : e_hA_X3_landsFor (nn nu) t l p = some (pLands t l p nu 0 0) := pc_landsFor hn nu 0 200000 0 (by omega) (by omega)
theorem qr_landsIn {nu : Nat} (hn : nu ≤ 5) (r l : pA) (p : Int32) : e_hB_X9_landsIn (nn nu) r l p = some (pLands (tR r) l p nu 0 0) := pr_landsIn hn nu 0 200000 0 (by omega) (by omega)
theorem qc_rightOnes {nu : Nat} (hn : nu ≤ 5) (h t : pA) : e_hA_X3_rightOnes (nn nu) t h = some (pRight h t nu 0 0) := pc_rightOnes hn nu 0 200000 0 (by omega) (by omega)
theorem qr_rightIn {nu : Nat} (hn : nu ≤ 5) (r : pA) : e_hB_X9_rightIn (nn nu) r = some (pRight r (tR r) nu 0 0) := pr_rightIn hn nu 0 200000 0 (by omega) (by omega)
theorem pHeld_congr {h h' : pA} {p : Int32} : ∀ (m k : Nat) (acc : Int32), (∀ u, u < k + m → h u = h' u) → pHeld h p m k acc = pHeld h' p m k acc := by
  intro m
  induction m with
  | zero => intro k acc _; rfl
  | succ m ih =>
    intro k acc hh
    simp only [pHeld]
    rw [hh k (by omega), ih (k + 1) _ (fun u hu => hh u (by omega))]
theorem pLands_congr {t t' l l' : pA} {p : Int32} : ∀ (m k : Nat) (acc : Int32), (∀ u, u < k + m → t u = t' u ∧ l u = l' u) → pLands t l p m k acc = pLands t' l' p m k acc := by
  intro m
  induction m with
  | zero => intro k acc _; rfl
  | succ m ih =>
    intro k acc hh
    simp only [pLands]
    rw [(hh k (by omega)).1, (hh k (by omega)).2, ih (k + 1) _ (fun u hu => hh u (by omega))]
theorem pRight_congr {h t h' t' : pA} : ∀ (m k : Nat) (acc : Int32), (∀ u, u < k + m → h u = h' u ∧ t u = t' u) → pRight h t m k acc = pRight h' t' m k acc := by
  intro m
  induction m with
  | zero => intro k acc _; rfl
  | succ m ih =>
    intro k acc hh
    simp only [pRight]
    rw [(hh k (by omega)).1, (hh k (by omega)).2, ih (k + 1) _ (fun u hu => hh u (by omega))]
/-- the title goes to who has it, if that is somebody and no child -/
def sTake (sort r : pA) (u : Nat) : pA := if r u = -2 ∨ sort (r u).toNatClampNeg = 1 then r else upd r (5 + u) (r u)
def sTitles (kind sort : pA) (rain : Int32) : Nat → Nat → pA → pA
  | 0, _, r => r
  | m + 1, k, r => sTitles kind sort rain m (k + 1) (if kind k = 2 then r else if kind k = 3 then (if rain = 0 then sTake sort r k else r) else if rain = 0 then r else sTake sort r k)
def sLapse (kind : pA) : Nat → Nat → pA → pA
  | 0, _, r => r
  | m + 1, k, r => sLapse kind m (k + 1) (if kind k = 0 then r else upd r (5 + k) (-2))
def sLeast (lands r : pA) (p : Int32) : Nat → Nat → Int32 → Int32
  | 0, _, least => least
  | m + 1, k, least => sLeast lands r p m (k + 1) (if r k = p then (if least = -1 then nn k else if lands least.toNatClampNeg ≤ lands k then least else nn k) else least)
def sCount (r : pA) (p : Int32) : Nat → Nat → Nat → Nat
  | 0, _, c => c
  | m + 1, k, c => sCount r p m (k + 1) (if r k = p then c + 1 else c)
def sForget (nu : Nat) (lands r : pA) (p : Int32) : pA := if sCount r p nu 0 0 < 2 then r else upd r (sLeast lands r p nu 0 (-1)).toNatClampNeg (-2)
def sForgets (nu : Nat) (sort lands : pA) : Nat → Nat → pA → pA
  | 0, _, r => r
  | m + 1, k, r => sForgets nu sort lands m (k + 1) (if sort k = 2 then sForget nu lands r (nn k) else r)
def sDry (rain d : Int32) : Int32 := if rain = 0 then (if 30 ≤ d then d else d + 1) else 0
def sPass (nu : Nat) (lapse : Int32) (kind sort : pA) (rain : Int32) (r : pA) : pA :=
  if rain = 0 ∧ ¬ sDry rain (r 10) < lapse then sLapse kind nu 0 (upd (sTitles kind sort rain nu 0 r) 10 (sDry rain (r 10))) else upd (sTitles kind sort rain nu 0 r) 10 (sDry rain (r 10))
def sEnds (nu np : Nat) (lapse : Int32) (kind sort lands : pA) (rain : Int32) (r : pA) : pA := sForgets nu sort lands np 0 (sPass nu lapse kind sort rain r)
