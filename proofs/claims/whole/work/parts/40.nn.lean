/-! THE PURE PART: numbers -/
abbrev pA : Type := Nat → Int32
/-- a small number as an int -/
def nn (k : Nat) : Int32 := Int32.ofNat k
theorem nn_nat {k : Nat} (h : k < 2147483648) : (nn k).toNatClampNeg = k := Int32.toNatClampNeg_ofNat_of_lt h
theorem nn_int {k : Nat} (h : k < 2147483648) : (nn k).toInt = k := Int32.toInt_ofNat_of_lt h
theorem nn_le {a b : Nat} (ha : a < 2147483648) (hb : b < 2147483648) : (nn a ≤ nn b) = (a ≤ b) := propext (Int32.ofNat_le_iff_le ha hb)
theorem nn_lt {a b : Nat} (ha : a < 2147483648) (hb : b < 2147483648) : (nn a < nn b) = (a < b) := propext (Int32.ofNat_lt_iff_lt ha hb)
theorem nn_inj {a b : Nat} (ha : a < 2147483648) (hb : b < 2147483648) : (nn a = nn b) = (a = b) := propext ⟨fun h => by
  have := congrArg Int32.toNatClampNeg h
  rwa [nn_nat ha, nn_nat hb] at this, fun h => by rw [h]⟩
theorem nn_succ (k : Nat) : nn k + 1 = nn (k + 1) := (Int32.ofNat_add k 1).symm
theorem nn_add (a b : Nat) : nn a + nn b = nn (a + b) := (Int32.ofNat_add a b).symm
theorem nn_0 : (0 : Int32) = nn 0 := rfl
theorem nn_of {x : Int32} {n : Nat} (h0 : 0 ≤ x) (h1 : x < nn n) (hn : n < 2147483648) : ∃ k, k < n ∧ x = nn k := by
  refine ⟨x.toNatClampNeg, ?_, (Int32.ofNat_toNatClampNeg x h0).symm⟩
  have h2 : nn x.toNatClampNeg = x := Int32.ofNat_toNatClampNeg x h0
  rw [← h2] at h1
  have h3 := Int32.toNatClampNeg_lt x
  rwa [nn_lt h3 hn] at h1
theorem nn_of_le {x : Int32} {n : Nat} (h0 : 0 ≤ x) (h1 : x ≤ nn n) (hn : n < 2147483648) : ∃ k, k ≤ n ∧ x = nn k := by
  refine ⟨x.toNatClampNeg, ?_, (Int32.ofNat_toNatClampNeg x h0).symm⟩
  have h2 : nn x.toNatClampNeg = x := Int32.ofNat_toNatClampNeg x h0
  rw [← h2] at h1
  have h3 := Int32.toNatClampNeg_lt x
  rwa [nn_le h3 hn] at h1
theorem nn_pos {k : Nat} (h : k < 2147483648) : (nn k < 0) = False := by
  rw [nn_0, nn_lt h (by omega)]
  simp
theorem nn_ge0 {k : Nat} (h : k < 2147483648) : 0 ≤ nn k := Int32.zero_le_ofNat_of_lt h
theorem nn_ne2 {k : Nat} (h : k < 2147483648) : (nn k = -2) = False := by
  refine eq_false fun e => ?_
  have h1 := nn_ge0 h
  rw [e] at h1
  exact absurd h1 (by decide)
theorem nn_ne1 {k : Nat} (h : k < 2147483648) : (nn k = -1) = False := by
  refine eq_false fun e => ?_
  have h1 := nn_ge0 h
  rw [e] at h1
  exact absurd h1 (by decide)
theorem xix_nn {R : Type} {k n : Nat} (h : k < n) (hn : n < 2147483648) (K : Option R) : xix (nn k) n K = K := by
  unfold xix
  rw [if_neg]
  rw [nn_nat (by omega), nn_pos (by omega)]
  intro z
  rcases z with z | z
  · exact z
  · omega
theorem nn_0add (k : Nat) : (0 : Int32) + nn k = nn k := by rw [nn_0, nn_add, Nat.zero_add]
theorem nn_5add (k : Nat) : (5 : Int32) + nn k = nn (5 + k) := nn_add 5 k
theorem upd_at (f : pA) (k : Nat) (v : Int32) : upd f k v k = v := by simp [upd]
theorem upd_ne (f : pA) {k j : Nat} (v : Int32) (h : j ≠ k) : upd f k v j = f j := by simp [upd, h]
/-- the first n of a row -/
def clip (n : Nat) (f : pA) : pA := fun k => if k < n then f k else 0
theorem clip_lt {n k : Nat} (f : pA) (h : k < n) : clip n f k = f k := by simp [clip, h]
theorem clip_upd {n k : Nat} (f : pA) (v : Int32) (h : k < n) : clip n (upd f k v) = upd (clip n f) k v := by
  funext j
  by_cases e : j = k
  · subst e; simp [clip, upd, h]
  · simp [clip, upd, e]
theorem clip_eq {n : Nat} {f g : pA} : clip n f = clip n g ↔ ∀ k, k < n → f k = g k := by
  constructor
  · intro h k hk
    have := congrFun h k
    simpa [clip, hk] using this
  · intro h
    funext k
    by_cases hk : k < n
    · simp [clip, hk, h k hk]
    · simp [clip, hk]
/-- a row out of holders, titles and dry days -/
def mkr (h t : pA) (d : Int32) : pA := fun k => if k < 5 then h k else if k < 10 then t (k - 5) else if k = 10 then d else 0
theorem mkr_h {h t : pA} {d : Int32} {k : Nat} (hk : k < 5) : mkr h t d k = h k := by simp [mkr, hk]
theorem mkr_t {h t : pA} {d : Int32} {k : Nat} (hk : k < 5) : mkr h t d (5 + k) = t k := by
  simp [mkr, show ¬ (5 + k < 5) by omega, show 5 + k < 10 by omega, show 5 + k - 5 = k by omega]
theorem mkr_d {h t : pA} {d : Int32} : mkr h t d 10 = d := by simp [mkr]
theorem mkr_uh {h t : pA} {d v : Int32} {k : Nat} (hk : k < 5) : mkr (upd h k v) t d = upd (mkr h t d) k v := by
  funext j
  by_cases e : j = k
  · subst e; simp [mkr, upd, hk]
  · simp [mkr, upd, e]
theorem mkr_ut {h t : pA} {d v : Int32} {k : Nat} (hk : k < 5) : mkr h (upd t k v) d = upd (mkr h t d) (5 + k) v := by
  funext j
  by_cases e : j = 5 + k
  · subst e; simp [mkr, upd, show ¬ (5 + k < 5) by omega, show 5 + k < 10 by omega, show 5 + k - 5 = k by omega]
  · simp only [mkr, upd, if_neg e]
    split
    · rfl
    · split
      · rw [if_neg (by omega)]
      · rfl
theorem mkr_ud {h t : pA} {d v : Int32} : mkr h t v = upd (mkr h t d) 10 v := by
  funext j
  by_cases e : j = 10
  · subst e; simp [mkr, upd]
  · simp [mkr, upd, e]
