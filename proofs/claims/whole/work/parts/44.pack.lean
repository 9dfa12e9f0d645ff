/-! THE PURE PART: a row as one number, and back -/
def ll (n : Nat) : Int64 := Int64.ofNat n
theorem ll_bv (n : Nat) : (ll n).toBitVec = BitVec.ofNat 64 n := rfl
theorem ll_or {a b : Nat} (ha : a < 2 ^ 63) (hb : b < 2 ^ 63) : ll a ||| ll b = ll (a ||| b) := by
  apply Int64.toBitVec_inj.1
  rw [Int64.toBitVec_or, ll_bv, ll_bv, ll_bv]
  apply BitVec.eq_of_toNat_eq
  have h1 : a ||| b < 2 ^ 63 := Nat.or_lt_two_pow ha hb
  rw [BitVec.toNat_or, BitVec.toNat_ofNat, BitVec.toNat_ofNat, BitVec.toNat_ofNat, Nat.mod_eq_of_lt (by omega), Nat.mod_eq_of_lt (by omega), Nat.mod_eq_of_lt (by omega)]
theorem ll_shl6 {a : Nat} (ha : a < 2 ^ 40) : ll a <<< ((6 : Int32).toInt64 &&& 63) = ll (a * 64) := by
  rw [show ((6 : Int32).toInt64 &&& 63) = (6 : Int64) from by decide]
  apply Int64.toBitVec_inj.1
  rw [Int64.toBitVec_shiftLeft, ll_bv, ll_bv, show (6 : Int64).toBitVec.smod 64 = 6#64 from by decide]
  apply BitVec.eq_of_toNat_eq
  rw [BitVec.shiftLeft_eq', BitVec.toNat_shiftLeft, show (6#64).toNat = 6 from rfl, BitVec.toNat_ofNat, BitVec.toNat_ofNat, Nat.shiftLeft_eq, Nat.mod_eq_of_lt (by omega), Nat.mod_eq_of_lt (by omega), Nat.mod_eq_of_lt (by omega)]
theorem ll_msb {a : Nat} (ha : a < 2 ^ 63) : (BitVec.ofNat 64 a).msb = false := by
  rw [BitVec.msb_eq_decide, BitVec.toNat_ofNat]
  simp only [decide_eq_false_iff_not]
  rw [Nat.mod_eq_of_lt (by omega)]
  omega
theorem ll_shr6 {a : Nat} (ha : a < 2 ^ 63) : ll a >>> ((6 : Int32).toInt64 &&& 63) = ll (a / 64) := by
  rw [show ((6 : Int32).toInt64 &&& 63) = (6 : Int64) from by decide]
  apply Int64.toBitVec_inj.1
  rw [Int64.toBitVec_shiftRight, ll_bv, ll_bv, show (6 : Int64).toBitVec.smod 64 = 6#64 from by decide]
  apply BitVec.eq_of_toNat_eq
  rw [BitVec.toNat_sshiftRight'_of_msb_false (ll_msb ha), show (6#64).toNat = 6 from rfl, BitVec.toNat_ofNat, BitVec.toNat_ofNat, Nat.shiftRight_eq_div_pow, Nat.mod_eq_of_lt (by omega), Nat.mod_eq_of_lt (by omega)]
theorem ll_shr3 {a : Nat} (ha : a < 2 ^ 63) : ll a >>> ((3 : Int32).toInt64 &&& 63) = ll (a / 8) := by
  rw [show ((3 : Int32).toInt64 &&& 63) = (3 : Int64) from by decide]
  apply Int64.toBitVec_inj.1
  rw [Int64.toBitVec_shiftRight, ll_bv, ll_bv, show (3 : Int64).toBitVec.smod 64 = 3#64 from by decide]
  apply BitVec.eq_of_toNat_eq
  rw [BitVec.toNat_sshiftRight'_of_msb_false (ll_msb ha), show (3#64).toNat = 3 from rfl, BitVec.toNat_ofNat, BitVec.toNat_ofNat, Nat.shiftRight_eq_div_pow, Nat.mod_eq_of_lt (by omega), Nat.mod_eq_of_lt (by omega)]
theorem ll_and7 {a : Nat} (ha : a < 2 ^ 63) : ll a &&& (7 : Int64) = ll (a % 8) := by
  apply Int64.toBitVec_inj.1
  rw [Int64.toBitVec_and, ll_bv, ll_bv, show (7 : Int64).toBitVec = 7#64 from rfl]
  apply BitVec.eq_of_toNat_eq
  rw [BitVec.toNat_and, show (7#64).toNat = 2 ^ 3 - 1 from rfl, BitVec.toNat_ofNat, BitVec.toNat_ofNat, Nat.and_two_pow_sub_one_eq_mod]
  omega
theorem ll_32 (a : Nat) : (ll a).toInt32 = nn a := Int64.toInt32_ofNat'
theorem nn_64 {a : Nat} (h : a < 2147483648) : (nn a).toInt64 = ll a := Int32.toInt64_ofNat' (by show (a : Int) ≤ 2147483647; omega)
/-- a holder, or a title, as a digit -/
def dg (v : Int32) : Nat := (v + 2).toNatClampNeg
theorem wv_cases {np : Nat} {v : Int32} (hp : np ≤ 6) (h : wv np v) : v = -2 ∨ v = 0 ∨ v = 1 ∨ v = 2 ∨ v = 3 ∨ v = 4 ∨ v = 5 := by
  rcases h with h | ⟨p, hpp, rfl⟩
  · exact Or.inl h
  · have : p = 0 ∨ p = 1 ∨ p = 2 ∨ p = 3 ∨ p = 4 ∨ p = 5 := by omega
    rcases this with rfl | rfl | rfl | rfl | rfl | rfl
    · exact Or.inr (Or.inl rfl)
    · exact Or.inr (Or.inr (Or.inl rfl))
    · exact Or.inr (Or.inr (Or.inr (Or.inl rfl)))
    · exact Or.inr (Or.inr (Or.inr (Or.inr (Or.inl rfl))))
    · exact Or.inr (Or.inr (Or.inr (Or.inr (Or.inr (Or.inl rfl)))))
    · exact Or.inr (Or.inr (Or.inr (Or.inr (Or.inr (Or.inr rfl)))))
theorem dg_ok {np : Nat} {v : Int32} (hp : np ≤ 6) (h : wv np v) : dg v ≤ 7 ∧ ((v - (-2 : Int32)) <<< ((3 : Int32) &&& 31)).toInt64 = ll (dg v * 8) ∧ (v - (-2 : Int32)).toInt64 = ll (dg v) ∧ nn (dg v) + (-2 : Int32) = v := by
  rcases wv_cases hp h with rfl | rfl | rfl | rfl | rfl | rfl | rfl <;> decide
theorem or8 {x y : Nat} (hy : y < 8) : (x * 8) ||| y = x * 8 + y := by
  have := Nat.shiftLeft_add_eq_or_of_lt (i := 3) (b := y) (by omega) x
  rw [Nat.shiftLeft_eq] at this
  exact this.symm
theorem or64 {x y : Nat} (hy : y < 64) : (x * 64) ||| y = x * 64 + y := by
  have := Nat.shiftLeft_add_eq_or_of_lt (i := 6) (b := y) (by omega) x
  rw [Nat.shiftLeft_eq] at this
  exact this.symm
theorem pk_step {a x y : Nat} (ha : a < 2 ^ 40) (hx : x ≤ 7) (hy : y ≤ 7) : ((ll a <<< ((6 : Int32).toInt64 &&& 63)) ||| ll (x * 8)) ||| ll y = ll (a * 64 + (x * 8 + y)) := by
  rw [ll_shl6 ha, Int64.or_assoc, ll_or (by omega) (by omega), or8 (by omega), ll_or (by omega) (by omega), or64 (by omega)]
def pkF (h t : pA) : Nat → Nat → Nat → Nat
  | 0, _, N => N
  | m + 1, k, N => pkF h t m (k + 1) (N * 64 + (dg (h k) * 8 + dg (t k)))
def pkR (r : pA) : Nat := pkF r (tR r) 5 0 (r 10).toNatClampNeg
theorem pc_packed {np : Nat} (hp : np ≤ 6) {h t : pA} {d : Int32} {K : Int64 → Int32 → Option Int64} (hw : ∀ u, u < 5 → wv np (h u)) (ht : ∀ u, u < 5 → wv np (t u)) : ∀ (m k F N : Nat), k + m = 5 → m < F → N < 32 * 64 ^ k → L_hA_X3_packed_8 d h t K F (ll N) (nn k) = K (ll (pkF h t m k N)) (nn 5) := by
  intro m
  induction m with
  | zero =>
    intro k F N e hF _
    obtain ⟨F, rfl⟩ : ∃ f, F = f + 1 := ⟨F - 1, by omega⟩
    obtain rfl : k = 5 := by omega
    simp only [L_hA_X3_packed_8, pkF]
    exact if_pos (by decide)
  | succ m ih =>
    intro k F N e hF hN
    obtain ⟨F, rfl⟩ : ∃ f, F = f + 1 := ⟨F - 1, by omega⟩
    have hk : ¬ 5 ≤ k := by omega
    obtain ⟨a1, a2, _, _⟩ := dg_ok hp (hw k (by omega))
    obtain ⟨b1, _, b3, _⟩ := dg_ok hp (ht k (by omega))
    have hN2 : N < 2 ^ 40 := by
      have : 64 ^ k ≤ 64 ^ 5 := Nat.pow_le_pow_right (by omega) (by omega)
      omega
    have e5 : (5 : Int32) = nn 5 := rfl
    have := ih (k + 1) F (N * 64 + (dg (h k) * 8 + dg (t k))) (by omega) (by omega) (by rw [Nat.pow_succ]; omega)
    simp only [pkF]
    rw [← this, ← pk_step hN2 a1 b1]
    simp (disch := omega) only [L_hA_X3_packed_8, e5, nn_le, hk, ↓reduceIte, xix_nn, nn_nat, nn_succ, a2, b3]
theorem pkF_congr {h h' t t' : pA} : ∀ (m k N : Nat), (∀ u, u < k + m → h u = h' u ∧ t u = t' u) → pkF h t m k N = pkF h' t' m k N := by
  intro m
  induction m with
  | zero => intro k N _; rfl
  | succ m ih =>
    intro k N hh
    simp only [pkF]
    rw [(hh k (by omega)).1, (hh k (by omega)).2, ih (k + 1) _ (fun u hu => hh u (by omega))]
theorem qc_packed {np : Nat} (hp : np ≤ 6) {h t : pA} {d : Int32} (hw : wr np (mkr h t d)) : e_hA_X3_packed d h t = some (ll (pkR (mkr h t d))) := by
  obtain ⟨k, hk, rfl⟩ := wr_d hw
  unfold e_hA_X3_packed pkR
  rw [nn_64 (by omega), show (0 : Int32) = nn 0 from rfl, pc_packed hp (wr_h hw) (wr_t hw) 5 0 200000 k (by omega) (by omega) (by omega), mkr_d, nn_nat (by omega)]
  congr 2
theorem up_step {p0 : Int32} {K : Int64 → Int32 → pA → pA → Option (Int32 × pA × pA)} {F N k : Nat} {t h : pA} (hN : N < 2 ^ 40) (hk : k < 5) : L_hA_X3_unpack_5 p0 K (F + 1) (ll N) (nn k) t h = L_hA_X3_unpack_5 p0 K F (ll (N / 64)) (nn k + (-1 : Int32)) (upd t k (nn (N % 8) + (-2 : Int32))) (upd h k (nn (N / 8 % 8) + (-2 : Int32))) := by
  simp (disch := omega) only [L_hA_X3_unpack_5, nn_pos, ↓reduceIte, xix_nn, nn_nat, ll_shr6, ll_shr3, ll_and7, ll_32]
theorem up_end {p0 : Int32} {K : Int64 → Int32 → pA → pA → Option (Int32 × pA × pA)} {F : Nat} {x : Int64} {t h : pA} : L_hA_X3_unpack_5 p0 K (F + 1) x (-1 : Int32) t h = K x (-1) t h := by
  simp only [L_hA_X3_unpack_5]
  exact if_pos (by decide)
theorem qc_unpack0 {p0 : Int32} {t h : pA} {N : Nat} (hN : N < 2 ^ 40) : e_hA_X3_unpack p0 t h (ll N) = some (nn (N / 64 / 64 / 64 / 64 / 64),
    upd (upd (upd (upd (upd t 4 (nn (N % 8) + -2)) 3 (nn (N / 64 % 8) + -2)) 2 (nn (N / 64 / 64 % 8) + -2)) 1 (nn (N / 64 / 64 / 64 % 8) + -2)) 0 (nn (N / 64 / 64 / 64 / 64 % 8) + -2),
    upd (upd (upd (upd (upd h 4 (nn (N / 8 % 8) + -2)) 3 (nn (N / 64 / 8 % 8) + -2)) 2 (nn (N / 64 / 64 / 8 % 8) + -2)) 1 (nn (N / 64 / 64 / 64 / 8 % 8) + -2)) 0 (nn (N / 64 / 64 / 64 / 64 / 8 % 8) + -2)) := by
  unfold e_hA_X3_unpack
  rw [show (4 : Int32) = nn 4 from rfl, up_step hN (by omega), show nn 4 + (-1 : Int32) = nn 3 from by decide, up_step (by omega) (by omega), show nn 3 + (-1 : Int32) = nn 2 from by decide, up_step (by omega) (by omega), show nn 2 + (-1 : Int32) = nn 1 from by decide, up_step (by omega) (by omega), show nn 1 + (-1 : Int32) = nn 0 from by decide, up_step (by omega) (by omega), show nn 0 + (-1 : Int32) = -1 from by decide, up_end, ll_32]
theorem qc_unpack {np : Nat} (hp : np ≤ 6) {p0 : Int32} {t0 h0 r : pA} (hw : wr np r) (hc : cn r) : ∃ d t h, e_hA_X3_unpack p0 t0 h0 (ll (pkR r)) = some (d, t, h) ∧ mkr h t d = r := by
  obtain ⟨d, hd, ed⟩ := hw.2.2
  obtain ⟨a0, _, _, c0⟩ := dg_ok hp (hw.1 0 (by omega))
  obtain ⟨a1, _, _, c1⟩ := dg_ok hp (hw.1 1 (by omega))
  obtain ⟨a2, _, _, c2⟩ := dg_ok hp (hw.1 2 (by omega))
  obtain ⟨a3, _, _, c3⟩ := dg_ok hp (hw.1 3 (by omega))
  obtain ⟨a4, _, _, c4⟩ := dg_ok hp (hw.1 4 (by omega))
  obtain ⟨b0, _, _, d0⟩ := dg_ok hp (hw.2.1 0 (by omega))
  obtain ⟨b1, _, _, d1⟩ := dg_ok hp (hw.2.1 1 (by omega))
  obtain ⟨b2, _, _, d2⟩ := dg_ok hp (hw.2.1 2 (by omega))
  obtain ⟨b3, _, _, d3⟩ := dg_ok hp (hw.2.1 3 (by omega))
  obtain ⟨b4, _, _, d4⟩ := dg_ok hp (hw.2.1 4 (by omega))
  have eN : pkR r = ((((d * 64 + (dg (r 0) * 8 + dg (r (5 + 0)))) * 64 + (dg (r 1) * 8 + dg (r (5 + 1)))) * 64 + (dg (r 2) * 8 + dg (r (5 + 2)))) * 64 + (dg (r 3) * 8 + dg (r (5 + 3)))) * 64 + (dg (r 4) * 8 + dg (r (5 + 4))) := by
    unfold pkR
    rw [ed, nn_nat (by omega)]
    rfl
  have hN : pkR r < 2 ^ 40 := by rw [eN]; omega
  generalize dg (r 0) = x0 at *
  generalize dg (r 1) = x1 at *
  generalize dg (r 2) = x2 at *
  generalize dg (r 3) = x3 at *
  generalize dg (r 4) = x4 at *
  generalize dg (r (5 + 0)) = y0 at *
  generalize dg (r (5 + 1)) = y1 at *
  generalize dg (r (5 + 2)) = y2 at *
  generalize dg (r (5 + 3)) = y3 at *
  generalize dg (r (5 + 4)) = y4 at *
  generalize pkR r = N at *
  refine ⟨_, _, _, qc_unpack0 hN, ?_⟩
  have n1 : N / 64 = (((d * 64 + (x0 * 8 + y0)) * 64 + (x1 * 8 + y1)) * 64 + (x2 * 8 + y2)) * 64 + (x3 * 8 + y3) := by omega
  have n2 : N / 64 / 64 = ((d * 64 + (x0 * 8 + y0)) * 64 + (x1 * 8 + y1)) * 64 + (x2 * 8 + y2) := by omega
  have n3 : N / 64 / 64 / 64 = (d * 64 + (x0 * 8 + y0)) * 64 + (x1 * 8 + y1) := by omega
  have n4 : N / 64 / 64 / 64 / 64 = d * 64 + (x0 * 8 + y0) := by omega
  have n5 : N / 64 / 64 / 64 / 64 / 64 = d := by omega
  have u4 : N % 8 = y4 ∧ N / 8 % 8 = x4 := by omega
  have u3 : N / 64 % 8 = y3 ∧ N / 64 / 8 % 8 = x3 := by omega
  have u2 : N / 64 / 64 % 8 = y2 ∧ N / 64 / 64 / 8 % 8 = x2 := by omega
  have u1 : N / 64 / 64 / 64 % 8 = y1 ∧ N / 64 / 64 / 64 / 8 % 8 = x1 := by omega
  have u0 : N / 64 / 64 / 64 / 64 % 8 = y0 ∧ N / 64 / 64 / 64 / 64 / 8 % 8 = x0 := by omega
  rw [u4.1, u4.2, u3.1, u3.2, u2.1, u2.2, u1.1, u1.2, u0.1, u0.2, n5, c0, c1, c2, c3, c4, d0, d1, d2, d3, d4, ← ed]
  refine cn_eq (cn_mkr _ _ _) hc fun k hk => ?_
  have : k = 0 ∨ k = 1 ∨ k = 2 ∨ k = 3 ∨ k = 4 ∨ k = 5 ∨ k = 6 ∨ k = 7 ∨ k = 8 ∨ k = 9 ∨ k = 10 := by omega
  rcases this with rfl | rfl | rfl | rfl | rfl | rfl | rfl | rfl | rfl | rfl | rfl <;> simp [mkr, upd]
