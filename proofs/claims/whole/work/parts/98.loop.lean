/-! THE PURE PART: all lines -/
abbrev zKA : Type := Int32 → Int32 → Int32 → Int64 → Int32 → Int32 → Int32 → Int32 → (Nat → Int32) → (Nat → Int32) → (Nat → Int32) → (Nat → Int32) → Int32 → (Nat → Int32) → (Nat → Int32) → (Nat → Int32) → (Nat → Int32) → Int32 → (Nat → Int64) → (Nat → Int32) → (Nat → Int32) → (Nat → Int32) → (Nat → Int32) → Int32 → (Nat → Int64) → (Nat → Int32) → Int32 → Int32 → Int32 → Int32 → Int32 → Option (Int32 × Int32 × Int32 × Int32 × Int32 × Int32 × Int32 × Int32 × Int32 × Int32 × Int32 × Int32 × Int32 × Int32 × Int64 × Int32 × Int32 × (Nat → Int32) × (Nat → Int32) × (Nat → Int32) × (Nat → Int32) × (Nat → Int32) × (Nat → Int32) × (Nat → Int32) × (Nat → Int32) × (Nat → Int64) × (Nat → Int32) × (Nat → Int32) × (Nat → Int32) × (Nat → Int32) × (Nat → Int64) × (Nat → Int32))
abbrev zKR : Type := Int32 → Int32 → Int32 → Int32 → Int32 → Int32 → Int32 → Int64 → (Nat → Int32) → (Nat → Int32) → (Nat → Int32) → Int32 → (Nat → Int32) → (Nat → Int32) → (Nat → Int32) → (Nat → Int32) → Int32 → (Nat → Int64) → (Nat → Int32) → (Nat → Int32) → Int32 → (Nat → Int32) → (Nat → Int32) → (Nat → Int32) → (Nat → Int32) → Int32 → (Nat → Int32) → Int32 → Int32 → Int32 → Int32 → Option (Int32 × Int32 × Int32 × Int32 × Int32 × Int32 × Int64 × (Nat → Int32) × (Nat → Int32) × (Nat → Int32) × Int32 × (Nat → Int32) × (Nat → Int32) × (Nat → Int32) × (Nat → Int32) × Int32 × (Nat → Int64) × (Nat → Int32) × (Nat → Int32) × Int32 × (Nat → Int32) × (Nat → Int32) × (Nat → Int32) × (Nat → Int32) × Int32 × (Nat → Int32) × Int32 × Int32 × Int32 × Int32)
abbrev zOA : Type := (Int32 × Int32 × Int32 × Int32 × Int32 × Int32 × Int32 × Int32 × Int32 × Int32 × Int32 × Int32 × Int32 × Int32 × Int64 × Int32 × Int32 × (Nat → Int32) × (Nat → Int32) × (Nat → Int32) × (Nat → Int32) × (Nat → Int32) × (Nat → Int32) × (Nat → Int32) × (Nat → Int32) × (Nat → Int64) × (Nat → Int32) × (Nat → Int32) × (Nat → Int32) × (Nat → Int32) × (Nat → Int64) × (Nat → Int32))
abbrev zOR : Type := (Int32 × Int32 × Int32 × Int32 × Int32 × Int32 × Int64 × (Nat → Int32) × (Nat → Int32) × (Nat → Int32) × Int32 × (Nat → Int32) × (Nat → Int32) × (Nat → Int32) × (Nat → Int32) × Int32 × (Nat → Int64) × (Nat → Int32) × (Nat → Int32) × Int32 × (Nat → Int32) × (Nat → Int32) × (Nat → Int32) × (Nat → Int32) × Int32 × (Nat → Int32) × Int32 × Int32 × Int32 × Int32)
noncomputable def LA (n : Int32) (A : pA) (K : zKA) (F : Nat) (l3 : Int32) (z : zCT) : Option zOA := L_hA_X5_read_50 0 n A K F z.1 l3 z.2.1 z.2.2.1 z.2.2.2.1 z.2.2.2.2.1 z.2.2.2.2.2.1 z.2.2.2.2.2.2.1 z.2.2.2.2.2.2.2.1 z.2.2.2.2.2.2.2.2.1 z.2.2.2.2.2.2.2.2.2.1 z.2.2.2.2.2.2.2.2.2.2.1 z.2.2.2.2.2.2.2.2.2.2.2.1 z.2.2.2.2.2.2.2.2.2.2.2.2.1 z.2.2.2.2.2.2.2.2.2.2.2.2.2.1 z.2.2.2.2.2.2.2.2.2.2.2.2.2.2.1 z.2.2.2.2.2.2.2.2.2.2.2.2.2.2.2.1 z.2.2.2.2.2.2.2.2.2.2.2.2.2.2.2.2.1 z.2.2.2.2.2.2.2.2.2.2.2.2.2.2.2.2.2.1 z.2.2.2.2.2.2.2.2.2.2.2.2.2.2.2.2.2.2.1 z.2.2.2.2.2.2.2.2.2.2.2.2.2.2.2.2.2.2.2.1 z.2.2.2.2.2.2.2.2.2.2.2.2.2.2.2.2.2.2.2.2.1 z.2.2.2.2.2.2.2.2.2.2.2.2.2.2.2.2.2.2.2.2.2.1 z.2.2.2.2.2.2.2.2.2.2.2.2.2.2.2.2.2.2.2.2.2.2.1 z.2.2.2.2.2.2.2.2.2.2.2.2.2.2.2.2.2.2.2.2.2.2.2.1 z.2.2.2.2.2.2.2.2.2.2.2.2.2.2.2.2.2.2.2.2.2.2.2.2.1 z.2.2.2.2.2.2.2.2.2.2.2.2.2.2.2.2.2.2.2.2.2.2.2.2.2.1 z.2.2.2.2.2.2.2.2.2.2.2.2.2.2.2.2.2.2.2.2.2.2.2.2.2.2.1 z.2.2.2.2.2.2.2.2.2.2.2.2.2.2.2.2.2.2.2.2.2.2.2.2.2.2.2.1 z.2.2.2.2.2.2.2.2.2.2.2.2.2.2.2.2.2.2.2.2.2.2.2.2.2.2.2.2.1 z.2.2.2.2.2.2.2.2.2.2.2.2.2.2.2.2.2.2.2.2.2.2.2.2.2.2.2.2.2
def KC (K : zKA) (l3 : Int32) (z : zCT) : Option zOA := K z.1 l3 z.2.1 z.2.2.1 z.2.2.2.1 z.2.2.2.2.1 z.2.2.2.2.2.1 z.2.2.2.2.2.2.1 z.2.2.2.2.2.2.2.1 z.2.2.2.2.2.2.2.2.1 z.2.2.2.2.2.2.2.2.2.1 z.2.2.2.2.2.2.2.2.2.2.1 z.2.2.2.2.2.2.2.2.2.2.2.1 z.2.2.2.2.2.2.2.2.2.2.2.2.1 z.2.2.2.2.2.2.2.2.2.2.2.2.2.1 z.2.2.2.2.2.2.2.2.2.2.2.2.2.2.1 z.2.2.2.2.2.2.2.2.2.2.2.2.2.2.2.1 z.2.2.2.2.2.2.2.2.2.2.2.2.2.2.2.2.1 z.2.2.2.2.2.2.2.2.2.2.2.2.2.2.2.2.2.1 z.2.2.2.2.2.2.2.2.2.2.2.2.2.2.2.2.2.2.1 z.2.2.2.2.2.2.2.2.2.2.2.2.2.2.2.2.2.2.2.1 z.2.2.2.2.2.2.2.2.2.2.2.2.2.2.2.2.2.2.2.2.1 z.2.2.2.2.2.2.2.2.2.2.2.2.2.2.2.2.2.2.2.2.2.1 z.2.2.2.2.2.2.2.2.2.2.2.2.2.2.2.2.2.2.2.2.2.2.1 z.2.2.2.2.2.2.2.2.2.2.2.2.2.2.2.2.2.2.2.2.2.2.2.1 z.2.2.2.2.2.2.2.2.2.2.2.2.2.2.2.2.2.2.2.2.2.2.2.2.1 z.2.2.2.2.2.2.2.2.2.2.2.2.2.2.2.2.2.2.2.2.2.2.2.2.2.1 z.2.2.2.2.2.2.2.2.2.2.2.2.2.2.2.2.2.2.2.2.2.2.2.2.2.2.1 z.2.2.2.2.2.2.2.2.2.2.2.2.2.2.2.2.2.2.2.2.2.2.2.2.2.2.2.1 z.2.2.2.2.2.2.2.2.2.2.2.2.2.2.2.2.2.2.2.2.2.2.2.2.2.2.2.2.1 z.2.2.2.2.2.2.2.2.2.2.2.2.2.2.2.2.2.2.2.2.2.2.2.2.2.2.2.2.2
noncomputable def RA (n : Int32) (B : pA) (K' : zKR) (F : Nat) (z' : zRT) : Option zOR := (e_hP_X9_eatsSemicolon z'.2.2.1 z'.2.2.2.2.1 n B z'.2.2.2.1 z'.2.2.2.2.2.1 z'.2.2.2.2.2.2.1).bind fun z11 => L_hP_X9_readAll_2 n B K' F z11.1 z'.1 z'.2.1 z11.2.2.1 z11.2.1 z11.2.2.2.1 z11.2.2.2.2.1 z11.2.2.2.2.2 z'.2.2.2.2.2.2.2.1 z'.2.2.2.2.2.2.2.2.1 z'.2.2.2.2.2.2.2.2.2.1 z'.2.2.2.2.2.2.2.2.2.2.1 z'.2.2.2.2.2.2.2.2.2.2.2.1 z'.2.2.2.2.2.2.2.2.2.2.2.2.1 z'.2.2.2.2.2.2.2.2.2.2.2.2.2.1 z'.2.2.2.2.2.2.2.2.2.2.2.2.2.2.1 z'.2.2.2.2.2.2.2.2.2.2.2.2.2.2.2.1 z'.2.2.2.2.2.2.2.2.2.2.2.2.2.2.2.2.1 z'.2.2.2.2.2.2.2.2.2.2.2.2.2.2.2.2.2.1 z'.2.2.2.2.2.2.2.2.2.2.2.2.2.2.2.2.2.2.1 z'.2.2.2.2.2.2.2.2.2.2.2.2.2.2.2.2.2.2.2.1 z'.2.2.2.2.2.2.2.2.2.2.2.2.2.2.2.2.2.2.2.2.1 z'.2.2.2.2.2.2.2.2.2.2.2.2.2.2.2.2.2.2.2.2.2.1 z'.2.2.2.2.2.2.2.2.2.2.2.2.2.2.2.2.2.2.2.2.2.2.1 z'.2.2.2.2.2.2.2.2.2.2.2.2.2.2.2.2.2.2.2.2.2.2.2.1 z'.2.2.2.2.2.2.2.2.2.2.2.2.2.2.2.2.2.2.2.2.2.2.2.2.1 z'.2.2.2.2.2.2.2.2.2.2.2.2.2.2.2.2.2.2.2.2.2.2.2.2.2.1 z'.2.2.2.2.2.2.2.2.2.2.2.2.2.2.2.2.2.2.2.2.2.2.2.2.2.2.1 z'.2.2.2.2.2.2.2.2.2.2.2.2.2.2.2.2.2.2.2.2.2.2.2.2.2.2.2.1 z'.2.2.2.2.2.2.2.2.2.2.2.2.2.2.2.2.2.2.2.2.2.2.2.2.2.2.2.2.1 z'.2.2.2.2.2.2.2.2.2.2.2.2.2.2.2.2.2.2.2.2.2.2.2.2.2.2.2.2.2
def KD (K' : zKR) (z' : zRT) : Option zOR := K' 0 z'.1 z'.2.1 z'.2.2.1 z'.2.2.2.1 z'.2.2.2.2.1 z'.2.2.2.2.2.1 z'.2.2.2.2.2.2.1 z'.2.2.2.2.2.2.2.1 z'.2.2.2.2.2.2.2.2.1 z'.2.2.2.2.2.2.2.2.2.1 z'.2.2.2.2.2.2.2.2.2.2.1 z'.2.2.2.2.2.2.2.2.2.2.2.1 z'.2.2.2.2.2.2.2.2.2.2.2.2.1 z'.2.2.2.2.2.2.2.2.2.2.2.2.2.1 z'.2.2.2.2.2.2.2.2.2.2.2.2.2.2.1 z'.2.2.2.2.2.2.2.2.2.2.2.2.2.2.2.1 z'.2.2.2.2.2.2.2.2.2.2.2.2.2.2.2.2.1 z'.2.2.2.2.2.2.2.2.2.2.2.2.2.2.2.2.2.1 z'.2.2.2.2.2.2.2.2.2.2.2.2.2.2.2.2.2.2.1 z'.2.2.2.2.2.2.2.2.2.2.2.2.2.2.2.2.2.2.2.1 z'.2.2.2.2.2.2.2.2.2.2.2.2.2.2.2.2.2.2.2.2.1 z'.2.2.2.2.2.2.2.2.2.2.2.2.2.2.2.2.2.2.2.2.2.1 z'.2.2.2.2.2.2.2.2.2.2.2.2.2.2.2.2.2.2.2.2.2.2.1 z'.2.2.2.2.2.2.2.2.2.2.2.2.2.2.2.2.2.2.2.2.2.2.2.1 z'.2.2.2.2.2.2.2.2.2.2.2.2.2.2.2.2.2.2.2.2.2.2.2.2.1 z'.2.2.2.2.2.2.2.2.2.2.2.2.2.2.2.2.2.2.2.2.2.2.2.2.2.1 z'.2.2.2.2.2.2.2.2.2.2.2.2.2.2.2.2.2.2.2.2.2.2.2.2.2.2.1 z'.2.2.2.2.2.2.2.2.2.2.2.2.2.2.2.2.2.2.2.2.2.2.2.2.2.2.2.1 z'.2.2.2.2.2.2.2.2.2.2.2.2.2.2.2.2.2.2.2.2.2.2.2.2.2.2.2.2.1 z'.2.2.2.2.2.2.2.2.2.2.2.2.2.2.2.2.2.2.2.2.2.2.2.2.2.2.2.2.2
theorem la_out {n i : Int32} {A : pA} {K : zKA} {F : Nat} {z : zCT} (h : z.1 = 0 ∨ ¬ z.2.2.2.1 = 3) : LA n A K (F + 1) i z = KC K i z := by
  unfold LA KC
  rw [L_hA_X5_read_50]
  by_cases q1 : n ≤ i
  · rw [if_pos q1]
  · rw [if_neg q1]
    by_cases q2 : z.1 = 0
    · rw [if_pos q2]
    · rw [if_neg q2, if_neg (h.resolve_left q2)]
theorem la_go {n i s1 t1 k1 : Int32} {v1 : Int64} {A : pA} {K : zKA} {F : Nat} {z y : zCT} (h1 : ¬ n ≤ i) (h2 : ¬ z.1 = 0) (h3 : z.2.2.2.1 = 3) (e1 : e_hA_X5_readToken z.2.2.2.2.1 n z.2.1 z.2.2.1 z.2.2.2.1 A = some (s1, v1, t1, k1)) (e2 : e_hA_X5_readLine t1 v1 z.2.2.2.2.2.2.2.2.2.2.2.2.2.2.2.2.2.2.2.2.2.2.2.2.2.2.1 z.2.2.2.2.2.2.2.2.2.2.2.1 k1 n s1 A z.2.2.2.2.2.2.2.2.2.2.2.2.2.2.2.2.2.2.2.2.2.2.1 z.2.2.2.2.2.2.2.2.2.2.2.2.2.2.2.2.2.1 z.2.2.2.2.2.1 z.2.2.2.2.2.2.1 z.2.2.2.2.2.2.2.2.2.2.1 z.2.2.2.2.2.2.2.1 z.2.2.2.2.2.2.2.2.1 z.2.2.2.2.2.2.2.2.2.1 z.2.2.2.2.2.2.2.2.2.2.2.2.2.2.2.2.2.2.2.2.2.2.2.2.2.1 z.2.2.2.2.2.2.2.2.2.2.2.2.2.2.2.2.2.2.2.2.2.2.2.1 z.2.2.2.2.2.2.2.2.2.2.2.2.2.2.2.2.1 z.2.2.2.2.2.2.2.2.2.2.2.2.1 z.2.2.2.2.2.2.2.2.2.2.2.2.2.1 z.2.2.2.2.2.2.2.2.2.2.2.2.2.2.1 z.2.2.2.2.2.2.2.2.2.2.2.2.2.2.2.1 z.2.2.2.2.2.2.2.2.2.2.2.2.2.2.2.2.2.2.1 z.2.2.2.2.2.2.2.2.2.2.2.2.2.2.2.2.2.2.2.1 z.2.2.2.2.2.2.2.2.2.2.2.2.2.2.2.2.2.2.2.2.1 z.2.2.2.2.2.2.2.2.2.2.2.2.2.2.2.2.2.2.2.2.2.1 z.2.2.2.2.2.2.2.2.2.2.2.2.2.2.2.2.2.2.2.2.2.2.2.2.1 z.2.2.2.2.2.2.2.2.2.2.2.2.2.2.2.2.2.2.2.2.2.2.2.2.2.2.2.1 z.2.2.2.2.2.2.2.2.2.2.2.2.2.2.2.2.2.2.2.2.2.2.2.2.2.2.2.2.1 z.2.2.2.2.2.2.2.2.2.2.2.2.2.2.2.2.2.2.2.2.2.2.2.2.2.2.2.2.2 = some y) : LA n A K (F + 1) i z = LA n A K F (i + 1) y := by
  unfold LA
  rw [L_hA_X5_read_50, if_neg h1, if_neg h2, if_pos h3, e1, Option.bind_some]
  dsimp only
  rw [e2, Option.bind_some]
theorem ra_out {n : Int32} {B : pA} {K' : zKR} {F : Nat} {z' : zRT} (h : ¬ z'.2.2.1 = 4) : RA n B K' (F + 1) z' = KD K' z' := by
  unfold RA KD e_hP_X9_eatsSemicolon
  rw [if_neg h, if_pos rfl, Option.bind_some]
  dsimp only
  rw [L_hP_X9_readAll_2, if_pos rfl]
theorem ra_step {n : Int32} {B : pA} {K' : zKR} {F : Nat} {flt wa srt pl sp num nc nl N nu np L G Rn : Int32} {wrd : Int64} {NA : Nat → Int64} {cA cB cC WB OB XB DB NS NO H1 H2 H3 H4 SR : pA} {y : zRT} (e : e_hP_X9_readLine srt wrd flt pl wa nc L sp n B num N NA NO NS cA cB cC nl DB WB OB XB nu H1 H2 H3 H4 np SR G Rn = some y) : L_hP_X9_readAll_2 n B K' (F + 1) 1 flt wa srt pl sp num wrd cA cB cC nc WB OB XB DB nl NA NS NO N H1 H2 H3 H4 nu SR np L G Rn = RA n B K' F y := by
  unfold RA
  rw [L_hP_X9_readAll_2, if_neg (show ¬ (1 : Int32) = 0 from by decide), e, Option.bind_some]
theorem ra_go {n pl srt sp num : Int32} {wrd : Int64} {B : pA} {K' : zKR} {F : Nat} {z' y : zRT} (h : z'.2.2.1 = 4) (e1 : e_hP_X9_goesOn z'.2.2.1 z'.2.2.2.2.1 n B z'.2.2.2.1 z'.2.2.2.2.2.1 z'.2.2.2.2.2.2.1 = some (pl, srt, sp, num, wrd)) (e2 : e_hP_X9_readLine srt wrd z'.1 pl z'.2.1 z'.2.2.2.2.2.2.2.2.2.2.1 z'.2.2.2.2.2.2.2.2.2.2.2.2.2.2.2.2.2.2.2.2.2.2.2.2.2.2.2.1 sp n B num z'.2.2.2.2.2.2.2.2.2.2.2.2.2.2.2.2.2.2.2.1 z'.2.2.2.2.2.2.2.2.2.2.2.2.2.2.2.2.1 z'.2.2.2.2.2.2.2.2.2.2.2.2.2.2.2.2.2.2.1 z'.2.2.2.2.2.2.2.2.2.2.2.2.2.2.2.2.2.1 z'.2.2.2.2.2.2.2.1 z'.2.2.2.2.2.2.2.2.1 z'.2.2.2.2.2.2.2.2.2.1 z'.2.2.2.2.2.2.2.2.2.2.2.2.2.2.2.1 z'.2.2.2.2.2.2.2.2.2.2.2.2.2.2.1 z'.2.2.2.2.2.2.2.2.2.2.2.1 z'.2.2.2.2.2.2.2.2.2.2.2.2.1 z'.2.2.2.2.2.2.2.2.2.2.2.2.2.1 z'.2.2.2.2.2.2.2.2.2.2.2.2.2.2.2.2.2.2.2.2.2.2.2.2.1 z'.2.2.2.2.2.2.2.2.2.2.2.2.2.2.2.2.2.2.2.2.1 z'.2.2.2.2.2.2.2.2.2.2.2.2.2.2.2.2.2.2.2.2.2.1 z'.2.2.2.2.2.2.2.2.2.2.2.2.2.2.2.2.2.2.2.2.2.2.1 z'.2.2.2.2.2.2.2.2.2.2.2.2.2.2.2.2.2.2.2.2.2.2.2.1 z'.2.2.2.2.2.2.2.2.2.2.2.2.2.2.2.2.2.2.2.2.2.2.2.2.2.2.1 z'.2.2.2.2.2.2.2.2.2.2.2.2.2.2.2.2.2.2.2.2.2.2.2.2.2.1 z'.2.2.2.2.2.2.2.2.2.2.2.2.2.2.2.2.2.2.2.2.2.2.2.2.2.2.2.2.1 z'.2.2.2.2.2.2.2.2.2.2.2.2.2.2.2.2.2.2.2.2.2.2.2.2.2.2.2.2.2 = some y) : RA n B K' (F + 1) z' = RA n B K' F y := by
  rw [← ra_step e2]
  unfold RA e_hP_X9_eatsSemicolon
  rw [if_pos h, if_neg (show ¬ (1 : Int32) = 0 from by decide), e1, Option.bind_some, Option.bind_some]
theorem q_loop {n : Nat} {A B : pA} (T : tpe n A B) {wa : Int32} {K : zKA} {K' : zKR} {Q : Option zOA → Option zOR → Prop}
    (hg : ∀ {i : Int32} {s k : Nat} {tok srt num got : Int32} {val wrd : Int64} {np nu nl nc : Nat} {td la gu ra L G Rn : Int32} {S K1 K2 K3 K4 WA OA XA DA cW cO cX cD SR H1 H2 H3 H4 WB OB XB DB cA cB cC : pA} {PN UN NA : Nat → Int64} {NS NO : pA}, RS n s k tok srt num val wrd → ¬ tok = 3 → NMR np nu PN UN NA NS NO → RC np nu nl nc td la gu ra L G Rn S K1 K2 K3 K4 WA OA XA DA cO cX cD SR H1 H2 H3 H4 WB OB XB DB cA cB cC → Q (KC K i (1, nn s, val, tok, nn k, got, 0, WA, OA, XA, DA, nn nl, cW, cO, cX, cD, nn nc, UN, K1, K2, K3, K4, nn nu, PN, S, nn np, td, la, gu, ra)) (KD K' (0, wa, srt, nn s, nn k, num, wrd, cA, cB, cC, nn nc, WB, OB, XB, DB, nn nl, NA, NS, NO, nn (np + nu), H1, H2, H3, H4, nn nu, SR, nn np, L, G, Rn)))
    (hb : ∀ {i : Int32} {z : zCT} {z' : zRT}, LB z z' → Q (KC K i z) (KD K' z')) :
    ∀ (m F F' i k0 : Nat) (z : zCT) (z' : zRT), n ≤ k0 + m → m < F → m < F' → i ≤ k0 → (LB z z' ∨ LG n k0 wa z z') → Q (LA (nn n) A K F (nn i) z) (RA (nn n) B K' F' z') := by
  have hn := T.1
  intro m
  induction m with
  | zero =>
    intro F F' i k0 z z' hm hF hF' hi h
    obtain ⟨F, rfl⟩ : ∃ G, F = G + 1 := ⟨F - 1, by omega⟩
    obtain ⟨F', rfl⟩ : ∃ G, F' = G + 1 := ⟨F' - 1, by omega⟩
    rcases h with h | h
    · have h' := h
      obtain ⟨c, s1, c0, e1, e2, e3, e4, e5, e6⟩ := h
      rw [la_out (Or.inl e1), ra_out (by rw [e6]; decide)]
      exact hb h'
    · refine h (fun z z' => Q (LA (nn n) A K (F + 1) (nn i) z) (RA (nn n) B K' (F' + 1) z')) ?_
      intro s k tok srt num got val wrd np nu nl nc td la gu ra L G Rn S K1 K2 K3 K4 WA OA XA DA cW cO cX cD SR H1 H2 H3 H4 WB OB XB DB cA cB cC PN UN NA NS NO hk R M C
      have ht : ¬ tok = 3 := fun q => by have := R.2.2.1 q; have := R.2.1; omega
      have hs : ¬ srt = 4 := fun q => by
        rcases R.2.2.2 with ⟨_, e⟩ | ⟨_, e, _⟩ | ⟨_, e, _⟩ | ⟨e, _⟩ | ⟨_, e⟩
        · rw [q] at e; exact absurd e (by decide)
        · rw [q] at e; exact absurd e (by decide)
        · rw [q] at e; exact absurd e (by decide)
        · exact ht e
        · rw [q] at e; exact absurd e (by decide)
      rw [la_out (Or.inr ht), ra_out hs]
      exact hg R ht M C
  | succ m ih =>
    intro F F' i k0 z z' hm hF hF' hi h
    obtain ⟨F, rfl⟩ : ∃ G, F = G + 1 := ⟨F - 1, by omega⟩
    obtain ⟨F', rfl⟩ : ∃ G, F' = G + 1 := ⟨F' - 1, by omega⟩
    rcases h with h | h
    · have h' := h
      obtain ⟨c, s1, c0, e1, e2, e3, e4, e5, e6⟩ := h
      rw [la_out (Or.inl e1), ra_out (by rw [e6]; decide)]
      exact hb h'
    · refine h (fun z z' => Q (LA (nn n) A K (F + 1) (nn i) z) (RA (nn n) B K' (F' + 1) z')) ?_
      intro s k tok srt num got val wrd np nu nl nc td la gu ra L G Rn S K1 K2 K3 K4 WA OA XA DA cW cO cX cD SR H1 H2 H3 H4 WB OB XB DB cA cB cC PN UN NA NS NO hk R M C
      by_cases ht : tok = 3
      · have hs : srt = 4 := by
          rcases R.2.2.2 with ⟨e, _⟩ | ⟨e, _⟩ | ⟨e, _⟩ | ⟨_, e⟩ | ⟨e, _⟩
          · rw [ht] at e; exact absurd e (by decide)
          · rw [ht] at e; exact absurd e (by decide)
          · rw [ht] at e; exact absurd e (by decide)
          · exact e
          · rw [ht] at e; exact absurd e (by decide)
        have r3 := R.2.2.1 ht
        have r2 := R.2.1
        obtain ⟨s1, k1, tok1, srt1, num1, val1, wrd1, g1, R1, e1, e2⟩ := rs_next T R.2.1 (p2 := nn s) (p4 := tok) (p3 := val) (q0 := srt) (q4 := nn s) (q5 := num) (q6 := wrd) R.2.2.2.ne5
        obtain ⟨y, y', f1, f2, f3⟩ := q_line T R1 (got := got) (wa := wa) (cW := cW) M C
        rw [la_go (z := (1, nn s, val, tok, nn k, got, 0, WA, OA, XA, DA, nn nl, cW, cO, cX, cD, nn nc, UN, K1, K2, K3, K4, nn nu, PN, S, nn np, td, la, gu, ra)) (show ¬ nn n ≤ nn i from by rw [nn_le (by omega) (by omega)]; omega) (show ¬ (1 : Int32) = 0 from by decide) ht e1 f1, ra_go (z' := (0, wa, srt, nn s, nn k, num, wrd, cA, cB, cC, nn nc, WB, OB, XB, DB, nn nl, NA, NS, NO, nn (np + nu), H1, H2, H3, H4, nn nu, SR, nn np, L, G, Rn)) hs e2 f2, nn_succ]
        exact ih F F' (i + 1) k1 y y' (by have := R1.1; omega) (by omega) (by omega) (by have := R1.1; omega) f3
      · have hs : ¬ srt = 4 := fun q => by
          rcases R.2.2.2 with ⟨_, e⟩ | ⟨_, e, _⟩ | ⟨_, e, _⟩ | ⟨e, _⟩ | ⟨_, e⟩
          · rw [q] at e; exact absurd e (by decide)
          · rw [q] at e; exact absurd e (by decide)
          · rw [q] at e; exact absurd e (by decide)
          · exact ht e
          · rw [q] at e; exact absurd e (by decide)
        rw [la_out (Or.inr ht), ra_out hs]
        exact hg R ht M C
