noncomputable def e_hA_X2_isFull_2 (p0 : Int32)  : Option (Int32) :=
  if p0 < (6 : Int32) then some (0 : Int32) else some (1 : Int32)
set_option maxRecDepth 100000 in
set_option maxHeartbeats 4000000 in
theorem t_hA_X2_isFull_2 {g0 g1 g2 g3 g4 g5 g6 g7 g8 g9 g10 g11 g12 g13 g14 g15 g16 g17 g18 g19 g20 g21 g22 g23 g24 g25 g26 g27 g28 g29 g30 g31 g32 g33 g34 g35 g36 : Int32} {a0 a1 a2 a3 a4 a5 a6 a7 a8 a9 a10 a11 a12 a13 a14 a15 a16 a17 a18 a19 a20 a21 a22 a23 a24 a25 a26 a27 a28 a29 a30 a31 a32 a33 a34 a35 a36 a37 a38 a39 : (Nat → Int32)} {b0 b1 b2 b3 b4 : (Nat → Int64)} {w0 : Int64}  (res : Int32) (h : e_hA_X2_isFull_2 g13  = some res) (d : Nat) : xMet xks YX2_isFull (d + 1) 0 0 [.ref 30] (hA g0 g1 g2 g3 g4 g5 g6 g7 g8 g9 g10 g11 g12 g13 g14 g15 g16 g17 g18 g19 g20 g21 g22 g23 g24 g25 g26 g27 g28 g29 g30 g31 g32 g33 g34 g35 g36 a0 a1 a2 a3 a4 a5 a6 a7 a8 a9 a10 a11 a12 a13 a14 a15 a16 a17 a18 a19 a20 a21 a22 a23 a24 a25 a26 a27 a28 a29 a30 a31 a32 a33 a34 a35 a36 a37 a38 a39 b0 b1 b2 b3 b4 w0 (.ref 19) (.ref 1)) (some (.int res)) (hA g0 g1 g2 g3 g4 g5 g6 g7 g8 g9 g10 g11 g12 g13 g14 g15 g16 g17 g18 g19 g20 g21 g22 g23 g24 g25 g26 g27 g28 g29 g30 g31 g32 g33 g34 g35 g36 a0 a1 a2 a3 a4 a5 a6 a7 a8 a9 a10 a11 a12 a13 a14 a15 a16 a17 a18 a19 a20 a21 a22 a23 a24 a25 a26 a27 a28 a29 a30 a31 a32 a33 a34 a35 a36 a37 a38 a39 b0 b1 b2 b3 b4 w0 (.ref 19) (.ref 1)) := by
  unfold e_hA_X2_isFull_2 at h
  refine xMet_of (pl := [some (.ref 30)]) (by decide) (Nat.le_of_ble_eq_true rfl) rfl (Nat.le_of_ble_eq_true rfl) ?_
  refine x_aload_n dX2_isFull_0 rfl ?_
  refine x_get fX2_7 dX2_isFull_1 rfl rfl rfl ?_
  refine x_aload_n dX2_isFull_4 rfl ?_
  refine x_get fX2_29 dX2_isFull_5 rfl rfl rfl ?_
  refine x_alen (6 : Int32) dX2_isFull_8 rfl (by decide : Int32.ofNat 6 = (6 : Int32)) ?_
  refine x_icmp_lt 16 dX2_isFull_9 (by decide) (fun q => ?_) (fun q => ?_)
  · have h := xif_t q h
    refine x_iconst (0 : Int32) dX2_isFull_16 (by decide) ?_
    cases h
    exact x_zret2 dX2_isFull_17 rfl rfl rfl
  · have h := xif_f q h
    refine x_iconst (1 : Int32) dX2_isFull_12 (by decide) ?_
    refine x_goto 17 dX2_isFull_13 (by decide) ?_
    cases h
    exact x_zret2 dX2_isFull_17 rfl rfl rfl
noncomputable def e_hA_X2_add_2 (p0 : Int32) (p1 : (Nat → Int32)) (p2 : (Nat → Int32)) (p3 : (Nat → Int32)) (p4 : (Nat → Int32)) (x1 : Int32) (x2 : Int32) (x3 : Int32) (x4 : Int32) : Option ((Nat → Int32) × (Nat → Int32) × (Nat → Int32) × (Nat → Int32) × Int32) :=
  ((e_hA_X2_isFull_2 p0).bind fun z1 => if z1 = (0 : Int32) then (xix p0 6 (xix p0 6 (xix p0 6 (xix p0 6 (some ((upd p1 p0.toNatClampNeg x1), (upd p2 p0.toNatClampNeg x2), (upd p3 p0.toNatClampNeg x3), (upd p4 p0.toNatClampNeg x4), (p0 + (1 : Int32)))))))) else some (p1, p2, p3, p4, p0))
set_option maxRecDepth 100000 in
set_option maxHeartbeats 4000000 in
theorem t_hA_X2_add_2 {g0 g1 g2 g3 g4 g5 g6 g7 g8 g9 g10 g11 g12 g13 g14 g15 g16 g17 g18 g19 g20 g21 g22 g23 g24 g25 g26 g27 g28 g29 g30 g31 g32 g33 g34 g35 g36 : Int32} {a0 a1 a2 a3 a4 a5 a6 a7 a8 a9 a10 a11 a12 a13 a14 a15 a16 a17 a18 a19 a20 a21 a22 a23 a24 a25 a26 a27 a28 a29 a30 a31 a32 a33 a34 a35 a36 a37 a38 a39 : (Nat → Int32)} {b0 b1 b2 b3 b4 : (Nat → Int64)} {w0 : Int64} (x1 : Int32) (x2 : Int32) (x3 : Int32) (x4 : Int32) (res : (Nat → Int32) × (Nat → Int32) × (Nat → Int32) × (Nat → Int32) × Int32) (h : e_hA_X2_add_2 g13 a23 a24 a25 a26 x1 x2 x3 x4 = some res) (d : Nat) : xMet xks YX2_add (d + 2) 0 0 [.ref 30, .int x1, .int x2, .int x3, .int x4] (hA g0 g1 g2 g3 g4 g5 g6 g7 g8 g9 g10 g11 g12 g13 g14 g15 g16 g17 g18 g19 g20 g21 g22 g23 g24 g25 g26 g27 g28 g29 g30 g31 g32 g33 g34 g35 g36 a0 a1 a2 a3 a4 a5 a6 a7 a8 a9 a10 a11 a12 a13 a14 a15 a16 a17 a18 a19 a20 a21 a22 a23 a24 a25 a26 a27 a28 a29 a30 a31 a32 a33 a34 a35 a36 a37 a38 a39 b0 b1 b2 b3 b4 w0 (.ref 19) (.ref 1)) none (hA g0 g1 g2 g3 g4 g5 g6 g7 g8 g9 g10 g11 g12 res.2.2.2.2 g14 g15 g16 g17 g18 g19 g20 g21 g22 g23 g24 g25 g26 g27 g28 g29 g30 g31 g32 g33 g34 g35 g36 a0 a1 a2 a3 a4 a5 a6 a7 a8 a9 a10 a11 a12 a13 a14 a15 a16 a17 a18 a19 a20 a21 a22 res.1 res.2.1 res.2.2.1 res.2.2.2.1 a27 a28 a29 a30 a31 a32 a33 a34 a35 a36 a37 a38 a39 b0 b1 b2 b3 b4 w0 (.ref 19) (.ref 1)) := by
  unfold e_hA_X2_add_2 at h
  refine xMet_of (pl := [some (.ref 30), some (.int x1), some (.int x2), some (.int x3), some (.int x4)]) (by decide) (Nat.le_of_ble_eq_true rfl) rfl (Nat.le_of_ble_eq_true rfl) ?_
  refine x_aload_n dX2_add_0 rfl ?_
  obtain ⟨z1, y1, h⟩ := xbind h
  refine x_callV (t_hA_X2_isFull_2  z1 y1 (d + 0)) kX2_32 dX2_add_1 rfl rfl rfl rfl rfl (Nat.le_of_ble_eq_true rfl) (Nat.le_of_ble_eq_true rfl) rfl rfl (Or.inl rfl) ?_
  refine x_if_eq 8 dX2_add_4 (by decide) (fun q => ?_) (fun q => ?_)
  · have h := xif_t q h
    refine x_aload_n dX2_add_8 rfl ?_
    refine x_get fX2_19 dX2_add_9 rfl rfl rfl ?_
    refine x_aload_n dX2_add_12 rfl ?_
    refine x_get fX2_7 dX2_add_13 rfl rfl rfl ?_
    refine x_iload_n dX2_add_16 rfl ?_
    obtain ⟨q17, h⟩ := xix_of h
    refine x_iast (h2 := (hA g0 g1 g2 g3 g4 g5 g6 g7 g8 g9 g10 g11 g12 g13 g14 g15 g16 g17 g18 g19 g20 g21 g22 g23 g24 g25 g26 g27 g28 g29 g30 g31 g32 g33 g34 g35 g36 a0 a1 a2 a3 a4 a5 a6 a7 a8 a9 a10 a11 a12 a13 a14 a15 a16 a17 a18 a19 a20 a21 a22 (upd a23 g13.toNatClampNeg x1) a24 a25 a26 a27 a28 a29 a30 a31 a32 a33 a34 a35 a36 a37 a38 a39 b0 b1 b2 b3 b4 w0 (.ref 19) (.ref 1))) dX2_add_17 rfl q17 rfl ?_
    refine x_aload_n dX2_add_18 rfl ?_
    refine x_get fX2_23 dX2_add_19 rfl rfl rfl ?_
    refine x_aload_n dX2_add_22 rfl ?_
    refine x_get fX2_7 dX2_add_23 rfl rfl rfl ?_
    refine x_iload_n dX2_add_26 rfl ?_
    obtain ⟨q27, h⟩ := xix_of h
    refine x_iast (h2 := (hA g0 g1 g2 g3 g4 g5 g6 g7 g8 g9 g10 g11 g12 g13 g14 g15 g16 g17 g18 g19 g20 g21 g22 g23 g24 g25 g26 g27 g28 g29 g30 g31 g32 g33 g34 g35 g36 a0 a1 a2 a3 a4 a5 a6 a7 a8 a9 a10 a11 a12 a13 a14 a15 a16 a17 a18 a19 a20 a21 a22 (upd a23 g13.toNatClampNeg x1) (upd a24 g13.toNatClampNeg x2) a25 a26 a27 a28 a29 a30 a31 a32 a33 a34 a35 a36 a37 a38 a39 b0 b1 b2 b3 b4 w0 (.ref 19) (.ref 1))) dX2_add_27 rfl q27 rfl ?_
    refine x_aload_n dX2_add_28 rfl ?_
    refine x_get fX2_26 dX2_add_29 rfl rfl rfl ?_
    refine x_aload_n dX2_add_32 rfl ?_
    refine x_get fX2_7 dX2_add_33 rfl rfl rfl ?_
    refine x_iload_n dX2_add_36 rfl ?_
    obtain ⟨q37, h⟩ := xix_of h
    refine x_iast (h2 := (hA g0 g1 g2 g3 g4 g5 g6 g7 g8 g9 g10 g11 g12 g13 g14 g15 g16 g17 g18 g19 g20 g21 g22 g23 g24 g25 g26 g27 g28 g29 g30 g31 g32 g33 g34 g35 g36 a0 a1 a2 a3 a4 a5 a6 a7 a8 a9 a10 a11 a12 a13 a14 a15 a16 a17 a18 a19 a20 a21 a22 (upd a23 g13.toNatClampNeg x1) (upd a24 g13.toNatClampNeg x2) (upd a25 g13.toNatClampNeg x3) a26 a27 a28 a29 a30 a31 a32 a33 a34 a35 a36 a37 a38 a39 b0 b1 b2 b3 b4 w0 (.ref 19) (.ref 1))) dX2_add_37 rfl q37 rfl ?_
    refine x_aload_n dX2_add_38 rfl ?_
    refine x_get fX2_29 dX2_add_39 rfl rfl rfl ?_
    refine x_aload_n dX2_add_42 rfl ?_
    refine x_get fX2_7 dX2_add_43 rfl rfl rfl ?_
    refine x_iload dX2_add_46 rfl ?_
    obtain ⟨q48, h⟩ := xix_of h
    refine x_iast (h2 := (hA g0 g1 g2 g3 g4 g5 g6 g7 g8 g9 g10 g11 g12 g13 g14 g15 g16 g17 g18 g19 g20 g21 g22 g23 g24 g25 g26 g27 g28 g29 g30 g31 g32 g33 g34 g35 g36 a0 a1 a2 a3 a4 a5 a6 a7 a8 a9 a10 a11 a12 a13 a14 a15 a16 a17 a18 a19 a20 a21 a22 (upd a23 g13.toNatClampNeg x1) (upd a24 g13.toNatClampNeg x2) (upd a25 g13.toNatClampNeg x3) (upd a26 g13.toNatClampNeg x4) a27 a28 a29 a30 a31 a32 a33 a34 a35 a36 a37 a38 a39 b0 b1 b2 b3 b4 w0 (.ref 19) (.ref 1))) dX2_add_48 rfl q48 rfl ?_
    refine x_aload_n dX2_add_49 rfl ?_
    refine x_dup dX2_add_50 rfl ?_
    refine x_get fX2_7 dX2_add_51 rfl rfl rfl ?_
    refine x_iconst (1 : Int32) dX2_add_54 (by decide) ?_
    refine x_iadd dX2_add_55 ?_
    refine x_put (h2 := (hA g0 g1 g2 g3 g4 g5 g6 g7 g8 g9 g10 g11 g12 (g13 + (1 : Int32)) g14 g15 g16 g17 g18 g19 g20 g21 g22 g23 g24 g25 g26 g27 g28 g29 g30 g31 g32 g33 g34 g35 g36 a0 a1 a2 a3 a4 a5 a6 a7 a8 a9 a10 a11 a12 a13 a14 a15 a16 a17 a18 a19 a20 a21 a22 (upd a23 g13.toNatClampNeg x1) (upd a24 g13.toNatClampNeg x2) (upd a25 g13.toNatClampNeg x3) (upd a26 g13.toNatClampNeg x4) a27 a28 a29 a30 a31 a32 a33 a34 a35 a36 a37 a38 a39 b0 b1 b2 b3 b4 w0 (.ref 19) (.ref 1))) fX2_7 dX2_add_56 rfl rfl (Nat.le_of_ble_eq_true rfl : 0 + 1 ≤ _) (fun α => ⟨rfl, rfl⟩) rfl ?_
    cases h
    exact x_vret2 dX2_add_59 rfl rfl
  · have h := xif_f q h
    cases h
    exact x_vret2 dX2_add_7 rfl rfl
noncomputable def e_hA_X5_readClaimLine (p0 : Int32) (p1 : Int32) (p2 : Int32) (p3 : Int32) (p4 : Int64) (p5 : Int32) (p6 : (Nat → Int32)) (p7 : Int32) (p8 : (Nat → Int64)) (p9 : Int32) (p10 : Int32) (p11 : Int32) (p12 : (Nat → Int64)) (p13 : (Nat → Int32)) (p14 : (Nat → Int32)) (p15 : (Nat → Int32)) (p16 : (Nat → Int32))  : Option (Int32 × Int32 × Int64 × Int32 × Int32 × Int32 × Int32 × (Nat → Int32) × (Nat → Int32) × (Nat → Int32) × (Nat → Int32) × Int32) :=
  ((e_hA_X2_isFull_2 p0).bind fun z7 => if z7 = (0 : Int32) then ((e_hA_X5_readToken p1 p2 p3 p4 p5 p6).bind fun z20 => (e_hA_X5_indexOfPerson p7 p8 z20.2.1).bind fun z25 => (e_hA_X5_readTold z20.2.2.1 z20.2.1 p9 z20.2.2.2 p2 z20.1 p6 p10 z25).bind fun z28 => if z28.1 = (0 : Int32) then some ((0 : Int32), z28.2.2.1, z28.2.2.2.1, z28.2.2.2.2.1, z28.2.2.2.2.2.1, z28.2.1, z28.2.2.2.2.2.2, p13, p14, p15, p16, p0) else ((e_hA_X5_indexOfUmbrella p11 p12 z28.2.2.2.1).bind fun z43 => (e_hA_X5_readTold z28.2.2.2.2.1 z28.2.2.2.1 z28.2.1 z28.2.2.2.2.2.1 p2 z28.2.2.1 p6 z28.2.2.2.2.2.2 z43).bind fun z46 => if z46.1 = (0 : Int32) then some ((0 : Int32), z46.2.2.1, z46.2.2.2.1, z46.2.2.2.2.1, z46.2.2.2.2.2.1, z46.2.1, z46.2.2.2.2.2.2, p13, p14, p15, p16, p0) else ((e_hA_X5_readNumber z46.2.2.2.2.1 z46.2.2.2.1 z46.2.2.2.2.2.1 p2 z46.2.2.1 p6 z46.2.2.2.2.2.2 z46.2.1 (xsy 10) (0 : Int32) (40 : Int32)).bind fun z65 => if z65.1 = (0 : Int32) then some ((0 : Int32), z65.2.1, z65.2.2.1, z65.2.2.2.1, z65.2.2.2.2.1, z65.2.2.2.2.2.2, z65.2.2.2.2.2.1, p13, p14, p15, p16, p0) else ((e_hA_X2_add_2 p0 p13 p14 p15 p16 (0 : Int32) z46.2.1 z28.2.1 z65.2.2.2.2.2.2).bind fun z87 => some ((1 : Int32), z65.2.1, z65.2.2.1, z65.2.2.2.1, z65.2.2.2.2.1, z65.2.2.2.2.2.2, z65.2.2.2.2.2.1, z87.1, z87.2.1, z87.2.2.1, z87.2.2.2.1, z87.2.2.2.2))))) else ((e_hA_X5_fail p10 (5 : Int32)).bind fun z15 => xbo z15.1 (some (z15.1, p3, p4, p5, p1, p9, z15.2, p13, p14, p15, p16, p0))))
set_option maxRecDepth 100000 in
set_option maxHeartbeats 4000000 in
theorem t_hA_X5_readClaimLine {g0 g1 g2 g3 g4 g5 g6 g7 g8 g9 g10 g11 g12 g13 g14 g15 g16 g17 g18 g19 g20 g21 g22 g23 g24 g25 g26 g27 g28 g29 g30 g31 g32 g33 g34 g35 g36 : Int32} {a0 a1 a2 a3 a4 a5 a6 a7 a8 a9 a10 a11 a12 a13 a14 a15 a16 a17 a18 a19 a20 a21 a22 a23 a24 a25 a26 a27 a28 a29 a30 a31 a32 a33 a34 a35 a36 a37 a38 a39 : (Nat → Int32)} {b0 b1 b2 b3 b4 : (Nat → Int64)} {w0 : Int64}  (res : Int32 × Int32 × Int64 × Int32 × Int32 × Int32 × Int32 × (Nat → Int32) × (Nat → Int32) × (Nat → Int32) × (Nat → Int32) × Int32) (h : e_hA_X5_readClaimLine g13 g18 g17 g15 w0 g19 a13 g10 b0 g20 g14 g11 b1 a23 a24 a25 a26  = some res) (d : Nat) : xMet xks YX5_readClaimLine (d + 8) 0 0 [.ref 17] (hA g0 g1 g2 g3 g4 g5 g6 g7 g8 g9 g10 g11 g12 g13 g14 g15 g16 g17 g18 g19 g20 g21 g22 g23 g24 g25 g26 g27 g28 g29 g30 g31 g32 g33 g34 g35 g36 a0 a1 a2 a3 a4 a5 a6 a7 a8 a9 a10 a11 a12 a13 a14 a15 a16 a17 a18 a19 a20 a21 a22 a23 a24 a25 a26 a27 a28 a29 a30 a31 a32 a33 a34 a35 a36 a37 a38 a39 b0 b1 b2 b3 b4 w0 (.ref 19) (.ref 1)) (some (.int res.1)) (hA g0 g1 g2 g3 g4 g5 g6 g7 g8 g9 g10 g11 g12 res.2.2.2.2.2.2.2.2.2.2.2 res.2.2.2.2.2.2.1 res.2.1 g16 g17 res.2.2.2.2.1 res.2.2.2.1 res.2.2.2.2.2.1 g21 g22 g23 g24 g25 g26 g27 g28 g29 g30 g31 g32 g33 g34 g35 g36 a0 a1 a2 a3 a4 a5 a6 a7 a8 a9 a10 a11 a12 a13 a14 a15 a16 a17 a18 a19 a20 a21 a22 res.2.2.2.2.2.2.2.1 res.2.2.2.2.2.2.2.2.1 res.2.2.2.2.2.2.2.2.2.1 res.2.2.2.2.2.2.2.2.2.2.1 a27 a28 a29 a30 a31 a32 a33 a34 a35 a36 a37 a38 a39 b0 b1 b2 b3 b4 res.2.2.1 (.ref 19) (.ref 1)) := by
  unfold e_hA_X5_readClaimLine at h
  refine xMet_of (pl := [some (.ref 17), none, none]) (by decide) (Nat.le_of_ble_eq_true rfl) rfl (Nat.le_of_ble_eq_true rfl) ?_
  refine x_aload_n dX5_readClaimLine_0 rfl ?_
  refine x_get fX5_48 dX5_readClaimLine_1 rfl rfl rfl ?_
  refine x_get fX5_204 dX5_readClaimLine_4 rfl rfl rfl ?_
  obtain ⟨z7, y7, h⟩ := xbind h
  refine x_callV (t_hA_X2_isFull_2  z7 y7 (d + 6)) kX5_188 dX5_readClaimLine_7 rfl rfl rfl rfl rfl (Nat.le_of_ble_eq_true rfl) (Nat.le_of_ble_eq_true rfl) rfl rfl (Or.inl rfl) ?_
  refine x_if_eq 19 dX5_readClaimLine_10 (by decide) (fun q => ?_) (fun q => ?_)
  · have h := xif_t q h
    refine x_aload_n dX5_readClaimLine_19 rfl ?_
    obtain ⟨z20, y20, h⟩ := xbind h
    refine x_callV (t_hA_X5_readToken  z20 y20 (d + 4)) kX5_68 dX5_readClaimLine_20 rfl rfl rfl rfl rfl (Nat.le_of_ble_eq_true rfl) (Nat.le_of_ble_eq_true rfl) rfl rfl (Or.inl rfl) ?_
    refine x_aload_n dX5_readClaimLine_23 rfl ?_
    refine x_aload_n dX5_readClaimLine_24 rfl ?_
    obtain ⟨z25, y25, h⟩ := xbind h
    refine x_callV (t_hA_X5_indexOfPerson  z25 y25 (d + 6)) kX5_113 dX5_readClaimLine_25 rfl rfl rfl rfl rfl (Nat.le_of_ble_eq_true rfl) (Nat.le_of_ble_eq_true rfl) rfl rfl (Or.inl rfl) ?_
    obtain ⟨z28, y28, h⟩ := xbind h
    refine x_callV (t_hA_X5_readTold z25 z28 y28 (d + 0)) kX5_181 dX5_readClaimLine_28 rfl rfl rfl rfl rfl (Nat.le_of_ble_eq_true rfl) (Nat.le_of_ble_eq_true rfl) rfl rfl (Or.inl rfl) ?_
    refine x_if_ne 36 dX5_readClaimLine_31 (by decide) (fun q => ?_) (fun q => ?_)
    · have h := xif_f q h
      refine x_aload_n dX5_readClaimLine_36 rfl ?_
      refine x_get fX5_38 dX5_readClaimLine_37 rfl rfl rfl ?_
      refine x_istore_n (pl' := [some (.ref 17), some (.int z28.2.1), none]) dX5_readClaimLine_40 (by decide) rfl ?_
      refine x_aload_n dX5_readClaimLine_41 rfl ?_
      refine x_aload_n dX5_readClaimLine_42 rfl ?_
      obtain ⟨z43, y43, h⟩ := xbind h
      refine x_callV (t_hA_X5_indexOfUmbrella  z43 y43 (d + 6)) kX5_116 dX5_readClaimLine_43 rfl rfl rfl rfl rfl (Nat.le_of_ble_eq_true rfl) (Nat.le_of_ble_eq_true rfl) rfl rfl (Or.inl rfl) ?_
      obtain ⟨z46, y46, h⟩ := xbind h
      refine x_callV (t_hA_X5_readTold z43 z46 y46 (d + 0)) kX5_181 dX5_readClaimLine_46 rfl rfl rfl rfl rfl (Nat.le_of_ble_eq_true rfl) (Nat.le_of_ble_eq_true rfl) rfl rfl (Or.inl rfl) ?_
      refine x_if_ne 54 dX5_readClaimLine_49 (by decide) (fun q => ?_) (fun q => ?_)
      · have h := xif_f q h
        refine x_aload_n dX5_readClaimLine_54 rfl ?_
        refine x_get fX5_38 dX5_readClaimLine_55 rfl rfl rfl ?_
        refine x_istore_n (pl' := [some (.ref 17), some (.int z28.2.1), some (.int z46.2.1)]) dX5_readClaimLine_58 (by decide) rfl ?_
        refine x_aload_n dX5_readClaimLine_59 rfl ?_
        refine x_ldcS (k := 10) rfl rfl rfl dX5_readClaimLine_60 ?_
        refine x_iconst (0 : Int32) dX5_readClaimLine_62 (by decide) ?_
        refine x_bipush (40 : Int32) dX5_readClaimLine_63 (by decide) ?_
        obtain ⟨z65, y65, h⟩ := xbind h
        refine x_callV (t_hA_X5_readNumber (0 : Int32) (40 : Int32) z65 y65 (d + 1)) kX5_136 dX5_readClaimLine_65 rfl rfl rfl rfl rfl (Nat.le_of_ble_eq_true rfl) (Nat.le_of_ble_eq_true rfl) rfl rfl (Or.inl rfl) ?_
        refine x_if_ne 73 dX5_readClaimLine_68 (by decide) (fun q => ?_) (fun q => ?_)
        · have h := xif_f q h
          refine x_aload_n dX5_readClaimLine_73 rfl ?_
          refine x_get fX5_48 dX5_readClaimLine_74 rfl rfl rfl ?_
          refine x_get fX5_204 dX5_readClaimLine_77 rfl rfl rfl ?_
          refine x_iconst (0 : Int32) dX5_readClaimLine_80 (by decide) ?_
          refine x_iload_n dX5_readClaimLine_81 rfl ?_
          refine x_iload_n dX5_readClaimLine_82 rfl ?_
          refine x_aload_n dX5_readClaimLine_83 rfl ?_
          refine x_get fX5_38 dX5_readClaimLine_84 rfl rfl rfl ?_
          obtain ⟨z87, y87, h⟩ := xbind h
          refine x_callV (t_hA_X2_add_2 (0 : Int32) z46.2.1 z28.2.1 z65.2.2.2.2.2.2 z87 y87 (d + 5)) kX5_200 dX5_readClaimLine_87 rfl rfl rfl rfl rfl (Nat.le_of_ble_eq_true rfl) (Nat.le_of_ble_eq_true rfl) rfl rfl (Or.inl rfl) ?_
          refine x_iconst (1 : Int32) dX5_readClaimLine_90 (by decide) ?_
          cases h
          exact x_zret2 dX5_readClaimLine_91 rfl rfl rfl
        · have h := xif_t q h
          refine x_iconst (0 : Int32) dX5_readClaimLine_71 (by decide) ?_
          cases h
          exact x_zret2 dX5_readClaimLine_72 rfl rfl rfl
      · have h := xif_t q h
        refine x_iconst (0 : Int32) dX5_readClaimLine_52 (by decide) ?_
        cases h
        exact x_zret2 dX5_readClaimLine_53 rfl rfl rfl
    · have h := xif_t q h
      refine x_iconst (0 : Int32) dX5_readClaimLine_34 (by decide) ?_
      cases h
      exact x_zret2 dX5_readClaimLine_35 rfl rfl rfl
  · have h := xif_f q h
    refine x_aload_n dX5_readClaimLine_13 rfl ?_
    refine x_iconst (5 : Int32) dX5_readClaimLine_14 (by decide) ?_
    obtain ⟨z15, y15, h⟩ := xbind h
    refine x_callV (t_hA_X5_fail (5 : Int32) z15 y15 (d + 6)) kX5_75 dX5_readClaimLine_15 rfl rfl rfl rfl rfl (Nat.le_of_ble_eq_true rfl) (Nat.le_of_ble_eq_true rfl) rfl rfl (Or.inl rfl) ?_
    obtain ⟨-, q18, h⟩ := xbo_of h
    cases h
    exact x_zret2 dX5_readClaimLine_18 rfl q18 rfl
noncomputable def e_hA_X5_readNewName (p0 : Int32) (p1 : Int64) (p2 : Int32) (p3 : (Nat → Int64)) (p4 : Int32) (p5 : Int32) (p6 : (Nat → Int64)) (p7 : Int32) (p8 : Int32) (p9 : Int32) (p10 : (Nat → Int32))  : Option (Int32 × Int32 × Int32 × Int64 × Int32 × Int32) :=
  ((e_hA_X5_isName p0 p1).bind fun z1 => if z1 = (0 : Int32) then ((e_hA_X5_fail p4 (1 : Int32)).bind fun z9 => xbo z9.1 (some (z9.1, z9.2, p9, p1, p0, p7))) else ((e_hA_X5_indexOfPerson p2 p3 p1).bind fun z14 => if z14 = (-1 : Int32) then ((e_hA_X5_indexOfUmbrella p5 p6 p1).bind fun z22 => if z22 = (-1 : Int32) then ((e_hA_X5_readToken p7 p8 p9 p1 p0 p10).bind fun z36 => some ((1 : Int32), p4, z36.1, z36.2.1, z36.2.2.1, z36.2.2.2)) else ((e_hA_X5_fail p4 (3 : Int32)).bind fun z31 => xbo z31.1 (some (z31.1, z31.2, p9, p1, p0, p7)))) else ((e_hA_X5_fail p4 (3 : Int32)).bind fun z31 => xbo z31.1 (some (z31.1, z31.2, p9, p1, p0, p7)))))
set_option maxRecDepth 100000 in
set_option maxHeartbeats 4000000 in
theorem t_hA_X5_readNewName {g0 g1 g2 g3 g4 g5 g6 g7 g8 g9 g10 g11 g12 g13 g14 g15 g16 g17 g18 g19 g20 g21 g22 g23 g24 g25 g26 g27 g28 g29 g30 g31 g32 g33 g34 g35 g36 : Int32} {a0 a1 a2 a3 a4 a5 a6 a7 a8 a9 a10 a11 a12 a13 a14 a15 a16 a17 a18 a19 a20 a21 a22 a23 a24 a25 a26 a27 a28 a29 a30 a31 a32 a33 a34 a35 a36 a37 a38 a39 : (Nat → Int32)} {b0 b1 b2 b3 b4 : (Nat → Int64)} {w0 : Int64}  (res : Int32 × Int32 × Int32 × Int64 × Int32 × Int32) (h : e_hA_X5_readNewName g19 w0 g10 b0 g14 g11 b1 g18 g17 g15 a13  = some res) (d : Nat) : xMet xks YX5_readNewName (d + 7) 0 0 [.ref 17] (hA g0 g1 g2 g3 g4 g5 g6 g7 g8 g9 g10 g11 g12 g13 g14 g15 g16 g17 g18 g19 g20 g21 g22 g23 g24 g25 g26 g27 g28 g29 g30 g31 g32 g33 g34 g35 g36 a0 a1 a2 a3 a4 a5 a6 a7 a8 a9 a10 a11 a12 a13 a14 a15 a16 a17 a18 a19 a20 a21 a22 a23 a24 a25 a26 a27 a28 a29 a30 a31 a32 a33 a34 a35 a36 a37 a38 a39 b0 b1 b2 b3 b4 w0 (.ref 19) (.ref 1)) (some (.int res.1)) (hA g0 g1 g2 g3 g4 g5 g6 g7 g8 g9 g10 g11 g12 g13 res.2.1 res.2.2.1 g16 g17 res.2.2.2.2.2 res.2.2.2.2.1 g20 g21 g22 g23 g24 g25 g26 g27 g28 g29 g30 g31 g32 g33 g34 g35 g36 a0 a1 a2 a3 a4 a5 a6 a7 a8 a9 a10 a11 a12 a13 a14 a15 a16 a17 a18 a19 a20 a21 a22 a23 a24 a25 a26 a27 a28 a29 a30 a31 a32 a33 a34 a35 a36 a37 a38 a39 b0 b1 b2 b3 b4 res.2.2.2.1 (.ref 19) (.ref 1)) := by
  unfold e_hA_X5_readNewName at h
  refine xMet_of (pl := [some (.ref 17)]) (by decide) (Nat.le_of_ble_eq_true rfl) rfl (Nat.le_of_ble_eq_true rfl) ?_
  refine x_aload_n dX5_readNewName_0 rfl ?_
  obtain ⟨z1, y1, h⟩ := xbind h
  refine x_callV (t_hA_X5_isName  z1 y1 (d + 0)) kX5_110 dX5_readNewName_1 rfl rfl rfl rfl rfl (Nat.le_of_ble_eq_true rfl) (Nat.le_of_ble_eq_true rfl) rfl rfl (Or.inl rfl) ?_
  refine x_if_ne 13 dX5_readNewName_4 (by decide) (fun q => ?_) (fun q => ?_)
  · have h := xif_f q h
    refine x_aload_n dX5_readNewName_13 rfl ?_
    obtain ⟨z14, y14, h⟩ := xbind h
    refine x_callV (t_hA_X5_indexOfPerson  z14 y14 (d + 5)) kX5_113 dX5_readNewName_14 rfl rfl rfl rfl rfl (Nat.le_of_ble_eq_true rfl) (Nat.le_of_ble_eq_true rfl) rfl rfl (Or.inl rfl) ?_
    refine x_iconst (-1 : Int32) dX5_readNewName_17 (by decide) ?_
    refine x_icmp_ne 29 dX5_readNewName_18 (by decide) (fun q => ?_) (fun q => ?_)
    · have h := xif_f q h
      refine x_aload_n dX5_readNewName_29 rfl ?_
      refine x_iconst (3 : Int32) dX5_readNewName_30 (by decide) ?_
      obtain ⟨z31, y31, h⟩ := xbind h
      refine x_callV (t_hA_X5_fail (3 : Int32) z31 y31 (d + 5)) kX5_75 dX5_readNewName_31 rfl rfl rfl rfl rfl (Nat.le_of_ble_eq_true rfl) (Nat.le_of_ble_eq_true rfl) rfl rfl (Or.inl rfl) ?_
      obtain ⟨-, q34, h⟩ := xbo_of h
      cases h
      exact x_zret2 dX5_readNewName_34 rfl q34 rfl
    · have h := xif_t q h
      refine x_aload_n dX5_readNewName_21 rfl ?_
      obtain ⟨z22, y22, h⟩ := xbind h
      refine x_callV (t_hA_X5_indexOfUmbrella  z22 y22 (d + 5)) kX5_116 dX5_readNewName_22 rfl rfl rfl rfl rfl (Nat.le_of_ble_eq_true rfl) (Nat.le_of_ble_eq_true rfl) rfl rfl (Or.inl rfl) ?_
      refine x_iconst (-1 : Int32) dX5_readNewName_25 (by decide) ?_
      refine x_icmp_eq 35 dX5_readNewName_26 (by decide) (fun q => ?_) (fun q => ?_)
      · have h := xif_t q h
        refine x_aload_n dX5_readNewName_35 rfl ?_
        obtain ⟨z36, y36, h⟩ := xbind h
        refine x_callV (t_hA_X5_readToken  z36 y36 (d + 3)) kX5_68 dX5_readNewName_36 rfl rfl rfl rfl rfl (Nat.le_of_ble_eq_true rfl) (Nat.le_of_ble_eq_true rfl) rfl rfl (Or.inl rfl) ?_
        refine x_iconst (1 : Int32) dX5_readNewName_39 (by decide) ?_
        cases h
        exact x_zret2 dX5_readNewName_40 rfl rfl rfl
      · have h := xif_f q h
        refine x_aload_n dX5_readNewName_29 rfl ?_
        refine x_iconst (3 : Int32) dX5_readNewName_30 (by decide) ?_
        obtain ⟨z31, y31, h⟩ := xbind h
        refine x_callV (t_hA_X5_fail (3 : Int32) z31 y31 (d + 5)) kX5_75 dX5_readNewName_31 rfl rfl rfl rfl rfl (Nat.le_of_ble_eq_true rfl) (Nat.le_of_ble_eq_true rfl) rfl rfl (Or.inl rfl) ?_
        obtain ⟨-, q34, h⟩ := xbo_of h
        cases h
        exact x_zret2 dX5_readNewName_34 rfl q34 rfl
  · have h := xif_t q h
    refine x_aload_n dX5_readNewName_7 rfl ?_
    refine x_iconst (1 : Int32) dX5_readNewName_8 (by decide) ?_
    obtain ⟨z9, y9, h⟩ := xbind h
    refine x_callV (t_hA_X5_fail (1 : Int32) z9 y9 (d + 5)) kX5_75 dX5_readNewName_9 rfl rfl rfl rfl rfl (Nat.le_of_ble_eq_true rfl) (Nat.le_of_ble_eq_true rfl) rfl rfl (Or.inl rfl) ?_
    obtain ⟨-, q12, h⟩ := xbo_of h
    cases h
    exact x_zret2 dX5_readNewName_12 rfl q12 rfl
set_option maxRecDepth 100000 in
set_option maxHeartbeats 4000000 in
theorem lp_hA_X5_indexAmong_3_17 {g0 g1 g2 g3 g4 g5 g6 g7 g8 g9 g10 g11 g12 g13 g14 g15 g16 g17 g18 g19 g20 g21 g22 g23 g24 g25 g26 g27 g28 g29 g30 g31 g32 g33 g34 g35 g36 : Int32} {a0 a1 a2 a3 a4 a5 a6 a7 a8 a9 a10 a11 a12 a13 a14 a15 a16 a17 a18 a19 a20 a21 a22 a23 a24 a25 a26 a27 a28 a29 a30 a31 a32 a33 a34 a35 a36 a37 a38 a39 : (Nat → Int32)} {b0 b1 b2 b3 b4 : (Nat → Int64)} {w0 : Int64} (d n0 : Nat)  (res : Int32) (K : Int32 → Int64 → Int32 → Option (Int32)) (hK : ∀ (l2_17 : Int32) (l3_17 : Int64) (l5_17 : Int32), K l2_17 l3_17 l5_17 = some res → xW xks YX5_indexAmong (d + 5) 0 0 n0 (xZ 0 0 n0 (some (.int res)) (hA g0 g1 g2 g3 g4 g5 g6 g7 g8 g9 g10 g11 g12 g13 g14 g15 g16 g17 g18 g19 g20 g21 g22 g23 g24 g25 g26 g27 g28 g29 g30 g31 g32 g33 g34 g35 g36 a0 a1 a2 a3 a4 a5 a6 a7 a8 a9 a10 a11 a12 a13 a14 a15 a16 a17 a18 a19 a20 a21 a22 a23 a24 a25 a26 a27 a28 a29 a30 a31 a32 a33 a34 a35 a36 a37 a38 a39 b0 b1 b2 b3 b4 w0 (.ref 19) (.ref 1))) 0 0 95 [none, none, none, none, none, none, none] [] (hA g0 g1 g2 g3 g4 g5 g6 g7 g8 g9 g10 g11 g12 g13 g14 g15 g16 g17 g18 g19 g20 g21 g22 g23 g24 g25 g26 g27 g28 g29 g30 g31 g32 g33 g34 g35 g36 a0 a1 a2 a3 a4 a5 a6 a7 a8 a9 a10 a11 a12 a13 a14 a15 a16 a17 a18 a19 a20 a21 a22 a23 a24 a25 a26 a27 a28 a29 a30 a31 a32 a33 a34 a35 a36 a37 a38 a39 b0 b1 b2 b3 b4 w0 (.ref 19) (.ref 1))) : ∀ (n : Nat) (l2_17 : Int32) (l3_17 : Int64) (l5_17 : Int32), L_hA_X5_indexAmong_17 g19 w0 (xsy 6)  K n l2_17 l3_17 l5_17 = some res → xW xks YX5_indexAmong (d + 5) 0 0 n0 (xZ 0 0 n0 (some (.int res)) (hA g0 g1 g2 g3 g4 g5 g6 g7 g8 g9 g10 g11 g12 g13 g14 g15 g16 g17 g18 g19 g20 g21 g22 g23 g24 g25 g26 g27 g28 g29 g30 g31 g32 g33 g34 g35 g36 a0 a1 a2 a3 a4 a5 a6 a7 a8 a9 a10 a11 a12 a13 a14 a15 a16 a17 a18 a19 a20 a21 a22 a23 a24 a25 a26 a27 a28 a29 a30 a31 a32 a33 a34 a35 a36 a37 a38 a39 b0 b1 b2 b3 b4 w0 (.ref 19) (.ref 1))) 0 0 17 [some (.ref 17), some (.ref 1006), some (.int l2_17), some (.long l3_17), none, some (.int l5_17), none] [] (hA g0 g1 g2 g3 g4 g5 g6 g7 g8 g9 g10 g11 g12 g13 g14 g15 g16 g17 g18 g19 g20 g21 g22 g23 g24 g25 g26 g27 g28 g29 g30 g31 g32 g33 g34 g35 g36 a0 a1 a2 a3 a4 a5 a6 a7 a8 a9 a10 a11 a12 a13 a14 a15 a16 a17 a18 a19 a20 a21 a22 a23 a24 a25 a26 a27 a28 a29 a30 a31 a32 a33 a34 a35 a36 a37 a38 a39 b0 b1 b2 b3 b4 w0 (.ref 19) (.ref 1)) := by
  intro n
  induction n with
  | zero =>
    intro l2_17 l3_17 l5_17 h
    cases (show (none : Option (Int32)) = some res from h)
  | succ n17 ih17 =>
    intro l2_17 l3_17 l5_17 h
    unfold L_hA_X5_indexAmong_17 at h
    refine x_iload dX5_indexAmong_17 rfl ?_
    refine x_aload_n dX5_indexAmong_19 rfl ?_
    refine x_slen (k := 6) (s := xsy 6) rfl rfl (Nat.le_of_ble_eq_true rfl) kX5_93 dX5_indexAmong_20 (Nat.le_of_ble_eq_true rfl) ?_
    refine x_icmp_gt 95 dX5_indexAmong_23 (by decide) (fun q => ?_) (fun q => ?_)
    · have h := xif_t q h
      refine x_weak (pl2 := [none, none, none, none, none, none, none]) trivial ?_
      exact hK l2_17 l3_17 l5_17 h
    · have h := xif_f q h
      refine x_iload dX5_indexAmong_26 rfl ?_
      refine x_aload_n dX5_indexAmong_28 rfl ?_
      refine x_slen (k := 6) (s := xsy 6) rfl rfl (Nat.le_of_ble_eq_true rfl) kX5_93 dX5_indexAmong_29 (Nat.le_of_ble_eq_true rfl) ?_
      refine x_icmp_ge 44 dX5_indexAmong_32 (by decide) (fun q => ?_) (fun q => ?_)
      · have h := xif_t q h
        refine x_bipush (32 : Int32) dX5_indexAmong_44 (by decide) ?_
        refine x_istore (pl' := [some (.ref 17), some (.ref 1006), some (.int l2_17), some (.long l3_17), none, some (.int l5_17), some (.int (32 : Int32))]) dX5_indexAmong_46 (by decide) rfl ?_
        refine x_iload dX5_indexAmong_48 rfl ?_
        refine x_bipush (32 : Int32) dX5_indexAmong_50 (by decide) ?_
        refine x_icmp_eq 73 dX5_indexAmong_52 (by decide) (fun q => ?_) (fun q => ?_)
        · have h := xif_t q h
          refine x_lload_n dX5_indexAmong_73 rfl ?_
          refine x_aload_n dX5_indexAmong_74 rfl ?_
          refine x_get fX5_34 dX5_indexAmong_75 rfl rfl rfl ?_
          refine x_lcmp dX5_indexAmong_78 ?_
          refine x_if_ne 84 dX5_indexAmong_79 (by decide) (fun q => ?_) (fun q => ?_)
          · have h := xif_f q h
            refine x_iincK (1 : Int32) (pl' := [some (.ref 17), some (.ref 1006), some (.int (l2_17 + (1 : Int32))), some (.long l3_17), none, some (.int l5_17), some (.int (32 : Int32))]) dX5_indexAmong_84 rfl (by decide) (by decide) rfl ?_
            refine x_lconst (0 : Int64) dX5_indexAmong_87 (by decide) ?_
            refine x_lstore_n (pl' := [some (.ref 17), some (.ref 1006), some (.int (l2_17 + (1 : Int32))), some (.long (0 : Int64)), none, some (.int l5_17), some (.int (32 : Int32))]) dX5_indexAmong_88 (by decide) rfl ?_
            refine x_iincK (1 : Int32) (pl' := [some (.ref 17), some (.ref 1006), some (.int (l2_17 + (1 : Int32))), some (.long (0 : Int64)), none, some (.int (l5_17 + (1 : Int32))), some (.int (32 : Int32))]) dX5_indexAmong_89 rfl (by decide) (by decide) rfl ?_
            refine x_goto 17 dX5_indexAmong_92 (by decide) ?_
            refine x_weak (pl2 := [some (.ref 17), some (.ref 1006), some (.int (l2_17 + (1 : Int32))), some (.long (0 : Int64)), none, some (.int (l5_17 + (1 : Int32))), none]) ⟨rfl, rfl, rfl, rfl, rfl, trivial⟩ ?_
            exact ih17 (l2_17 + (1 : Int32)) (0 : Int64) (l5_17 + (1 : Int32)) h
          · have h := xif_t q h
            refine x_iload_n dX5_indexAmong_82 rfl ?_
            cases h
            exact x_iret2 dX5_indexAmong_83 rfl rfl
        · have h := xif_f q h
          refine x_lload_n dX5_indexAmong_55 rfl ?_
          refine x_ldc2 iX5_102 dX5_indexAmong_56 ?_
          refine x_lmul dX5_indexAmong_59 ?_
          refine x_iload dX5_indexAmong_60 rfl ?_
          refine x_bipush (97 : Int32) dX5_indexAmong_62 (by decide) ?_
          refine x_isub dX5_indexAmong_64 ?_
          refine x_iconst (1 : Int32) dX5_indexAmong_65 (by decide) ?_
          refine x_iadd dX5_indexAmong_66 ?_
          refine x_i2l dX5_indexAmong_67 ?_
          refine x_ladd dX5_indexAmong_68 ?_
          refine x_lstore_n (pl' := [some (.ref 17), some (.ref 1006), some (.int l2_17), some (.long ((l3_17 * (27 : Int64)) + (((32 : Int32) - (97 : Int32)) + (1 : Int32)).toInt64)), none, some (.int l5_17), some (.int (32 : Int32))]) dX5_indexAmong_69 (by decide) rfl ?_
          refine x_goto 89 dX5_indexAmong_70 (by decide) ?_
          refine x_iincK (1 : Int32) (pl' := [some (.ref 17), some (.ref 1006), some (.int l2_17), some (.long ((l3_17 * (27 : Int64)) + (((32 : Int32) - (97 : Int32)) + (1 : Int32)).toInt64)), none, some (.int (l5_17 + (1 : Int32))), some (.int (32 : Int32))]) dX5_indexAmong_89 rfl (by decide) (by decide) rfl ?_
          refine x_goto 17 dX5_indexAmong_92 (by decide) ?_
          refine x_weak (pl2 := [some (.ref 17), some (.ref 1006), some (.int l2_17), some (.long ((l3_17 * (27 : Int64)) + (((32 : Int32) - (97 : Int32)) + (1 : Int32)).toInt64)), none, some (.int (l5_17 + (1 : Int32))), none]) ⟨rfl, rfl, rfl, rfl, rfl, trivial⟩ ?_
          exact ih17 l2_17 ((l3_17 * (27 : Int64)) + (((32 : Int32) - (97 : Int32)) + (1 : Int32)).toInt64) (l5_17 + (1 : Int32)) h
      · have h := xif_f q h
        refine x_aload_n dX5_indexAmong_35 rfl ?_
        refine x_iload dX5_indexAmong_36 rfl ?_
        obtain ⟨q38, h⟩ := xix_of h
        refine x_schar (k := 6) (s := xsy 6) rfl rfl q38 (Nat.le_of_ble_eq_true rfl) kX5_98 dX5_indexAmong_38 (Nat.le_of_ble_eq_true rfl) ?_
        refine x_goto 46 dX5_indexAmong_41 (by decide) ?_
        refine x_istore (pl' := [some (.ref 17), some (.ref 1006), some (.int l2_17), some (.long l3_17), none, some (.int l5_17), some (.int (xch (xsy 6) l5_17))]) dX5_indexAmong_46 (by decide) rfl ?_
        refine x_iload dX5_indexAmong_48 rfl ?_
        refine x_bipush (32 : Int32) dX5_indexAmong_50 (by decide) ?_
        refine x_icmp_eq 73 dX5_indexAmong_52 (by decide) (fun q => ?_) (fun q => ?_)
        · have h := xif_t q h
          refine x_lload_n dX5_indexAmong_73 rfl ?_
          refine x_aload_n dX5_indexAmong_74 rfl ?_
          refine x_get fX5_34 dX5_indexAmong_75 rfl rfl rfl ?_
          refine x_lcmp dX5_indexAmong_78 ?_
          refine x_if_ne 84 dX5_indexAmong_79 (by decide) (fun q => ?_) (fun q => ?_)
          · have h := xif_f q h
            refine x_iincK (1 : Int32) (pl' := [some (.ref 17), some (.ref 1006), some (.int (l2_17 + (1 : Int32))), some (.long l3_17), none, some (.int l5_17), some (.int (xch (xsy 6) l5_17))]) dX5_indexAmong_84 rfl (by decide) (by decide) rfl ?_
            refine x_lconst (0 : Int64) dX5_indexAmong_87 (by decide) ?_
            refine x_lstore_n (pl' := [some (.ref 17), some (.ref 1006), some (.int (l2_17 + (1 : Int32))), some (.long (0 : Int64)), none, some (.int l5_17), some (.int (xch (xsy 6) l5_17))]) dX5_indexAmong_88 (by decide) rfl ?_
            refine x_iincK (1 : Int32) (pl' := [some (.ref 17), some (.ref 1006), some (.int (l2_17 + (1 : Int32))), some (.long (0 : Int64)), none, some (.int (l5_17 + (1 : Int32))), some (.int (xch (xsy 6) l5_17))]) dX5_indexAmong_89 rfl (by decide) (by decide) rfl ?_
            refine x_goto 17 dX5_indexAmong_92 (by decide) ?_
            refine x_weak (pl2 := [some (.ref 17), some (.ref 1006), some (.int (l2_17 + (1 : Int32))), some (.long (0 : Int64)), none, some (.int (l5_17 + (1 : Int32))), none]) ⟨rfl, rfl, rfl, rfl, rfl, trivial⟩ ?_
            exact ih17 (l2_17 + (1 : Int32)) (0 : Int64) (l5_17 + (1 : Int32)) h
          · have h := xif_t q h
            refine x_iload_n dX5_indexAmong_82 rfl ?_
            cases h
            exact x_iret2 dX5_indexAmong_83 rfl rfl
        · have h := xif_f q h
          refine x_lload_n dX5_indexAmong_55 rfl ?_
          refine x_ldc2 iX5_102 dX5_indexAmong_56 ?_
          refine x_lmul dX5_indexAmong_59 ?_
          refine x_iload dX5_indexAmong_60 rfl ?_
          refine x_bipush (97 : Int32) dX5_indexAmong_62 (by decide) ?_
          refine x_isub dX5_indexAmong_64 ?_
          refine x_iconst (1 : Int32) dX5_indexAmong_65 (by decide) ?_
          refine x_iadd dX5_indexAmong_66 ?_
          refine x_i2l dX5_indexAmong_67 ?_
          refine x_ladd dX5_indexAmong_68 ?_
          refine x_lstore_n (pl' := [some (.ref 17), some (.ref 1006), some (.int l2_17), some (.long ((l3_17 * (27 : Int64)) + (((xch (xsy 6) l5_17) - (97 : Int32)) + (1 : Int32)).toInt64)), none, some (.int l5_17), some (.int (xch (xsy 6) l5_17))]) dX5_indexAmong_69 (by decide) rfl ?_
          refine x_goto 89 dX5_indexAmong_70 (by decide) ?_
          refine x_iincK (1 : Int32) (pl' := [some (.ref 17), some (.ref 1006), some (.int l2_17), some (.long ((l3_17 * (27 : Int64)) + (((xch (xsy 6) l5_17) - (97 : Int32)) + (1 : Int32)).toInt64)), none, some (.int (l5_17 + (1 : Int32))), some (.int (xch (xsy 6) l5_17))]) dX5_indexAmong_89 rfl (by decide) (by decide) rfl ?_
          refine x_goto 17 dX5_indexAmong_92 (by decide) ?_
          refine x_weak (pl2 := [some (.ref 17), some (.ref 1006), some (.int l2_17), some (.long ((l3_17 * (27 : Int64)) + (((xch (xsy 6) l5_17) - (97 : Int32)) + (1 : Int32)).toInt64)), none, some (.int (l5_17 + (1 : Int32))), none]) ⟨rfl, rfl, rfl, rfl, rfl, trivial⟩ ?_
          exact ih17 l2_17 ((l3_17 * (27 : Int64)) + (((xch (xsy 6) l5_17) - (97 : Int32)) + (1 : Int32)).toInt64) (l5_17 + (1 : Int32)) h
set_option maxRecDepth 100000 in
set_option maxHeartbeats 4000000 in
theorem t_hA_X5_indexAmong_3 {g0 g1 g2 g3 g4 g5 g6 g7 g8 g9 g10 g11 g12 g13 g14 g15 g16 g17 g18 g19 g20 g21 g22 g23 g24 g25 g26 g27 g28 g29 g30 g31 g32 g33 g34 g35 g36 : Int32} {a0 a1 a2 a3 a4 a5 a6 a7 a8 a9 a10 a11 a12 a13 a14 a15 a16 a17 a18 a19 a20 a21 a22 a23 a24 a25 a26 a27 a28 a29 a30 a31 a32 a33 a34 a35 a36 a37 a38 a39 : (Nat → Int32)} {b0 b1 b2 b3 b4 : (Nat → Int64)} {w0 : Int64}  (res : Int32) (h : e_hA_X5_indexAmong g19 w0 (xsy 6)  = some res) (d : Nat) : xMet xks YX5_indexAmong (d + 5) 0 0 [.ref 17, .ref 1006] (hA g0 g1 g2 g3 g4 g5 g6 g7 g8 g9 g10 g11 g12 g13 g14 g15 g16 g17 g18 g19 g20 g21 g22 g23 g24 g25 g26 g27 g28 g29 g30 g31 g32 g33 g34 g35 g36 a0 a1 a2 a3 a4 a5 a6 a7 a8 a9 a10 a11 a12 a13 a14 a15 a16 a17 a18 a19 a20 a21 a22 a23 a24 a25 a26 a27 a28 a29 a30 a31 a32 a33 a34 a35 a36 a37 a38 a39 b0 b1 b2 b3 b4 w0 (.ref 19) (.ref 1)) (some (.int res)) (hA g0 g1 g2 g3 g4 g5 g6 g7 g8 g9 g10 g11 g12 g13 g14 g15 g16 g17 g18 g19 g20 g21 g22 g23 g24 g25 g26 g27 g28 g29 g30 g31 g32 g33 g34 g35 g36 a0 a1 a2 a3 a4 a5 a6 a7 a8 a9 a10 a11 a12 a13 a14 a15 a16 a17 a18 a19 a20 a21 a22 a23 a24 a25 a26 a27 a28 a29 a30 a31 a32 a33 a34 a35 a36 a37 a38 a39 b0 b1 b2 b3 b4 w0 (.ref 19) (.ref 1)) := by
  unfold e_hA_X5_indexAmong at h
  refine xMet_of (pl := [some (.ref 17), some (.ref 1006), none, none, none, none, none]) (by decide) (Nat.le_of_ble_eq_true rfl) rfl (Nat.le_of_ble_eq_true rfl) ?_
  refine x_aload_n dX5_indexAmong_0 rfl ?_
  refine x_get fX5_31 dX5_indexAmong_1 rfl rfl rfl ?_
  refine x_iconst (1 : Int32) dX5_indexAmong_4 (by decide) ?_
  refine x_icmp_eq 10 dX5_indexAmong_5 (by decide) (fun q => ?_) (fun q => ?_)
  · have h := xif_t q h
    refine x_iconst (0 : Int32) dX5_indexAmong_10 (by decide) ?_
    refine x_istore_n (pl' := [some (.ref 17), some (.ref 1006), some (.int (0 : Int32)), none, none, none, none]) dX5_indexAmong_11 (by decide) rfl ?_
    refine x_lconst (0 : Int64) dX5_indexAmong_12 (by decide) ?_
    refine x_lstore_n (pl' := [some (.ref 17), some (.ref 1006), some (.int (0 : Int32)), some (.long (0 : Int64)), none, none, none]) dX5_indexAmong_13 (by decide) rfl ?_
    refine x_iconst (0 : Int32) dX5_indexAmong_14 (by decide) ?_
    refine x_istore (pl' := [some (.ref 17), some (.ref 1006), some (.int (0 : Int32)), some (.long (0 : Int64)), none, some (.int (0 : Int32)), none]) dX5_indexAmong_15 (by decide) rfl ?_
    refine x_weak (pl2 := [some (.ref 17), some (.ref 1006), some (.int (0 : Int32)), some (.long (0 : Int64)), none, some (.int (0 : Int32)), none]) ⟨rfl, rfl, rfl, rfl, rfl, trivial⟩ ?_
    refine lp_hA_X5_indexAmong_3_17 d _  res _ (fun l2_17 l3_17 l5_17 h => ?_) 200000 (0 : Int32) (0 : Int64) (0 : Int32) h
    refine x_iconst (-1 : Int32) dX5_indexAmong_95 (by decide) ?_
    cases h
    exact x_iret2 dX5_indexAmong_96 rfl rfl
  · have h := xif_f q h
    refine x_iconst (-1 : Int32) dX5_indexAmong_8 (by decide) ?_
    cases h
    exact x_iret2 dX5_indexAmong_9 rfl rfl
noncomputable def e_hA_X5_readOneOf (p0 : Int32) (p1 : Int64) (p2 : Int32) (p3 : Int32) (p4 : Int32) (p5 : Int32) (p6 : (Nat → Int32)) (p7 : Int32) (s0 : (List Int32))  : Option (Int32 × Int32 × Int32 × Int64 × Int32 × Int32 × Int32) :=
  ((e_hA_X5_indexAmong p0 p1 s0).bind fun z3 => if z3 = (-1 : Int32) then ((e_hA_X5_fail p7 (1 : Int32)).bind fun z19 => xbo z19.1 (some (z19.1, z3, p5, p1, p0, p3, z19.2))) else ((e_hA_X5_readToken p3 p4 p5 p1 p0 p6).bind fun z24 => some ((1 : Int32), z3, z24.1, z24.2.1, z24.2.2.1, z24.2.2.2, p7)))
set_option maxRecDepth 100000 in
set_option maxHeartbeats 4000000 in
theorem t_hA_X5_readOneOf {g0 g1 g2 g3 g4 g5 g6 g7 g8 g9 g10 g11 g12 g13 g14 g15 g16 g17 g18 g19 g20 g21 g22 g23 g24 g25 g26 g27 g28 g29 g30 g31 g32 g33 g34 g35 g36 : Int32} {a0 a1 a2 a3 a4 a5 a6 a7 a8 a9 a10 a11 a12 a13 a14 a15 a16 a17 a18 a19 a20 a21 a22 a23 a24 a25 a26 a27 a28 a29 a30 a31 a32 a33 a34 a35 a36 a37 a38 a39 : (Nat → Int32)} {b0 b1 b2 b3 b4 : (Nat → Int64)} {w0 : Int64}  (res : Int32 × Int32 × Int32 × Int64 × Int32 × Int32 × Int32) (h : e_hA_X5_readOneOf g19 w0 g20 g18 g17 g15 a13 g14 (xsy 6)  = some res) (d : Nat) : xMet xks YX5_readOneOf (d + 6) 0 0 [.ref 17, .ref 1006] (hA g0 g1 g2 g3 g4 g5 g6 g7 g8 g9 g10 g11 g12 g13 g14 g15 g16 g17 g18 g19 g20 g21 g22 g23 g24 g25 g26 g27 g28 g29 g30 g31 g32 g33 g34 g35 g36 a0 a1 a2 a3 a4 a5 a6 a7 a8 a9 a10 a11 a12 a13 a14 a15 a16 a17 a18 a19 a20 a21 a22 a23 a24 a25 a26 a27 a28 a29 a30 a31 a32 a33 a34 a35 a36 a37 a38 a39 b0 b1 b2 b3 b4 w0 (.ref 19) (.ref 1)) (some (.int res.1)) (hA g0 g1 g2 g3 g4 g5 g6 g7 g8 g9 g10 g11 g12 g13 res.2.2.2.2.2.2 res.2.2.1 g16 g17 res.2.2.2.2.2.1 res.2.2.2.2.1 res.2.1 g21 g22 g23 g24 g25 g26 g27 g28 g29 g30 g31 g32 g33 g34 g35 g36 a0 a1 a2 a3 a4 a5 a6 a7 a8 a9 a10 a11 a12 a13 a14 a15 a16 a17 a18 a19 a20 a21 a22 a23 a24 a25 a26 a27 a28 a29 a30 a31 a32 a33 a34 a35 a36 a37 a38 a39 b0 b1 b2 b3 b4 res.2.2.2.1 (.ref 19) (.ref 1)) := by
  unfold e_hA_X5_readOneOf at h
  refine xMet_of (pl := [some (.ref 17), some (.ref 1006)]) (by decide) (Nat.le_of_ble_eq_true rfl) rfl (Nat.le_of_ble_eq_true rfl) ?_
  refine x_aload_n dX5_readOneOf_0 rfl ?_
  refine x_aload_n dX5_readOneOf_1 rfl ?_
  refine x_aload_n dX5_readOneOf_2 rfl ?_
  obtain ⟨z3, y3, h⟩ := xbind h
  refine x_callV (t_hA_X5_indexAmong_3  z3 y3 (d + 0)) kX5_104 dX5_readOneOf_3 rfl rfl rfl rfl rfl (Nat.le_of_ble_eq_true rfl) (Nat.le_of_ble_eq_true rfl) rfl rfl (Or.inl rfl) ?_
  refine x_put (h2 := (hA g0 g1 g2 g3 g4 g5 g6 g7 g8 g9 g10 g11 g12 g13 g14 g15 g16 g17 g18 g19 z3 g21 g22 g23 g24 g25 g26 g27 g28 g29 g30 g31 g32 g33 g34 g35 g36 a0 a1 a2 a3 a4 a5 a6 a7 a8 a9 a10 a11 a12 a13 a14 a15 a16 a17 a18 a19 a20 a21 a22 a23 a24 a25 a26 a27 a28 a29 a30 a31 a32 a33 a34 a35 a36 a37 a38 a39 b0 b1 b2 b3 b4 w0 (.ref 19) (.ref 1))) fX5_38 dX5_readOneOf_6 rfl rfl (Nat.le_of_ble_eq_true rfl : 8 + 1 ≤ _) (fun α => ⟨rfl, rfl⟩) rfl ?_
  refine x_aload_n dX5_readOneOf_9 rfl ?_
  refine x_get fX5_38 dX5_readOneOf_10 rfl rfl rfl ?_
  refine x_iconst (-1 : Int32) dX5_readOneOf_13 (by decide) ?_
  refine x_icmp_ne 23 dX5_readOneOf_14 (by decide) (fun q => ?_) (fun q => ?_)
  · have h := xif_f q h
    refine x_aload_n dX5_readOneOf_23 rfl ?_
    obtain ⟨z24, y24, h⟩ := xbind h
    refine x_callV (t_hA_X5_readToken  z24 y24 (d + 2)) kX5_68 dX5_readOneOf_24 rfl rfl rfl rfl rfl (Nat.le_of_ble_eq_true rfl) (Nat.le_of_ble_eq_true rfl) rfl rfl (Or.inl rfl) ?_
    refine x_iconst (1 : Int32) dX5_readOneOf_27 (by decide) ?_
    cases h
    exact x_zret2 dX5_readOneOf_28 rfl rfl rfl
  · have h := xif_t q h
    refine x_aload_n dX5_readOneOf_17 rfl ?_
    refine x_iconst (1 : Int32) dX5_readOneOf_18 (by decide) ?_
    obtain ⟨z19, y19, h⟩ := xbind h
    refine x_callV (t_hA_X5_fail (1 : Int32) z19 y19 (d + 4)) kX5_75 dX5_readOneOf_19 rfl rfl rfl rfl rfl (Nat.le_of_ble_eq_true rfl) (Nat.le_of_ble_eq_true rfl) rfl rfl (Or.inl rfl) ?_
    obtain ⟨-, q22, h⟩ := xbo_of h
    cases h
    exact x_zret2 dX5_readOneOf_22 rfl q22 rfl
set_option maxRecDepth 100000 in
set_option maxHeartbeats 4000000 in
theorem lp_hA_X5_indexAmong_4_17 {g0 g1 g2 g3 g4 g5 g6 g7 g8 g9 g10 g11 g12 g13 g14 g15 g16 g17 g18 g19 g20 g21 g22 g23 g24 g25 g26 g27 g28 g29 g30 g31 g32 g33 g34 g35 g36 : Int32} {a0 a1 a2 a3 a4 a5 a6 a7 a8 a9 a10 a11 a12 a13 a14 a15 a16 a17 a18 a19 a20 a21 a22 a23 a24 a25 a26 a27 a28 a29 a30 a31 a32 a33 a34 a35 a36 a37 a38 a39 : (Nat → Int32)} {b0 b1 b2 b3 b4 : (Nat → Int64)} {w0 : Int64} (d n0 : Nat)  (res : Int32) (K : Int32 → Int64 → Int32 → Option (Int32)) (hK : ∀ (l2_17 : Int32) (l3_17 : Int64) (l5_17 : Int32), K l2_17 l3_17 l5_17 = some res → xW xks YX5_indexAmong (d + 5) 0 0 n0 (xZ 0 0 n0 (some (.int res)) (hA g0 g1 g2 g3 g4 g5 g6 g7 g8 g9 g10 g11 g12 g13 g14 g15 g16 g17 g18 g19 g20 g21 g22 g23 g24 g25 g26 g27 g28 g29 g30 g31 g32 g33 g34 g35 g36 a0 a1 a2 a3 a4 a5 a6 a7 a8 a9 a10 a11 a12 a13 a14 a15 a16 a17 a18 a19 a20 a21 a22 a23 a24 a25 a26 a27 a28 a29 a30 a31 a32 a33 a34 a35 a36 a37 a38 a39 b0 b1 b2 b3 b4 w0 (.ref 19) (.ref 1))) 0 0 95 [none, none, none, none, none, none, none] [] (hA g0 g1 g2 g3 g4 g5 g6 g7 g8 g9 g10 g11 g12 g13 g14 g15 g16 g17 g18 g19 g20 g21 g22 g23 g24 g25 g26 g27 g28 g29 g30 g31 g32 g33 g34 g35 g36 a0 a1 a2 a3 a4 a5 a6 a7 a8 a9 a10 a11 a12 a13 a14 a15 a16 a17 a18 a19 a20 a21 a22 a23 a24 a25 a26 a27 a28 a29 a30 a31 a32 a33 a34 a35 a36 a37 a38 a39 b0 b1 b2 b3 b4 w0 (.ref 19) (.ref 1))) : ∀ (n : Nat) (l2_17 : Int32) (l3_17 : Int64) (l5_17 : Int32), L_hA_X5_indexAmong_17 g19 w0 (xsy 7)  K n l2_17 l3_17 l5_17 = some res → xW xks YX5_indexAmong (d + 5) 0 0 n0 (xZ 0 0 n0 (some (.int res)) (hA g0 g1 g2 g3 g4 g5 g6 g7 g8 g9 g10 g11 g12 g13 g14 g15 g16 g17 g18 g19 g20 g21 g22 g23 g24 g25 g26 g27 g28 g29 g30 g31 g32 g33 g34 g35 g36 a0 a1 a2 a3 a4 a5 a6 a7 a8 a9 a10 a11 a12 a13 a14 a15 a16 a17 a18 a19 a20 a21 a22 a23 a24 a25 a26 a27 a28 a29 a30 a31 a32 a33 a34 a35 a36 a37 a38 a39 b0 b1 b2 b3 b4 w0 (.ref 19) (.ref 1))) 0 0 17 [some (.ref 17), some (.ref 1007), some (.int l2_17), some (.long l3_17), none, some (.int l5_17), none] [] (hA g0 g1 g2 g3 g4 g5 g6 g7 g8 g9 g10 g11 g12 g13 g14 g15 g16 g17 g18 g19 g20 g21 g22 g23 g24 g25 g26 g27 g28 g29 g30 g31 g32 g33 g34 g35 g36 a0 a1 a2 a3 a4 a5 a6 a7 a8 a9 a10 a11 a12 a13 a14 a15 a16 a17 a18 a19 a20 a21 a22 a23 a24 a25 a26 a27 a28 a29 a30 a31 a32 a33 a34 a35 a36 a37 a38 a39 b0 b1 b2 b3 b4 w0 (.ref 19) (.ref 1)) := by
  intro n
  induction n with
  | zero =>
    intro l2_17 l3_17 l5_17 h
    cases (show (none : Option (Int32)) = some res from h)
  | succ n17 ih17 =>
    intro l2_17 l3_17 l5_17 h
    unfold L_hA_X5_indexAmong_17 at h
    refine x_iload dX5_indexAmong_17 rfl ?_
    refine x_aload_n dX5_indexAmong_19 rfl ?_
    refine x_slen (k := 7) (s := xsy 7) rfl rfl (Nat.le_of_ble_eq_true rfl) kX5_93 dX5_indexAmong_20 (Nat.le_of_ble_eq_true rfl) ?_
    refine x_icmp_gt 95 dX5_indexAmong_23 (by decide) (fun q => ?_) (fun q => ?_)
    · have h := xif_t q h
      refine x_weak (pl2 := [none, none, none, none, none, none, none]) trivial ?_
      exact hK l2_17 l3_17 l5_17 h
    · have h := xif_f q h
      refine x_iload dX5_indexAmong_26 rfl ?_
      refine x_aload_n dX5_indexAmong_28 rfl ?_
      refine x_slen (k := 7) (s := xsy 7) rfl rfl (Nat.le_of_ble_eq_true rfl) kX5_93 dX5_indexAmong_29 (Nat.le_of_ble_eq_true rfl) ?_
      refine x_icmp_ge 44 dX5_indexAmong_32 (by decide) (fun q => ?_) (fun q => ?_)
      · have h := xif_t q h
        refine x_bipush (32 : Int32) dX5_indexAmong_44 (by decide) ?_
        refine x_istore (pl' := [some (.ref 17), some (.ref 1007), some (.int l2_17), some (.long l3_17), none, some (.int l5_17), some (.int (32 : Int32))]) dX5_indexAmong_46 (by decide) rfl ?_
        refine x_iload dX5_indexAmong_48 rfl ?_
        refine x_bipush (32 : Int32) dX5_indexAmong_50 (by decide) ?_
        refine x_icmp_eq 73 dX5_indexAmong_52 (by decide) (fun q => ?_) (fun q => ?_)
        · have h := xif_t q h
          refine x_lload_n dX5_indexAmong_73 rfl ?_
          refine x_aload_n dX5_indexAmong_74 rfl ?_
          refine x_get fX5_34 dX5_indexAmong_75 rfl rfl rfl ?_
          refine x_lcmp dX5_indexAmong_78 ?_
          refine x_if_ne 84 dX5_indexAmong_79 (by decide) (fun q => ?_) (fun q => ?_)
          · have h := xif_f q h
            refine x_iincK (1 : Int32) (pl' := [some (.ref 17), some (.ref 1007), some (.int (l2_17 + (1 : Int32))), some (.long l3_17), none, some (.int l5_17), some (.int (32 : Int32))]) dX5_indexAmong_84 rfl (by decide) (by decide) rfl ?_
            refine x_lconst (0 : Int64) dX5_indexAmong_87 (by decide) ?_
            refine x_lstore_n (pl' := [some (.ref 17), some (.ref 1007), some (.int (l2_17 + (1 : Int32))), some (.long (0 : Int64)), none, some (.int l5_17), some (.int (32 : Int32))]) dX5_indexAmong_88 (by decide) rfl ?_
            refine x_iincK (1 : Int32) (pl' := [some (.ref 17), some (.ref 1007), some (.int (l2_17 + (1 : Int32))), some (.long (0 : Int64)), none, some (.int (l5_17 + (1 : Int32))), some (.int (32 : Int32))]) dX5_indexAmong_89 rfl (by decide) (by decide) rfl ?_
            refine x_goto 17 dX5_indexAmong_92 (by decide) ?_
            refine x_weak (pl2 := [some (.ref 17), some (.ref 1007), some (.int (l2_17 + (1 : Int32))), some (.long (0 : Int64)), none, some (.int (l5_17 + (1 : Int32))), none]) ⟨rfl, rfl, rfl, rfl, rfl, trivial⟩ ?_
            exact ih17 (l2_17 + (1 : Int32)) (0 : Int64) (l5_17 + (1 : Int32)) h
          · have h := xif_t q h
            refine x_iload_n dX5_indexAmong_82 rfl ?_
            cases h
            exact x_iret2 dX5_indexAmong_83 rfl rfl
        · have h := xif_f q h
          refine x_lload_n dX5_indexAmong_55 rfl ?_
          refine x_ldc2 iX5_102 dX5_indexAmong_56 ?_
          refine x_lmul dX5_indexAmong_59 ?_
          refine x_iload dX5_indexAmong_60 rfl ?_
          refine x_bipush (97 : Int32) dX5_indexAmong_62 (by decide) ?_
          refine x_isub dX5_indexAmong_64 ?_
          refine x_iconst (1 : Int32) dX5_indexAmong_65 (by decide) ?_
          refine x_iadd dX5_indexAmong_66 ?_
          refine x_i2l dX5_indexAmong_67 ?_
          refine x_ladd dX5_indexAmong_68 ?_
          refine x_lstore_n (pl' := [some (.ref 17), some (.ref 1007), some (.int l2_17), some (.long ((l3_17 * (27 : Int64)) + (((32 : Int32) - (97 : Int32)) + (1 : Int32)).toInt64)), none, some (.int l5_17), some (.int (32 : Int32))]) dX5_indexAmong_69 (by decide) rfl ?_
          refine x_goto 89 dX5_indexAmong_70 (by decide) ?_
          refine x_iincK (1 : Int32) (pl' := [some (.ref 17), some (.ref 1007), some (.int l2_17), some (.long ((l3_17 * (27 : Int64)) + (((32 : Int32) - (97 : Int32)) + (1 : Int32)).toInt64)), none, some (.int (l5_17 + (1 : Int32))), some (.int (32 : Int32))]) dX5_indexAmong_89 rfl (by decide) (by decide) rfl ?_
          refine x_goto 17 dX5_indexAmong_92 (by decide) ?_
          refine x_weak (pl2 := [some (.ref 17), some (.ref 1007), some (.int l2_17), some (.long ((l3_17 * (27 : Int64)) + (((32 : Int32) - (97 : Int32)) + (1 : Int32)).toInt64)), none, some (.int (l5_17 + (1 : Int32))), none]) ⟨rfl, rfl, rfl, rfl, rfl, trivial⟩ ?_
          exact ih17 l2_17 ((l3_17 * (27 : Int64)) + (((32 : Int32) - (97 : Int32)) + (1 : Int32)).toInt64) (l5_17 + (1 : Int32)) h
      · have h := xif_f q h
        refine x_aload_n dX5_indexAmong_35 rfl ?_
        refine x_iload dX5_indexAmong_36 rfl ?_
        obtain ⟨q38, h⟩ := xix_of h
        refine x_schar (k := 7) (s := xsy 7) rfl rfl q38 (Nat.le_of_ble_eq_true rfl) kX5_98 dX5_indexAmong_38 (Nat.le_of_ble_eq_true rfl) ?_
        refine x_goto 46 dX5_indexAmong_41 (by decide) ?_
        refine x_istore (pl' := [some (.ref 17), some (.ref 1007), some (.int l2_17), some (.long l3_17), none, some (.int l5_17), some (.int (xch (xsy 7) l5_17))]) dX5_indexAmong_46 (by decide) rfl ?_
        refine x_iload dX5_indexAmong_48 rfl ?_
        refine x_bipush (32 : Int32) dX5_indexAmong_50 (by decide) ?_
        refine x_icmp_eq 73 dX5_indexAmong_52 (by decide) (fun q => ?_) (fun q => ?_)
        · have h := xif_t q h
          refine x_lload_n dX5_indexAmong_73 rfl ?_
          refine x_aload_n dX5_indexAmong_74 rfl ?_
          refine x_get fX5_34 dX5_indexAmong_75 rfl rfl rfl ?_
          refine x_lcmp dX5_indexAmong_78 ?_
          refine x_if_ne 84 dX5_indexAmong_79 (by decide) (fun q => ?_) (fun q => ?_)
          · have h := xif_f q h
            refine x_iincK (1 : Int32) (pl' := [some (.ref 17), some (.ref 1007), some (.int (l2_17 + (1 : Int32))), some (.long l3_17), none, some (.int l5_17), some (.int (xch (xsy 7) l5_17))]) dX5_indexAmong_84 rfl (by decide) (by decide) rfl ?_
            refine x_lconst (0 : Int64) dX5_indexAmong_87 (by decide) ?_
            refine x_lstore_n (pl' := [some (.ref 17), some (.ref 1007), some (.int (l2_17 + (1 : Int32))), some (.long (0 : Int64)), none, some (.int l5_17), some (.int (xch (xsy 7) l5_17))]) dX5_indexAmong_88 (by decide) rfl ?_
            refine x_iincK (1 : Int32) (pl' := [some (.ref 17), some (.ref 1007), some (.int (l2_17 + (1 : Int32))), some (.long (0 : Int64)), none, some (.int (l5_17 + (1 : Int32))), some (.int (xch (xsy 7) l5_17))]) dX5_indexAmong_89 rfl (by decide) (by decide) rfl ?_
            refine x_goto 17 dX5_indexAmong_92 (by decide) ?_
            refine x_weak (pl2 := [some (.ref 17), some (.ref 1007), some (.int (l2_17 + (1 : Int32))), some (.long (0 : Int64)), none, some (.int (l5_17 + (1 : Int32))), none]) ⟨rfl, rfl, rfl, rfl, rfl, trivial⟩ ?_
            exact ih17 (l2_17 + (1 : Int32)) (0 : Int64) (l5_17 + (1 : Int32)) h
          · have h := xif_t q h
            refine x_iload_n dX5_indexAmong_82 rfl ?_
            cases h
            exact x_iret2 dX5_indexAmong_83 rfl rfl
        · have h := xif_f q h
          refine x_lload_n dX5_indexAmong_55 rfl ?_
          refine x_ldc2 iX5_102 dX5_indexAmong_56 ?_
          refine x_lmul dX5_indexAmong_59 ?_
          refine x_iload dX5_indexAmong_60 rfl ?_
          refine x_bipush (97 : Int32) dX5_indexAmong_62 (by decide) ?_
          refine x_isub dX5_indexAmong_64 ?_
          refine x_iconst (1 : Int32) dX5_indexAmong_65 (by decide) ?_
          refine x_iadd dX5_indexAmong_66 ?_
          refine x_i2l dX5_indexAmong_67 ?_
          refine x_ladd dX5_indexAmong_68 ?_
          refine x_lstore_n (pl' := [some (.ref 17), some (.ref 1007), some (.int l2_17), some (.long ((l3_17 * (27 : Int64)) + (((xch (xsy 7) l5_17) - (97 : Int32)) + (1 : Int32)).toInt64)), none, some (.int l5_17), some (.int (xch (xsy 7) l5_17))]) dX5_indexAmong_69 (by decide) rfl ?_
          refine x_goto 89 dX5_indexAmong_70 (by decide) ?_
          refine x_iincK (1 : Int32) (pl' := [some (.ref 17), some (.ref 1007), some (.int l2_17), some (.long ((l3_17 * (27 : Int64)) + (((xch (xsy 7) l5_17) - (97 : Int32)) + (1 : Int32)).toInt64)), none, some (.int (l5_17 + (1 : Int32))), some (.int (xch (xsy 7) l5_17))]) dX5_indexAmong_89 rfl (by decide) (by decide) rfl ?_
          refine x_goto 17 dX5_indexAmong_92 (by decide) ?_
          refine x_weak (pl2 := [some (.ref 17), some (.ref 1007), some (.int l2_17), some (.long ((l3_17 * (27 : Int64)) + (((xch (xsy 7) l5_17) - (97 : Int32)) + (1 : Int32)).toInt64)), none, some (.int (l5_17 + (1 : Int32))), none]) ⟨rfl, rfl, rfl, rfl, rfl, trivial⟩ ?_
          exact ih17 l2_17 ((l3_17 * (27 : Int64)) + (((xch (xsy 7) l5_17) - (97 : Int32)) + (1 : Int32)).toInt64) (l5_17 + (1 : Int32)) h
set_option maxRecDepth 100000 in
set_option maxHeartbeats 4000000 in
theorem t_hA_X5_indexAmong_4 {g0 g1 g2 g3 g4 g5 g6 g7 g8 g9 g10 g11 g12 g13 g14 g15 g16 g17 g18 g19 g20 g21 g22 g23 g24 g25 g26 g27 g28 g29 g30 g31 g32 g33 g34 g35 g36 : Int32} {a0 a1 a2 a3 a4 a5 a6 a7 a8 a9 a10 a11 a12 a13 a14 a15 a16 a17 a18 a19 a20 a21 a22 a23 a24 a25 a26 a27 a28 a29 a30 a31 a32 a33 a34 a35 a36 a37 a38 a39 : (Nat → Int32)} {b0 b1 b2 b3 b4 : (Nat → Int64)} {w0 : Int64}  (res : Int32) (h : e_hA_X5_indexAmong g19 w0 (xsy 7)  = some res) (d : Nat) : xMet xks YX5_indexAmong (d + 5) 0 0 [.ref 17, .ref 1007] (hA g0 g1 g2 g3 g4 g5 g6 g7 g8 g9 g10 g11 g12 g13 g14 g15 g16 g17 g18 g19 g20 g21 g22 g23 g24 g25 g26 g27 g28 g29 g30 g31 g32 g33 g34 g35 g36 a0 a1 a2 a3 a4 a5 a6 a7 a8 a9 a10 a11 a12 a13 a14 a15 a16 a17 a18 a19 a20 a21 a22 a23 a24 a25 a26 a27 a28 a29 a30 a31 a32 a33 a34 a35 a36 a37 a38 a39 b0 b1 b2 b3 b4 w0 (.ref 19) (.ref 1)) (some (.int res)) (hA g0 g1 g2 g3 g4 g5 g6 g7 g8 g9 g10 g11 g12 g13 g14 g15 g16 g17 g18 g19 g20 g21 g22 g23 g24 g25 g26 g27 g28 g29 g30 g31 g32 g33 g34 g35 g36 a0 a1 a2 a3 a4 a5 a6 a7 a8 a9 a10 a11 a12 a13 a14 a15 a16 a17 a18 a19 a20 a21 a22 a23 a24 a25 a26 a27 a28 a29 a30 a31 a32 a33 a34 a35 a36 a37 a38 a39 b0 b1 b2 b3 b4 w0 (.ref 19) (.ref 1)) := by
  unfold e_hA_X5_indexAmong at h
  refine xMet_of (pl := [some (.ref 17), some (.ref 1007), none, none, none, none, none]) (by decide) (Nat.le_of_ble_eq_true rfl) rfl (Nat.le_of_ble_eq_true rfl) ?_
  refine x_aload_n dX5_indexAmong_0 rfl ?_
  refine x_get fX5_31 dX5_indexAmong_1 rfl rfl rfl ?_
  refine x_iconst (1 : Int32) dX5_indexAmong_4 (by decide) ?_
  refine x_icmp_eq 10 dX5_indexAmong_5 (by decide) (fun q => ?_) (fun q => ?_)
  · have h := xif_t q h
    refine x_iconst (0 : Int32) dX5_indexAmong_10 (by decide) ?_
    refine x_istore_n (pl' := [some (.ref 17), some (.ref 1007), some (.int (0 : Int32)), none, none, none, none]) dX5_indexAmong_11 (by decide) rfl ?_
    refine x_lconst (0 : Int64) dX5_indexAmong_12 (by decide) ?_
    refine x_lstore_n (pl' := [some (.ref 17), some (.ref 1007), some (.int (0 : Int32)), some (.long (0 : Int64)), none, none, none]) dX5_indexAmong_13 (by decide) rfl ?_
    refine x_iconst (0 : Int32) dX5_indexAmong_14 (by decide) ?_
    refine x_istore (pl' := [some (.ref 17), some (.ref 1007), some (.int (0 : Int32)), some (.long (0 : Int64)), none, some (.int (0 : Int32)), none]) dX5_indexAmong_15 (by decide) rfl ?_
    refine x_weak (pl2 := [some (.ref 17), some (.ref 1007), some (.int (0 : Int32)), some (.long (0 : Int64)), none, some (.int (0 : Int32)), none]) ⟨rfl, rfl, rfl, rfl, rfl, trivial⟩ ?_
    refine lp_hA_X5_indexAmong_4_17 d _  res _ (fun l2_17 l3_17 l5_17 h => ?_) 200000 (0 : Int32) (0 : Int64) (0 : Int32) h
    refine x_iconst (-1 : Int32) dX5_indexAmong_95 (by decide) ?_
    cases h
    exact x_iret2 dX5_indexAmong_96 rfl rfl
  · have h := xif_f q h
    refine x_iconst (-1 : Int32) dX5_indexAmong_8 (by decide) ?_
    cases h
    exact x_iret2 dX5_indexAmong_9 rfl rfl
set_option maxRecDepth 100000 in
set_option maxHeartbeats 4000000 in
theorem t_hA_X5_readNumber_2 {g0 g1 g2 g3 g4 g5 g6 g7 g8 g9 g10 g11 g12 g13 g14 g15 g16 g17 g18 g19 g20 g21 g22 g23 g24 g25 g26 g27 g28 g29 g30 g31 g32 g33 g34 g35 g36 : Int32} {a0 a1 a2 a3 a4 a5 a6 a7 a8 a9 a10 a11 a12 a13 a14 a15 a16 a17 a18 a19 a20 a21 a22 a23 a24 a25 a26 a27 a28 a29 a30 a31 a32 a33 a34 a35 a36 a37 a38 a39 : (Nat → Int32)} {b0 b1 b2 b3 b4 : (Nat → Int64)} {w0 : Int64} (x2 : Int32) (x3 : Int32) (res : Int32 × Int32 × Int64 × Int32 × Int32 × Int32 × Int32) (h : e_hA_X5_readNumber g19 w0 g18 g17 g15 a13 g14 g20 (xsy 7) x2 x3 = some res) (d : Nat) : xMet xks YX5_readNumber (d + 6) 0 0 [.ref 17, .ref 1007, .int x2, .int x3] (hA g0 g1 g2 g3 g4 g5 g6 g7 g8 g9 g10 g11 g12 g13 g14 g15 g16 g17 g18 g19 g20 g21 g22 g23 g24 g25 g26 g27 g28 g29 g30 g31 g32 g33 g34 g35 g36 a0 a1 a2 a3 a4 a5 a6 a7 a8 a9 a10 a11 a12 a13 a14 a15 a16 a17 a18 a19 a20 a21 a22 a23 a24 a25 a26 a27 a28 a29 a30 a31 a32 a33 a34 a35 a36 a37 a38 a39 b0 b1 b2 b3 b4 w0 (.ref 19) (.ref 1)) (some (.int res.1)) (hA g0 g1 g2 g3 g4 g5 g6 g7 g8 g9 g10 g11 g12 g13 res.2.2.2.2.2.1 res.2.1 g16 g17 res.2.2.2.2.1 res.2.2.2.1 res.2.2.2.2.2.2 g21 g22 g23 g24 g25 g26 g27 g28 g29 g30 g31 g32 g33 g34 g35 g36 a0 a1 a2 a3 a4 a5 a6 a7 a8 a9 a10 a11 a12 a13 a14 a15 a16 a17 a18 a19 a20 a21 a22 a23 a24 a25 a26 a27 a28 a29 a30 a31 a32 a33 a34 a35 a36 a37 a38 a39 b0 b1 b2 b3 b4 res.2.2.1 (.ref 19) (.ref 1)) := by
  unfold e_hA_X5_readNumber at h
  refine xMet_of (pl := [some (.ref 17), some (.ref 1007), some (.int x2), some (.int x3)]) (by decide) (Nat.le_of_ble_eq_true rfl) rfl (Nat.le_of_ble_eq_true rfl) ?_
  refine x_aload_n dX5_readNumber_0 rfl ?_
  refine x_aload_n dX5_readNumber_1 rfl ?_
  obtain ⟨z2, y2, h⟩ := xbind h
  refine x_callV (t_hA_X5_indexAmong_4  z2 y2 (d + 0)) kX5_104 dX5_readNumber_2 rfl rfl rfl rfl rfl (Nat.le_of_ble_eq_true rfl) (Nat.le_of_ble_eq_true rfl) rfl rfl (Or.inl rfl) ?_
  refine x_iconst (-1 : Int32) dX5_readNumber_5 (by decide) ?_
  refine x_icmp_ne 15 dX5_readNumber_6 (by decide) (fun q => ?_) (fun q => ?_)
  · have h := xif_f q h
    refine x_aload_n dX5_readNumber_15 rfl ?_
    obtain ⟨z16, y16, h⟩ := xbind h
    refine x_callV (t_hA_X5_readToken  z16 y16 (d + 2)) kX5_68 dX5_readNumber_16 rfl rfl rfl rfl rfl (Nat.le_of_ble_eq_true rfl) (Nat.le_of_ble_eq_true rfl) rfl rfl (Or.inl rfl) ?_
    refine x_aload_n dX5_readNumber_19 rfl ?_
    refine x_get fX5_31 dX5_readNumber_20 rfl rfl rfl ?_
    refine x_iconst (2 : Int32) dX5_readNumber_23 (by decide) ?_
    refine x_icmp_eq 33 dX5_readNumber_24 (by decide) (fun q => ?_) (fun q => ?_)
    · have h := xif_t q h
      refine x_aload_n dX5_readNumber_33 rfl ?_
      refine x_get fX5_34 dX5_readNumber_34 rfl rfl rfl ?_
      refine x_iload_n dX5_readNumber_37 rfl ?_
      refine x_i2l dX5_readNumber_38 ?_
      refine x_lcmp dX5_readNumber_39 ?_
      refine x_if_lt 53 dX5_readNumber_40 (by decide) (fun q => ?_) (fun q => ?_)
      · have h := xif_t q h
        refine x_aload_n dX5_readNumber_53 rfl ?_
        refine x_iconst (4 : Int32) dX5_readNumber_54 (by decide) ?_
        obtain ⟨z55, y55, h⟩ := xbind h
        refine x_callV (t_hA_X5_fail (4 : Int32) z55 y55 (d + 4)) kX5_75 dX5_readNumber_55 rfl rfl rfl rfl rfl (Nat.le_of_ble_eq_true rfl) (Nat.le_of_ble_eq_true rfl) rfl rfl (Or.inl rfl) ?_
        obtain ⟨-, q58, h⟩ := xbo_of h
        cases h
        exact x_zret2 dX5_readNumber_58 rfl q58 rfl
      · have h := xif_f q h
        refine x_aload_n dX5_readNumber_43 rfl ?_
        refine x_get fX5_34 dX5_readNumber_44 rfl rfl rfl ?_
        refine x_iload_n dX5_readNumber_47 rfl ?_
        refine x_i2l dX5_readNumber_48 ?_
        refine x_lcmp dX5_readNumber_49 ?_
        refine x_if_le 59 dX5_readNumber_50 (by decide) (fun q => ?_) (fun q => ?_)
        · have h := xif_t q h
          refine x_aload_n dX5_readNumber_59 rfl ?_
          refine x_aload_n dX5_readNumber_60 rfl ?_
          refine x_get fX5_34 dX5_readNumber_61 rfl rfl rfl ?_
          refine x_l2i dX5_readNumber_64 ?_
          refine x_put (h2 := (hA g0 g1 g2 g3 g4 g5 g6 g7 g8 g9 g10 g11 g12 g13 g14 z16.1 g16 g17 z16.2.2.2 z16.2.2.1 z16.2.1.toInt32 g21 g22 g23 g24 g25 g26 g27 g28 g29 g30 g31 g32 g33 g34 g35 g36 a0 a1 a2 a3 a4 a5 a6 a7 a8 a9 a10 a11 a12 a13 a14 a15 a16 a17 a18 a19 a20 a21 a22 a23 a24 a25 a26 a27 a28 a29 a30 a31 a32 a33 a34 a35 a36 a37 a38 a39 b0 b1 b2 b3 b4 z16.2.1 (.ref 19) (.ref 1))) fX5_38 dX5_readNumber_65 rfl rfl (Nat.le_of_ble_eq_true rfl : 8 + 1 ≤ _) (fun α => ⟨rfl, rfl⟩) rfl ?_
          refine x_aload_n dX5_readNumber_68 rfl ?_
          obtain ⟨z69, y69, h⟩ := xbind h
          refine x_callV (t_hA_X5_readToken  z69 y69 (d + 2)) kX5_68 dX5_readNumber_69 rfl rfl rfl rfl rfl (Nat.le_of_ble_eq_true rfl) (Nat.le_of_ble_eq_true rfl) rfl rfl (Or.inl rfl) ?_
          refine x_iconst (1 : Int32) dX5_readNumber_72 (by decide) ?_
          cases h
          exact x_zret2 dX5_readNumber_73 rfl rfl rfl
        · have h := xif_f q h
          refine x_aload_n dX5_readNumber_53 rfl ?_
          refine x_iconst (4 : Int32) dX5_readNumber_54 (by decide) ?_
          obtain ⟨z55, y55, h⟩ := xbind h
          refine x_callV (t_hA_X5_fail (4 : Int32) z55 y55 (d + 4)) kX5_75 dX5_readNumber_55 rfl rfl rfl rfl rfl (Nat.le_of_ble_eq_true rfl) (Nat.le_of_ble_eq_true rfl) rfl rfl (Or.inl rfl) ?_
          obtain ⟨-, q58, h⟩ := xbo_of h
          cases h
          exact x_zret2 dX5_readNumber_58 rfl q58 rfl
    · have h := xif_f q h
      refine x_aload_n dX5_readNumber_27 rfl ?_
      refine x_iconst (1 : Int32) dX5_readNumber_28 (by decide) ?_
      obtain ⟨z29, y29, h⟩ := xbind h
      refine x_callV (t_hA_X5_fail (1 : Int32) z29 y29 (d + 4)) kX5_75 dX5_readNumber_29 rfl rfl rfl rfl rfl (Nat.le_of_ble_eq_true rfl) (Nat.le_of_ble_eq_true rfl) rfl rfl (Or.inl rfl) ?_
      obtain ⟨-, q32, h⟩ := xbo_of h
      cases h
      exact x_zret2 dX5_readNumber_32 rfl q32 rfl
  · have h := xif_t q h
    refine x_aload_n dX5_readNumber_9 rfl ?_
    refine x_iconst (1 : Int32) dX5_readNumber_10 (by decide) ?_
    obtain ⟨z11, y11, h⟩ := xbind h
    refine x_callV (t_hA_X5_fail (1 : Int32) z11 y11 (d + 4)) kX5_75 dX5_readNumber_11 rfl rfl rfl rfl rfl (Nat.le_of_ble_eq_true rfl) (Nat.le_of_ble_eq_true rfl) rfl rfl (Or.inl rfl) ?_
    obtain ⟨-, q14, h⟩ := xbo_of h
    cases h
    exact x_zret2 dX5_readNumber_14 rfl q14 rfl
set_option maxRecDepth 100000 in
set_option maxHeartbeats 4000000 in
theorem lp_hA_X5_indexAmong_5_17 {g0 g1 g2 g3 g4 g5 g6 g7 g8 g9 g10 g11 g12 g13 g14 g15 g16 g17 g18 g19 g20 g21 g22 g23 g24 g25 g26 g27 g28 g29 g30 g31 g32 g33 g34 g35 g36 : Int32} {a0 a1 a2 a3 a4 a5 a6 a7 a8 a9 a10 a11 a12 a13 a14 a15 a16 a17 a18 a19 a20 a21 a22 a23 a24 a25 a26 a27 a28 a29 a30 a31 a32 a33 a34 a35 a36 a37 a38 a39 : (Nat → Int32)} {b0 b1 b2 b3 b4 : (Nat → Int64)} {w0 : Int64} (d n0 : Nat)  (res : Int32) (K : Int32 → Int64 → Int32 → Option (Int32)) (hK : ∀ (l2_17 : Int32) (l3_17 : Int64) (l5_17 : Int32), K l2_17 l3_17 l5_17 = some res → xW xks YX5_indexAmong (d + 5) 0 0 n0 (xZ 0 0 n0 (some (.int res)) (hA g0 g1 g2 g3 g4 g5 g6 g7 g8 g9 g10 g11 g12 g13 g14 g15 g16 g17 g18 g19 g20 g21 g22 g23 g24 g25 g26 g27 g28 g29 g30 g31 g32 g33 g34 g35 g36 a0 a1 a2 a3 a4 a5 a6 a7 a8 a9 a10 a11 a12 a13 a14 a15 a16 a17 a18 a19 a20 a21 a22 a23 a24 a25 a26 a27 a28 a29 a30 a31 a32 a33 a34 a35 a36 a37 a38 a39 b0 b1 b2 b3 b4 w0 (.ref 19) (.ref 1))) 0 0 95 [none, none, none, none, none, none, none] [] (hA g0 g1 g2 g3 g4 g5 g6 g7 g8 g9 g10 g11 g12 g13 g14 g15 g16 g17 g18 g19 g20 g21 g22 g23 g24 g25 g26 g27 g28 g29 g30 g31 g32 g33 g34 g35 g36 a0 a1 a2 a3 a4 a5 a6 a7 a8 a9 a10 a11 a12 a13 a14 a15 a16 a17 a18 a19 a20 a21 a22 a23 a24 a25 a26 a27 a28 a29 a30 a31 a32 a33 a34 a35 a36 a37 a38 a39 b0 b1 b2 b3 b4 w0 (.ref 19) (.ref 1))) : ∀ (n : Nat) (l2_17 : Int32) (l3_17 : Int64) (l5_17 : Int32), L_hA_X5_indexAmong_17 g19 w0 (xsy 8)  K n l2_17 l3_17 l5_17 = some res → xW xks YX5_indexAmong (d + 5) 0 0 n0 (xZ 0 0 n0 (some (.int res)) (hA g0 g1 g2 g3 g4 g5 g6 g7 g8 g9 g10 g11 g12 g13 g14 g15 g16 g17 g18 g19 g20 g21 g22 g23 g24 g25 g26 g27 g28 g29 g30 g31 g32 g33 g34 g35 g36 a0 a1 a2 a3 a4 a5 a6 a7 a8 a9 a10 a11 a12 a13 a14 a15 a16 a17 a18 a19 a20 a21 a22 a23 a24 a25 a26 a27 a28 a29 a30 a31 a32 a33 a34 a35 a36 a37 a38 a39 b0 b1 b2 b3 b4 w0 (.ref 19) (.ref 1))) 0 0 17 [some (.ref 17), some (.ref 1008), some (.int l2_17), some (.long l3_17), none, some (.int l5_17), none] [] (hA g0 g1 g2 g3 g4 g5 g6 g7 g8 g9 g10 g11 g12 g13 g14 g15 g16 g17 g18 g19 g20 g21 g22 g23 g24 g25 g26 g27 g28 g29 g30 g31 g32 g33 g34 g35 g36 a0 a1 a2 a3 a4 a5 a6 a7 a8 a9 a10 a11 a12 a13 a14 a15 a16 a17 a18 a19 a20 a21 a22 a23 a24 a25 a26 a27 a28 a29 a30 a31 a32 a33 a34 a35 a36 a37 a38 a39 b0 b1 b2 b3 b4 w0 (.ref 19) (.ref 1)) := by
  intro n
  induction n with
  | zero =>
    intro l2_17 l3_17 l5_17 h
    cases (show (none : Option (Int32)) = some res from h)
  | succ n17 ih17 =>
    intro l2_17 l3_17 l5_17 h
    unfold L_hA_X5_indexAmong_17 at h
    refine x_iload dX5_indexAmong_17 rfl ?_
    refine x_aload_n dX5_indexAmong_19 rfl ?_
    refine x_slen (k := 8) (s := xsy 8) rfl rfl (Nat.le_of_ble_eq_true rfl) kX5_93 dX5_indexAmong_20 (Nat.le_of_ble_eq_true rfl) ?_
    refine x_icmp_gt 95 dX5_indexAmong_23 (by decide) (fun q => ?_) (fun q => ?_)
    · have h := xif_t q h
      refine x_weak (pl2 := [none, none, none, none, none, none, none]) trivial ?_
      exact hK l2_17 l3_17 l5_17 h
    · have h := xif_f q h
      refine x_iload dX5_indexAmong_26 rfl ?_
      refine x_aload_n dX5_indexAmong_28 rfl ?_
      refine x_slen (k := 8) (s := xsy 8) rfl rfl (Nat.le_of_ble_eq_true rfl) kX5_93 dX5_indexAmong_29 (Nat.le_of_ble_eq_true rfl) ?_
      refine x_icmp_ge 44 dX5_indexAmong_32 (by decide) (fun q => ?_) (fun q => ?_)
      · have h := xif_t q h
        refine x_bipush (32 : Int32) dX5_indexAmong_44 (by decide) ?_
        refine x_istore (pl' := [some (.ref 17), some (.ref 1008), some (.int l2_17), some (.long l3_17), none, some (.int l5_17), some (.int (32 : Int32))]) dX5_indexAmong_46 (by decide) rfl ?_
        refine x_iload dX5_indexAmong_48 rfl ?_
        refine x_bipush (32 : Int32) dX5_indexAmong_50 (by decide) ?_
        refine x_icmp_eq 73 dX5_indexAmong_52 (by decide) (fun q => ?_) (fun q => ?_)
        · have h := xif_t q h
          refine x_lload_n dX5_indexAmong_73 rfl ?_
          refine x_aload_n dX5_indexAmong_74 rfl ?_
          refine x_get fX5_34 dX5_indexAmong_75 rfl rfl rfl ?_
          refine x_lcmp dX5_indexAmong_78 ?_
          refine x_if_ne 84 dX5_indexAmong_79 (by decide) (fun q => ?_) (fun q => ?_)
          · have h := xif_f q h
            refine x_iincK (1 : Int32) (pl' := [some (.ref 17), some (.ref 1008), some (.int (l2_17 + (1 : Int32))), some (.long l3_17), none, some (.int l5_17), some (.int (32 : Int32))]) dX5_indexAmong_84 rfl (by decide) (by decide) rfl ?_
            refine x_lconst (0 : Int64) dX5_indexAmong_87 (by decide) ?_
            refine x_lstore_n (pl' := [some (.ref 17), some (.ref 1008), some (.int (l2_17 + (1 : Int32))), some (.long (0 : Int64)), none, some (.int l5_17), some (.int (32 : Int32))]) dX5_indexAmong_88 (by decide) rfl ?_
            refine x_iincK (1 : Int32) (pl' := [some (.ref 17), some (.ref 1008), some (.int (l2_17 + (1 : Int32))), some (.long (0 : Int64)), none, some (.int (l5_17 + (1 : Int32))), some (.int (32 : Int32))]) dX5_indexAmong_89 rfl (by decide) (by decide) rfl ?_
            refine x_goto 17 dX5_indexAmong_92 (by decide) ?_
            refine x_weak (pl2 := [some (.ref 17), some (.ref 1008), some (.int (l2_17 + (1 : Int32))), some (.long (0 : Int64)), none, some (.int (l5_17 + (1 : Int32))), none]) ⟨rfl, rfl, rfl, rfl, rfl, trivial⟩ ?_
            exact ih17 (l2_17 + (1 : Int32)) (0 : Int64) (l5_17 + (1 : Int32)) h
          · have h := xif_t q h
            refine x_iload_n dX5_indexAmong_82 rfl ?_
            cases h
            exact x_iret2 dX5_indexAmong_83 rfl rfl
        · have h := xif_f q h
          refine x_lload_n dX5_indexAmong_55 rfl ?_
          refine x_ldc2 iX5_102 dX5_indexAmong_56 ?_
          refine x_lmul dX5_indexAmong_59 ?_
          refine x_iload dX5_indexAmong_60 rfl ?_
          refine x_bipush (97 : Int32) dX5_indexAmong_62 (by decide) ?_
          refine x_isub dX5_indexAmong_64 ?_
          refine x_iconst (1 : Int32) dX5_indexAmong_65 (by decide) ?_
          refine x_iadd dX5_indexAmong_66 ?_
          refine x_i2l dX5_indexAmong_67 ?_
          refine x_ladd dX5_indexAmong_68 ?_
          refine x_lstore_n (pl' := [some (.ref 17), some (.ref 1008), some (.int l2_17), some (.long ((l3_17 * (27 : Int64)) + (((32 : Int32) - (97 : Int32)) + (1 : Int32)).toInt64)), none, some (.int l5_17), some (.int (32 : Int32))]) dX5_indexAmong_69 (by decide) rfl ?_
          refine x_goto 89 dX5_indexAmong_70 (by decide) ?_
          refine x_iincK (1 : Int32) (pl' := [some (.ref 17), some (.ref 1008), some (.int l2_17), some (.long ((l3_17 * (27 : Int64)) + (((32 : Int32) - (97 : Int32)) + (1 : Int32)).toInt64)), none, some (.int (l5_17 + (1 : Int32))), some (.int (32 : Int32))]) dX5_indexAmong_89 rfl (by decide) (by decide) rfl ?_
          refine x_goto 17 dX5_indexAmong_92 (by decide) ?_
          refine x_weak (pl2 := [some (.ref 17), some (.ref 1008), some (.int l2_17), some (.long ((l3_17 * (27 : Int64)) + (((32 : Int32) - (97 : Int32)) + (1 : Int32)).toInt64)), none, some (.int (l5_17 + (1 : Int32))), none]) ⟨rfl, rfl, rfl, rfl, rfl, trivial⟩ ?_
          exact ih17 l2_17 ((l3_17 * (27 : Int64)) + (((32 : Int32) - (97 : Int32)) + (1 : Int32)).toInt64) (l5_17 + (1 : Int32)) h
      · have h := xif_f q h
        refine x_aload_n dX5_indexAmong_35 rfl ?_
        refine x_iload dX5_indexAmong_36 rfl ?_
        obtain ⟨q38, h⟩ := xix_of h
        refine x_schar (k := 8) (s := xsy 8) rfl rfl q38 (Nat.le_of_ble_eq_true rfl) kX5_98 dX5_indexAmong_38 (Nat.le_of_ble_eq_true rfl) ?_
        refine x_goto 46 dX5_indexAmong_41 (by decide) ?_
        refine x_istore (pl' := [some (.ref 17), some (.ref 1008), some (.int l2_17), some (.long l3_17), none, some (.int l5_17), some (.int (xch (xsy 8) l5_17))]) dX5_indexAmong_46 (by decide) rfl ?_
        refine x_iload dX5_indexAmong_48 rfl ?_
        refine x_bipush (32 : Int32) dX5_indexAmong_50 (by decide) ?_
        refine x_icmp_eq 73 dX5_indexAmong_52 (by decide) (fun q => ?_) (fun q => ?_)
        · have h := xif_t q h
          refine x_lload_n dX5_indexAmong_73 rfl ?_
          refine x_aload_n dX5_indexAmong_74 rfl ?_
          refine x_get fX5_34 dX5_indexAmong_75 rfl rfl rfl ?_
          refine x_lcmp dX5_indexAmong_78 ?_
          refine x_if_ne 84 dX5_indexAmong_79 (by decide) (fun q => ?_) (fun q => ?_)
          · have h := xif_f q h
            refine x_iincK (1 : Int32) (pl' := [some (.ref 17), some (.ref 1008), some (.int (l2_17 + (1 : Int32))), some (.long l3_17), none, some (.int l5_17), some (.int (xch (xsy 8) l5_17))]) dX5_indexAmong_84 rfl (by decide) (by decide) rfl ?_
            refine x_lconst (0 : Int64) dX5_indexAmong_87 (by decide) ?_
            refine x_lstore_n (pl' := [some (.ref 17), some (.ref 1008), some (.int (l2_17 + (1 : Int32))), some (.long (0 : Int64)), none, some (.int l5_17), some (.int (xch (xsy 8) l5_17))]) dX5_indexAmong_88 (by decide) rfl ?_
            refine x_iincK (1 : Int32) (pl' := [some (.ref 17), some (.ref 1008), some (.int (l2_17 + (1 : Int32))), some (.long (0 : Int64)), none, some (.int (l5_17 + (1 : Int32))), some (.int (xch (xsy 8) l5_17))]) dX5_indexAmong_89 rfl (by decide) (by decide) rfl ?_
            refine x_goto 17 dX5_indexAmong_92 (by decide) ?_
            refine x_weak (pl2 := [some (.ref 17), some (.ref 1008), some (.int (l2_17 + (1 : Int32))), some (.long (0 : Int64)), none, some (.int (l5_17 + (1 : Int32))), none]) ⟨rfl, rfl, rfl, rfl, rfl, trivial⟩ ?_
            exact ih17 (l2_17 + (1 : Int32)) (0 : Int64) (l5_17 + (1 : Int32)) h
          · have h := xif_t q h
            refine x_iload_n dX5_indexAmong_82 rfl ?_
            cases h
            exact x_iret2 dX5_indexAmong_83 rfl rfl
        · have h := xif_f q h
          refine x_lload_n dX5_indexAmong_55 rfl ?_
          refine x_ldc2 iX5_102 dX5_indexAmong_56 ?_
          refine x_lmul dX5_indexAmong_59 ?_
          refine x_iload dX5_indexAmong_60 rfl ?_
          refine x_bipush (97 : Int32) dX5_indexAmong_62 (by decide) ?_
          refine x_isub dX5_indexAmong_64 ?_
          refine x_iconst (1 : Int32) dX5_indexAmong_65 (by decide) ?_
          refine x_iadd dX5_indexAmong_66 ?_
          refine x_i2l dX5_indexAmong_67 ?_
          refine x_ladd dX5_indexAmong_68 ?_
          refine x_lstore_n (pl' := [some (.ref 17), some (.ref 1008), some (.int l2_17), some (.long ((l3_17 * (27 : Int64)) + (((xch (xsy 8) l5_17) - (97 : Int32)) + (1 : Int32)).toInt64)), none, some (.int l5_17), some (.int (xch (xsy 8) l5_17))]) dX5_indexAmong_69 (by decide) rfl ?_
          refine x_goto 89 dX5_indexAmong_70 (by decide) ?_
          refine x_iincK (1 : Int32) (pl' := [some (.ref 17), some (.ref 1008), some (.int l2_17), some (.long ((l3_17 * (27 : Int64)) + (((xch (xsy 8) l5_17) - (97 : Int32)) + (1 : Int32)).toInt64)), none, some (.int (l5_17 + (1 : Int32))), some (.int (xch (xsy 8) l5_17))]) dX5_indexAmong_89 rfl (by decide) (by decide) rfl ?_
          refine x_goto 17 dX5_indexAmong_92 (by decide) ?_
          refine x_weak (pl2 := [some (.ref 17), some (.ref 1008), some (.int l2_17), some (.long ((l3_17 * (27 : Int64)) + (((xch (xsy 8) l5_17) - (97 : Int32)) + (1 : Int32)).toInt64)), none, some (.int (l5_17 + (1 : Int32))), none]) ⟨rfl, rfl, rfl, rfl, rfl, trivial⟩ ?_
          exact ih17 l2_17 ((l3_17 * (27 : Int64)) + (((xch (xsy 8) l5_17) - (97 : Int32)) + (1 : Int32)).toInt64) (l5_17 + (1 : Int32)) h
set_option maxRecDepth 100000 in
set_option maxHeartbeats 4000000 in
theorem t_hA_X5_indexAmong_5 {g0 g1 g2 g3 g4 g5 g6 g7 g8 g9 g10 g11 g12 g13 g14 g15 g16 g17 g18 g19 g20 g21 g22 g23 g24 g25 g26 g27 g28 g29 g30 g31 g32 g33 g34 g35 g36 : Int32} {a0 a1 a2 a3 a4 a5 a6 a7 a8 a9 a10 a11 a12 a13 a14 a15 a16 a17 a18 a19 a20 a21 a22 a23 a24 a25 a26 a27 a28 a29 a30 a31 a32 a33 a34 a35 a36 a37 a38 a39 : (Nat → Int32)} {b0 b1 b2 b3 b4 : (Nat → Int64)} {w0 : Int64}  (res : Int32) (h : e_hA_X5_indexAmong g19 w0 (xsy 8)  = some res) (d : Nat) : xMet xks YX5_indexAmong (d + 5) 0 0 [.ref 17, .ref 1008] (hA g0 g1 g2 g3 g4 g5 g6 g7 g8 g9 g10 g11 g12 g13 g14 g15 g16 g17 g18 g19 g20 g21 g22 g23 g24 g25 g26 g27 g28 g29 g30 g31 g32 g33 g34 g35 g36 a0 a1 a2 a3 a4 a5 a6 a7 a8 a9 a10 a11 a12 a13 a14 a15 a16 a17 a18 a19 a20 a21 a22 a23 a24 a25 a26 a27 a28 a29 a30 a31 a32 a33 a34 a35 a36 a37 a38 a39 b0 b1 b2 b3 b4 w0 (.ref 19) (.ref 1)) (some (.int res)) (hA g0 g1 g2 g3 g4 g5 g6 g7 g8 g9 g10 g11 g12 g13 g14 g15 g16 g17 g18 g19 g20 g21 g22 g23 g24 g25 g26 g27 g28 g29 g30 g31 g32 g33 g34 g35 g36 a0 a1 a2 a3 a4 a5 a6 a7 a8 a9 a10 a11 a12 a13 a14 a15 a16 a17 a18 a19 a20 a21 a22 a23 a24 a25 a26 a27 a28 a29 a30 a31 a32 a33 a34 a35 a36 a37 a38 a39 b0 b1 b2 b3 b4 w0 (.ref 19) (.ref 1)) := by
  unfold e_hA_X5_indexAmong at h
  refine xMet_of (pl := [some (.ref 17), some (.ref 1008), none, none, none, none, none]) (by decide) (Nat.le_of_ble_eq_true rfl) rfl (Nat.le_of_ble_eq_true rfl) ?_
  refine x_aload_n dX5_indexAmong_0 rfl ?_
  refine x_get fX5_31 dX5_indexAmong_1 rfl rfl rfl ?_
  refine x_iconst (1 : Int32) dX5_indexAmong_4 (by decide) ?_
  refine x_icmp_eq 10 dX5_indexAmong_5 (by decide) (fun q => ?_) (fun q => ?_)
  · have h := xif_t q h
    refine x_iconst (0 : Int32) dX5_indexAmong_10 (by decide) ?_
    refine x_istore_n (pl' := [some (.ref 17), some (.ref 1008), some (.int (0 : Int32)), none, none, none, none]) dX5_indexAmong_11 (by decide) rfl ?_
    refine x_lconst (0 : Int64) dX5_indexAmong_12 (by decide) ?_
    refine x_lstore_n (pl' := [some (.ref 17), some (.ref 1008), some (.int (0 : Int32)), some (.long (0 : Int64)), none, none, none]) dX5_indexAmong_13 (by decide) rfl ?_
    refine x_iconst (0 : Int32) dX5_indexAmong_14 (by decide) ?_
    refine x_istore (pl' := [some (.ref 17), some (.ref 1008), some (.int (0 : Int32)), some (.long (0 : Int64)), none, some (.int (0 : Int32)), none]) dX5_indexAmong_15 (by decide) rfl ?_
    refine x_weak (pl2 := [some (.ref 17), some (.ref 1008), some (.int (0 : Int32)), some (.long (0 : Int64)), none, some (.int (0 : Int32)), none]) ⟨rfl, rfl, rfl, rfl, rfl, trivial⟩ ?_
    refine lp_hA_X5_indexAmong_5_17 d _  res _ (fun l2_17 l3_17 l5_17 h => ?_) 200000 (0 : Int32) (0 : Int64) (0 : Int32) h
    refine x_iconst (-1 : Int32) dX5_indexAmong_95 (by decide) ?_
    cases h
    exact x_iret2 dX5_indexAmong_96 rfl rfl
  · have h := xif_f q h
    refine x_iconst (-1 : Int32) dX5_indexAmong_8 (by decide) ?_
    cases h
    exact x_iret2 dX5_indexAmong_9 rfl rfl
set_option maxRecDepth 100000 in
set_option maxHeartbeats 4000000 in
theorem t_hA_X5_readNumber_3 {g0 g1 g2 g3 g4 g5 g6 g7 g8 g9 g10 g11 g12 g13 g14 g15 g16 g17 g18 g19 g20 g21 g22 g23 g24 g25 g26 g27 g28 g29 g30 g31 g32 g33 g34 g35 g36 : Int32} {a0 a1 a2 a3 a4 a5 a6 a7 a8 a9 a10 a11 a12 a13 a14 a15 a16 a17 a18 a19 a20 a21 a22 a23 a24 a25 a26 a27 a28 a29 a30 a31 a32 a33 a34 a35 a36 a37 a38 a39 : (Nat → Int32)} {b0 b1 b2 b3 b4 : (Nat → Int64)} {w0 : Int64} (x2 : Int32) (x3 : Int32) (res : Int32 × Int32 × Int64 × Int32 × Int32 × Int32 × Int32) (h : e_hA_X5_readNumber g19 w0 g18 g17 g15 a13 g14 g20 (xsy 8) x2 x3 = some res) (d : Nat) : xMet xks YX5_readNumber (d + 6) 0 0 [.ref 17, .ref 1008, .int x2, .int x3] (hA g0 g1 g2 g3 g4 g5 g6 g7 g8 g9 g10 g11 g12 g13 g14 g15 g16 g17 g18 g19 g20 g21 g22 g23 g24 g25 g26 g27 g28 g29 g30 g31 g32 g33 g34 g35 g36 a0 a1 a2 a3 a4 a5 a6 a7 a8 a9 a10 a11 a12 a13 a14 a15 a16 a17 a18 a19 a20 a21 a22 a23 a24 a25 a26 a27 a28 a29 a30 a31 a32 a33 a34 a35 a36 a37 a38 a39 b0 b1 b2 b3 b4 w0 (.ref 19) (.ref 1)) (some (.int res.1)) (hA g0 g1 g2 g3 g4 g5 g6 g7 g8 g9 g10 g11 g12 g13 res.2.2.2.2.2.1 res.2.1 g16 g17 res.2.2.2.2.1 res.2.2.2.1 res.2.2.2.2.2.2 g21 g22 g23 g24 g25 g26 g27 g28 g29 g30 g31 g32 g33 g34 g35 g36 a0 a1 a2 a3 a4 a5 a6 a7 a8 a9 a10 a11 a12 a13 a14 a15 a16 a17 a18 a19 a20 a21 a22 a23 a24 a25 a26 a27 a28 a29 a30 a31 a32 a33 a34 a35 a36 a37 a38 a39 b0 b1 b2 b3 b4 res.2.2.1 (.ref 19) (.ref 1)) := by
  unfold e_hA_X5_readNumber at h
  refine xMet_of (pl := [some (.ref 17), some (.ref 1008), some (.int x2), some (.int x3)]) (by decide) (Nat.le_of_ble_eq_true rfl) rfl (Nat.le_of_ble_eq_true rfl) ?_
  refine x_aload_n dX5_readNumber_0 rfl ?_
  refine x_aload_n dX5_readNumber_1 rfl ?_
  obtain ⟨z2, y2, h⟩ := xbind h
  refine x_callV (t_hA_X5_indexAmong_5  z2 y2 (d + 0)) kX5_104 dX5_readNumber_2 rfl rfl rfl rfl rfl (Nat.le_of_ble_eq_true rfl) (Nat.le_of_ble_eq_true rfl) rfl rfl (Or.inl rfl) ?_
  refine x_iconst (-1 : Int32) dX5_readNumber_5 (by decide) ?_
  refine x_icmp_ne 15 dX5_readNumber_6 (by decide) (fun q => ?_) (fun q => ?_)
  · have h := xif_f q h
    refine x_aload_n dX5_readNumber_15 rfl ?_
    obtain ⟨z16, y16, h⟩ := xbind h
    refine x_callV (t_hA_X5_readToken  z16 y16 (d + 2)) kX5_68 dX5_readNumber_16 rfl rfl rfl rfl rfl (Nat.le_of_ble_eq_true rfl) (Nat.le_of_ble_eq_true rfl) rfl rfl (Or.inl rfl) ?_
    refine x_aload_n dX5_readNumber_19 rfl ?_
    refine x_get fX5_31 dX5_readNumber_20 rfl rfl rfl ?_
    refine x_iconst (2 : Int32) dX5_readNumber_23 (by decide) ?_
    refine x_icmp_eq 33 dX5_readNumber_24 (by decide) (fun q => ?_) (fun q => ?_)
    · have h := xif_t q h
      refine x_aload_n dX5_readNumber_33 rfl ?_
      refine x_get fX5_34 dX5_readNumber_34 rfl rfl rfl ?_
      refine x_iload_n dX5_readNumber_37 rfl ?_
      refine x_i2l dX5_readNumber_38 ?_
      refine x_lcmp dX5_readNumber_39 ?_
      refine x_if_lt 53 dX5_readNumber_40 (by decide) (fun q => ?_) (fun q => ?_)
      · have h := xif_t q h
        refine x_aload_n dX5_readNumber_53 rfl ?_
        refine x_iconst (4 : Int32) dX5_readNumber_54 (by decide) ?_
        obtain ⟨z55, y55, h⟩ := xbind h
        refine x_callV (t_hA_X5_fail (4 : Int32) z55 y55 (d + 4)) kX5_75 dX5_readNumber_55 rfl rfl rfl rfl rfl (Nat.le_of_ble_eq_true rfl) (Nat.le_of_ble_eq_true rfl) rfl rfl (Or.inl rfl) ?_
        obtain ⟨-, q58, h⟩ := xbo_of h
        cases h
        exact x_zret2 dX5_readNumber_58 rfl q58 rfl
      · have h := xif_f q h
        refine x_aload_n dX5_readNumber_43 rfl ?_
        refine x_get fX5_34 dX5_readNumber_44 rfl rfl rfl ?_
        refine x_iload_n dX5_readNumber_47 rfl ?_
        refine x_i2l dX5_readNumber_48 ?_
        refine x_lcmp dX5_readNumber_49 ?_
        refine x_if_le 59 dX5_readNumber_50 (by decide) (fun q => ?_) (fun q => ?_)
        · have h := xif_t q h
          refine x_aload_n dX5_readNumber_59 rfl ?_
          refine x_aload_n dX5_readNumber_60 rfl ?_
          refine x_get fX5_34 dX5_readNumber_61 rfl rfl rfl ?_
          refine x_l2i dX5_readNumber_64 ?_
          refine x_put (h2 := (hA g0 g1 g2 g3 g4 g5 g6 g7 g8 g9 g10 g11 g12 g13 g14 z16.1 g16 g17 z16.2.2.2 z16.2.2.1 z16.2.1.toInt32 g21 g22 g23 g24 g25 g26 g27 g28 g29 g30 g31 g32 g33 g34 g35 g36 a0 a1 a2 a3 a4 a5 a6 a7 a8 a9 a10 a11 a12 a13 a14 a15 a16 a17 a18 a19 a20 a21 a22 a23 a24 a25 a26 a27 a28 a29 a30 a31 a32 a33 a34 a35 a36 a37 a38 a39 b0 b1 b2 b3 b4 z16.2.1 (.ref 19) (.ref 1))) fX5_38 dX5_readNumber_65 rfl rfl (Nat.le_of_ble_eq_true rfl : 8 + 1 ≤ _) (fun α => ⟨rfl, rfl⟩) rfl ?_
          refine x_aload_n dX5_readNumber_68 rfl ?_
          obtain ⟨z69, y69, h⟩ := xbind h
          refine x_callV (t_hA_X5_readToken  z69 y69 (d + 2)) kX5_68 dX5_readNumber_69 rfl rfl rfl rfl rfl (Nat.le_of_ble_eq_true rfl) (Nat.le_of_ble_eq_true rfl) rfl rfl (Or.inl rfl) ?_
          refine x_iconst (1 : Int32) dX5_readNumber_72 (by decide) ?_
          cases h
          exact x_zret2 dX5_readNumber_73 rfl rfl rfl
        · have h := xif_f q h
          refine x_aload_n dX5_readNumber_53 rfl ?_
          refine x_iconst (4 : Int32) dX5_readNumber_54 (by decide) ?_
          obtain ⟨z55, y55, h⟩ := xbind h
          refine x_callV (t_hA_X5_fail (4 : Int32) z55 y55 (d + 4)) kX5_75 dX5_readNumber_55 rfl rfl rfl rfl rfl (Nat.le_of_ble_eq_true rfl) (Nat.le_of_ble_eq_true rfl) rfl rfl (Or.inl rfl) ?_
          obtain ⟨-, q58, h⟩ := xbo_of h
          cases h
          exact x_zret2 dX5_readNumber_58 rfl q58 rfl
    · have h := xif_f q h
      refine x_aload_n dX5_readNumber_27 rfl ?_
      refine x_iconst (1 : Int32) dX5_readNumber_28 (by decide) ?_
      obtain ⟨z29, y29, h⟩ := xbind h
      refine x_callV (t_hA_X5_fail (1 : Int32) z29 y29 (d + 4)) kX5_75 dX5_readNumber_29 rfl rfl rfl rfl rfl (Nat.le_of_ble_eq_true rfl) (Nat.le_of_ble_eq_true rfl) rfl rfl (Or.inl rfl) ?_
      obtain ⟨-, q32, h⟩ := xbo_of h
      cases h
      exact x_zret2 dX5_readNumber_32 rfl q32 rfl
  · have h := xif_t q h
    refine x_aload_n dX5_readNumber_9 rfl ?_
    refine x_iconst (1 : Int32) dX5_readNumber_10 (by decide) ?_
    obtain ⟨z11, y11, h⟩ := xbind h
    refine x_callV (t_hA_X5_fail (1 : Int32) z11 y11 (d + 4)) kX5_75 dX5_readNumber_11 rfl rfl rfl rfl rfl (Nat.le_of_ble_eq_true rfl) (Nat.le_of_ble_eq_true rfl) rfl rfl (Or.inl rfl) ?_
    obtain ⟨-, q14, h⟩ := xbo_of h
    cases h
    exact x_zret2 dX5_readNumber_14 rfl q14 rfl
set_option maxRecDepth 100000 in
set_option maxHeartbeats 4000000 in
theorem lp_hA_X5_indexAmong_6_17 {g0 g1 g2 g3 g4 g5 g6 g7 g8 g9 g10 g11 g12 g13 g14 g15 g16 g17 g18 g19 g20 g21 g22 g23 g24 g25 g26 g27 g28 g29 g30 g31 g32 g33 g34 g35 g36 : Int32} {a0 a1 a2 a3 a4 a5 a6 a7 a8 a9 a10 a11 a12 a13 a14 a15 a16 a17 a18 a19 a20 a21 a22 a23 a24 a25 a26 a27 a28 a29 a30 a31 a32 a33 a34 a35 a36 a37 a38 a39 : (Nat → Int32)} {b0 b1 b2 b3 b4 : (Nat → Int64)} {w0 : Int64} (d n0 : Nat)  (res : Int32) (K : Int32 → Int64 → Int32 → Option (Int32)) (hK : ∀ (l2_17 : Int32) (l3_17 : Int64) (l5_17 : Int32), K l2_17 l3_17 l5_17 = some res → xW xks YX5_indexAmong (d + 5) 0 0 n0 (xZ 0 0 n0 (some (.int res)) (hA g0 g1 g2 g3 g4 g5 g6 g7 g8 g9 g10 g11 g12 g13 g14 g15 g16 g17 g18 g19 g20 g21 g22 g23 g24 g25 g26 g27 g28 g29 g30 g31 g32 g33 g34 g35 g36 a0 a1 a2 a3 a4 a5 a6 a7 a8 a9 a10 a11 a12 a13 a14 a15 a16 a17 a18 a19 a20 a21 a22 a23 a24 a25 a26 a27 a28 a29 a30 a31 a32 a33 a34 a35 a36 a37 a38 a39 b0 b1 b2 b3 b4 w0 (.ref 19) (.ref 1))) 0 0 95 [none, none, none, none, none, none, none] [] (hA g0 g1 g2 g3 g4 g5 g6 g7 g8 g9 g10 g11 g12 g13 g14 g15 g16 g17 g18 g19 g20 g21 g22 g23 g24 g25 g26 g27 g28 g29 g30 g31 g32 g33 g34 g35 g36 a0 a1 a2 a3 a4 a5 a6 a7 a8 a9 a10 a11 a12 a13 a14 a15 a16 a17 a18 a19 a20 a21 a22 a23 a24 a25 a26 a27 a28 a29 a30 a31 a32 a33 a34 a35 a36 a37 a38 a39 b0 b1 b2 b3 b4 w0 (.ref 19) (.ref 1))) : ∀ (n : Nat) (l2_17 : Int32) (l3_17 : Int64) (l5_17 : Int32), L_hA_X5_indexAmong_17 g19 w0 (xsy 9)  K n l2_17 l3_17 l5_17 = some res → xW xks YX5_indexAmong (d + 5) 0 0 n0 (xZ 0 0 n0 (some (.int res)) (hA g0 g1 g2 g3 g4 g5 g6 g7 g8 g9 g10 g11 g12 g13 g14 g15 g16 g17 g18 g19 g20 g21 g22 g23 g24 g25 g26 g27 g28 g29 g30 g31 g32 g33 g34 g35 g36 a0 a1 a2 a3 a4 a5 a6 a7 a8 a9 a10 a11 a12 a13 a14 a15 a16 a17 a18 a19 a20 a21 a22 a23 a24 a25 a26 a27 a28 a29 a30 a31 a32 a33 a34 a35 a36 a37 a38 a39 b0 b1 b2 b3 b4 w0 (.ref 19) (.ref 1))) 0 0 17 [some (.ref 17), some (.ref 1009), some (.int l2_17), some (.long l3_17), none, some (.int l5_17), none] [] (hA g0 g1 g2 g3 g4 g5 g6 g7 g8 g9 g10 g11 g12 g13 g14 g15 g16 g17 g18 g19 g20 g21 g22 g23 g24 g25 g26 g27 g28 g29 g30 g31 g32 g33 g34 g35 g36 a0 a1 a2 a3 a4 a5 a6 a7 a8 a9 a10 a11 a12 a13 a14 a15 a16 a17 a18 a19 a20 a21 a22 a23 a24 a25 a26 a27 a28 a29 a30 a31 a32 a33 a34 a35 a36 a37 a38 a39 b0 b1 b2 b3 b4 w0 (.ref 19) (.ref 1)) := by
  intro n
  induction n with
  | zero =>
    intro l2_17 l3_17 l5_17 h
    cases (show (none : Option (Int32)) = some res from h)
  | succ n17 ih17 =>
    intro l2_17 l3_17 l5_17 h
    unfold L_hA_X5_indexAmong_17 at h
    refine x_iload dX5_indexAmong_17 rfl ?_
    refine x_aload_n dX5_indexAmong_19 rfl ?_
    refine x_slen (k := 9) (s := xsy 9) rfl rfl (Nat.le_of_ble_eq_true rfl) kX5_93 dX5_indexAmong_20 (Nat.le_of_ble_eq_true rfl) ?_
    refine x_icmp_gt 95 dX5_indexAmong_23 (by decide) (fun q => ?_) (fun q => ?_)
    · have h := xif_t q h
      refine x_weak (pl2 := [none, none, none, none, none, none, none]) trivial ?_
      exact hK l2_17 l3_17 l5_17 h
    · have h := xif_f q h
      refine x_iload dX5_indexAmong_26 rfl ?_
      refine x_aload_n dX5_indexAmong_28 rfl ?_
      refine x_slen (k := 9) (s := xsy 9) rfl rfl (Nat.le_of_ble_eq_true rfl) kX5_93 dX5_indexAmong_29 (Nat.le_of_ble_eq_true rfl) ?_
      refine x_icmp_ge 44 dX5_indexAmong_32 (by decide) (fun q => ?_) (fun q => ?_)
      · have h := xif_t q h
        refine x_bipush (32 : Int32) dX5_indexAmong_44 (by decide) ?_
        refine x_istore (pl' := [some (.ref 17), some (.ref 1009), some (.int l2_17), some (.long l3_17), none, some (.int l5_17), some (.int (32 : Int32))]) dX5_indexAmong_46 (by decide) rfl ?_
        refine x_iload dX5_indexAmong_48 rfl ?_
        refine x_bipush (32 : Int32) dX5_indexAmong_50 (by decide) ?_
        refine x_icmp_eq 73 dX5_indexAmong_52 (by decide) (fun q => ?_) (fun q => ?_)
        · have h := xif_t q h
          refine x_lload_n dX5_indexAmong_73 rfl ?_
          refine x_aload_n dX5_indexAmong_74 rfl ?_
          refine x_get fX5_34 dX5_indexAmong_75 rfl rfl rfl ?_
          refine x_lcmp dX5_indexAmong_78 ?_
          refine x_if_ne 84 dX5_indexAmong_79 (by decide) (fun q => ?_) (fun q => ?_)
          · have h := xif_f q h
            refine x_iincK (1 : Int32) (pl' := [some (.ref 17), some (.ref 1009), some (.int (l2_17 + (1 : Int32))), some (.long l3_17), none, some (.int l5_17), some (.int (32 : Int32))]) dX5_indexAmong_84 rfl (by decide) (by decide) rfl ?_
            refine x_lconst (0 : Int64) dX5_indexAmong_87 (by decide) ?_
            refine x_lstore_n (pl' := [some (.ref 17), some (.ref 1009), some (.int (l2_17 + (1 : Int32))), some (.long (0 : Int64)), none, some (.int l5_17), some (.int (32 : Int32))]) dX5_indexAmong_88 (by decide) rfl ?_
            refine x_iincK (1 : Int32) (pl' := [some (.ref 17), some (.ref 1009), some (.int (l2_17 + (1 : Int32))), some (.long (0 : Int64)), none, some (.int (l5_17 + (1 : Int32))), some (.int (32 : Int32))]) dX5_indexAmong_89 rfl (by decide) (by decide) rfl ?_
            refine x_goto 17 dX5_indexAmong_92 (by decide) ?_
            refine x_weak (pl2 := [some (.ref 17), some (.ref 1009), some (.int (l2_17 + (1 : Int32))), some (.long (0 : Int64)), none, some (.int (l5_17 + (1 : Int32))), none]) ⟨rfl, rfl, rfl, rfl, rfl, trivial⟩ ?_
            exact ih17 (l2_17 + (1 : Int32)) (0 : Int64) (l5_17 + (1 : Int32)) h
          · have h := xif_t q h
            refine x_iload_n dX5_indexAmong_82 rfl ?_
            cases h
            exact x_iret2 dX5_indexAmong_83 rfl rfl
        · have h := xif_f q h
          refine x_lload_n dX5_indexAmong_55 rfl ?_
          refine x_ldc2 iX5_102 dX5_indexAmong_56 ?_
          refine x_lmul dX5_indexAmong_59 ?_
          refine x_iload dX5_indexAmong_60 rfl ?_
          refine x_bipush (97 : Int32) dX5_indexAmong_62 (by decide) ?_
          refine x_isub dX5_indexAmong_64 ?_
          refine x_iconst (1 : Int32) dX5_indexAmong_65 (by decide) ?_
          refine x_iadd dX5_indexAmong_66 ?_
          refine x_i2l dX5_indexAmong_67 ?_
          refine x_ladd dX5_indexAmong_68 ?_
          refine x_lstore_n (pl' := [some (.ref 17), some (.ref 1009), some (.int l2_17), some (.long ((l3_17 * (27 : Int64)) + (((32 : Int32) - (97 : Int32)) + (1 : Int32)).toInt64)), none, some (.int l5_17), some (.int (32 : Int32))]) dX5_indexAmong_69 (by decide) rfl ?_
          refine x_goto 89 dX5_indexAmong_70 (by decide) ?_
          refine x_iincK (1 : Int32) (pl' := [some (.ref 17), some (.ref 1009), some (.int l2_17), some (.long ((l3_17 * (27 : Int64)) + (((32 : Int32) - (97 : Int32)) + (1 : Int32)).toInt64)), none, some (.int (l5_17 + (1 : Int32))), some (.int (32 : Int32))]) dX5_indexAmong_89 rfl (by decide) (by decide) rfl ?_
          refine x_goto 17 dX5_indexAmong_92 (by decide) ?_
          refine x_weak (pl2 := [some (.ref 17), some (.ref 1009), some (.int l2_17), some (.long ((l3_17 * (27 : Int64)) + (((32 : Int32) - (97 : Int32)) + (1 : Int32)).toInt64)), none, some (.int (l5_17 + (1 : Int32))), none]) ⟨rfl, rfl, rfl, rfl, rfl, trivial⟩ ?_
          exact ih17 l2_17 ((l3_17 * (27 : Int64)) + (((32 : Int32) - (97 : Int32)) + (1 : Int32)).toInt64) (l5_17 + (1 : Int32)) h
      · have h := xif_f q h
        refine x_aload_n dX5_indexAmong_35 rfl ?_
        refine x_iload dX5_indexAmong_36 rfl ?_
        obtain ⟨q38, h⟩ := xix_of h
        refine x_schar (k := 9) (s := xsy 9) rfl rfl q38 (Nat.le_of_ble_eq_true rfl) kX5_98 dX5_indexAmong_38 (Nat.le_of_ble_eq_true rfl) ?_
        refine x_goto 46 dX5_indexAmong_41 (by decide) ?_
        refine x_istore (pl' := [some (.ref 17), some (.ref 1009), some (.int l2_17), some (.long l3_17), none, some (.int l5_17), some (.int (xch (xsy 9) l5_17))]) dX5_indexAmong_46 (by decide) rfl ?_
        refine x_iload dX5_indexAmong_48 rfl ?_
        refine x_bipush (32 : Int32) dX5_indexAmong_50 (by decide) ?_
        refine x_icmp_eq 73 dX5_indexAmong_52 (by decide) (fun q => ?_) (fun q => ?_)
        · have h := xif_t q h
          refine x_lload_n dX5_indexAmong_73 rfl ?_
          refine x_aload_n dX5_indexAmong_74 rfl ?_
          refine x_get fX5_34 dX5_indexAmong_75 rfl rfl rfl ?_
          refine x_lcmp dX5_indexAmong_78 ?_
          refine x_if_ne 84 dX5_indexAmong_79 (by decide) (fun q => ?_) (fun q => ?_)
          · have h := xif_f q h
            refine x_iincK (1 : Int32) (pl' := [some (.ref 17), some (.ref 1009), some (.int (l2_17 + (1 : Int32))), some (.long l3_17), none, some (.int l5_17), some (.int (xch (xsy 9) l5_17))]) dX5_indexAmong_84 rfl (by decide) (by decide) rfl ?_
            refine x_lconst (0 : Int64) dX5_indexAmong_87 (by decide) ?_
            refine x_lstore_n (pl' := [some (.ref 17), some (.ref 1009), some (.int (l2_17 + (1 : Int32))), some (.long (0 : Int64)), none, some (.int l5_17), some (.int (xch (xsy 9) l5_17))]) dX5_indexAmong_88 (by decide) rfl ?_
            refine x_iincK (1 : Int32) (pl' := [some (.ref 17), some (.ref 1009), some (.int (l2_17 + (1 : Int32))), some (.long (0 : Int64)), none, some (.int (l5_17 + (1 : Int32))), some (.int (xch (xsy 9) l5_17))]) dX5_indexAmong_89 rfl (by decide) (by decide) rfl ?_
            refine x_goto 17 dX5_indexAmong_92 (by decide) ?_
            refine x_weak (pl2 := [some (.ref 17), some (.ref 1009), some (.int (l2_17 + (1 : Int32))), some (.long (0 : Int64)), none, some (.int (l5_17 + (1 : Int32))), none]) ⟨rfl, rfl, rfl, rfl, rfl, trivial⟩ ?_
            exact ih17 (l2_17 + (1 : Int32)) (0 : Int64) (l5_17 + (1 : Int32)) h
          · have h := xif_t q h
            refine x_iload_n dX5_indexAmong_82 rfl ?_
            cases h
            exact x_iret2 dX5_indexAmong_83 rfl rfl
        · have h := xif_f q h
          refine x_lload_n dX5_indexAmong_55 rfl ?_
          refine x_ldc2 iX5_102 dX5_indexAmong_56 ?_
          refine x_lmul dX5_indexAmong_59 ?_
          refine x_iload dX5_indexAmong_60 rfl ?_
          refine x_bipush (97 : Int32) dX5_indexAmong_62 (by decide) ?_
          refine x_isub dX5_indexAmong_64 ?_
          refine x_iconst (1 : Int32) dX5_indexAmong_65 (by decide) ?_
          refine x_iadd dX5_indexAmong_66 ?_
          refine x_i2l dX5_indexAmong_67 ?_
          refine x_ladd dX5_indexAmong_68 ?_
          refine x_lstore_n (pl' := [some (.ref 17), some (.ref 1009), some (.int l2_17), some (.long ((l3_17 * (27 : Int64)) + (((xch (xsy 9) l5_17) - (97 : Int32)) + (1 : Int32)).toInt64)), none, some (.int l5_17), some (.int (xch (xsy 9) l5_17))]) dX5_indexAmong_69 (by decide) rfl ?_
          refine x_goto 89 dX5_indexAmong_70 (by decide) ?_
          refine x_iincK (1 : Int32) (pl' := [some (.ref 17), some (.ref 1009), some (.int l2_17), some (.long ((l3_17 * (27 : Int64)) + (((xch (xsy 9) l5_17) - (97 : Int32)) + (1 : Int32)).toInt64)), none, some (.int (l5_17 + (1 : Int32))), some (.int (xch (xsy 9) l5_17))]) dX5_indexAmong_89 rfl (by decide) (by decide) rfl ?_
          refine x_goto 17 dX5_indexAmong_92 (by decide) ?_
          refine x_weak (pl2 := [some (.ref 17), some (.ref 1009), some (.int l2_17), some (.long ((l3_17 * (27 : Int64)) + (((xch (xsy 9) l5_17) - (97 : Int32)) + (1 : Int32)).toInt64)), none, some (.int (l5_17 + (1 : Int32))), none]) ⟨rfl, rfl, rfl, rfl, rfl, trivial⟩ ?_
          exact ih17 l2_17 ((l3_17 * (27 : Int64)) + (((xch (xsy 9) l5_17) - (97 : Int32)) + (1 : Int32)).toInt64) (l5_17 + (1 : Int32)) h
set_option maxRecDepth 100000 in
set_option maxHeartbeats 4000000 in
theorem t_hA_X5_indexAmong_6 {g0 g1 g2 g3 g4 g5 g6 g7 g8 g9 g10 g11 g12 g13 g14 g15 g16 g17 g18 g19 g20 g21 g22 g23 g24 g25 g26 g27 g28 g29 g30 g31 g32 g33 g34 g35 g36 : Int32} {a0 a1 a2 a3 a4 a5 a6 a7 a8 a9 a10 a11 a12 a13 a14 a15 a16 a17 a18 a19 a20 a21 a22 a23 a24 a25 a26 a27 a28 a29 a30 a31 a32 a33 a34 a35 a36 a37 a38 a39 : (Nat → Int32)} {b0 b1 b2 b3 b4 : (Nat → Int64)} {w0 : Int64}  (res : Int32) (h : e_hA_X5_indexAmong g19 w0 (xsy 9)  = some res) (d : Nat) : xMet xks YX5_indexAmong (d + 5) 0 0 [.ref 17, .ref 1009] (hA g0 g1 g2 g3 g4 g5 g6 g7 g8 g9 g10 g11 g12 g13 g14 g15 g16 g17 g18 g19 g20 g21 g22 g23 g24 g25 g26 g27 g28 g29 g30 g31 g32 g33 g34 g35 g36 a0 a1 a2 a3 a4 a5 a6 a7 a8 a9 a10 a11 a12 a13 a14 a15 a16 a17 a18 a19 a20 a21 a22 a23 a24 a25 a26 a27 a28 a29 a30 a31 a32 a33 a34 a35 a36 a37 a38 a39 b0 b1 b2 b3 b4 w0 (.ref 19) (.ref 1)) (some (.int res)) (hA g0 g1 g2 g3 g4 g5 g6 g7 g8 g9 g10 g11 g12 g13 g14 g15 g16 g17 g18 g19 g20 g21 g22 g23 g24 g25 g26 g27 g28 g29 g30 g31 g32 g33 g34 g35 g36 a0 a1 a2 a3 a4 a5 a6 a7 a8 a9 a10 a11 a12 a13 a14 a15 a16 a17 a18 a19 a20 a21 a22 a23 a24 a25 a26 a27 a28 a29 a30 a31 a32 a33 a34 a35 a36 a37 a38 a39 b0 b1 b2 b3 b4 w0 (.ref 19) (.ref 1)) := by
  unfold e_hA_X5_indexAmong at h
  refine xMet_of (pl := [some (.ref 17), some (.ref 1009), none, none, none, none, none]) (by decide) (Nat.le_of_ble_eq_true rfl) rfl (Nat.le_of_ble_eq_true rfl) ?_
  refine x_aload_n dX5_indexAmong_0 rfl ?_
  refine x_get fX5_31 dX5_indexAmong_1 rfl rfl rfl ?_
  refine x_iconst (1 : Int32) dX5_indexAmong_4 (by decide) ?_
  refine x_icmp_eq 10 dX5_indexAmong_5 (by decide) (fun q => ?_) (fun q => ?_)
  · have h := xif_t q h
    refine x_iconst (0 : Int32) dX5_indexAmong_10 (by decide) ?_
    refine x_istore_n (pl' := [some (.ref 17), some (.ref 1009), some (.int (0 : Int32)), none, none, none, none]) dX5_indexAmong_11 (by decide) rfl ?_
    refine x_lconst (0 : Int64) dX5_indexAmong_12 (by decide) ?_
    refine x_lstore_n (pl' := [some (.ref 17), some (.ref 1009), some (.int (0 : Int32)), some (.long (0 : Int64)), none, none, none]) dX5_indexAmong_13 (by decide) rfl ?_
    refine x_iconst (0 : Int32) dX5_indexAmong_14 (by decide) ?_
    refine x_istore (pl' := [some (.ref 17), some (.ref 1009), some (.int (0 : Int32)), some (.long (0 : Int64)), none, some (.int (0 : Int32)), none]) dX5_indexAmong_15 (by decide) rfl ?_
    refine x_weak (pl2 := [some (.ref 17), some (.ref 1009), some (.int (0 : Int32)), some (.long (0 : Int64)), none, some (.int (0 : Int32)), none]) ⟨rfl, rfl, rfl, rfl, rfl, trivial⟩ ?_
    refine lp_hA_X5_indexAmong_6_17 d _  res _ (fun l2_17 l3_17 l5_17 h => ?_) 200000 (0 : Int32) (0 : Int64) (0 : Int32) h
    refine x_iconst (-1 : Int32) dX5_indexAmong_95 (by decide) ?_
    cases h
    exact x_iret2 dX5_indexAmong_96 rfl rfl
  · have h := xif_f q h
    refine x_iconst (-1 : Int32) dX5_indexAmong_8 (by decide) ?_
    cases h
    exact x_iret2 dX5_indexAmong_9 rfl rfl
noncomputable def e_hA_X5_readUmbrellaLine (p0 : Int32) (p1 : Int32) (p2 : Int32) (p3 : Int32) (p4 : Int64) (p5 : Int32) (p6 : (Nat → Int32)) (p7 : (Nat → Int64)) (p8 : Int32) (p9 : (Nat → Int64)) (p10 : Int32) (p11 : Int32) (p12 : (Nat → Int32)) (p13 : (Nat → Int32)) (p14 : (Nat → Int32)) (p15 : (Nat → Int32))  : Option (Int32 × Int32 × Int64 × Int32 × Int32 × (Nat → Int64) × Int32 × Int32 × (Nat → Int32) × (Nat → Int32) × (Nat → Int32) × (Nat → Int32) × Int32) :=
  if p0 < (5 : Int32) then ((e_hA_X5_readToken p1 p2 p3 p4 p5 p6).bind fun z20 => xix p0 5 ((e_hA_X5_readNewName z20.2.2.1 z20.2.1 p8 p9 p10 p0 (vp_updL p7 p0.toNatClampNeg z20.2.1) z20.2.2.2 p2 z20.1 p6).bind fun z34 => if z34.1 = (0 : Int32) then some ((0 : Int32), z34.2.2.1, z34.2.2.2.1, z34.2.2.2.2.1, z34.2.2.2.2.2, (vp_updL p7 p0.toNatClampNeg z20.2.1), z34.2.1, p11, p12, p13, p14, p15, p0) else ((e_hA_X5_readOneOf z34.2.2.2.2.1 z34.2.2.2.1 p11 z34.2.2.2.2.2 p2 z34.2.2.1 p6 z34.2.1 (xsy 6)).bind fun z43 => if z43.1 = (0 : Int32) then some ((0 : Int32), z43.2.2.1, z43.2.2.2.1, z43.2.2.2.2.1, z43.2.2.2.2.2.1, (vp_updL p7 p0.toNatClampNeg z20.2.1), z43.2.2.2.2.2.2, z43.2.1, p12, p13, p14, p15, p0) else (xix p0 5 ((e_hA_X5_readNumber z43.2.2.2.2.1 z43.2.2.2.1 z43.2.2.2.2.2.1 p2 z43.2.2.1 p6 z43.2.2.2.2.2.2 z43.2.1 (xsy 7) (0 : Int32) (99 : Int32)).bind fun z70 => if z70.1 = (0 : Int32) then some ((0 : Int32), z70.2.1, z70.2.2.1, z70.2.2.2.1, z70.2.2.2.2.1, (vp_updL p7 p0.toNatClampNeg z20.2.1), z70.2.2.2.2.2.1, z70.2.2.2.2.2.2, (upd p12 p0.toNatClampNeg z43.2.1), p13, p14, p15, p0) else (xix p0 5 ((e_hA_X5_readNumber z70.2.2.2.1 z70.2.2.1 z70.2.2.2.2.1 p2 z70.2.1 p6 z70.2.2.2.2.2.1 z70.2.2.2.2.2.2 (xsy 8) (4 : Int32) (12 : Int32)).bind fun z97 => if z97.1 = (0 : Int32) then some ((0 : Int32), z97.2.1, z97.2.2.1, z97.2.2.2.1, z97.2.2.2.2.1, (vp_updL p7 p0.toNatClampNeg z20.2.1), z97.2.2.2.2.2.1, z97.2.2.2.2.2.2, (upd p12 p0.toNatClampNeg z43.2.1), (upd p13 p0.toNatClampNeg z70.2.2.2.2.2.2), p14, p15, p0) else (xix p0 5 (xix p0 5 ((e_hA_X5_indexAmong z97.2.2.2.1 z97.2.2.1 (xsy 9)).bind fun z132 => if z132 = (-1 : Int32) then some ((1 : Int32), z97.2.1, z97.2.2.1, z97.2.2.2.1, z97.2.2.2.2.1, (vp_updL p7 p0.toNatClampNeg z20.2.1), z97.2.2.2.2.2.1, z97.2.2.2.2.2.2, (upd p12 p0.toNatClampNeg z43.2.1), (upd p13 p0.toNatClampNeg z70.2.2.2.2.2.2), (upd p14 p0.toNatClampNeg z97.2.2.2.2.2.2), (upd p15 p0.toNatClampNeg (-2 : Int32)), (p0 + (1 : Int32))) else ((e_hA_X5_readToken z97.2.2.2.2.1 p2 z97.2.1 z97.2.2.1 z97.2.2.2.1 p6).bind fun z140 => (e_hA_X5_indexOfPerson p8 p9 z140.2.1).bind fun z145 => (e_hA_X5_readTold z140.2.2.1 z140.2.1 z97.2.2.2.2.2.2 z140.2.2.2 p2 z140.1 p6 z97.2.2.2.2.2.1 z145).bind fun z148 => if z148.1 = (0 : Int32) then some ((0 : Int32), z148.2.2.1, z148.2.2.2.1, z148.2.2.2.2.1, z148.2.2.2.2.2.1, (vp_updL p7 p0.toNatClampNeg z20.2.1), z148.2.2.2.2.2.2, z148.2.1, (upd p12 p0.toNatClampNeg z43.2.1), (upd p13 p0.toNatClampNeg z70.2.2.2.2.2.2), (upd p14 p0.toNatClampNeg z97.2.2.2.2.2.2), (upd p15 p0.toNatClampNeg (-2 : Int32)), p0) else (xix p0 5 (some ((1 : Int32), z148.2.2.1, z148.2.2.2.1, z148.2.2.2.2.1, z148.2.2.2.2.2.1, (vp_updL p7 p0.toNatClampNeg z20.2.1), z148.2.2.2.2.2.2, z148.2.1, (upd p12 p0.toNatClampNeg z43.2.1), (upd p13 p0.toNatClampNeg z70.2.2.2.2.2.2), (upd p14 p0.toNatClampNeg z97.2.2.2.2.2.2), (upd (upd p15 p0.toNatClampNeg (-2 : Int32)) p0.toNatClampNeg z148.2.1), (p0 + (1 : Int32)))))))))))))))) else ((e_hA_X5_fail p10 (5 : Int32)).bind fun z15 => xbo z15.1 (some (z15.1, p3, p4, p5, p1, p7, z15.2, p11, p12, p13, p14, p15, p0)))
set_option maxRecDepth 100000 in
set_option maxHeartbeats 4000000 in
theorem t_hA_X5_readUmbrellaLine {g0 g1 g2 g3 g4 g5 g6 g7 g8 g9 g10 g11 g12 g13 g14 g15 g16 g17 g18 g19 g20 g21 g22 g23 g24 g25 g26 g27 g28 g29 g30 g31 g32 g33 g34 g35 g36 : Int32} {a0 a1 a2 a3 a4 a5 a6 a7 a8 a9 a10 a11 a12 a13 a14 a15 a16 a17 a18 a19 a20 a21 a22 a23 a24 a25 a26 a27 a28 a29 a30 a31 a32 a33 a34 a35 a36 a37 a38 a39 : (Nat → Int32)} {b0 b1 b2 b3 b4 : (Nat → Int64)} {w0 : Int64}  (res : Int32 × Int32 × Int64 × Int32 × Int32 × (Nat → Int64) × Int32 × Int32 × (Nat → Int32) × (Nat → Int32) × (Nat → Int32) × (Nat → Int32) × Int32) (h : e_hA_X5_readUmbrellaLine g11 g18 g17 g15 w0 g19 a13 b1 g10 b0 g14 g20 a15 a16 a17 a18  = some res) (d : Nat) : xMet xks YX5_readUmbrellaLine (d + 8) 0 0 [.ref 17] (hA g0 g1 g2 g3 g4 g5 g6 g7 g8 g9 g10 g11 g12 g13 g14 g15 g16 g17 g18 g19 g20 g21 g22 g23 g24 g25 g26 g27 g28 g29 g30 g31 g32 g33 g34 g35 g36 a0 a1 a2 a3 a4 a5 a6 a7 a8 a9 a10 a11 a12 a13 a14 a15 a16 a17 a18 a19 a20 a21 a22 a23 a24 a25 a26 a27 a28 a29 a30 a31 a32 a33 a34 a35 a36 a37 a38 a39 b0 b1 b2 b3 b4 w0 (.ref 19) (.ref 1)) (some (.int res.1)) (hA g0 g1 g2 g3 g4 g5 g6 g7 g8 g9 g10 res.2.2.2.2.2.2.2.2.2.2.2.2 g12 g13 res.2.2.2.2.2.2.1 res.2.1 g16 g17 res.2.2.2.2.1 res.2.2.2.1 res.2.2.2.2.2.2.2.1 g21 g22 g23 g24 g25 g26 g27 g28 g29 g30 g31 g32 g33 g34 g35 g36 a0 a1 a2 a3 a4 a5 a6 a7 a8 a9 a10 a11 a12 a13 a14 res.2.2.2.2.2.2.2.2.1 res.2.2.2.2.2.2.2.2.2.1 res.2.2.2.2.2.2.2.2.2.2.1 res.2.2.2.2.2.2.2.2.2.2.2.1 a19 a20 a21 a22 a23 a24 a25 a26 a27 a28 a29 a30 a31 a32 a33 a34 a35 a36 a37 a38 a39 b0 res.2.2.2.2.2.1 b2 b3 b4 res.2.2.1 (.ref 19) (.ref 1)) := by
  unfold e_hA_X5_readUmbrellaLine at h
  refine xMet_of (pl := [some (.ref 17), none]) (by decide) (Nat.le_of_ble_eq_true rfl) rfl (Nat.le_of_ble_eq_true rfl) ?_
  refine x_aload_n dX5_readUmbrellaLine_0 rfl ?_
  refine x_get fX5_48 dX5_readUmbrellaLine_1 rfl rfl rfl ?_
  refine x_get fX5_82 dX5_readUmbrellaLine_4 rfl rfl rfl ?_
  refine x_istore_n (pl' := [some (.ref 17), some (.int g11)]) dX5_readUmbrellaLine_7 (by decide) rfl ?_
  refine x_iload_n dX5_readUmbrellaLine_8 rfl ?_
  refine x_iconst (5 : Int32) dX5_readUmbrellaLine_9 (by decide) ?_
  refine x_icmp_lt 19 dX5_readUmbrellaLine_10 (by decide) (fun q => ?_) (fun q => ?_)
  · have h := xif_t q h
    refine x_aload_n dX5_readUmbrellaLine_19 rfl ?_
    obtain ⟨z20, y20, h⟩ := xbind h
    refine x_callV (t_hA_X5_readToken  z20 y20 (d + 4)) kX5_68 dX5_readUmbrellaLine_20 rfl rfl rfl rfl rfl (Nat.le_of_ble_eq_true rfl) (Nat.le_of_ble_eq_true rfl) rfl rfl (Or.inl rfl) ?_
    refine x_aload_n dX5_readUmbrellaLine_23 rfl ?_
    refine x_get fX5_56 dX5_readUmbrellaLine_24 rfl rfl rfl ?_
    refine x_iload_n dX5_readUmbrellaLine_27 rfl ?_
    refine x_aload_n dX5_readUmbrellaLine_28 rfl ?_
    refine x_get fX5_34 dX5_readUmbrellaLine_29 rfl rfl rfl ?_
    obtain ⟨q32, h⟩ := xix_of h
    refine x_last (h2 := (hA g0 g1 g2 g3 g4 g5 g6 g7 g8 g9 g10 g11 g12 g13 g14 z20.1 g16 g17 z20.2.2.2 z20.2.2.1 g20 g21 g22 g23 g24 g25 g26 g27 g28 g29 g30 g31 g32 g33 g34 g35 g36 a0 a1 a2 a3 a4 a5 a6 a7 a8 a9 a10 a11 a12 a13 a14 a15 a16 a17 a18 a19 a20 a21 a22 a23 a24 a25 a26 a27 a28 a29 a30 a31 a32 a33 a34 a35 a36 a37 a38 a39 b0 (vp_updL b1 g11.toNatClampNeg z20.2.1) b2 b3 b4 z20.2.1 (.ref 19) (.ref 1))) dX5_readUmbrellaLine_32 rfl q32 rfl ?_
    refine x_aload_n dX5_readUmbrellaLine_33 rfl ?_
    obtain ⟨z34, y34, h⟩ := xbind h
    refine x_callV (t_hA_X5_readNewName  z34 y34 (d + 0)) kX5_150 dX5_readUmbrellaLine_34 rfl rfl rfl rfl rfl (Nat.le_of_ble_eq_true rfl) (Nat.le_of_ble_eq_true rfl) rfl rfl (Or.inl rfl) ?_
    refine x_if_eq 49 dX5_readUmbrellaLine_37 (by decide) (fun q => ?_) (fun q => ?_)
    · have h := xif_t q h
      refine x_iconst (0 : Int32) dX5_readUmbrellaLine_49 (by decide) ?_
      cases h
      exact x_zret2 dX5_readUmbrellaLine_50 rfl rfl rfl
    · have h := xif_f q h
      refine x_aload_n dX5_readUmbrellaLine_40 rfl ?_
      refine x_ldcS (k := 6) rfl rfl rfl dX5_readUmbrellaLine_41 ?_
      obtain ⟨z43, y43, h⟩ := xbind h
      refine x_callV (t_hA_X5_readOneOf  z43 y43 (d + 1)) kX5_155 dX5_readUmbrellaLine_43 rfl rfl rfl rfl rfl (Nat.le_of_ble_eq_true rfl) (Nat.le_of_ble_eq_true rfl) rfl rfl (Or.inl rfl) ?_
      refine x_if_ne 51 dX5_readUmbrellaLine_46 (by decide) (fun q => ?_) (fun q => ?_)
      · have h := xif_f q h
        refine x_aload_n dX5_readUmbrellaLine_51 rfl ?_
        refine x_get fX5_48 dX5_readUmbrellaLine_52 rfl rfl rfl ?_
        refine x_get fX5_165 dX5_readUmbrellaLine_55 rfl rfl rfl ?_
        refine x_iload_n dX5_readUmbrellaLine_58 rfl ?_
        refine x_aload_n dX5_readUmbrellaLine_59 rfl ?_
        refine x_get fX5_38 dX5_readUmbrellaLine_60 rfl rfl rfl ?_
        obtain ⟨q63, h⟩ := xix_of h
        refine x_iast (h2 := (hA g0 g1 g2 g3 g4 g5 g6 g7 g8 g9 g10 g11 g12 g13 z43.2.2.2.2.2.2 z43.2.2.1 g16 g17 z43.2.2.2.2.2.1 z43.2.2.2.2.1 z43.2.1 g21 g22 g23 g24 g25 g26 g27 g28 g29 g30 g31 g32 g33 g34 g35 g36 a0 a1 a2 a3 a4 a5 a6 a7 a8 a9 a10 a11 a12 a13 a14 (upd a15 g11.toNatClampNeg z43.2.1) a16 a17 a18 a19 a20 a21 a22 a23 a24 a25 a26 a27 a28 a29 a30 a31 a32 a33 a34 a35 a36 a37 a38 a39 b0 (vp_updL b1 g11.toNatClampNeg z20.2.1) b2 b3 b4 z43.2.2.2.1 (.ref 19) (.ref 1))) dX5_readUmbrellaLine_63 rfl q63 rfl ?_
        refine x_aload_n dX5_readUmbrellaLine_64 rfl ?_
        refine x_ldcS (k := 7) rfl rfl rfl dX5_readUmbrellaLine_65 ?_
        refine x_iconst (0 : Int32) dX5_readUmbrellaLine_67 (by decide) ?_
        refine x_bipush (99 : Int32) dX5_readUmbrellaLine_68 (by decide) ?_
        obtain ⟨z70, y70, h⟩ := xbind h
        refine x_callV (t_hA_X5_readNumber_2 (0 : Int32) (99 : Int32) z70 y70 (d + 1)) kX5_136 dX5_readUmbrellaLine_70 rfl rfl rfl rfl rfl (Nat.le_of_ble_eq_true rfl) (Nat.le_of_ble_eq_true rfl) rfl rfl (Or.inl rfl) ?_
        refine x_if_ne 78 dX5_readUmbrellaLine_73 (by decide) (fun q => ?_) (fun q => ?_)
        · have h := xif_f q h
          refine x_aload_n dX5_readUmbrellaLine_78 rfl ?_
          refine x_get fX5_48 dX5_readUmbrellaLine_79 rfl rfl rfl ?_
          refine x_get fX5_170 dX5_readUmbrellaLine_82 rfl rfl rfl ?_
          refine x_iload_n dX5_readUmbrellaLine_85 rfl ?_
          refine x_aload_n dX5_readUmbrellaLine_86 rfl ?_
          refine x_get fX5_38 dX5_readUmbrellaLine_87 rfl rfl rfl ?_
          obtain ⟨q90, h⟩ := xix_of h
          refine x_iast (h2 := (hA g0 g1 g2 g3 g4 g5 g6 g7 g8 g9 g10 g11 g12 g13 z70.2.2.2.2.2.1 z70.2.1 g16 g17 z70.2.2.2.2.1 z70.2.2.2.1 z70.2.2.2.2.2.2 g21 g22 g23 g24 g25 g26 g27 g28 g29 g30 g31 g32 g33 g34 g35 g36 a0 a1 a2 a3 a4 a5 a6 a7 a8 a9 a10 a11 a12 a13 a14 (upd a15 g11.toNatClampNeg z43.2.1) (upd a16 g11.toNatClampNeg z70.2.2.2.2.2.2) a17 a18 a19 a20 a21 a22 a23 a24 a25 a26 a27 a28 a29 a30 a31 a32 a33 a34 a35 a36 a37 a38 a39 b0 (vp_updL b1 g11.toNatClampNeg z20.2.1) b2 b3 b4 z70.2.2.1 (.ref 19) (.ref 1))) dX5_readUmbrellaLine_90 rfl q90 rfl ?_
          refine x_aload_n dX5_readUmbrellaLine_91 rfl ?_
          refine x_ldcS (k := 8) rfl rfl rfl dX5_readUmbrellaLine_92 ?_
          refine x_iconst (4 : Int32) dX5_readUmbrellaLine_94 (by decide) ?_
          refine x_bipush (12 : Int32) dX5_readUmbrellaLine_95 (by decide) ?_
          obtain ⟨z97, y97, h⟩ := xbind h
          refine x_callV (t_hA_X5_readNumber_3 (4 : Int32) (12 : Int32) z97 y97 (d + 1)) kX5_136 dX5_readUmbrellaLine_97 rfl rfl rfl rfl rfl (Nat.le_of_ble_eq_true rfl) (Nat.le_of_ble_eq_true rfl) rfl rfl (Or.inl rfl) ?_
          refine x_if_ne 105 dX5_readUmbrellaLine_100 (by decide) (fun q => ?_) (fun q => ?_)
          · have h := xif_f q h
            refine x_aload_n dX5_readUmbrellaLine_105 rfl ?_
            refine x_get fX5_48 dX5_readUmbrellaLine_106 rfl rfl rfl ?_
            refine x_get fX5_174 dX5_readUmbrellaLine_109 rfl rfl rfl ?_
            refine x_iload_n dX5_readUmbrellaLine_112 rfl ?_
            refine x_aload_n dX5_readUmbrellaLine_113 rfl ?_
            refine x_get fX5_38 dX5_readUmbrellaLine_114 rfl rfl rfl ?_
            obtain ⟨q117, h⟩ := xix_of h
            refine x_iast (h2 := (hA g0 g1 g2 g3 g4 g5 g6 g7 g8 g9 g10 g11 g12 g13 z97.2.2.2.2.2.1 z97.2.1 g16 g17 z97.2.2.2.2.1 z97.2.2.2.1 z97.2.2.2.2.2.2 g21 g22 g23 g24 g25 g26 g27 g28 g29 g30 g31 g32 g33 g34 g35 g36 a0 a1 a2 a3 a4 a5 a6 a7 a8 a9 a10 a11 a12 a13 a14 (upd a15 g11.toNatClampNeg z43.2.1) (upd a16 g11.toNatClampNeg z70.2.2.2.2.2.2) (upd a17 g11.toNatClampNeg z97.2.2.2.2.2.2) a18 a19 a20 a21 a22 a23 a24 a25 a26 a27 a28 a29 a30 a31 a32 a33 a34 a35 a36 a37 a38 a39 b0 (vp_updL b1 g11.toNatClampNeg z20.2.1) b2 b3 b4 z97.2.2.1 (.ref 19) (.ref 1))) dX5_readUmbrellaLine_117 rfl q117 rfl ?_
            refine x_aload_n dX5_readUmbrellaLine_118 rfl ?_
            refine x_get fX5_48 dX5_readUmbrellaLine_119 rfl rfl rfl ?_
            refine x_get fX5_176 dX5_readUmbrellaLine_122 rfl rfl rfl ?_
            refine x_iload_n dX5_readUmbrellaLine_125 rfl ?_
            refine x_bipush (-2 : Int32) dX5_readUmbrellaLine_126 (by decide) ?_
            obtain ⟨q128, h⟩ := xix_of h
            refine x_iast (h2 := (hA g0 g1 g2 g3 g4 g5 g6 g7 g8 g9 g10 g11 g12 g13 z97.2.2.2.2.2.1 z97.2.1 g16 g17 z97.2.2.2.2.1 z97.2.2.2.1 z97.2.2.2.2.2.2 g21 g22 g23 g24 g25 g26 g27 g28 g29 g30 g31 g32 g33 g34 g35 g36 a0 a1 a2 a3 a4 a5 a6 a7 a8 a9 a10 a11 a12 a13 a14 (upd a15 g11.toNatClampNeg z43.2.1) (upd a16 g11.toNatClampNeg z70.2.2.2.2.2.2) (upd a17 g11.toNatClampNeg z97.2.2.2.2.2.2) (upd a18 g11.toNatClampNeg (-2 : Int32)) a19 a20 a21 a22 a23 a24 a25 a26 a27 a28 a29 a30 a31 a32 a33 a34 a35 a36 a37 a38 a39 b0 (vp_updL b1 g11.toNatClampNeg z20.2.1) b2 b3 b4 z97.2.2.1 (.ref 19) (.ref 1))) dX5_readUmbrellaLine_128 rfl q128 rfl ?_
            refine x_aload_n dX5_readUmbrellaLine_129 rfl ?_
            refine x_ldcS (k := 9) rfl rfl rfl dX5_readUmbrellaLine_130 ?_
            obtain ⟨z132, y132, h⟩ := xbind h
            refine x_callV (t_hA_X5_indexAmong_6  z132 y132 (d + 2)) kX5_104 dX5_readUmbrellaLine_132 rfl rfl rfl rfl rfl (Nat.le_of_ble_eq_true rfl) (Nat.le_of_ble_eq_true rfl) rfl rfl (Or.inl rfl) ?_
            refine x_iconst (-1 : Int32) dX5_readUmbrellaLine_135 (by decide) ?_
            refine x_icmp_eq 169 dX5_readUmbrellaLine_136 (by decide) (fun q => ?_) (fun q => ?_)
            · have h := xif_t q h
              refine x_aload_n dX5_readUmbrellaLine_169 rfl ?_
              refine x_get fX5_48 dX5_readUmbrellaLine_170 rfl rfl rfl ?_
              refine x_iload_n dX5_readUmbrellaLine_173 rfl ?_
              refine x_iconst (1 : Int32) dX5_readUmbrellaLine_174 (by decide) ?_
              refine x_iadd dX5_readUmbrellaLine_175 ?_
              refine x_put (h2 := (hA g0 g1 g2 g3 g4 g5 g6 g7 g8 g9 g10 (g11 + (1 : Int32)) g12 g13 z97.2.2.2.2.2.1 z97.2.1 g16 g17 z97.2.2.2.2.1 z97.2.2.2.1 z97.2.2.2.2.2.2 g21 g22 g23 g24 g25 g26 g27 g28 g29 g30 g31 g32 g33 g34 g35 g36 a0 a1 a2 a3 a4 a5 a6 a7 a8 a9 a10 a11 a12 a13 a14 (upd a15 g11.toNatClampNeg z43.2.1) (upd a16 g11.toNatClampNeg z70.2.2.2.2.2.2) (upd a17 g11.toNatClampNeg z97.2.2.2.2.2.2) (upd a18 g11.toNatClampNeg (-2 : Int32)) a19 a20 a21 a22 a23 a24 a25 a26 a27 a28 a29 a30 a31 a32 a33 a34 a35 a36 a37 a38 a39 b0 (vp_updL b1 g11.toNatClampNeg z20.2.1) b2 b3 b4 z97.2.2.1 (.ref 19) (.ref 1))) fX5_82 dX5_readUmbrellaLine_176 rfl rfl (Nat.le_of_ble_eq_true rfl : 4 + 1 ≤ _) (fun α => ⟨rfl, rfl⟩) rfl ?_
              refine x_iconst (1 : Int32) dX5_readUmbrellaLine_179 (by decide) ?_
              cases h
              exact x_zret2 dX5_readUmbrellaLine_180 rfl rfl rfl
            · have h := xif_f q h
              refine x_aload_n dX5_readUmbrellaLine_139 rfl ?_
              obtain ⟨z140, y140, h⟩ := xbind h
              refine x_callV (t_hA_X5_readToken  z140 y140 (d + 4)) kX5_68 dX5_readUmbrellaLine_140 rfl rfl rfl rfl rfl (Nat.le_of_ble_eq_true rfl) (Nat.le_of_ble_eq_true rfl) rfl rfl (Or.inl rfl) ?_
              refine x_aload_n dX5_readUmbrellaLine_143 rfl ?_
              refine x_aload_n dX5_readUmbrellaLine_144 rfl ?_
              obtain ⟨z145, y145, h⟩ := xbind h
              refine x_callV (t_hA_X5_indexOfPerson  z145 y145 (d + 6)) kX5_113 dX5_readUmbrellaLine_145 rfl rfl rfl rfl rfl (Nat.le_of_ble_eq_true rfl) (Nat.le_of_ble_eq_true rfl) rfl rfl (Or.inl rfl) ?_
              obtain ⟨z148, y148, h⟩ := xbind h
              refine x_callV (t_hA_X5_readTold z145 z148 y148 (d + 0)) kX5_181 dX5_readUmbrellaLine_148 rfl rfl rfl rfl rfl (Nat.le_of_ble_eq_true rfl) (Nat.le_of_ble_eq_true rfl) rfl rfl (Or.inl rfl) ?_
              refine x_if_ne 156 dX5_readUmbrellaLine_151 (by decide) (fun q => ?_) (fun q => ?_)
              · have h := xif_f q h
                refine x_aload_n dX5_readUmbrellaLine_156 rfl ?_
                refine x_get fX5_48 dX5_readUmbrellaLine_157 rfl rfl rfl ?_
                refine x_get fX5_176 dX5_readUmbrellaLine_160 rfl rfl rfl ?_
                refine x_iload_n dX5_readUmbrellaLine_163 rfl ?_
                refine x_aload_n dX5_readUmbrellaLine_164 rfl ?_
                refine x_get fX5_38 dX5_readUmbrellaLine_165 rfl rfl rfl ?_
                obtain ⟨q168, h⟩ := xix_of h
                refine x_iast (h2 := (hA g0 g1 g2 g3 g4 g5 g6 g7 g8 g9 g10 g11 g12 g13 z148.2.2.2.2.2.2 z148.2.2.1 g16 g17 z148.2.2.2.2.2.1 z148.2.2.2.2.1 z148.2.1 g21 g22 g23 g24 g25 g26 g27 g28 g29 g30 g31 g32 g33 g34 g35 g36 a0 a1 a2 a3 a4 a5 a6 a7 a8 a9 a10 a11 a12 a13 a14 (upd a15 g11.toNatClampNeg z43.2.1) (upd a16 g11.toNatClampNeg z70.2.2.2.2.2.2) (upd a17 g11.toNatClampNeg z97.2.2.2.2.2.2) (upd (upd a18 g11.toNatClampNeg (-2 : Int32)) g11.toNatClampNeg z148.2.1) a19 a20 a21 a22 a23 a24 a25 a26 a27 a28 a29 a30 a31 a32 a33 a34 a35 a36 a37 a38 a39 b0 (vp_updL b1 g11.toNatClampNeg z20.2.1) b2 b3 b4 z148.2.2.2.1 (.ref 19) (.ref 1))) dX5_readUmbrellaLine_168 rfl q168 rfl ?_
                refine x_aload_n dX5_readUmbrellaLine_169 rfl ?_
                refine x_get fX5_48 dX5_readUmbrellaLine_170 rfl rfl rfl ?_
                refine x_iload_n dX5_readUmbrellaLine_173 rfl ?_
                refine x_iconst (1 : Int32) dX5_readUmbrellaLine_174 (by decide) ?_
                refine x_iadd dX5_readUmbrellaLine_175 ?_
                refine x_put (h2 := (hA g0 g1 g2 g3 g4 g5 g6 g7 g8 g9 g10 (g11 + (1 : Int32)) g12 g13 z148.2.2.2.2.2.2 z148.2.2.1 g16 g17 z148.2.2.2.2.2.1 z148.2.2.2.2.1 z148.2.1 g21 g22 g23 g24 g25 g26 g27 g28 g29 g30 g31 g32 g33 g34 g35 g36 a0 a1 a2 a3 a4 a5 a6 a7 a8 a9 a10 a11 a12 a13 a14 (upd a15 g11.toNatClampNeg z43.2.1) (upd a16 g11.toNatClampNeg z70.2.2.2.2.2.2) (upd a17 g11.toNatClampNeg z97.2.2.2.2.2.2) (upd (upd a18 g11.toNatClampNeg (-2 : Int32)) g11.toNatClampNeg z148.2.1) a19 a20 a21 a22 a23 a24 a25 a26 a27 a28 a29 a30 a31 a32 a33 a34 a35 a36 a37 a38 a39 b0 (vp_updL b1 g11.toNatClampNeg z20.2.1) b2 b3 b4 z148.2.2.2.1 (.ref 19) (.ref 1))) fX5_82 dX5_readUmbrellaLine_176 rfl rfl (Nat.le_of_ble_eq_true rfl : 4 + 1 ≤ _) (fun α => ⟨rfl, rfl⟩) rfl ?_
                refine x_iconst (1 : Int32) dX5_readUmbrellaLine_179 (by decide) ?_
                cases h
                exact x_zret2 dX5_readUmbrellaLine_180 rfl rfl rfl
              · have h := xif_t q h
                refine x_iconst (0 : Int32) dX5_readUmbrellaLine_154 (by decide) ?_
                cases h
                exact x_zret2 dX5_readUmbrellaLine_155 rfl rfl rfl
          · have h := xif_t q h
            refine x_iconst (0 : Int32) dX5_readUmbrellaLine_103 (by decide) ?_
            cases h
            exact x_zret2 dX5_readUmbrellaLine_104 rfl rfl rfl
        · have h := xif_t q h
          refine x_iconst (0 : Int32) dX5_readUmbrellaLine_76 (by decide) ?_
          cases h
          exact x_zret2 dX5_readUmbrellaLine_77 rfl rfl rfl
      · have h := xif_t q h
        refine x_iconst (0 : Int32) dX5_readUmbrellaLine_49 (by decide) ?_
        cases h
        exact x_zret2 dX5_readUmbrellaLine_50 rfl rfl rfl
  · have h := xif_f q h
    refine x_aload_n dX5_readUmbrellaLine_13 rfl ?_
    refine x_iconst (5 : Int32) dX5_readUmbrellaLine_14 (by decide) ?_
    obtain ⟨z15, y15, h⟩ := xbind h
    refine x_callV (t_hA_X5_fail (5 : Int32) z15 y15 (d + 6)) kX5_75 dX5_readUmbrellaLine_15 rfl rfl rfl rfl rfl (Nat.le_of_ble_eq_true rfl) (Nat.le_of_ble_eq_true rfl) rfl rfl (Or.inl rfl) ?_
    obtain ⟨-, q18, h⟩ := xbo_of h
    cases h
    exact x_zret2 dX5_readUmbrellaLine_18 rfl q18 rfl
set_option maxRecDepth 100000 in
set_option maxHeartbeats 4000000 in
theorem lp_hA_X5_indexAmong_7_17 {g0 g1 g2 g3 g4 g5 g6 g7 g8 g9 g10 g11 g12 g13 g14 g15 g16 g17 g18 g19 g20 g21 g22 g23 g24 g25 g26 g27 g28 g29 g30 g31 g32 g33 g34 g35 g36 : Int32} {a0 a1 a2 a3 a4 a5 a6 a7 a8 a9 a10 a11 a12 a13 a14 a15 a16 a17 a18 a19 a20 a21 a22 a23 a24 a25 a26 a27 a28 a29 a30 a31 a32 a33 a34 a35 a36 a37 a38 a39 : (Nat → Int32)} {b0 b1 b2 b3 b4 : (Nat → Int64)} {w0 : Int64} (d n0 : Nat)  (res : Int32) (K : Int32 → Int64 → Int32 → Option (Int32)) (hK : ∀ (l2_17 : Int32) (l3_17 : Int64) (l5_17 : Int32), K l2_17 l3_17 l5_17 = some res → xW xks YX5_indexAmong (d + 5) 0 0 n0 (xZ 0 0 n0 (some (.int res)) (hA g0 g1 g2 g3 g4 g5 g6 g7 g8 g9 g10 g11 g12 g13 g14 g15 g16 g17 g18 g19 g20 g21 g22 g23 g24 g25 g26 g27 g28 g29 g30 g31 g32 g33 g34 g35 g36 a0 a1 a2 a3 a4 a5 a6 a7 a8 a9 a10 a11 a12 a13 a14 a15 a16 a17 a18 a19 a20 a21 a22 a23 a24 a25 a26 a27 a28 a29 a30 a31 a32 a33 a34 a35 a36 a37 a38 a39 b0 b1 b2 b3 b4 w0 (.ref 19) (.ref 1))) 0 0 95 [none, none, none, none, none, none, none] [] (hA g0 g1 g2 g3 g4 g5 g6 g7 g8 g9 g10 g11 g12 g13 g14 g15 g16 g17 g18 g19 g20 g21 g22 g23 g24 g25 g26 g27 g28 g29 g30 g31 g32 g33 g34 g35 g36 a0 a1 a2 a3 a4 a5 a6 a7 a8 a9 a10 a11 a12 a13 a14 a15 a16 a17 a18 a19 a20 a21 a22 a23 a24 a25 a26 a27 a28 a29 a30 a31 a32 a33 a34 a35 a36 a37 a38 a39 b0 b1 b2 b3 b4 w0 (.ref 19) (.ref 1))) : ∀ (n : Nat) (l2_17 : Int32) (l3_17 : Int64) (l5_17 : Int32), L_hA_X5_indexAmong_17 g19 w0 (xsy 5)  K n l2_17 l3_17 l5_17 = some res → xW xks YX5_indexAmong (d + 5) 0 0 n0 (xZ 0 0 n0 (some (.int res)) (hA g0 g1 g2 g3 g4 g5 g6 g7 g8 g9 g10 g11 g12 g13 g14 g15 g16 g17 g18 g19 g20 g21 g22 g23 g24 g25 g26 g27 g28 g29 g30 g31 g32 g33 g34 g35 g36 a0 a1 a2 a3 a4 a5 a6 a7 a8 a9 a10 a11 a12 a13 a14 a15 a16 a17 a18 a19 a20 a21 a22 a23 a24 a25 a26 a27 a28 a29 a30 a31 a32 a33 a34 a35 a36 a37 a38 a39 b0 b1 b2 b3 b4 w0 (.ref 19) (.ref 1))) 0 0 17 [some (.ref 17), some (.ref 1005), some (.int l2_17), some (.long l3_17), none, some (.int l5_17), none] [] (hA g0 g1 g2 g3 g4 g5 g6 g7 g8 g9 g10 g11 g12 g13 g14 g15 g16 g17 g18 g19 g20 g21 g22 g23 g24 g25 g26 g27 g28 g29 g30 g31 g32 g33 g34 g35 g36 a0 a1 a2 a3 a4 a5 a6 a7 a8 a9 a10 a11 a12 a13 a14 a15 a16 a17 a18 a19 a20 a21 a22 a23 a24 a25 a26 a27 a28 a29 a30 a31 a32 a33 a34 a35 a36 a37 a38 a39 b0 b1 b2 b3 b4 w0 (.ref 19) (.ref 1)) := by
  intro n
  induction n with
  | zero =>
    intro l2_17 l3_17 l5_17 h
    cases (show (none : Option (Int32)) = some res from h)
  | succ n17 ih17 =>
    intro l2_17 l3_17 l5_17 h
    unfold L_hA_X5_indexAmong_17 at h
    refine x_iload dX5_indexAmong_17 rfl ?_
    refine x_aload_n dX5_indexAmong_19 rfl ?_
    refine x_slen (k := 5) (s := xsy 5) rfl rfl (Nat.le_of_ble_eq_true rfl) kX5_93 dX5_indexAmong_20 (Nat.le_of_ble_eq_true rfl) ?_
    refine x_icmp_gt 95 dX5_indexAmong_23 (by decide) (fun q => ?_) (fun q => ?_)
    · have h := xif_t q h
      refine x_weak (pl2 := [none, none, none, none, none, none, none]) trivial ?_
      exact hK l2_17 l3_17 l5_17 h
    · have h := xif_f q h
      refine x_iload dX5_indexAmong_26 rfl ?_
      refine x_aload_n dX5_indexAmong_28 rfl ?_
      refine x_slen (k := 5) (s := xsy 5) rfl rfl (Nat.le_of_ble_eq_true rfl) kX5_93 dX5_indexAmong_29 (Nat.le_of_ble_eq_true rfl) ?_
      refine x_icmp_ge 44 dX5_indexAmong_32 (by decide) (fun q => ?_) (fun q => ?_)
      · have h := xif_t q h
        refine x_bipush (32 : Int32) dX5_indexAmong_44 (by decide) ?_
        refine x_istore (pl' := [some (.ref 17), some (.ref 1005), some (.int l2_17), some (.long l3_17), none, some (.int l5_17), some (.int (32 : Int32))]) dX5_indexAmong_46 (by decide) rfl ?_
        refine x_iload dX5_indexAmong_48 rfl ?_
        refine x_bipush (32 : Int32) dX5_indexAmong_50 (by decide) ?_
        refine x_icmp_eq 73 dX5_indexAmong_52 (by decide) (fun q => ?_) (fun q => ?_)
        · have h := xif_t q h
          refine x_lload_n dX5_indexAmong_73 rfl ?_
          refine x_aload_n dX5_indexAmong_74 rfl ?_
          refine x_get fX5_34 dX5_indexAmong_75 rfl rfl rfl ?_
          refine x_lcmp dX5_indexAmong_78 ?_
          refine x_if_ne 84 dX5_indexAmong_79 (by decide) (fun q => ?_) (fun q => ?_)
          · have h := xif_f q h
            refine x_iincK (1 : Int32) (pl' := [some (.ref 17), some (.ref 1005), some (.int (l2_17 + (1 : Int32))), some (.long l3_17), none, some (.int l5_17), some (.int (32 : Int32))]) dX5_indexAmong_84 rfl (by decide) (by decide) rfl ?_
            refine x_lconst (0 : Int64) dX5_indexAmong_87 (by decide) ?_
            refine x_lstore_n (pl' := [some (.ref 17), some (.ref 1005), some (.int (l2_17 + (1 : Int32))), some (.long (0 : Int64)), none, some (.int l5_17), some (.int (32 : Int32))]) dX5_indexAmong_88 (by decide) rfl ?_
            refine x_iincK (1 : Int32) (pl' := [some (.ref 17), some (.ref 1005), some (.int (l2_17 + (1 : Int32))), some (.long (0 : Int64)), none, some (.int (l5_17 + (1 : Int32))), some (.int (32 : Int32))]) dX5_indexAmong_89 rfl (by decide) (by decide) rfl ?_
            refine x_goto 17 dX5_indexAmong_92 (by decide) ?_
            refine x_weak (pl2 := [some (.ref 17), some (.ref 1005), some (.int (l2_17 + (1 : Int32))), some (.long (0 : Int64)), none, some (.int (l5_17 + (1 : Int32))), none]) ⟨rfl, rfl, rfl, rfl, rfl, trivial⟩ ?_
            exact ih17 (l2_17 + (1 : Int32)) (0 : Int64) (l5_17 + (1 : Int32)) h
          · have h := xif_t q h
            refine x_iload_n dX5_indexAmong_82 rfl ?_
            cases h
            exact x_iret2 dX5_indexAmong_83 rfl rfl
        · have h := xif_f q h
          refine x_lload_n dX5_indexAmong_55 rfl ?_
          refine x_ldc2 iX5_102 dX5_indexAmong_56 ?_
          refine x_lmul dX5_indexAmong_59 ?_
          refine x_iload dX5_indexAmong_60 rfl ?_
          refine x_bipush (97 : Int32) dX5_indexAmong_62 (by decide) ?_
          refine x_isub dX5_indexAmong_64 ?_
          refine x_iconst (1 : Int32) dX5_indexAmong_65 (by decide) ?_
          refine x_iadd dX5_indexAmong_66 ?_
          refine x_i2l dX5_indexAmong_67 ?_
          refine x_ladd dX5_indexAmong_68 ?_
          refine x_lstore_n (pl' := [some (.ref 17), some (.ref 1005), some (.int l2_17), some (.long ((l3_17 * (27 : Int64)) + (((32 : Int32) - (97 : Int32)) + (1 : Int32)).toInt64)), none, some (.int l5_17), some (.int (32 : Int32))]) dX5_indexAmong_69 (by decide) rfl ?_
          refine x_goto 89 dX5_indexAmong_70 (by decide) ?_
          refine x_iincK (1 : Int32) (pl' := [some (.ref 17), some (.ref 1005), some (.int l2_17), some (.long ((l3_17 * (27 : Int64)) + (((32 : Int32) - (97 : Int32)) + (1 : Int32)).toInt64)), none, some (.int (l5_17 + (1 : Int32))), some (.int (32 : Int32))]) dX5_indexAmong_89 rfl (by decide) (by decide) rfl ?_
          refine x_goto 17 dX5_indexAmong_92 (by decide) ?_
          refine x_weak (pl2 := [some (.ref 17), some (.ref 1005), some (.int l2_17), some (.long ((l3_17 * (27 : Int64)) + (((32 : Int32) - (97 : Int32)) + (1 : Int32)).toInt64)), none, some (.int (l5_17 + (1 : Int32))), none]) ⟨rfl, rfl, rfl, rfl, rfl, trivial⟩ ?_
          exact ih17 l2_17 ((l3_17 * (27 : Int64)) + (((32 : Int32) - (97 : Int32)) + (1 : Int32)).toInt64) (l5_17 + (1 : Int32)) h
      · have h := xif_f q h
        refine x_aload_n dX5_indexAmong_35 rfl ?_
        refine x_iload dX5_indexAmong_36 rfl ?_
        obtain ⟨q38, h⟩ := xix_of h
        refine x_schar (k := 5) (s := xsy 5) rfl rfl q38 (Nat.le_of_ble_eq_true rfl) kX5_98 dX5_indexAmong_38 (Nat.le_of_ble_eq_true rfl) ?_
        refine x_goto 46 dX5_indexAmong_41 (by decide) ?_
        refine x_istore (pl' := [some (.ref 17), some (.ref 1005), some (.int l2_17), some (.long l3_17), none, some (.int l5_17), some (.int (xch (xsy 5) l5_17))]) dX5_indexAmong_46 (by decide) rfl ?_
        refine x_iload dX5_indexAmong_48 rfl ?_
        refine x_bipush (32 : Int32) dX5_indexAmong_50 (by decide) ?_
        refine x_icmp_eq 73 dX5_indexAmong_52 (by decide) (fun q => ?_) (fun q => ?_)
        · have h := xif_t q h
          refine x_lload_n dX5_indexAmong_73 rfl ?_
          refine x_aload_n dX5_indexAmong_74 rfl ?_
          refine x_get fX5_34 dX5_indexAmong_75 rfl rfl rfl ?_
          refine x_lcmp dX5_indexAmong_78 ?_
          refine x_if_ne 84 dX5_indexAmong_79 (by decide) (fun q => ?_) (fun q => ?_)
          · have h := xif_f q h
            refine x_iincK (1 : Int32) (pl' := [some (.ref 17), some (.ref 1005), some (.int (l2_17 + (1 : Int32))), some (.long l3_17), none, some (.int l5_17), some (.int (xch (xsy 5) l5_17))]) dX5_indexAmong_84 rfl (by decide) (by decide) rfl ?_
            refine x_lconst (0 : Int64) dX5_indexAmong_87 (by decide) ?_
            refine x_lstore_n (pl' := [some (.ref 17), some (.ref 1005), some (.int (l2_17 + (1 : Int32))), some (.long (0 : Int64)), none, some (.int l5_17), some (.int (xch (xsy 5) l5_17))]) dX5_indexAmong_88 (by decide) rfl ?_
            refine x_iincK (1 : Int32) (pl' := [some (.ref 17), some (.ref 1005), some (.int (l2_17 + (1 : Int32))), some (.long (0 : Int64)), none, some (.int (l5_17 + (1 : Int32))), some (.int (xch (xsy 5) l5_17))]) dX5_indexAmong_89 rfl (by decide) (by decide) rfl ?_
            refine x_goto 17 dX5_indexAmong_92 (by decide) ?_
            refine x_weak (pl2 := [some (.ref 17), some (.ref 1005), some (.int (l2_17 + (1 : Int32))), some (.long (0 : Int64)), none, some (.int (l5_17 + (1 : Int32))), none]) ⟨rfl, rfl, rfl, rfl, rfl, trivial⟩ ?_
            exact ih17 (l2_17 + (1 : Int32)) (0 : Int64) (l5_17 + (1 : Int32)) h
          · have h := xif_t q h
            refine x_iload_n dX5_indexAmong_82 rfl ?_
            cases h
            exact x_iret2 dX5_indexAmong_83 rfl rfl
        · have h := xif_f q h
          refine x_lload_n dX5_indexAmong_55 rfl ?_
          refine x_ldc2 iX5_102 dX5_indexAmong_56 ?_
          refine x_lmul dX5_indexAmong_59 ?_
          refine x_iload dX5_indexAmong_60 rfl ?_
          refine x_bipush (97 : Int32) dX5_indexAmong_62 (by decide) ?_
          refine x_isub dX5_indexAmong_64 ?_
          refine x_iconst (1 : Int32) dX5_indexAmong_65 (by decide) ?_
          refine x_iadd dX5_indexAmong_66 ?_
          refine x_i2l dX5_indexAmong_67 ?_
          refine x_ladd dX5_indexAmong_68 ?_
          refine x_lstore_n (pl' := [some (.ref 17), some (.ref 1005), some (.int l2_17), some (.long ((l3_17 * (27 : Int64)) + (((xch (xsy 5) l5_17) - (97 : Int32)) + (1 : Int32)).toInt64)), none, some (.int l5_17), some (.int (xch (xsy 5) l5_17))]) dX5_indexAmong_69 (by decide) rfl ?_
          refine x_goto 89 dX5_indexAmong_70 (by decide) ?_
          refine x_iincK (1 : Int32) (pl' := [some (.ref 17), some (.ref 1005), some (.int l2_17), some (.long ((l3_17 * (27 : Int64)) + (((xch (xsy 5) l5_17) - (97 : Int32)) + (1 : Int32)).toInt64)), none, some (.int (l5_17 + (1 : Int32))), some (.int (xch (xsy 5) l5_17))]) dX5_indexAmong_89 rfl (by decide) (by decide) rfl ?_
          refine x_goto 17 dX5_indexAmong_92 (by decide) ?_
          refine x_weak (pl2 := [some (.ref 17), some (.ref 1005), some (.int l2_17), some (.long ((l3_17 * (27 : Int64)) + (((xch (xsy 5) l5_17) - (97 : Int32)) + (1 : Int32)).toInt64)), none, some (.int (l5_17 + (1 : Int32))), none]) ⟨rfl, rfl, rfl, rfl, rfl, trivial⟩ ?_
          exact ih17 l2_17 ((l3_17 * (27 : Int64)) + (((xch (xsy 5) l5_17) - (97 : Int32)) + (1 : Int32)).toInt64) (l5_17 + (1 : Int32)) h
set_option maxRecDepth 100000 in
set_option maxHeartbeats 4000000 in
theorem t_hA_X5_indexAmong_7 {g0 g1 g2 g3 g4 g5 g6 g7 g8 g9 g10 g11 g12 g13 g14 g15 g16 g17 g18 g19 g20 g21 g22 g23 g24 g25 g26 g27 g28 g29 g30 g31 g32 g33 g34 g35 g36 : Int32} {a0 a1 a2 a3 a4 a5 a6 a7 a8 a9 a10 a11 a12 a13 a14 a15 a16 a17 a18 a19 a20 a21 a22 a23 a24 a25 a26 a27 a28 a29 a30 a31 a32 a33 a34 a35 a36 a37 a38 a39 : (Nat → Int32)} {b0 b1 b2 b3 b4 : (Nat → Int64)} {w0 : Int64}  (res : Int32) (h : e_hA_X5_indexAmong g19 w0 (xsy 5)  = some res) (d : Nat) : xMet xks YX5_indexAmong (d + 5) 0 0 [.ref 17, .ref 1005] (hA g0 g1 g2 g3 g4 g5 g6 g7 g8 g9 g10 g11 g12 g13 g14 g15 g16 g17 g18 g19 g20 g21 g22 g23 g24 g25 g26 g27 g28 g29 g30 g31 g32 g33 g34 g35 g36 a0 a1 a2 a3 a4 a5 a6 a7 a8 a9 a10 a11 a12 a13 a14 a15 a16 a17 a18 a19 a20 a21 a22 a23 a24 a25 a26 a27 a28 a29 a30 a31 a32 a33 a34 a35 a36 a37 a38 a39 b0 b1 b2 b3 b4 w0 (.ref 19) (.ref 1)) (some (.int res)) (hA g0 g1 g2 g3 g4 g5 g6 g7 g8 g9 g10 g11 g12 g13 g14 g15 g16 g17 g18 g19 g20 g21 g22 g23 g24 g25 g26 g27 g28 g29 g30 g31 g32 g33 g34 g35 g36 a0 a1 a2 a3 a4 a5 a6 a7 a8 a9 a10 a11 a12 a13 a14 a15 a16 a17 a18 a19 a20 a21 a22 a23 a24 a25 a26 a27 a28 a29 a30 a31 a32 a33 a34 a35 a36 a37 a38 a39 b0 b1 b2 b3 b4 w0 (.ref 19) (.ref 1)) := by
  unfold e_hA_X5_indexAmong at h
  refine xMet_of (pl := [some (.ref 17), some (.ref 1005), none, none, none, none, none]) (by decide) (Nat.le_of_ble_eq_true rfl) rfl (Nat.le_of_ble_eq_true rfl) ?_
  refine x_aload_n dX5_indexAmong_0 rfl ?_
  refine x_get fX5_31 dX5_indexAmong_1 rfl rfl rfl ?_
  refine x_iconst (1 : Int32) dX5_indexAmong_4 (by decide) ?_
  refine x_icmp_eq 10 dX5_indexAmong_5 (by decide) (fun q => ?_) (fun q => ?_)
  · have h := xif_t q h
    refine x_iconst (0 : Int32) dX5_indexAmong_10 (by decide) ?_
    refine x_istore_n (pl' := [some (.ref 17), some (.ref 1005), some (.int (0 : Int32)), none, none, none, none]) dX5_indexAmong_11 (by decide) rfl ?_
    refine x_lconst (0 : Int64) dX5_indexAmong_12 (by decide) ?_
    refine x_lstore_n (pl' := [some (.ref 17), some (.ref 1005), some (.int (0 : Int32)), some (.long (0 : Int64)), none, none, none]) dX5_indexAmong_13 (by decide) rfl ?_
    refine x_iconst (0 : Int32) dX5_indexAmong_14 (by decide) ?_
    refine x_istore (pl' := [some (.ref 17), some (.ref 1005), some (.int (0 : Int32)), some (.long (0 : Int64)), none, some (.int (0 : Int32)), none]) dX5_indexAmong_15 (by decide) rfl ?_
    refine x_weak (pl2 := [some (.ref 17), some (.ref 1005), some (.int (0 : Int32)), some (.long (0 : Int64)), none, some (.int (0 : Int32)), none]) ⟨rfl, rfl, rfl, rfl, rfl, trivial⟩ ?_
    refine lp_hA_X5_indexAmong_7_17 d _  res _ (fun l2_17 l3_17 l5_17 h => ?_) 200000 (0 : Int32) (0 : Int64) (0 : Int32) h
    refine x_iconst (-1 : Int32) dX5_indexAmong_95 (by decide) ?_
    cases h
    exact x_iret2 dX5_indexAmong_96 rfl rfl
  · have h := xif_f q h
    refine x_iconst (-1 : Int32) dX5_indexAmong_8 (by decide) ?_
    cases h
    exact x_iret2 dX5_indexAmong_9 rfl rfl
set_option maxRecDepth 100000 in
set_option maxHeartbeats 4000000 in
theorem t_hA_X5_readOneOf_2 {g0 g1 g2 g3 g4 g5 g6 g7 g8 g9 g10 g11 g12 g13 g14 g15 g16 g17 g18 g19 g20 g21 g22 g23 g24 g25 g26 g27 g28 g29 g30 g31 g32 g33 g34 g35 g36 : Int32} {a0 a1 a2 a3 a4 a5 a6 a7 a8 a9 a10 a11 a12 a13 a14 a15 a16 a17 a18 a19 a20 a21 a22 a23 a24 a25 a26 a27 a28 a29 a30 a31 a32 a33 a34 a35 a36 a37 a38 a39 : (Nat → Int32)} {b0 b1 b2 b3 b4 : (Nat → Int64)} {w0 : Int64}  (res : Int32 × Int32 × Int32 × Int64 × Int32 × Int32 × Int32) (h : e_hA_X5_readOneOf g19 w0 g20 g18 g17 g15 a13 g14 (xsy 5)  = some res) (d : Nat) : xMet xks YX5_readOneOf (d + 6) 0 0 [.ref 17, .ref 1005] (hA g0 g1 g2 g3 g4 g5 g6 g7 g8 g9 g10 g11 g12 g13 g14 g15 g16 g17 g18 g19 g20 g21 g22 g23 g24 g25 g26 g27 g28 g29 g30 g31 g32 g33 g34 g35 g36 a0 a1 a2 a3 a4 a5 a6 a7 a8 a9 a10 a11 a12 a13 a14 a15 a16 a17 a18 a19 a20 a21 a22 a23 a24 a25 a26 a27 a28 a29 a30 a31 a32 a33 a34 a35 a36 a37 a38 a39 b0 b1 b2 b3 b4 w0 (.ref 19) (.ref 1)) (some (.int res.1)) (hA g0 g1 g2 g3 g4 g5 g6 g7 g8 g9 g10 g11 g12 g13 res.2.2.2.2.2.2 res.2.2.1 g16 g17 res.2.2.2.2.2.1 res.2.2.2.2.1 res.2.1 g21 g22 g23 g24 g25 g26 g27 g28 g29 g30 g31 g32 g33 g34 g35 g36 a0 a1 a2 a3 a4 a5 a6 a7 a8 a9 a10 a11 a12 a13 a14 a15 a16 a17 a18 a19 a20 a21 a22 a23 a24 a25 a26 a27 a28 a29 a30 a31 a32 a33 a34 a35 a36 a37 a38 a39 b0 b1 b2 b3 b4 res.2.2.2.1 (.ref 19) (.ref 1)) := by
  unfold e_hA_X5_readOneOf at h
  refine xMet_of (pl := [some (.ref 17), some (.ref 1005)]) (by decide) (Nat.le_of_ble_eq_true rfl) rfl (Nat.le_of_ble_eq_true rfl) ?_
  refine x_aload_n dX5_readOneOf_0 rfl ?_
  refine x_aload_n dX5_readOneOf_1 rfl ?_
  refine x_aload_n dX5_readOneOf_2 rfl ?_
  obtain ⟨z3, y3, h⟩ := xbind h
  refine x_callV (t_hA_X5_indexAmong_7  z3 y3 (d + 0)) kX5_104 dX5_readOneOf_3 rfl rfl rfl rfl rfl (Nat.le_of_ble_eq_true rfl) (Nat.le_of_ble_eq_true rfl) rfl rfl (Or.inl rfl) ?_
  refine x_put (h2 := (hA g0 g1 g2 g3 g4 g5 g6 g7 g8 g9 g10 g11 g12 g13 g14 g15 g16 g17 g18 g19 z3 g21 g22 g23 g24 g25 g26 g27 g28 g29 g30 g31 g32 g33 g34 g35 g36 a0 a1 a2 a3 a4 a5 a6 a7 a8 a9 a10 a11 a12 a13 a14 a15 a16 a17 a18 a19 a20 a21 a22 a23 a24 a25 a26 a27 a28 a29 a30 a31 a32 a33 a34 a35 a36 a37 a38 a39 b0 b1 b2 b3 b4 w0 (.ref 19) (.ref 1))) fX5_38 dX5_readOneOf_6 rfl rfl (Nat.le_of_ble_eq_true rfl : 8 + 1 ≤ _) (fun α => ⟨rfl, rfl⟩) rfl ?_
  refine x_aload_n dX5_readOneOf_9 rfl ?_
  refine x_get fX5_38 dX5_readOneOf_10 rfl rfl rfl ?_
  refine x_iconst (-1 : Int32) dX5_readOneOf_13 (by decide) ?_
  refine x_icmp_ne 23 dX5_readOneOf_14 (by decide) (fun q => ?_) (fun q => ?_)
  · have h := xif_f q h
    refine x_aload_n dX5_readOneOf_23 rfl ?_
    obtain ⟨z24, y24, h⟩ := xbind h
    refine x_callV (t_hA_X5_readToken  z24 y24 (d + 2)) kX5_68 dX5_readOneOf_24 rfl rfl rfl rfl rfl (Nat.le_of_ble_eq_true rfl) (Nat.le_of_ble_eq_true rfl) rfl rfl (Or.inl rfl) ?_
    refine x_iconst (1 : Int32) dX5_readOneOf_27 (by decide) ?_
    cases h
    exact x_zret2 dX5_readOneOf_28 rfl rfl rfl
  · have h := xif_t q h
    refine x_aload_n dX5_readOneOf_17 rfl ?_
    refine x_iconst (1 : Int32) dX5_readOneOf_18 (by decide) ?_
    obtain ⟨z19, y19, h⟩ := xbind h
    refine x_callV (t_hA_X5_fail (1 : Int32) z19 y19 (d + 4)) kX5_75 dX5_readOneOf_19 rfl rfl rfl rfl rfl (Nat.le_of_ble_eq_true rfl) (Nat.le_of_ble_eq_true rfl) rfl rfl (Or.inl rfl) ?_
    obtain ⟨-, q22, h⟩ := xbo_of h
    cases h
    exact x_zret2 dX5_readOneOf_22 rfl q22 rfl
noncomputable def e_hA_X5_readPersonLine (p0 : Int32) (p1 : Int32) (p2 : Int32) (p3 : Int32) (p4 : Int64) (p5 : Int32) (p6 : (Nat → Int32)) (p7 : (Nat → Int64)) (p8 : Int32) (p9 : Int32) (p10 : (Nat → Int64)) (p11 : Int32) (p12 : (Nat → Int32))  : Option (Int32 × Int32 × Int64 × Int32 × Int32 × (Nat → Int64) × Int32 × Int32 × (Nat → Int32) × Int32) :=
  if p0 < (6 : Int32) then ((e_hA_X5_readToken p1 p2 p3 p4 p5 p6).bind fun z21 => xix p0 6 ((e_hA_X5_readNewName z21.2.2.1 z21.2.1 p0 (vp_updL p7 p0.toNatClampNeg z21.2.1) p8 p9 p10 z21.2.2.2 p2 z21.1 p6).bind fun z35 => if z35.1 = (0 : Int32) then some ((0 : Int32), z35.2.2.1, z35.2.2.2.1, z35.2.2.2.2.1, z35.2.2.2.2.2, (vp_updL p7 p0.toNatClampNeg z21.2.1), z35.2.1, p11, p12, p0) else ((e_hA_X5_readOneOf z35.2.2.2.2.1 z35.2.2.2.1 p11 z35.2.2.2.2.2 p2 z35.2.2.1 p6 z35.2.1 (xsy 5)).bind fun z44 => if z44.1 = (0 : Int32) then some ((0 : Int32), z44.2.2.1, z44.2.2.2.1, z44.2.2.2.2.1, z44.2.2.2.2.2.1, (vp_updL p7 p0.toNatClampNeg z21.2.1), z44.2.2.2.2.2.2, z44.2.1, p12, p0) else (xix p0 6 (some ((1 : Int32), z44.2.2.1, z44.2.2.2.1, z44.2.2.2.2.1, z44.2.2.2.2.2.1, (vp_updL p7 p0.toNatClampNeg z21.2.1), z44.2.2.2.2.2.2, z44.2.1, (upd p12 p0.toNatClampNeg z44.2.1), (p0 + (1 : Int32)))))))) else ((e_hA_X5_fail p8 (5 : Int32)).bind fun z16 => xbo z16.1 (some (z16.1, p3, p4, p5, p1, p7, z16.2, p11, p12, p0)))
set_option maxRecDepth 100000 in
set_option maxHeartbeats 4000000 in
theorem t_hA_X5_readPersonLine {g0 g1 g2 g3 g4 g5 g6 g7 g8 g9 g10 g11 g12 g13 g14 g15 g16 g17 g18 g19 g20 g21 g22 g23 g24 g25 g26 g27 g28 g29 g30 g31 g32 g33 g34 g35 g36 : Int32} {a0 a1 a2 a3 a4 a5 a6 a7 a8 a9 a10 a11 a12 a13 a14 a15 a16 a17 a18 a19 a20 a21 a22 a23 a24 a25 a26 a27 a28 a29 a30 a31 a32 a33 a34 a35 a36 a37 a38 a39 : (Nat → Int32)} {b0 b1 b2 b3 b4 : (Nat → Int64)} {w0 : Int64}  (res : Int32 × Int32 × Int64 × Int32 × Int32 × (Nat → Int64) × Int32 × Int32 × (Nat → Int32) × Int32) (h : e_hA_X5_readPersonLine g10 g18 g17 g15 w0 g19 a13 b0 g14 g11 b1 g20 a14  = some res) (d : Nat) : xMet xks YX5_readPersonLine (d + 8) 0 0 [.ref 17] (hA g0 g1 g2 g3 g4 g5 g6 g7 g8 g9 g10 g11 g12 g13 g14 g15 g16 g17 g18 g19 g20 g21 g22 g23 g24 g25 g26 g27 g28 g29 g30 g31 g32 g33 g34 g35 g36 a0 a1 a2 a3 a4 a5 a6 a7 a8 a9 a10 a11 a12 a13 a14 a15 a16 a17 a18 a19 a20 a21 a22 a23 a24 a25 a26 a27 a28 a29 a30 a31 a32 a33 a34 a35 a36 a37 a38 a39 b0 b1 b2 b3 b4 w0 (.ref 19) (.ref 1)) (some (.int res.1)) (hA g0 g1 g2 g3 g4 g5 g6 g7 g8 g9 res.2.2.2.2.2.2.2.2.2 g11 g12 g13 res.2.2.2.2.2.2.1 res.2.1 g16 g17 res.2.2.2.2.1 res.2.2.2.1 res.2.2.2.2.2.2.2.1 g21 g22 g23 g24 g25 g26 g27 g28 g29 g30 g31 g32 g33 g34 g35 g36 a0 a1 a2 a3 a4 a5 a6 a7 a8 a9 a10 a11 a12 a13 res.2.2.2.2.2.2.2.2.1 a15 a16 a17 a18 a19 a20 a21 a22 a23 a24 a25 a26 a27 a28 a29 a30 a31 a32 a33 a34 a35 a36 a37 a38 a39 res.2.2.2.2.2.1 b1 b2 b3 b4 res.2.2.1 (.ref 19) (.ref 1)) := by
  unfold e_hA_X5_readPersonLine at h
  refine xMet_of (pl := [some (.ref 17), none]) (by decide) (Nat.le_of_ble_eq_true rfl) rfl (Nat.le_of_ble_eq_true rfl) ?_
  refine x_aload_n dX5_readPersonLine_0 rfl ?_
  refine x_get fX5_48 dX5_readPersonLine_1 rfl rfl rfl ?_
  refine x_get fX5_79 dX5_readPersonLine_4 rfl rfl rfl ?_
  refine x_istore_n (pl' := [some (.ref 17), some (.int g10)]) dX5_readPersonLine_7 (by decide) rfl ?_
  refine x_iload_n dX5_readPersonLine_8 rfl ?_
  refine x_bipush (6 : Int32) dX5_readPersonLine_9 (by decide) ?_
  refine x_icmp_lt 20 dX5_readPersonLine_11 (by decide) (fun q => ?_) (fun q => ?_)
  · have h := xif_t q h
    refine x_aload_n dX5_readPersonLine_20 rfl ?_
    obtain ⟨z21, y21, h⟩ := xbind h
    refine x_callV (t_hA_X5_readToken  z21 y21 (d + 4)) kX5_68 dX5_readPersonLine_21 rfl rfl rfl rfl rfl (Nat.le_of_ble_eq_true rfl) (Nat.le_of_ble_eq_true rfl) rfl rfl (Or.inl rfl) ?_
    refine x_aload_n dX5_readPersonLine_24 rfl ?_
    refine x_get fX5_52 dX5_readPersonLine_25 rfl rfl rfl ?_
    refine x_iload_n dX5_readPersonLine_28 rfl ?_
    refine x_aload_n dX5_readPersonLine_29 rfl ?_
    refine x_get fX5_34 dX5_readPersonLine_30 rfl rfl rfl ?_
    obtain ⟨q33, h⟩ := xix_of h
    refine x_last (h2 := (hA g0 g1 g2 g3 g4 g5 g6 g7 g8 g9 g10 g11 g12 g13 g14 z21.1 g16 g17 z21.2.2.2 z21.2.2.1 g20 g21 g22 g23 g24 g25 g26 g27 g28 g29 g30 g31 g32 g33 g34 g35 g36 a0 a1 a2 a3 a4 a5 a6 a7 a8 a9 a10 a11 a12 a13 a14 a15 a16 a17 a18 a19 a20 a21 a22 a23 a24 a25 a26 a27 a28 a29 a30 a31 a32 a33 a34 a35 a36 a37 a38 a39 (vp_updL b0 g10.toNatClampNeg z21.2.1) b1 b2 b3 b4 z21.2.1 (.ref 19) (.ref 1))) dX5_readPersonLine_33 rfl q33 rfl ?_
    refine x_aload_n dX5_readPersonLine_34 rfl ?_
    obtain ⟨z35, y35, h⟩ := xbind h
    refine x_callV (t_hA_X5_readNewName  z35 y35 (d + 0)) kX5_150 dX5_readPersonLine_35 rfl rfl rfl rfl rfl (Nat.le_of_ble_eq_true rfl) (Nat.le_of_ble_eq_true rfl) rfl rfl (Or.inl rfl) ?_
    refine x_if_eq 50 dX5_readPersonLine_38 (by decide) (fun q => ?_) (fun q => ?_)
    · have h := xif_t q h
      refine x_iconst (0 : Int32) dX5_readPersonLine_50 (by decide) ?_
      cases h
      exact x_zret2 dX5_readPersonLine_51 rfl rfl rfl
    · have h := xif_f q h
      refine x_aload_n dX5_readPersonLine_41 rfl ?_
      refine x_ldcS (k := 5) rfl rfl rfl dX5_readPersonLine_42 ?_
      obtain ⟨z44, y44, h⟩ := xbind h
      refine x_callV (t_hA_X5_readOneOf_2  z44 y44 (d + 1)) kX5_155 dX5_readPersonLine_44 rfl rfl rfl rfl rfl (Nat.le_of_ble_eq_true rfl) (Nat.le_of_ble_eq_true rfl) rfl rfl (Or.inl rfl) ?_
      refine x_if_ne 52 dX5_readPersonLine_47 (by decide) (fun q => ?_) (fun q => ?_)
      · have h := xif_f q h
        refine x_aload_n dX5_readPersonLine_52 rfl ?_
        refine x_get fX5_48 dX5_readPersonLine_53 rfl rfl rfl ?_
        refine x_get fX5_159 dX5_readPersonLine_56 rfl rfl rfl ?_
        refine x_iload_n dX5_readPersonLine_59 rfl ?_
        refine x_aload_n dX5_readPersonLine_60 rfl ?_
        refine x_get fX5_38 dX5_readPersonLine_61 rfl rfl rfl ?_
        obtain ⟨q64, h⟩ := xix_of h
        refine x_iast (h2 := (hA g0 g1 g2 g3 g4 g5 g6 g7 g8 g9 g10 g11 g12 g13 z44.2.2.2.2.2.2 z44.2.2.1 g16 g17 z44.2.2.2.2.2.1 z44.2.2.2.2.1 z44.2.1 g21 g22 g23 g24 g25 g26 g27 g28 g29 g30 g31 g32 g33 g34 g35 g36 a0 a1 a2 a3 a4 a5 a6 a7 a8 a9 a10 a11 a12 a13 (upd a14 g10.toNatClampNeg z44.2.1) a15 a16 a17 a18 a19 a20 a21 a22 a23 a24 a25 a26 a27 a28 a29 a30 a31 a32 a33 a34 a35 a36 a37 a38 a39 (vp_updL b0 g10.toNatClampNeg z21.2.1) b1 b2 b3 b4 z44.2.2.2.1 (.ref 19) (.ref 1))) dX5_readPersonLine_64 rfl q64 rfl ?_
        refine x_aload_n dX5_readPersonLine_65 rfl ?_
        refine x_get fX5_48 dX5_readPersonLine_66 rfl rfl rfl ?_
        refine x_iload_n dX5_readPersonLine_69 rfl ?_
        refine x_iconst (1 : Int32) dX5_readPersonLine_70 (by decide) ?_
        refine x_iadd dX5_readPersonLine_71 ?_
        refine x_put (h2 := (hA g0 g1 g2 g3 g4 g5 g6 g7 g8 g9 (g10 + (1 : Int32)) g11 g12 g13 z44.2.2.2.2.2.2 z44.2.2.1 g16 g17 z44.2.2.2.2.2.1 z44.2.2.2.2.1 z44.2.1 g21 g22 g23 g24 g25 g26 g27 g28 g29 g30 g31 g32 g33 g34 g35 g36 a0 a1 a2 a3 a4 a5 a6 a7 a8 a9 a10 a11 a12 a13 (upd a14 g10.toNatClampNeg z44.2.1) a15 a16 a17 a18 a19 a20 a21 a22 a23 a24 a25 a26 a27 a28 a29 a30 a31 a32 a33 a34 a35 a36 a37 a38 a39 (vp_updL b0 g10.toNatClampNeg z21.2.1) b1 b2 b3 b4 z44.2.2.2.1 (.ref 19) (.ref 1))) fX5_79 dX5_readPersonLine_72 rfl rfl (Nat.le_of_ble_eq_true rfl : 3 + 1 ≤ _) (fun α => ⟨rfl, rfl⟩) rfl ?_
        refine x_iconst (1 : Int32) dX5_readPersonLine_75 (by decide) ?_
        cases h
        exact x_zret2 dX5_readPersonLine_76 rfl rfl rfl
      · have h := xif_t q h
        refine x_iconst (0 : Int32) dX5_readPersonLine_50 (by decide) ?_
        cases h
        exact x_zret2 dX5_readPersonLine_51 rfl rfl rfl
  · have h := xif_f q h
    refine x_aload_n dX5_readPersonLine_14 rfl ?_
    refine x_iconst (5 : Int32) dX5_readPersonLine_15 (by decide) ?_
    obtain ⟨z16, y16, h⟩ := xbind h
    refine x_callV (t_hA_X5_fail (5 : Int32) z16 y16 (d + 6)) kX5_75 dX5_readPersonLine_16 rfl rfl rfl rfl rfl (Nat.le_of_ble_eq_true rfl) (Nat.le_of_ble_eq_true rfl) rfl rfl (Or.inl rfl) ?_
    obtain ⟨-, q19, h⟩ := xbo_of h
    cases h
    exact x_zret2 dX5_readPersonLine_19 rfl q19 rfl
set_option maxRecDepth 100000 in
set_option maxHeartbeats 4000000 in
theorem lp_hA_X5_indexAmong_8_17 {g0 g1 g2 g3 g4 g5 g6 g7 g8 g9 g10 g11 g12 g13 g14 g15 g16 g17 g18 g19 g20 g21 g22 g23 g24 g25 g26 g27 g28 g29 g30 g31 g32 g33 g34 g35 g36 : Int32} {a0 a1 a2 a3 a4 a5 a6 a7 a8 a9 a10 a11 a12 a13 a14 a15 a16 a17 a18 a19 a20 a21 a22 a23 a24 a25 a26 a27 a28 a29 a30 a31 a32 a33 a34 a35 a36 a37 a38 a39 : (Nat → Int32)} {b0 b1 b2 b3 b4 : (Nat → Int64)} {w0 : Int64} (d n0 : Nat)  (res : Int32) (K : Int32 → Int64 → Int32 → Option (Int32)) (hK : ∀ (l2_17 : Int32) (l3_17 : Int64) (l5_17 : Int32), K l2_17 l3_17 l5_17 = some res → xW xks YX5_indexAmong (d + 5) 0 0 n0 (xZ 0 0 n0 (some (.int res)) (hA g0 g1 g2 g3 g4 g5 g6 g7 g8 g9 g10 g11 g12 g13 g14 g15 g16 g17 g18 g19 g20 g21 g22 g23 g24 g25 g26 g27 g28 g29 g30 g31 g32 g33 g34 g35 g36 a0 a1 a2 a3 a4 a5 a6 a7 a8 a9 a10 a11 a12 a13 a14 a15 a16 a17 a18 a19 a20 a21 a22 a23 a24 a25 a26 a27 a28 a29 a30 a31 a32 a33 a34 a35 a36 a37 a38 a39 b0 b1 b2 b3 b4 w0 (.ref 19) (.ref 1))) 0 0 95 [none, none, none, none, none, none, none] [] (hA g0 g1 g2 g3 g4 g5 g6 g7 g8 g9 g10 g11 g12 g13 g14 g15 g16 g17 g18 g19 g20 g21 g22 g23 g24 g25 g26 g27 g28 g29 g30 g31 g32 g33 g34 g35 g36 a0 a1 a2 a3 a4 a5 a6 a7 a8 a9 a10 a11 a12 a13 a14 a15 a16 a17 a18 a19 a20 a21 a22 a23 a24 a25 a26 a27 a28 a29 a30 a31 a32 a33 a34 a35 a36 a37 a38 a39 b0 b1 b2 b3 b4 w0 (.ref 19) (.ref 1))) : ∀ (n : Nat) (l2_17 : Int32) (l3_17 : Int64) (l5_17 : Int32), L_hA_X5_indexAmong_17 g19 w0 (xsy 2)  K n l2_17 l3_17 l5_17 = some res → xW xks YX5_indexAmong (d + 5) 0 0 n0 (xZ 0 0 n0 (some (.int res)) (hA g0 g1 g2 g3 g4 g5 g6 g7 g8 g9 g10 g11 g12 g13 g14 g15 g16 g17 g18 g19 g20 g21 g22 g23 g24 g25 g26 g27 g28 g29 g30 g31 g32 g33 g34 g35 g36 a0 a1 a2 a3 a4 a5 a6 a7 a8 a9 a10 a11 a12 a13 a14 a15 a16 a17 a18 a19 a20 a21 a22 a23 a24 a25 a26 a27 a28 a29 a30 a31 a32 a33 a34 a35 a36 a37 a38 a39 b0 b1 b2 b3 b4 w0 (.ref 19) (.ref 1))) 0 0 17 [some (.ref 17), some (.ref 1002), some (.int l2_17), some (.long l3_17), none, some (.int l5_17), none] [] (hA g0 g1 g2 g3 g4 g5 g6 g7 g8 g9 g10 g11 g12 g13 g14 g15 g16 g17 g18 g19 g20 g21 g22 g23 g24 g25 g26 g27 g28 g29 g30 g31 g32 g33 g34 g35 g36 a0 a1 a2 a3 a4 a5 a6 a7 a8 a9 a10 a11 a12 a13 a14 a15 a16 a17 a18 a19 a20 a21 a22 a23 a24 a25 a26 a27 a28 a29 a30 a31 a32 a33 a34 a35 a36 a37 a38 a39 b0 b1 b2 b3 b4 w0 (.ref 19) (.ref 1)) := by
  intro n
  induction n with
  | zero =>
    intro l2_17 l3_17 l5_17 h
    cases (show (none : Option (Int32)) = some res from h)
  | succ n17 ih17 =>
    intro l2_17 l3_17 l5_17 h
    unfold L_hA_X5_indexAmong_17 at h
    refine x_iload dX5_indexAmong_17 rfl ?_
    refine x_aload_n dX5_indexAmong_19 rfl ?_
    refine x_slen (k := 2) (s := xsy 2) rfl rfl (Nat.le_of_ble_eq_true rfl) kX5_93 dX5_indexAmong_20 (Nat.le_of_ble_eq_true rfl) ?_
    refine x_icmp_gt 95 dX5_indexAmong_23 (by decide) (fun q => ?_) (fun q => ?_)
    · have h := xif_t q h
      refine x_weak (pl2 := [none, none, none, none, none, none, none]) trivial ?_
      exact hK l2_17 l3_17 l5_17 h
    · have h := xif_f q h
      refine x_iload dX5_indexAmong_26 rfl ?_
      refine x_aload_n dX5_indexAmong_28 rfl ?_
      refine x_slen (k := 2) (s := xsy 2) rfl rfl (Nat.le_of_ble_eq_true rfl) kX5_93 dX5_indexAmong_29 (Nat.le_of_ble_eq_true rfl) ?_
      refine x_icmp_ge 44 dX5_indexAmong_32 (by decide) (fun q => ?_) (fun q => ?_)
      · have h := xif_t q h
        refine x_bipush (32 : Int32) dX5_indexAmong_44 (by decide) ?_
        refine x_istore (pl' := [some (.ref 17), some (.ref 1002), some (.int l2_17), some (.long l3_17), none, some (.int l5_17), some (.int (32 : Int32))]) dX5_indexAmong_46 (by decide) rfl ?_
        refine x_iload dX5_indexAmong_48 rfl ?_
        refine x_bipush (32 : Int32) dX5_indexAmong_50 (by decide) ?_
        refine x_icmp_eq 73 dX5_indexAmong_52 (by decide) (fun q => ?_) (fun q => ?_)
        · have h := xif_t q h
          refine x_lload_n dX5_indexAmong_73 rfl ?_
          refine x_aload_n dX5_indexAmong_74 rfl ?_
          refine x_get fX5_34 dX5_indexAmong_75 rfl rfl rfl ?_
          refine x_lcmp dX5_indexAmong_78 ?_
          refine x_if_ne 84 dX5_indexAmong_79 (by decide) (fun q => ?_) (fun q => ?_)
          · have h := xif_f q h
            refine x_iincK (1 : Int32) (pl' := [some (.ref 17), some (.ref 1002), some (.int (l2_17 + (1 : Int32))), some (.long l3_17), none, some (.int l5_17), some (.int (32 : Int32))]) dX5_indexAmong_84 rfl (by decide) (by decide) rfl ?_
            refine x_lconst (0 : Int64) dX5_indexAmong_87 (by decide) ?_
            refine x_lstore_n (pl' := [some (.ref 17), some (.ref 1002), some (.int (l2_17 + (1 : Int32))), some (.long (0 : Int64)), none, some (.int l5_17), some (.int (32 : Int32))]) dX5_indexAmong_88 (by decide) rfl ?_
            refine x_iincK (1 : Int32) (pl' := [some (.ref 17), some (.ref 1002), some (.int (l2_17 + (1 : Int32))), some (.long (0 : Int64)), none, some (.int (l5_17 + (1 : Int32))), some (.int (32 : Int32))]) dX5_indexAmong_89 rfl (by decide) (by decide) rfl ?_
            refine x_goto 17 dX5_indexAmong_92 (by decide) ?_
            refine x_weak (pl2 := [some (.ref 17), some (.ref 1002), some (.int (l2_17 + (1 : Int32))), some (.long (0 : Int64)), none, some (.int (l5_17 + (1 : Int32))), none]) ⟨rfl, rfl, rfl, rfl, rfl, trivial⟩ ?_
            exact ih17 (l2_17 + (1 : Int32)) (0 : Int64) (l5_17 + (1 : Int32)) h
          · have h := xif_t q h
            refine x_iload_n dX5_indexAmong_82 rfl ?_
            cases h
            exact x_iret2 dX5_indexAmong_83 rfl rfl
        · have h := xif_f q h
          refine x_lload_n dX5_indexAmong_55 rfl ?_
          refine x_ldc2 iX5_102 dX5_indexAmong_56 ?_
          refine x_lmul dX5_indexAmong_59 ?_
          refine x_iload dX5_indexAmong_60 rfl ?_
          refine x_bipush (97 : Int32) dX5_indexAmong_62 (by decide) ?_
          refine x_isub dX5_indexAmong_64 ?_
          refine x_iconst (1 : Int32) dX5_indexAmong_65 (by decide) ?_
          refine x_iadd dX5_indexAmong_66 ?_
          refine x_i2l dX5_indexAmong_67 ?_
          refine x_ladd dX5_indexAmong_68 ?_
          refine x_lstore_n (pl' := [some (.ref 17), some (.ref 1002), some (.int l2_17), some (.long ((l3_17 * (27 : Int64)) + (((32 : Int32) - (97 : Int32)) + (1 : Int32)).toInt64)), none, some (.int l5_17), some (.int (32 : Int32))]) dX5_indexAmong_69 (by decide) rfl ?_
          refine x_goto 89 dX5_indexAmong_70 (by decide) ?_
          refine x_iincK (1 : Int32) (pl' := [some (.ref 17), some (.ref 1002), some (.int l2_17), some (.long ((l3_17 * (27 : Int64)) + (((32 : Int32) - (97 : Int32)) + (1 : Int32)).toInt64)), none, some (.int (l5_17 + (1 : Int32))), some (.int (32 : Int32))]) dX5_indexAmong_89 rfl (by decide) (by decide) rfl ?_
          refine x_goto 17 dX5_indexAmong_92 (by decide) ?_
          refine x_weak (pl2 := [some (.ref 17), some (.ref 1002), some (.int l2_17), some (.long ((l3_17 * (27 : Int64)) + (((32 : Int32) - (97 : Int32)) + (1 : Int32)).toInt64)), none, some (.int (l5_17 + (1 : Int32))), none]) ⟨rfl, rfl, rfl, rfl, rfl, trivial⟩ ?_
          exact ih17 l2_17 ((l3_17 * (27 : Int64)) + (((32 : Int32) - (97 : Int32)) + (1 : Int32)).toInt64) (l5_17 + (1 : Int32)) h
      · have h := xif_f q h
        refine x_aload_n dX5_indexAmong_35 rfl ?_
        refine x_iload dX5_indexAmong_36 rfl ?_
        obtain ⟨q38, h⟩ := xix_of h
        refine x_schar (k := 2) (s := xsy 2) rfl rfl q38 (Nat.le_of_ble_eq_true rfl) kX5_98 dX5_indexAmong_38 (Nat.le_of_ble_eq_true rfl) ?_
        refine x_goto 46 dX5_indexAmong_41 (by decide) ?_
        refine x_istore (pl' := [some (.ref 17), some (.ref 1002), some (.int l2_17), some (.long l3_17), none, some (.int l5_17), some (.int (xch (xsy 2) l5_17))]) dX5_indexAmong_46 (by decide) rfl ?_
        refine x_iload dX5_indexAmong_48 rfl ?_
        refine x_bipush (32 : Int32) dX5_indexAmong_50 (by decide) ?_
        refine x_icmp_eq 73 dX5_indexAmong_52 (by decide) (fun q => ?_) (fun q => ?_)
        · have h := xif_t q h
          refine x_lload_n dX5_indexAmong_73 rfl ?_
          refine x_aload_n dX5_indexAmong_74 rfl ?_
          refine x_get fX5_34 dX5_indexAmong_75 rfl rfl rfl ?_
          refine x_lcmp dX5_indexAmong_78 ?_
          refine x_if_ne 84 dX5_indexAmong_79 (by decide) (fun q => ?_) (fun q => ?_)
          · have h := xif_f q h
            refine x_iincK (1 : Int32) (pl' := [some (.ref 17), some (.ref 1002), some (.int (l2_17 + (1 : Int32))), some (.long l3_17), none, some (.int l5_17), some (.int (xch (xsy 2) l5_17))]) dX5_indexAmong_84 rfl (by decide) (by decide) rfl ?_
            refine x_lconst (0 : Int64) dX5_indexAmong_87 (by decide) ?_
            refine x_lstore_n (pl' := [some (.ref 17), some (.ref 1002), some (.int (l2_17 + (1 : Int32))), some (.long (0 : Int64)), none, some (.int l5_17), some (.int (xch (xsy 2) l5_17))]) dX5_indexAmong_88 (by decide) rfl ?_
            refine x_iincK (1 : Int32) (pl' := [some (.ref 17), some (.ref 1002), some (.int (l2_17 + (1 : Int32))), some (.long (0 : Int64)), none, some (.int (l5_17 + (1 : Int32))), some (.int (xch (xsy 2) l5_17))]) dX5_indexAmong_89 rfl (by decide) (by decide) rfl ?_
            refine x_goto 17 dX5_indexAmong_92 (by decide) ?_
            refine x_weak (pl2 := [some (.ref 17), some (.ref 1002), some (.int (l2_17 + (1 : Int32))), some (.long (0 : Int64)), none, some (.int (l5_17 + (1 : Int32))), none]) ⟨rfl, rfl, rfl, rfl, rfl, trivial⟩ ?_
            exact ih17 (l2_17 + (1 : Int32)) (0 : Int64) (l5_17 + (1 : Int32)) h
          · have h := xif_t q h
            refine x_iload_n dX5_indexAmong_82 rfl ?_
            cases h
            exact x_iret2 dX5_indexAmong_83 rfl rfl
        · have h := xif_f q h
          refine x_lload_n dX5_indexAmong_55 rfl ?_
          refine x_ldc2 iX5_102 dX5_indexAmong_56 ?_
          refine x_lmul dX5_indexAmong_59 ?_
          refine x_iload dX5_indexAmong_60 rfl ?_
          refine x_bipush (97 : Int32) dX5_indexAmong_62 (by decide) ?_
          refine x_isub dX5_indexAmong_64 ?_
          refine x_iconst (1 : Int32) dX5_indexAmong_65 (by decide) ?_
          refine x_iadd dX5_indexAmong_66 ?_
          refine x_i2l dX5_indexAmong_67 ?_
          refine x_ladd dX5_indexAmong_68 ?_
          refine x_lstore_n (pl' := [some (.ref 17), some (.ref 1002), some (.int l2_17), some (.long ((l3_17 * (27 : Int64)) + (((xch (xsy 2) l5_17) - (97 : Int32)) + (1 : Int32)).toInt64)), none, some (.int l5_17), some (.int (xch (xsy 2) l5_17))]) dX5_indexAmong_69 (by decide) rfl ?_
          refine x_goto 89 dX5_indexAmong_70 (by decide) ?_
          refine x_iincK (1 : Int32) (pl' := [some (.ref 17), some (.ref 1002), some (.int l2_17), some (.long ((l3_17 * (27 : Int64)) + (((xch (xsy 2) l5_17) - (97 : Int32)) + (1 : Int32)).toInt64)), none, some (.int (l5_17 + (1 : Int32))), some (.int (xch (xsy 2) l5_17))]) dX5_indexAmong_89 rfl (by decide) (by decide) rfl ?_
          refine x_goto 17 dX5_indexAmong_92 (by decide) ?_
          refine x_weak (pl2 := [some (.ref 17), some (.ref 1002), some (.int l2_17), some (.long ((l3_17 * (27 : Int64)) + (((xch (xsy 2) l5_17) - (97 : Int32)) + (1 : Int32)).toInt64)), none, some (.int (l5_17 + (1 : Int32))), none]) ⟨rfl, rfl, rfl, rfl, rfl, trivial⟩ ?_
          exact ih17 l2_17 ((l3_17 * (27 : Int64)) + (((xch (xsy 2) l5_17) - (97 : Int32)) + (1 : Int32)).toInt64) (l5_17 + (1 : Int32)) h
set_option maxRecDepth 100000 in
set_option maxHeartbeats 4000000 in
theorem t_hA_X5_indexAmong_8 {g0 g1 g2 g3 g4 g5 g6 g7 g8 g9 g10 g11 g12 g13 g14 g15 g16 g17 g18 g19 g20 g21 g22 g23 g24 g25 g26 g27 g28 g29 g30 g31 g32 g33 g34 g35 g36 : Int32} {a0 a1 a2 a3 a4 a5 a6 a7 a8 a9 a10 a11 a12 a13 a14 a15 a16 a17 a18 a19 a20 a21 a22 a23 a24 a25 a26 a27 a28 a29 a30 a31 a32 a33 a34 a35 a36 a37 a38 a39 : (Nat → Int32)} {b0 b1 b2 b3 b4 : (Nat → Int64)} {w0 : Int64}  (res : Int32) (h : e_hA_X5_indexAmong g19 w0 (xsy 2)  = some res) (d : Nat) : xMet xks YX5_indexAmong (d + 5) 0 0 [.ref 17, .ref 1002] (hA g0 g1 g2 g3 g4 g5 g6 g7 g8 g9 g10 g11 g12 g13 g14 g15 g16 g17 g18 g19 g20 g21 g22 g23 g24 g25 g26 g27 g28 g29 g30 g31 g32 g33 g34 g35 g36 a0 a1 a2 a3 a4 a5 a6 a7 a8 a9 a10 a11 a12 a13 a14 a15 a16 a17 a18 a19 a20 a21 a22 a23 a24 a25 a26 a27 a28 a29 a30 a31 a32 a33 a34 a35 a36 a37 a38 a39 b0 b1 b2 b3 b4 w0 (.ref 19) (.ref 1)) (some (.int res)) (hA g0 g1 g2 g3 g4 g5 g6 g7 g8 g9 g10 g11 g12 g13 g14 g15 g16 g17 g18 g19 g20 g21 g22 g23 g24 g25 g26 g27 g28 g29 g30 g31 g32 g33 g34 g35 g36 a0 a1 a2 a3 a4 a5 a6 a7 a8 a9 a10 a11 a12 a13 a14 a15 a16 a17 a18 a19 a20 a21 a22 a23 a24 a25 a26 a27 a28 a29 a30 a31 a32 a33 a34 a35 a36 a37 a38 a39 b0 b1 b2 b3 b4 w0 (.ref 19) (.ref 1)) := by
  unfold e_hA_X5_indexAmong at h
  refine xMet_of (pl := [some (.ref 17), some (.ref 1002), none, none, none, none, none]) (by decide) (Nat.le_of_ble_eq_true rfl) rfl (Nat.le_of_ble_eq_true rfl) ?_
  refine x_aload_n dX5_indexAmong_0 rfl ?_
  refine x_get fX5_31 dX5_indexAmong_1 rfl rfl rfl ?_
  refine x_iconst (1 : Int32) dX5_indexAmong_4 (by decide) ?_
  refine x_icmp_eq 10 dX5_indexAmong_5 (by decide) (fun q => ?_) (fun q => ?_)
  · have h := xif_t q h
    refine x_iconst (0 : Int32) dX5_indexAmong_10 (by decide) ?_
    refine x_istore_n (pl' := [some (.ref 17), some (.ref 1002), some (.int (0 : Int32)), none, none, none, none]) dX5_indexAmong_11 (by decide) rfl ?_
    refine x_lconst (0 : Int64) dX5_indexAmong_12 (by decide) ?_
    refine x_lstore_n (pl' := [some (.ref 17), some (.ref 1002), some (.int (0 : Int32)), some (.long (0 : Int64)), none, none, none]) dX5_indexAmong_13 (by decide) rfl ?_
    refine x_iconst (0 : Int32) dX5_indexAmong_14 (by decide) ?_
    refine x_istore (pl' := [some (.ref 17), some (.ref 1002), some (.int (0 : Int32)), some (.long (0 : Int64)), none, some (.int (0 : Int32)), none]) dX5_indexAmong_15 (by decide) rfl ?_
    refine x_weak (pl2 := [some (.ref 17), some (.ref 1002), some (.int (0 : Int32)), some (.long (0 : Int64)), none, some (.int (0 : Int32)), none]) ⟨rfl, rfl, rfl, rfl, rfl, trivial⟩ ?_
    refine lp_hA_X5_indexAmong_8_17 d _  res _ (fun l2_17 l3_17 l5_17 h => ?_) 200000 (0 : Int32) (0 : Int64) (0 : Int32) h
    refine x_iconst (-1 : Int32) dX5_indexAmong_95 (by decide) ?_
    cases h
    exact x_iret2 dX5_indexAmong_96 rfl rfl
  · have h := xif_f q h
    refine x_iconst (-1 : Int32) dX5_indexAmong_8 (by decide) ?_
    cases h
    exact x_iret2 dX5_indexAmong_9 rfl rfl
