noncomputable def e_hB_X9_ways (p0 : Int32) (p1 : Int32) (p2 : (Nat → Int32)) (p3 : Int32) (p4 : (Nat → Int32)) (p5 : (Nat → Int32)) (p6 : (Nat → Int32)) (p7 : Int32) (p8 : (Nat → Int32)) (p9 : (Nat → Int32)) (p10 : (Nat → Int32)) (p11 : (Nat → Int32)) (p12 : Int32) (p13 : Int32) (p14 : (Nat → Int32)) (p15 : Int32) (p16 : (Nat → Int32)) (p17 : (Nat → Int32)) (p18 : (Nat → Int32)) (p19 : (Nat → Int32)) (p20 : Int32) (p21 : Int32)  : Option (Int32 × Int32 × Int32 × (Nat → Int32) × Int32 × Int32) :=
  ((e_hB_X9_countsWays p1 p2 p3 p4 p5 p6 p7 p8 p9 p10 p11 p12 p13 p14 p15 p16 p17 p18 p19 (-1 : Int32)).bind fun z23 => (e_hB_X9_good p20 p21 z23.1).bind fun z26 => some (z26.1, (0 : Int32), z23.2.1, z23.2.2, z26.2.1, z26.2.2))
set_option maxRecDepth 100000 in
set_option maxHeartbeats 4000000 in
theorem t_hB_X9_ways {g0 g1 g2 g3 g4 g5 g6 g7 g8 g9 g10 g11 g12 g13 g14 g15 g16 g17 g18 g19 g20 g21 g22 g23 g24 g25 g26 : Int32} {a0 a1 a2 a3 a4 a5 a6 a7 a8 a9 a10 a11 a12 a13 a14 a15 a16 a17 a18 a19 a20 a21 a22 a23 : (Nat → Int32)} {b0 : (Nat → Int64)} {w0 : Int64} {rv : Value}  (res : Int32 × Int32 × Int32 × (Nat → Int32) × Int32 × Int32) (h : e_hB_X9_ways g0 g13 a2 g23 a11 a10 a14 g24 a18 a16 a15 a17 g19 g22 a12 g25 a21 a20 a19 a13 g1 g2  = some res) (d : Nat) : xMet xks YX9_ways (d + 7) 0 0 [.ref 0] (hB g0 g1 g2 g3 g4 g5 g6 g7 g8 g9 g10 g11 g12 g13 g14 g15 g16 g17 g18 g19 g20 g21 g22 g23 g24 g25 g26 a0 a1 a2 a3 a4 a5 a6 a7 a8 a9 a10 a11 a12 a13 a14 a15 a16 a17 a18 a19 a20 a21 a22 a23 b0 w0 (.ref 11) rv) (some (.int res.1)) (hB res.2.1 res.2.2.2.2.1 res.2.2.2.2.2 g3 g4 g5 g6 g7 g8 g9 g10 g11 g12 res.2.2.1 g14 g15 g16 g17 g18 g19 g20 g21 g22 g23 g24 g25 g26 a0 a1 res.2.2.2.1 a3 a4 a5 a6 a7 a8 a9 a10 a11 a12 a13 a14 a15 a16 a17 a18 a19 a20 a21 a22 a23 b0 w0 (.ref 11) rv) := by
  unfold e_hB_X9_ways at h
  refine xMet_of (pl := [some (.ref 0)]) (by decide) (Nat.le_of_ble_eq_true rfl) rfl (Nat.le_of_ble_eq_true rfl) ?_
  refine x_aload_n dX9_ways_0 rfl ?_
  refine x_iconst (0 : Int32) dX9_ways_1 (by decide) ?_
  refine x_put (h2 := (hB (0 : Int32) g1 g2 g3 g4 g5 g6 g7 g8 g9 g10 g11 g12 g13 g14 g15 g16 g17 g18 g19 g20 g21 g22 g23 g24 g25 g26 a0 a1 a2 a3 a4 a5 a6 a7 a8 a9 a10 a11 a12 a13 a14 a15 a16 a17 a18 a19 a20 a21 a22 a23 b0 w0 (.ref 11) rv)) fX9_45 dX9_ways_2 rfl rfl (Nat.le_of_ble_eq_true rfl : 0 + 1 ≤ _) (fun α => ⟨rfl, rfl⟩) rfl ?_
  refine x_aload_n dX9_ways_5 rfl ?_
  refine x_get fX9_316 dX9_ways_6 rfl rfl rfl ?_
  refine x_ifnonnull 20 dX9_ways_9 (by decide) ?_
  refine x_aload_n dX9_ways_20 rfl ?_
  refine x_aload_n dX9_ways_21 rfl ?_
  refine x_iconst (-1 : Int32) dX9_ways_22 (by decide) ?_
  obtain ⟨z23, y23, h⟩ := xbind h
  refine x_callV (t_hB_X9_countsWays (-1 : Int32) z23 y23 (d + 0)) kX9_390 dX9_ways_23 rfl rfl rfl rfl rfl (Nat.le_of_ble_eq_true rfl) (Nat.le_of_ble_eq_true rfl) rfl rfl (Or.inl rfl) ?_
  obtain ⟨z26, y26, h⟩ := xbind h
  refine x_callV (t_hB_X9_good z23.1 z26 y26 (d + 5)) kX9_55 dX9_ways_26 rfl rfl rfl rfl rfl (Nat.le_of_ble_eq_true rfl) (Nat.le_of_ble_eq_true rfl) rfl rfl (Or.inl rfl) ?_
  cases h
  exact x_iret2 dX9_ways_29 rfl rfl
noncomputable def e_hB_X9_wayAt (p0 : Int32) (p1 : Int32) (p2 : Int32) (p3 : Int32) (p4 : (Nat → Int32)) (p5 : Int32) (p6 : (Nat → Int32)) (p7 : (Nat → Int32)) (p8 : (Nat → Int32)) (p9 : Int32) (p10 : (Nat → Int32)) (p11 : (Nat → Int32)) (p12 : (Nat → Int32)) (p13 : (Nat → Int32)) (p14 : Int32) (p15 : Int32) (p16 : (Nat → Int32)) (p17 : Int32) (p18 : (Nat → Int32)) (p19 : (Nat → Int32)) (p20 : (Nat → Int32)) (p21 : (Nat → Int32)) (x1 : Int32) : Option (Int32 × Int32 × Int32 × Int32 × Int32 × (Nat → Int32)) :=
  if x1 < (0 : Int32) then ((e_hB_X9_refused p1 p2 (1 : Int32)).bind fun z44 => some (z44.1, (0 : Int32), z44.2.1, z44.2.2, p3, p4)) else ((e_hB_X9_countsWays p3 p4 p5 p6 p7 p8 p9 p10 p11 p12 p13 p14 p15 p16 p17 p18 p19 p20 p21 x1).bind fun z25 => if z25.1 ≤ x1 then ((e_hB_X9_refused p1 p2 (1 : Int32)).bind fun z44 => some (z44.1, (0 : Int32), z44.2.1, z44.2.2, z25.2.1, z25.2.2)) else ((e_hB_X9_good p1 p2 z25.2.1).bind fun z36 => some (z36.1, (0 : Int32), z36.2.1, z36.2.2, z25.2.1, z25.2.2)))
set_option maxRecDepth 100000 in
set_option maxHeartbeats 4000000 in
theorem t_hB_X9_wayAt {g0 g1 g2 g3 g4 g5 g6 g7 g8 g9 g10 g11 g12 g13 g14 g15 g16 g17 g18 g19 g20 g21 g22 g23 g24 g25 g26 : Int32} {a0 a1 a2 a3 a4 a5 a6 a7 a8 a9 a10 a11 a12 a13 a14 a15 a16 a17 a18 a19 a20 a21 a22 a23 : (Nat → Int32)} {b0 : (Nat → Int64)} {w0 : Int64} {rv : Value} (x1 : Int32) (res : Int32 × Int32 × Int32 × Int32 × Int32 × (Nat → Int32)) (h : e_hB_X9_wayAt g0 g1 g2 g13 a2 g23 a11 a10 a14 g24 a18 a16 a15 a17 g19 g22 a12 g25 a21 a20 a19 a13 x1 = some res) (d : Nat) : xMet xks YX9_wayAt (d + 7) 0 0 [.ref 0, .int x1] (hB g0 g1 g2 g3 g4 g5 g6 g7 g8 g9 g10 g11 g12 g13 g14 g15 g16 g17 g18 g19 g20 g21 g22 g23 g24 g25 g26 a0 a1 a2 a3 a4 a5 a6 a7 a8 a9 a10 a11 a12 a13 a14 a15 a16 a17 a18 a19 a20 a21 a22 a23 b0 w0 (.ref 11) rv) (some (.int res.1)) (hB res.2.1 res.2.2.1 res.2.2.2.1 g3 g4 g5 g6 g7 g8 g9 g10 g11 g12 res.2.2.2.2.1 g14 g15 g16 g17 g18 g19 g20 g21 g22 g23 g24 g25 g26 a0 a1 res.2.2.2.2.2 a3 a4 a5 a6 a7 a8 a9 a10 a11 a12 a13 a14 a15 a16 a17 a18 a19 a20 a21 a22 a23 b0 w0 (.ref 11) rv) := by
  unfold e_hB_X9_wayAt at h
  refine xMet_of (pl := [some (.ref 0), some (.int x1)]) (by decide) (Nat.le_of_ble_eq_true rfl) rfl (Nat.le_of_ble_eq_true rfl) ?_
  refine x_aload_n dX9_wayAt_0 rfl ?_
  refine x_iconst (0 : Int32) dX9_wayAt_1 (by decide) ?_
  refine x_put (h2 := (hB (0 : Int32) g1 g2 g3 g4 g5 g6 g7 g8 g9 g10 g11 g12 g13 g14 g15 g16 g17 g18 g19 g20 g21 g22 g23 g24 g25 g26 a0 a1 a2 a3 a4 a5 a6 a7 a8 a9 a10 a11 a12 a13 a14 a15 a16 a17 a18 a19 a20 a21 a22 a23 b0 w0 (.ref 11) rv)) fX9_45 dX9_wayAt_2 rfl rfl (Nat.le_of_ble_eq_true rfl : 0 + 1 ≤ _) (fun α => ⟨rfl, rfl⟩) rfl ?_
  refine x_aload_n dX9_wayAt_5 rfl ?_
  refine x_get fX9_316 dX9_wayAt_6 rfl rfl rfl ?_
  refine x_ifnonnull 18 dX9_wayAt_9 (by decide) ?_
  refine x_iload_n dX9_wayAt_18 rfl ?_
  refine x_if_lt 42 dX9_wayAt_19 (by decide) (fun q => ?_) (fun q => ?_)
  · have h := xif_t q h
    refine x_aload_n dX9_wayAt_42 rfl ?_
    refine x_iconst (1 : Int32) dX9_wayAt_43 (by decide) ?_
    obtain ⟨z44, y44, h⟩ := xbind h
    refine x_callV (t_hB_X9_refused (1 : Int32) z44 y44 (d + 5)) kX9_51 dX9_wayAt_44 rfl rfl rfl rfl rfl (Nat.le_of_ble_eq_true rfl) (Nat.le_of_ble_eq_true rfl) rfl rfl (Or.inl rfl) ?_
    cases h
    exact x_iret2 dX9_wayAt_47 rfl rfl
  · have h := xif_f q h
    refine x_iload_n dX9_wayAt_22 rfl ?_
    refine x_aload_n dX9_wayAt_23 rfl ?_
    refine x_iload_n dX9_wayAt_24 rfl ?_
    obtain ⟨z25, y25, h⟩ := xbind h
    refine x_callV (t_hB_X9_countsWays x1 z25 y25 (d + 0)) kX9_390 dX9_wayAt_25 rfl rfl rfl rfl rfl (Nat.le_of_ble_eq_true rfl) (Nat.le_of_ble_eq_true rfl) rfl rfl (Or.inl rfl) ?_
    refine x_icmp_ge 42 dX9_wayAt_28 (by decide) (fun q => ?_) (fun q => ?_)
    · have h := xif_t q h
      refine x_aload_n dX9_wayAt_42 rfl ?_
      refine x_iconst (1 : Int32) dX9_wayAt_43 (by decide) ?_
      obtain ⟨z44, y44, h⟩ := xbind h
      refine x_callV (t_hB_X9_refused (1 : Int32) z44 y44 (d + 5)) kX9_51 dX9_wayAt_44 rfl rfl rfl rfl rfl (Nat.le_of_ble_eq_true rfl) (Nat.le_of_ble_eq_true rfl) rfl rfl (Or.inl rfl) ?_
      cases h
      exact x_iret2 dX9_wayAt_47 rfl rfl
    · have h := xif_f q h
      refine x_aload_n dX9_wayAt_31 rfl ?_
      refine x_aload_n dX9_wayAt_32 rfl ?_
      refine x_get fX9_387 dX9_wayAt_33 rfl rfl rfl ?_
      obtain ⟨z36, y36, h⟩ := xbind h
      refine x_callV (t_hB_X9_good z25.2.1 z36 y36 (d + 5)) kX9_55 dX9_wayAt_36 rfl rfl rfl rfl rfl (Nat.le_of_ble_eq_true rfl) (Nat.le_of_ble_eq_true rfl) rfl rfl (Or.inl rfl) ?_
      refine x_goto 47 dX9_wayAt_39 (by decide) ?_
      cases h
      exact x_iret2 dX9_wayAt_47 rfl rfl
noncomputable def L_hB_X9_longest_38 (p0 : Int32) (p1 : Int32) (p3 : (Nat → Int32)) (p4 : (Nat → Int32)) (p5 : (Nat → Int32)) (p6 : Int32) (p7 : Int32) (p8 : Int32) (p9 : (Nat → Int32)) (p10 : (Nat → Int32)) (p11 : (Nat → Int32)) (p12 : (Nat → Int32)) (p13 : Int32) (p14 : Int32) (p15 : (Nat → Int32))  (f1 : Int32) (K : Int32 → Int32 → Int32 → Int32 → (Nat → Int32) → Option (Int32 × Int32 × (Nat → Int32) × Int32 × Int32)) : Nat → Int32 → Int32 → Int32 → Int32 → (Nat → Int32) → Option (Int32 × Int32 × (Nat → Int32) × Int32 × Int32)
  | 0, _, _, _, _, _ => none
  | n38 + 1, l2_38, l3_38, l4_38, l5_38, ma2_38 => if (41 : Int32) ≤ l5_38 then K l2_38 l3_38 l4_38 l5_38 ma2_38 else ((e_hB_X9_goesBy p8 p9 p10 p11 p12 ma2_38 p1 p13 p14 p4 p15 p3 l5_38).bind fun z48 => xix ((5 : Int32) + f1) 11 (if (z48 ((5 : Int32) + f1).toNatClampNeg) = l4_38 then (xix ((5 : Int32) + f1) 11 (if (z48 ((5 : Int32) + f1).toNatClampNeg) = (-2 : Int32) then L_hB_X9_longest_38 p0 p1 p3 p4 p5 p6 p7 p8 p9 p10 p11 p12 p13 p14 p15 f1 K n38 l2_38 (l3_38 + (1 : Int32)) (z48 ((5 : Int32) + f1).toNatClampNeg) (l5_38 + (1 : Int32)) z48 else if (l3_38 + (1 : Int32)) ≤ l2_38 then L_hB_X9_longest_38 p0 p1 p3 p4 p5 p6 p7 p8 p9 p10 p11 p12 p13 p14 p15 f1 K n38 l2_38 (l3_38 + (1 : Int32)) (z48 ((5 : Int32) + f1).toNatClampNeg) (l5_38 + (1 : Int32)) z48 else L_hB_X9_longest_38 p0 p1 p3 p4 p5 p6 p7 p8 p9 p10 p11 p12 p13 p14 p15 f1 K n38 (l3_38 + (1 : Int32)) (l3_38 + (1 : Int32)) (z48 ((5 : Int32) + f1).toNatClampNeg) (l5_38 + (1 : Int32)) z48)) else (xix ((5 : Int32) + f1) 11 (if (z48 ((5 : Int32) + f1).toNatClampNeg) = (-2 : Int32) then L_hB_X9_longest_38 p0 p1 p3 p4 p5 p6 p7 p8 p9 p10 p11 p12 p13 p14 p15 f1 K n38 l2_38 (1 : Int32) (z48 ((5 : Int32) + f1).toNatClampNeg) (l5_38 + (1 : Int32)) z48 else if (1 : Int32) ≤ l2_38 then L_hB_X9_longest_38 p0 p1 p3 p4 p5 p6 p7 p8 p9 p10 p11 p12 p13 p14 p15 f1 K n38 l2_38 (1 : Int32) (z48 ((5 : Int32) + f1).toNatClampNeg) (l5_38 + (1 : Int32)) z48 else L_hB_X9_longest_38 p0 p1 p3 p4 p5 p6 p7 p8 p9 p10 p11 p12 p13 p14 p15 f1 K n38 (1 : Int32) (1 : Int32) (z48 ((5 : Int32) + f1).toNatClampNeg) (l5_38 + (1 : Int32)) z48))))
noncomputable def e_hB_X9_longest (p0 : Int32) (p1 : Int32) (p2 : (Nat → Int32)) (p3 : (Nat → Int32)) (p4 : (Nat → Int32)) (p5 : (Nat → Int32)) (p6 : Int32) (p7 : Int32) (p8 : Int32) (p9 : (Nat → Int32)) (p10 : (Nat → Int32)) (p11 : (Nat → Int32)) (p12 : (Nat → Int32)) (p13 : Int32) (p14 : Int32) (p15 : (Nat → Int32)) (x1 : Int32) : Option (Int32 × Int32 × (Nat → Int32) × Int32 × Int32) :=
  ((e_hB_X9_isUmbrella p1 x1).bind fun z7 => if z7 = (0 : Int32) then ((e_hB_X9_refused p6 p7 (1 : Int32)).bind fun z15 => some (z15.1, (0 : Int32), p2, z15.2.1, z15.2.2)) else ((e_hB_X9_starts p2 p1 p3 p4 p5).bind fun z32 => L_hB_X9_longest_38 (0 : Int32) p1 p3 p4 p5 p6 p7 p8 p9 p10 p11 p12 p13 p14 p15 x1 (fun l2_38 l3_38 l4_38 l5_38 ma2_38 => ((e_hB_X9_good p6 p7 l2_38).bind fun z104 => some (z104.1, (0 : Int32), ma2_38, z104.2.1, z104.2.2))) 200000 (0 : Int32) (0 : Int32) (-2 : Int32) (0 : Int32) z32))
set_option maxRecDepth 100000 in
set_option maxHeartbeats 4000000 in
theorem lp_hB_X9_longest_38 {g0 g1 g2 g3 g4 g5 g6 g7 g8 g9 g10 g11 g12 g13 g14 g15 g16 g17 g18 g19 g20 g21 g22 g23 g24 g25 g26 : Int32} {a0 a1 a3 a4 a5 a6 a7 a8 a9 a10 a11 a12 a13 a14 a15 a16 a17 a18 a19 a20 a21 a22 a23 : (Nat → Int32)} {b0 : (Nat → Int64)} {w0 : Int64} {rv : Value} (d n0 : Nat) (f1 : Int32) (res : Int32 × Int32 × (Nat → Int32) × Int32 × Int32) (K : Int32 → Int32 → Int32 → Int32 → (Nat → Int32) → Option (Int32 × Int32 × (Nat → Int32) × Int32 × Int32)) (hK : ∀ (l2_38 : Int32) (l3_38 : Int32) (l4_38 : Int32) (l5_38 : Int32) (ma2_38 : (Nat → Int32)), K l2_38 l3_38 l4_38 l5_38 ma2_38 = some res → xW xks YX9_longest (d + 5) 0 0 n0 (xZ 0 0 n0 (some (.int res.1)) (hB res.2.1 res.2.2.2.1 res.2.2.2.2 g3 g4 g5 g6 g7 g8 g9 g10 g11 g12 g13 g14 g15 g16 g17 g18 g19 g20 g21 g22 g23 g24 g25 g26 a0 a1 res.2.2.1 a3 a4 a5 a6 a7 a8 a9 a10 a11 a12 a13 a14 a15 a16 a17 a18 a19 a20 a21 a22 a23 b0 w0 (.ref 11) rv)) 0 0 102 [some (.ref 0), none, some (.int l2_38), none, none, none] [] (hB g0 g1 g2 g3 g4 g5 g6 g7 g8 g9 g10 g11 g12 g13 g14 g15 g16 g17 g18 g19 g20 g21 g22 g23 g24 g25 g26 a0 a1 ma2_38 a3 a4 a5 a6 a7 a8 a9 a10 a11 a12 a13 a14 a15 a16 a17 a18 a19 a20 a21 a22 a23 b0 w0 (.ref 11) rv)) : ∀ (n : Nat) (l2_38 : Int32) (l3_38 : Int32) (l4_38 : Int32) (l5_38 : Int32) (ma2_38 : (Nat → Int32)), L_hB_X9_longest_38 g0 g23 a11 a10 a14 g1 g2 g24 a18 a16 a15 a17 g19 g22 a12 f1 K n l2_38 l3_38 l4_38 l5_38 ma2_38 = some res → xW xks YX9_longest (d + 5) 0 0 n0 (xZ 0 0 n0 (some (.int res.1)) (hB res.2.1 res.2.2.2.1 res.2.2.2.2 g3 g4 g5 g6 g7 g8 g9 g10 g11 g12 g13 g14 g15 g16 g17 g18 g19 g20 g21 g22 g23 g24 g25 g26 a0 a1 res.2.2.1 a3 a4 a5 a6 a7 a8 a9 a10 a11 a12 a13 a14 a15 a16 a17 a18 a19 a20 a21 a22 a23 b0 w0 (.ref 11) rv)) 0 0 38 [some (.ref 0), some (.int f1), some (.int l2_38), some (.int l3_38), some (.int l4_38), some (.int l5_38)] [] (hB g0 g1 g2 g3 g4 g5 g6 g7 g8 g9 g10 g11 g12 g13 g14 g15 g16 g17 g18 g19 g20 g21 g22 g23 g24 g25 g26 a0 a1 ma2_38 a3 a4 a5 a6 a7 a8 a9 a10 a11 a12 a13 a14 a15 a16 a17 a18 a19 a20 a21 a22 a23 b0 w0 (.ref 11) rv) := by
  intro n
  induction n with
  | zero =>
    intro l2_38 l3_38 l4_38 l5_38 ma2_38 h
    cases (show (none : Option (Int32 × Int32 × (Nat → Int32) × Int32 × Int32)) = some res from h)
  | succ n38 ih38 =>
    intro l2_38 l3_38 l4_38 l5_38 ma2_38 h
    unfold L_hB_X9_longest_38 at h
    refine x_iload dX9_longest_38 rfl ?_
    refine x_bipush (41 : Int32) dX9_longest_40 (by decide) ?_
    refine x_icmp_ge 102 dX9_longest_42 (by decide) (fun q => ?_) (fun q => ?_)
    · have h := xif_t q h
      refine x_weak (pl2 := [some (.ref 0), none, some (.int l2_38), none, none, none]) ⟨rfl, rfl, trivial⟩ ?_
      exact hK l2_38 l3_38 l4_38 l5_38 ma2_38 h
    · have h := xif_f q h
      refine x_aload_n dX9_longest_45 rfl ?_
      refine x_iload dX9_longest_46 rfl ?_
      obtain ⟨z48, y48, h⟩ := xbind h
      refine x_callV (t_hB_X9_goesBy l5_38 z48 y48 (d + 0)) kX9_356 dX9_longest_48 rfl rfl rfl rfl rfl (Nat.le_of_ble_eq_true rfl) (Nat.le_of_ble_eq_true rfl) rfl rfl (Or.inl rfl) ?_
      refine x_aload_n dX9_longest_51 rfl ?_
      refine x_get fX9_21 dX9_longest_52 rfl rfl rfl ?_
      refine x_iconst (5 : Int32) dX9_longest_55 (by decide) ?_
      refine x_iload_n dX9_longest_56 rfl ?_
      refine x_iadd dX9_longest_57 ?_
      obtain ⟨q58, h⟩ := xix_of h
      refine x_iald dX9_longest_58 rfl q58 ?_
      refine x_iload dX9_longest_59 rfl ?_
      refine x_icmp_ne 70 dX9_longest_61 (by decide) (fun q => ?_) (fun q => ?_)
      · have h := xif_f q h
        refine x_iconst (1 : Int32) dX9_longest_70 (by decide) ?_
        refine x_istore_n (pl' := [some (.ref 0), some (.int f1), some (.int l2_38), some (.int (1 : Int32)), some (.int l4_38), some (.int l5_38)]) dX9_longest_71 (by decide) rfl ?_
        refine x_aload_n dX9_longest_72 rfl ?_
        refine x_get fX9_21 dX9_longest_73 rfl rfl rfl ?_
        refine x_iconst (5 : Int32) dX9_longest_76 (by decide) ?_
        refine x_iload_n dX9_longest_77 rfl ?_
        refine x_iadd dX9_longest_78 ?_
        obtain ⟨q79, h⟩ := xix_of h
        refine x_iald dX9_longest_79 rfl q79 ?_
        refine x_istore (pl' := [some (.ref 0), some (.int f1), some (.int l2_38), some (.int (1 : Int32)), some (.int (z48 ((5 : Int32) + f1).toNatClampNeg)), some (.int l5_38)]) dX9_longest_80 (by decide) rfl ?_
        refine x_iload dX9_longest_82 rfl ?_
        refine x_bipush (-2 : Int32) dX9_longest_84 (by decide) ?_
        refine x_icmp_eq 96 dX9_longest_86 (by decide) (fun q => ?_) (fun q => ?_)
        · have h := xif_t q h
          refine x_iincK (1 : Int32) (pl' := [some (.ref 0), some (.int f1), some (.int l2_38), some (.int (1 : Int32)), some (.int (z48 ((5 : Int32) + f1).toNatClampNeg)), some (.int (l5_38 + (1 : Int32)))]) dX9_longest_96 rfl (by decide) (by decide) rfl ?_
          refine x_goto 38 dX9_longest_99 (by decide) ?_
          refine x_weak (pl2 := [some (.ref 0), some (.int f1), some (.int l2_38), some (.int (1 : Int32)), some (.int (z48 ((5 : Int32) + f1).toNatClampNeg)), some (.int (l5_38 + (1 : Int32)))]) ⟨rfl, rfl, rfl, rfl, rfl, rfl, trivial⟩ ?_
          exact ih38 l2_38 (1 : Int32) (z48 ((5 : Int32) + f1).toNatClampNeg) (l5_38 + (1 : Int32)) z48 h
        · have h := xif_f q h
          refine x_iload_n dX9_longest_89 rfl ?_
          refine x_iload_n dX9_longest_90 rfl ?_
          refine x_icmp_le 96 dX9_longest_91 (by decide) (fun q => ?_) (fun q => ?_)
          · have h := xif_t q h
            refine x_iincK (1 : Int32) (pl' := [some (.ref 0), some (.int f1), some (.int l2_38), some (.int (1 : Int32)), some (.int (z48 ((5 : Int32) + f1).toNatClampNeg)), some (.int (l5_38 + (1 : Int32)))]) dX9_longest_96 rfl (by decide) (by decide) rfl ?_
            refine x_goto 38 dX9_longest_99 (by decide) ?_
            refine x_weak (pl2 := [some (.ref 0), some (.int f1), some (.int l2_38), some (.int (1 : Int32)), some (.int (z48 ((5 : Int32) + f1).toNatClampNeg)), some (.int (l5_38 + (1 : Int32)))]) ⟨rfl, rfl, rfl, rfl, rfl, rfl, trivial⟩ ?_
            exact ih38 l2_38 (1 : Int32) (z48 ((5 : Int32) + f1).toNatClampNeg) (l5_38 + (1 : Int32)) z48 h
          · have h := xif_f q h
            refine x_iload_n dX9_longest_94 rfl ?_
            refine x_istore_n (pl' := [some (.ref 0), some (.int f1), some (.int (1 : Int32)), some (.int (1 : Int32)), some (.int (z48 ((5 : Int32) + f1).toNatClampNeg)), some (.int l5_38)]) dX9_longest_95 (by decide) rfl ?_
            refine x_iincK (1 : Int32) (pl' := [some (.ref 0), some (.int f1), some (.int (1 : Int32)), some (.int (1 : Int32)), some (.int (z48 ((5 : Int32) + f1).toNatClampNeg)), some (.int (l5_38 + (1 : Int32)))]) dX9_longest_96 rfl (by decide) (by decide) rfl ?_
            refine x_goto 38 dX9_longest_99 (by decide) ?_
            refine x_weak (pl2 := [some (.ref 0), some (.int f1), some (.int (1 : Int32)), some (.int (1 : Int32)), some (.int (z48 ((5 : Int32) + f1).toNatClampNeg)), some (.int (l5_38 + (1 : Int32)))]) ⟨rfl, rfl, rfl, rfl, rfl, rfl, trivial⟩ ?_
            exact ih38 (1 : Int32) (1 : Int32) (z48 ((5 : Int32) + f1).toNatClampNeg) (l5_38 + (1 : Int32)) z48 h
      · have h := xif_t q h
        refine x_iload_n dX9_longest_64 rfl ?_
        refine x_iconst (1 : Int32) dX9_longest_65 (by decide) ?_
        refine x_iadd dX9_longest_66 ?_
        refine x_goto 71 dX9_longest_67 (by decide) ?_
        refine x_istore_n (pl' := [some (.ref 0), some (.int f1), some (.int l2_38), some (.int (l3_38 + (1 : Int32))), some (.int l4_38), some (.int l5_38)]) dX9_longest_71 (by decide) rfl ?_
        refine x_aload_n dX9_longest_72 rfl ?_
        refine x_get fX9_21 dX9_longest_73 rfl rfl rfl ?_
        refine x_iconst (5 : Int32) dX9_longest_76 (by decide) ?_
        refine x_iload_n dX9_longest_77 rfl ?_
        refine x_iadd dX9_longest_78 ?_
        obtain ⟨q79, h⟩ := xix_of h
        refine x_iald dX9_longest_79 rfl q79 ?_
        refine x_istore (pl' := [some (.ref 0), some (.int f1), some (.int l2_38), some (.int (l3_38 + (1 : Int32))), some (.int (z48 ((5 : Int32) + f1).toNatClampNeg)), some (.int l5_38)]) dX9_longest_80 (by decide) rfl ?_
        refine x_iload dX9_longest_82 rfl ?_
        refine x_bipush (-2 : Int32) dX9_longest_84 (by decide) ?_
        refine x_icmp_eq 96 dX9_longest_86 (by decide) (fun q => ?_) (fun q => ?_)
        · have h := xif_t q h
          refine x_iincK (1 : Int32) (pl' := [some (.ref 0), some (.int f1), some (.int l2_38), some (.int (l3_38 + (1 : Int32))), some (.int (z48 ((5 : Int32) + f1).toNatClampNeg)), some (.int (l5_38 + (1 : Int32)))]) dX9_longest_96 rfl (by decide) (by decide) rfl ?_
          refine x_goto 38 dX9_longest_99 (by decide) ?_
          refine x_weak (pl2 := [some (.ref 0), some (.int f1), some (.int l2_38), some (.int (l3_38 + (1 : Int32))), some (.int (z48 ((5 : Int32) + f1).toNatClampNeg)), some (.int (l5_38 + (1 : Int32)))]) ⟨rfl, rfl, rfl, rfl, rfl, rfl, trivial⟩ ?_
          exact ih38 l2_38 (l3_38 + (1 : Int32)) (z48 ((5 : Int32) + f1).toNatClampNeg) (l5_38 + (1 : Int32)) z48 h
        · have h := xif_f q h
          refine x_iload_n dX9_longest_89 rfl ?_
          refine x_iload_n dX9_longest_90 rfl ?_
          refine x_icmp_le 96 dX9_longest_91 (by decide) (fun q => ?_) (fun q => ?_)
          · have h := xif_t q h
            refine x_iincK (1 : Int32) (pl' := [some (.ref 0), some (.int f1), some (.int l2_38), some (.int (l3_38 + (1 : Int32))), some (.int (z48 ((5 : Int32) + f1).toNatClampNeg)), some (.int (l5_38 + (1 : Int32)))]) dX9_longest_96 rfl (by decide) (by decide) rfl ?_
            refine x_goto 38 dX9_longest_99 (by decide) ?_
            refine x_weak (pl2 := [some (.ref 0), some (.int f1), some (.int l2_38), some (.int (l3_38 + (1 : Int32))), some (.int (z48 ((5 : Int32) + f1).toNatClampNeg)), some (.int (l5_38 + (1 : Int32)))]) ⟨rfl, rfl, rfl, rfl, rfl, rfl, trivial⟩ ?_
            exact ih38 l2_38 (l3_38 + (1 : Int32)) (z48 ((5 : Int32) + f1).toNatClampNeg) (l5_38 + (1 : Int32)) z48 h
          · have h := xif_f q h
            refine x_iload_n dX9_longest_94 rfl ?_
            refine x_istore_n (pl' := [some (.ref 0), some (.int f1), some (.int (l3_38 + (1 : Int32))), some (.int (l3_38 + (1 : Int32))), some (.int (z48 ((5 : Int32) + f1).toNatClampNeg)), some (.int l5_38)]) dX9_longest_95 (by decide) rfl ?_
            refine x_iincK (1 : Int32) (pl' := [some (.ref 0), some (.int f1), some (.int (l3_38 + (1 : Int32))), some (.int (l3_38 + (1 : Int32))), some (.int (z48 ((5 : Int32) + f1).toNatClampNeg)), some (.int (l5_38 + (1 : Int32)))]) dX9_longest_96 rfl (by decide) (by decide) rfl ?_
            refine x_goto 38 dX9_longest_99 (by decide) ?_
            refine x_weak (pl2 := [some (.ref 0), some (.int f1), some (.int (l3_38 + (1 : Int32))), some (.int (l3_38 + (1 : Int32))), some (.int (z48 ((5 : Int32) + f1).toNatClampNeg)), some (.int (l5_38 + (1 : Int32)))]) ⟨rfl, rfl, rfl, rfl, rfl, rfl, trivial⟩ ?_
            exact ih38 (l3_38 + (1 : Int32)) (l3_38 + (1 : Int32)) (z48 ((5 : Int32) + f1).toNatClampNeg) (l5_38 + (1 : Int32)) z48 h
set_option maxRecDepth 100000 in
set_option maxHeartbeats 4000000 in
theorem t_hB_X9_longest {g0 g1 g2 g3 g4 g5 g6 g7 g8 g9 g10 g11 g12 g13 g14 g15 g16 g17 g18 g19 g20 g21 g22 g23 g24 g25 g26 : Int32} {a0 a1 a2 a3 a4 a5 a6 a7 a8 a9 a10 a11 a12 a13 a14 a15 a16 a17 a18 a19 a20 a21 a22 a23 : (Nat → Int32)} {b0 : (Nat → Int64)} {w0 : Int64} {rv : Value} (x1 : Int32) (res : Int32 × Int32 × (Nat → Int32) × Int32 × Int32) (h : e_hB_X9_longest g0 g23 a2 a11 a10 a14 g1 g2 g24 a18 a16 a15 a17 g19 g22 a12 x1 = some res) (d : Nat) : xMet xks YX9_longest (d + 5) 0 0 [.ref 0, .int x1] (hB g0 g1 g2 g3 g4 g5 g6 g7 g8 g9 g10 g11 g12 g13 g14 g15 g16 g17 g18 g19 g20 g21 g22 g23 g24 g25 g26 a0 a1 a2 a3 a4 a5 a6 a7 a8 a9 a10 a11 a12 a13 a14 a15 a16 a17 a18 a19 a20 a21 a22 a23 b0 w0 (.ref 11) rv) (some (.int res.1)) (hB res.2.1 res.2.2.2.1 res.2.2.2.2 g3 g4 g5 g6 g7 g8 g9 g10 g11 g12 g13 g14 g15 g16 g17 g18 g19 g20 g21 g22 g23 g24 g25 g26 a0 a1 res.2.2.1 a3 a4 a5 a6 a7 a8 a9 a10 a11 a12 a13 a14 a15 a16 a17 a18 a19 a20 a21 a22 a23 b0 w0 (.ref 11) rv) := by
  unfold e_hB_X9_longest at h
  refine xMet_of (pl := [some (.ref 0), some (.int x1), none, none, none, none]) (by decide) (Nat.le_of_ble_eq_true rfl) rfl (Nat.le_of_ble_eq_true rfl) ?_
  refine x_aload_n dX9_longest_0 rfl ?_
  refine x_iconst (0 : Int32) dX9_longest_1 (by decide) ?_
  refine x_put (h2 := (hB (0 : Int32) g1 g2 g3 g4 g5 g6 g7 g8 g9 g10 g11 g12 g13 g14 g15 g16 g17 g18 g19 g20 g21 g22 g23 g24 g25 g26 a0 a1 a2 a3 a4 a5 a6 a7 a8 a9 a10 a11 a12 a13 a14 a15 a16 a17 a18 a19 a20 a21 a22 a23 b0 w0 (.ref 11) rv)) fX9_45 dX9_longest_2 rfl rfl (Nat.le_of_ble_eq_true rfl : 0 + 1 ≤ _) (fun α => ⟨rfl, rfl⟩) rfl ?_
  refine x_aload_n dX9_longest_5 rfl ?_
  refine x_iload_n dX9_longest_6 rfl ?_
  obtain ⟨z7, y7, h⟩ := xbind h
  refine x_callV (t_hB_X9_isUmbrella x1 z7 y7 (d + 3)) kX9_359 dX9_longest_7 rfl rfl rfl rfl rfl (Nat.le_of_ble_eq_true rfl) (Nat.le_of_ble_eq_true rfl) rfl rfl (Or.inl rfl) ?_
  refine x_if_ne 19 dX9_longest_10 (by decide) (fun q => ?_) (fun q => ?_)
  · have h := xif_f q h
    refine x_iconst (0 : Int32) dX9_longest_19 (by decide) ?_
    refine x_istore_n (pl' := [some (.ref 0), some (.int x1), some (.int (0 : Int32)), none, none, none]) dX9_longest_20 (by decide) rfl ?_
    refine x_iconst (0 : Int32) dX9_longest_21 (by decide) ?_
    refine x_istore_n (pl' := [some (.ref 0), some (.int x1), some (.int (0 : Int32)), some (.int (0 : Int32)), none, none]) dX9_longest_22 (by decide) rfl ?_
    refine x_bipush (-2 : Int32) dX9_longest_23 (by decide) ?_
    refine x_istore (pl' := [some (.ref 0), some (.int x1), some (.int (0 : Int32)), some (.int (0 : Int32)), some (.int (-2 : Int32)), none]) dX9_longest_25 (by decide) rfl ?_
    refine x_aload_n dX9_longest_27 rfl ?_
    refine x_aload_n dX9_longest_28 rfl ?_
    refine x_get fX9_21 dX9_longest_29 rfl rfl rfl ?_
    obtain ⟨z32, y32, h⟩ := xbind h
    refine x_callV (t_hB_X9_starts  z32 y32 (d + 2)) kX9_318 dX9_longest_32 rfl rfl rfl rfl rfl (Nat.le_of_ble_eq_true rfl) (Nat.le_of_ble_eq_true rfl) rfl rfl (Or.inl rfl) ?_
    refine x_iconst (0 : Int32) dX9_longest_35 (by decide) ?_
    refine x_istore (pl' := [some (.ref 0), some (.int x1), some (.int (0 : Int32)), some (.int (0 : Int32)), some (.int (-2 : Int32)), some (.int (0 : Int32))]) dX9_longest_36 (by decide) rfl ?_
    refine x_weak (pl2 := [some (.ref 0), some (.int x1), some (.int (0 : Int32)), some (.int (0 : Int32)), some (.int (-2 : Int32)), some (.int (0 : Int32))]) ⟨rfl, rfl, rfl, rfl, rfl, rfl, trivial⟩ ?_
    refine lp_hB_X9_longest_38 d _ x1 res _ (fun l2_38 l3_38 l4_38 l5_38 ma2_38 h => ?_) 200000 (0 : Int32) (0 : Int32) (-2 : Int32) (0 : Int32) z32 h
    refine x_aload_n dX9_longest_102 rfl ?_
    refine x_iload_n dX9_longest_103 rfl ?_
    obtain ⟨z104, y104, h⟩ := xbind h
    refine x_callV (t_hB_X9_good l2_38 z104 y104 (d + 3)) kX9_55 dX9_longest_104 rfl rfl rfl rfl rfl (Nat.le_of_ble_eq_true rfl) (Nat.le_of_ble_eq_true rfl) rfl rfl (Or.inl rfl) ?_
    cases h
    exact x_iret2 dX9_longest_107 rfl rfl
  · have h := xif_t q h
    refine x_aload_n dX9_longest_13 rfl ?_
    refine x_iconst (1 : Int32) dX9_longest_14 (by decide) ?_
    obtain ⟨z15, y15, h⟩ := xbind h
    refine x_callV (t_hB_X9_refused (1 : Int32) z15 y15 (d + 3)) kX9_51 dX9_longest_15 rfl rfl rfl rfl rfl (Nat.le_of_ble_eq_true rfl) (Nat.le_of_ble_eq_true rfl) rfl rfl (Or.inl rfl) ?_
    cases h
    exact x_iret2 dX9_longest_18 rfl rfl
noncomputable def L_hB_X9_worstDay_32 (p0 : Int32) (p2 : Int32) (p3 : (Nat → Int32)) (p4 : (Nat → Int32)) (p5 : (Nat → Int32)) (p6 : Int32) (p7 : Int32) (p8 : Int32) (p9 : (Nat → Int32)) (p10 : (Nat → Int32)) (p11 : (Nat → Int32)) (p12 : (Nat → Int32)) (p13 : Int32) (p14 : Int32) (p15 : (Nat → Int32))   (K : Int32 → Int32 → Int32 → (Nat → Int32) → Option (Int32 × Int32 × (Nat → Int32) × Int32 × Int32)) : Nat → Int32 → Int32 → Int32 → (Nat → Int32) → Option (Int32 × Int32 × (Nat → Int32) × Int32 × Int32)
  | 0, _, _, _, _ => none
  | n32 + 1, l1_32, l2_32, l3_32, ma2_32 => if (41 : Int32) ≤ l3_32 then K l1_32 l2_32 l3_32 ma2_32 else ((e_hB_X9_goesBy p8 p9 p10 p11 p12 ma2_32 p2 p13 p14 p4 p15 p3 l3_32).bind fun z40 => (e_hB_X9_landsIn p2 z40 p15 (-2 : Int32)).bind fun z50 => if l2_32 < z50 then ((e_hB_X9_landsIn p2 z40 p15 (-2 : Int32)).bind fun z67 => L_hB_X9_worstDay_32 p0 p2 p3 p4 p5 p6 p7 p8 p9 p10 p11 p12 p13 p14 p15  K n32 l3_32 z67 (l3_32 + (1 : Int32)) z40) else L_hB_X9_worstDay_32 p0 p2 p3 p4 p5 p6 p7 p8 p9 p10 p11 p12 p13 p14 p15  K n32 l1_32 l2_32 (l3_32 + (1 : Int32)) z40)
noncomputable def e_hB_X9_worstDay (p0 : Int32) (p1 : (Nat → Int32)) (p2 : Int32) (p3 : (Nat → Int32)) (p4 : (Nat → Int32)) (p5 : (Nat → Int32)) (p6 : Int32) (p7 : Int32) (p8 : Int32) (p9 : (Nat → Int32)) (p10 : (Nat → Int32)) (p11 : (Nat → Int32)) (p12 : (Nat → Int32)) (p13 : Int32) (p14 : Int32) (p15 : (Nat → Int32))  : Option (Int32 × Int32 × (Nat → Int32) × Int32 × Int32) :=
  ((e_hB_X9_starts p1 p2 p3 p4 p5).bind fun z27 => L_hB_X9_worstDay_32 (0 : Int32) p2 p3 p4 p5 p6 p7 p8 p9 p10 p11 p12 p13 p14 p15  (fun l1_32 l2_32 l3_32 ma2_32 => ((e_hB_X9_good p6 p7 l1_32).bind fun z81 => some (z81.1, (0 : Int32), ma2_32, z81.2.1, z81.2.2))) 200000 (0 : Int32) (-1 : Int32) (0 : Int32) z27)
set_option maxRecDepth 100000 in
set_option maxHeartbeats 4000000 in
theorem lp_hB_X9_worstDay_32 {g0 g1 g2 g3 g4 g5 g6 g7 g8 g9 g10 g11 g12 g13 g14 g15 g16 g17 g18 g19 g20 g21 g22 g23 g24 g25 g26 : Int32} {a0 a1 a3 a4 a5 a6 a7 a8 a9 a10 a11 a12 a13 a14 a15 a16 a17 a18 a19 a20 a21 a22 a23 : (Nat → Int32)} {b0 : (Nat → Int64)} {w0 : Int64} {rv : Value} (d n0 : Nat)  (res : Int32 × Int32 × (Nat → Int32) × Int32 × Int32) (K : Int32 → Int32 → Int32 → (Nat → Int32) → Option (Int32 × Int32 × (Nat → Int32) × Int32 × Int32)) (hK : ∀ (l1_32 : Int32) (l2_32 : Int32) (l3_32 : Int32) (ma2_32 : (Nat → Int32)), K l1_32 l2_32 l3_32 ma2_32 = some res → xW xks YX9_worstDay (d + 5) 0 0 n0 (xZ 0 0 n0 (some (.int res.1)) (hB res.2.1 res.2.2.2.1 res.2.2.2.2 g3 g4 g5 g6 g7 g8 g9 g10 g11 g12 g13 g14 g15 g16 g17 g18 g19 g20 g21 g22 g23 g24 g25 g26 a0 a1 res.2.2.1 a3 a4 a5 a6 a7 a8 a9 a10 a11 a12 a13 a14 a15 a16 a17 a18 a19 a20 a21 a22 a23 b0 w0 (.ref 11) rv)) 0 0 79 [some (.ref 0), some (.int l1_32), none, none] [] (hB g0 g1 g2 g3 g4 g5 g6 g7 g8 g9 g10 g11 g12 g13 g14 g15 g16 g17 g18 g19 g20 g21 g22 g23 g24 g25 g26 a0 a1 ma2_32 a3 a4 a5 a6 a7 a8 a9 a10 a11 a12 a13 a14 a15 a16 a17 a18 a19 a20 a21 a22 a23 b0 w0 (.ref 11) rv)) : ∀ (n : Nat) (l1_32 : Int32) (l2_32 : Int32) (l3_32 : Int32) (ma2_32 : (Nat → Int32)), L_hB_X9_worstDay_32 g0 g23 a11 a10 a14 g1 g2 g24 a18 a16 a15 a17 g19 g22 a12  K n l1_32 l2_32 l3_32 ma2_32 = some res → xW xks YX9_worstDay (d + 5) 0 0 n0 (xZ 0 0 n0 (some (.int res.1)) (hB res.2.1 res.2.2.2.1 res.2.2.2.2 g3 g4 g5 g6 g7 g8 g9 g10 g11 g12 g13 g14 g15 g16 g17 g18 g19 g20 g21 g22 g23 g24 g25 g26 a0 a1 res.2.2.1 a3 a4 a5 a6 a7 a8 a9 a10 a11 a12 a13 a14 a15 a16 a17 a18 a19 a20 a21 a22 a23 b0 w0 (.ref 11) rv)) 0 0 32 [some (.ref 0), some (.int l1_32), some (.int l2_32), some (.int l3_32)] [] (hB g0 g1 g2 g3 g4 g5 g6 g7 g8 g9 g10 g11 g12 g13 g14 g15 g16 g17 g18 g19 g20 g21 g22 g23 g24 g25 g26 a0 a1 ma2_32 a3 a4 a5 a6 a7 a8 a9 a10 a11 a12 a13 a14 a15 a16 a17 a18 a19 a20 a21 a22 a23 b0 w0 (.ref 11) rv) := by
  intro n
  induction n with
  | zero =>
    intro l1_32 l2_32 l3_32 ma2_32 h
    cases (show (none : Option (Int32 × Int32 × (Nat → Int32) × Int32 × Int32)) = some res from h)
  | succ n32 ih32 =>
    intro l1_32 l2_32 l3_32 ma2_32 h
    unfold L_hB_X9_worstDay_32 at h
    refine x_iload_n dX9_worstDay_32 rfl ?_
    refine x_bipush (41 : Int32) dX9_worstDay_33 (by decide) ?_
    refine x_icmp_ge 79 dX9_worstDay_35 (by decide) (fun q => ?_) (fun q => ?_)
    · have h := xif_t q h
      refine x_weak (pl2 := [some (.ref 0), some (.int l1_32), none, none]) ⟨rfl, rfl, trivial⟩ ?_
      exact hK l1_32 l2_32 l3_32 ma2_32 h
    · have h := xif_f q h
      refine x_aload_n dX9_worstDay_38 rfl ?_
      refine x_iload_n dX9_worstDay_39 rfl ?_
      obtain ⟨z40, y40, h⟩ := xbind h
      refine x_callV (t_hB_X9_goesBy l3_32 z40 y40 (d + 0)) kX9_356 dX9_worstDay_40 rfl rfl rfl rfl rfl (Nat.le_of_ble_eq_true rfl) (Nat.le_of_ble_eq_true rfl) rfl rfl (Or.inl rfl) ?_
      refine x_aload_n dX9_worstDay_43 rfl ?_
      refine x_aload_n dX9_worstDay_44 rfl ?_
      refine x_get fX9_21 dX9_worstDay_45 rfl rfl rfl ?_
      refine x_bipush (-2 : Int32) dX9_worstDay_48 (by decide) ?_
      obtain ⟨z50, y50, h⟩ := xbind h
      refine x_callV (t_hB_X9_landsIn_2 (-2 : Int32) z50 y50 (d + 3)) kX9_365 dX9_worstDay_50 rfl rfl rfl rfl rfl (Nat.le_of_ble_eq_true rfl) (Nat.le_of_ble_eq_true rfl) rfl rfl (Or.inl rfl) ?_
      refine x_iload_n dX9_worstDay_53 rfl ?_
      refine x_icmp_gt 60 dX9_worstDay_54 (by decide) (fun q => ?_) (fun q => ?_)
      · have h := xif_t q h
        refine x_aload_n dX9_worstDay_60 rfl ?_
        refine x_aload_n dX9_worstDay_61 rfl ?_
        refine x_get fX9_21 dX9_worstDay_62 rfl rfl rfl ?_
        refine x_bipush (-2 : Int32) dX9_worstDay_65 (by decide) ?_
        obtain ⟨z67, y67, h⟩ := xbind h
        refine x_callV (t_hB_X9_landsIn_2 (-2 : Int32) z67 y67 (d + 3)) kX9_365 dX9_worstDay_67 rfl rfl rfl rfl rfl (Nat.le_of_ble_eq_true rfl) (Nat.le_of_ble_eq_true rfl) rfl rfl (Or.inl rfl) ?_
        refine x_istore_n (pl' := [some (.ref 0), some (.int l1_32), some (.int z67), some (.int l3_32)]) dX9_worstDay_70 (by decide) rfl ?_
        refine x_iload_n dX9_worstDay_71 rfl ?_
        refine x_istore_n (pl' := [some (.ref 0), some (.int l3_32), some (.int z67), some (.int l3_32)]) dX9_worstDay_72 (by decide) rfl ?_
        refine x_iincK (1 : Int32) (pl' := [some (.ref 0), some (.int l3_32), some (.int z67), some (.int (l3_32 + (1 : Int32)))]) dX9_worstDay_73 rfl (by decide) (by decide) rfl ?_
        refine x_goto 32 dX9_worstDay_76 (by decide) ?_
        refine x_weak (pl2 := [some (.ref 0), some (.int l3_32), some (.int z67), some (.int (l3_32 + (1 : Int32)))]) ⟨rfl, rfl, rfl, rfl, trivial⟩ ?_
        exact ih32 l3_32 z67 (l3_32 + (1 : Int32)) z40 h
      · have h := xif_f q h
        refine x_goto 73 dX9_worstDay_57 (by decide) ?_
        refine x_iincK (1 : Int32) (pl' := [some (.ref 0), some (.int l1_32), some (.int l2_32), some (.int (l3_32 + (1 : Int32)))]) dX9_worstDay_73 rfl (by decide) (by decide) rfl ?_
        refine x_goto 32 dX9_worstDay_76 (by decide) ?_
        refine x_weak (pl2 := [some (.ref 0), some (.int l1_32), some (.int l2_32), some (.int (l3_32 + (1 : Int32)))]) ⟨rfl, rfl, rfl, rfl, trivial⟩ ?_
        exact ih32 l1_32 l2_32 (l3_32 + (1 : Int32)) z40 h
set_option maxRecDepth 100000 in
set_option maxHeartbeats 4000000 in
theorem t_hB_X9_worstDay {g0 g1 g2 g3 g4 g5 g6 g7 g8 g9 g10 g11 g12 g13 g14 g15 g16 g17 g18 g19 g20 g21 g22 g23 g24 g25 g26 : Int32} {a0 a1 a2 a3 a4 a5 a6 a7 a8 a9 a10 a11 a12 a13 a14 a15 a16 a17 a18 a19 a20 a21 a22 a23 : (Nat → Int32)} {b0 : (Nat → Int64)} {w0 : Int64} {rv : Value}  (res : Int32 × Int32 × (Nat → Int32) × Int32 × Int32) (h : e_hB_X9_worstDay g0 a2 g23 a11 a10 a14 g1 g2 g24 a18 a16 a15 a17 g19 g22 a12  = some res) (d : Nat) : xMet xks YX9_worstDay (d + 5) 0 0 [.ref 0] (hB g0 g1 g2 g3 g4 g5 g6 g7 g8 g9 g10 g11 g12 g13 g14 g15 g16 g17 g18 g19 g20 g21 g22 g23 g24 g25 g26 a0 a1 a2 a3 a4 a5 a6 a7 a8 a9 a10 a11 a12 a13 a14 a15 a16 a17 a18 a19 a20 a21 a22 a23 b0 w0 (.ref 11) rv) (some (.int res.1)) (hB res.2.1 res.2.2.2.1 res.2.2.2.2 g3 g4 g5 g6 g7 g8 g9 g10 g11 g12 g13 g14 g15 g16 g17 g18 g19 g20 g21 g22 g23 g24 g25 g26 a0 a1 res.2.2.1 a3 a4 a5 a6 a7 a8 a9 a10 a11 a12 a13 a14 a15 a16 a17 a18 a19 a20 a21 a22 a23 b0 w0 (.ref 11) rv) := by
  unfold e_hB_X9_worstDay at h
  refine xMet_of (pl := [some (.ref 0), none, none, none]) (by decide) (Nat.le_of_ble_eq_true rfl) rfl (Nat.le_of_ble_eq_true rfl) ?_
  refine x_aload_n dX9_worstDay_0 rfl ?_
  refine x_iconst (0 : Int32) dX9_worstDay_1 (by decide) ?_
  refine x_put (h2 := (hB (0 : Int32) g1 g2 g3 g4 g5 g6 g7 g8 g9 g10 g11 g12 g13 g14 g15 g16 g17 g18 g19 g20 g21 g22 g23 g24 g25 g26 a0 a1 a2 a3 a4 a5 a6 a7 a8 a9 a10 a11 a12 a13 a14 a15 a16 a17 a18 a19 a20 a21 a22 a23 b0 w0 (.ref 11) rv)) fX9_45 dX9_worstDay_2 rfl rfl (Nat.le_of_ble_eq_true rfl : 0 + 1 ≤ _) (fun α => ⟨rfl, rfl⟩) rfl ?_
  refine x_aload_n dX9_worstDay_5 rfl ?_
  refine x_get fX9_316 dX9_worstDay_6 rfl rfl rfl ?_
  refine x_ifnonnull 18 dX9_worstDay_9 (by decide) ?_
  refine x_iconst (0 : Int32) dX9_worstDay_18 (by decide) ?_
  refine x_istore_n (pl' := [some (.ref 0), some (.int (0 : Int32)), none, none]) dX9_worstDay_19 (by decide) rfl ?_
  refine x_iconst (-1 : Int32) dX9_worstDay_20 (by decide) ?_
  refine x_istore_n (pl' := [some (.ref 0), some (.int (0 : Int32)), some (.int (-1 : Int32)), none]) dX9_worstDay_21 (by decide) rfl ?_
  refine x_aload_n dX9_worstDay_22 rfl ?_
  refine x_aload_n dX9_worstDay_23 rfl ?_
  refine x_get fX9_21 dX9_worstDay_24 rfl rfl rfl ?_
  obtain ⟨z27, y27, h⟩ := xbind h
  refine x_callV (t_hB_X9_starts  z27 y27 (d + 2)) kX9_318 dX9_worstDay_27 rfl rfl rfl rfl rfl (Nat.le_of_ble_eq_true rfl) (Nat.le_of_ble_eq_true rfl) rfl rfl (Or.inl rfl) ?_
  refine x_iconst (0 : Int32) dX9_worstDay_30 (by decide) ?_
  refine x_istore_n (pl' := [some (.ref 0), some (.int (0 : Int32)), some (.int (-1 : Int32)), some (.int (0 : Int32))]) dX9_worstDay_31 (by decide) rfl ?_
  refine x_weak (pl2 := [some (.ref 0), some (.int (0 : Int32)), some (.int (-1 : Int32)), some (.int (0 : Int32))]) ⟨rfl, rfl, rfl, rfl, trivial⟩ ?_
  refine lp_hB_X9_worstDay_32 d _  res _ (fun l1_32 l2_32 l3_32 ma2_32 h => ?_) 200000 (0 : Int32) (-1 : Int32) (0 : Int32) z27 h
  refine x_aload_n dX9_worstDay_79 rfl ?_
  refine x_iload_n dX9_worstDay_80 rfl ?_
  obtain ⟨z81, y81, h⟩ := xbind h
  refine x_callV (t_hB_X9_good l1_32 z81 y81 (d + 3)) kX9_55 dX9_worstDay_81 rfl rfl rfl rfl rfl (Nat.le_of_ble_eq_true rfl) (Nat.le_of_ble_eq_true rfl) rfl rfl (Or.inl rfl) ?_
  cases h
  exact x_iret2 dX9_worstDay_84 rfl rfl
noncomputable def L_hB_X9_owing_37 (p0 : Int32) (p1 : Int32) (p2 : Int32) (p3 : Int32) (p4 : Int32) (p5 : (Nat → Int32))  (f1 : Int32) (f2 : Int32) (K : Int32 → Int32 → Option (Int32 × Int32 × Int32 × Int32)) : Nat → Int32 → Int32 → Option (Int32 × Int32 × Int32 × Int32)
  | 0, _, _ => none
  | n37 + 1, l3_37, l4_37 => if p4 ≤ l4_37 then K l3_37 l4_37 else (xix ((5 : Int32) + l4_37) 11 (if (p5 ((5 : Int32) + l4_37).toNatClampNeg) = f1 then (xix ((0 : Int32) + l4_37) 11 (if (p5 ((0 : Int32) + l4_37).toNatClampNeg) = f2 then L_hB_X9_owing_37 p0 p1 p2 p3 p4 p5 f1 f2 K n37 (l3_37 ||| ((1 : Int32) <<< (l4_37 &&& 31))) (l4_37 + (1 : Int32)) else L_hB_X9_owing_37 p0 p1 p2 p3 p4 p5 f1 f2 K n37 (l3_37 ||| (0 : Int32)) (l4_37 + (1 : Int32)))) else L_hB_X9_owing_37 p0 p1 p2 p3 p4 p5 f1 f2 K n37 (l3_37 ||| (0 : Int32)) (l4_37 + (1 : Int32))))
noncomputable def e_hB_X9_owing (p0 : Int32) (p1 : Int32) (p2 : Int32) (p3 : Int32) (p4 : Int32) (p5 : (Nat → Int32)) (x1 : Int32) (x2 : Int32) : Option (Int32 × Int32 × Int32 × Int32) :=
  ((e_hB_X9_isPerson p1 x1).bind fun z7 => if z7 = (0 : Int32) then ((e_hB_X9_refused p2 p3 (1 : Int32)).bind fun z28 => some (z28.1, (0 : Int32), z28.2.1, z28.2.2)) else ((e_hB_X9_isPerson p1 x2).bind fun z15 => if z15 = (0 : Int32) then ((e_hB_X9_refused p2 p3 (1 : Int32)).bind fun z28 => some (z28.1, (0 : Int32), z28.2.1, z28.2.2)) else if x1 = x2 then ((e_hB_X9_refused p2 p3 (1 : Int32)).bind fun z28 => some (z28.1, (0 : Int32), z28.2.1, z28.2.2)) else L_hB_X9_owing_37 (0 : Int32) p1 p2 p3 p4 p5 x1 x2 (fun l3_37 l4_37 => ((e_hB_X9_good p2 p3 l3_37).bind fun z94 => some (z94.1, (0 : Int32), z94.2.1, z94.2.2))) 200000 (0 : Int32) (0 : Int32)))
set_option maxRecDepth 100000 in
set_option maxHeartbeats 4000000 in
theorem lp_hB_X9_owing_37 {g0 g1 g2 g3 g4 g5 g6 g7 g8 g9 g10 g11 g12 g13 g14 g15 g16 g17 g18 g19 g20 g21 g22 g23 g24 g25 g26 : Int32} {a0 a1 a2 a3 a4 a5 a6 a7 a8 a9 a10 a11 a12 a13 a14 a15 a16 a17 a18 a19 a20 a21 a22 a23 : (Nat → Int32)} {b0 : (Nat → Int64)} {w0 : Int64} {rv : Value} (d n0 : Nat) (f1 : Int32) (f2 : Int32) (res : Int32 × Int32 × Int32 × Int32) (K : Int32 → Int32 → Option (Int32 × Int32 × Int32 × Int32)) (hK : ∀ (l3_37 : Int32) (l4_37 : Int32), K l3_37 l4_37 = some res → xW xks YX9_owing (d + 2) 0 0 n0 (xZ 0 0 n0 (some (.int res.1)) (hB res.2.1 res.2.2.1 res.2.2.2 g3 g4 g5 g6 g7 g8 g9 g10 g11 g12 g13 g14 g15 g16 g17 g18 g19 g20 g21 g22 g23 g24 g25 g26 a0 a1 a2 a3 a4 a5 a6 a7 a8 a9 a10 a11 a12 a13 a14 a15 a16 a17 a18 a19 a20 a21 a22 a23 b0 w0 (.ref 11) rv)) 0 0 92 [some (.ref 0), none, none, some (.int l3_37), none] [] (hB g0 g1 g2 g3 g4 g5 g6 g7 g8 g9 g10 g11 g12 g13 g14 g15 g16 g17 g18 g19 g20 g21 g22 g23 g24 g25 g26 a0 a1 a2 a3 a4 a5 a6 a7 a8 a9 a10 a11 a12 a13 a14 a15 a16 a17 a18 a19 a20 a21 a22 a23 b0 w0 (.ref 11) rv)) : ∀ (n : Nat) (l3_37 : Int32) (l4_37 : Int32), L_hB_X9_owing_37 g0 g22 g1 g2 g23 a1 f1 f2 K n l3_37 l4_37 = some res → xW xks YX9_owing (d + 2) 0 0 n0 (xZ 0 0 n0 (some (.int res.1)) (hB res.2.1 res.2.2.1 res.2.2.2 g3 g4 g5 g6 g7 g8 g9 g10 g11 g12 g13 g14 g15 g16 g17 g18 g19 g20 g21 g22 g23 g24 g25 g26 a0 a1 a2 a3 a4 a5 a6 a7 a8 a9 a10 a11 a12 a13 a14 a15 a16 a17 a18 a19 a20 a21 a22 a23 b0 w0 (.ref 11) rv)) 0 0 37 [some (.ref 0), some (.int f1), some (.int f2), some (.int l3_37), some (.int l4_37)] [] (hB g0 g1 g2 g3 g4 g5 g6 g7 g8 g9 g10 g11 g12 g13 g14 g15 g16 g17 g18 g19 g20 g21 g22 g23 g24 g25 g26 a0 a1 a2 a3 a4 a5 a6 a7 a8 a9 a10 a11 a12 a13 a14 a15 a16 a17 a18 a19 a20 a21 a22 a23 b0 w0 (.ref 11) rv) := by
  intro n
  induction n with
  | zero =>
    intro l3_37 l4_37 h
    cases (show (none : Option (Int32 × Int32 × Int32 × Int32)) = some res from h)
  | succ n37 ih37 =>
    intro l3_37 l4_37 h
    unfold L_hB_X9_owing_37 at h
    refine x_iload dX9_owing_37 rfl ?_
    refine x_aload_n dX9_owing_39 rfl ?_
    refine x_get fX9_316 dX9_owing_40 rfl rfl rfl ?_
    refine x_get fX9_194 dX9_owing_43 rfl rfl rfl ?_
    refine x_icmp_ge 92 dX9_owing_46 (by decide) (fun q => ?_) (fun q => ?_)
    · have h := xif_t q h
      refine x_weak (pl2 := [some (.ref 0), none, none, some (.int l3_37), none]) ⟨rfl, rfl, trivial⟩ ?_
      exact hK l3_37 l4_37 h
    · have h := xif_f q h
      refine x_iload_n dX9_owing_49 rfl ?_
      refine x_aload_n dX9_owing_50 rfl ?_
      refine x_get fX9_17 dX9_owing_51 rfl rfl rfl ?_
      refine x_iconst (5 : Int32) dX9_owing_54 (by decide) ?_
      refine x_iload dX9_owing_55 rfl ?_
      refine x_iadd dX9_owing_57 ?_
      obtain ⟨q58, h⟩ := xix_of h
      refine x_iald dX9_owing_58 rfl q58 ?_
      refine x_iload_n dX9_owing_59 rfl ?_
      refine x_icmp_ne 83 dX9_owing_60 (by decide) (fun q => ?_) (fun q => ?_)
      · have h := xif_f q h
        refine x_iconst (0 : Int32) dX9_owing_83 (by decide) ?_
        refine x_ior dX9_owing_84 ?_
        refine x_istore_n (pl' := [some (.ref 0), some (.int f1), some (.int f2), some (.int (l3_37 ||| (0 : Int32))), some (.int l4_37)]) dX9_owing_85 (by decide) rfl ?_
        refine x_iincK (1 : Int32) (pl' := [some (.ref 0), some (.int f1), some (.int f2), some (.int (l3_37 ||| (0 : Int32))), some (.int (l4_37 + (1 : Int32)))]) dX9_owing_86 rfl (by decide) (by decide) rfl ?_
        refine x_goto 37 dX9_owing_89 (by decide) ?_
        refine x_weak (pl2 := [some (.ref 0), some (.int f1), some (.int f2), some (.int (l3_37 ||| (0 : Int32))), some (.int (l4_37 + (1 : Int32)))]) ⟨rfl, rfl, rfl, rfl, rfl, trivial⟩ ?_
        exact ih37 (l3_37 ||| (0 : Int32)) (l4_37 + (1 : Int32)) h
      · have h := xif_t q h
        refine x_aload_n dX9_owing_63 rfl ?_
        refine x_get fX9_17 dX9_owing_64 rfl rfl rfl ?_
        refine x_iconst (0 : Int32) dX9_owing_67 (by decide) ?_
        refine x_iload dX9_owing_68 rfl ?_
        refine x_iadd dX9_owing_70 ?_
        obtain ⟨q71, h⟩ := xix_of h
        refine x_iald dX9_owing_71 rfl q71 ?_
        refine x_iload_n dX9_owing_72 rfl ?_
        refine x_icmp_ne 83 dX9_owing_73 (by decide) (fun q => ?_) (fun q => ?_)
        · have h := xif_f q h
          refine x_iconst (0 : Int32) dX9_owing_83 (by decide) ?_
          refine x_ior dX9_owing_84 ?_
          refine x_istore_n (pl' := [some (.ref 0), some (.int f1), some (.int f2), some (.int (l3_37 ||| (0 : Int32))), some (.int l4_37)]) dX9_owing_85 (by decide) rfl ?_
          refine x_iincK (1 : Int32) (pl' := [some (.ref 0), some (.int f1), some (.int f2), some (.int (l3_37 ||| (0 : Int32))), some (.int (l4_37 + (1 : Int32)))]) dX9_owing_86 rfl (by decide) (by decide) rfl ?_
          refine x_goto 37 dX9_owing_89 (by decide) ?_
          refine x_weak (pl2 := [some (.ref 0), some (.int f1), some (.int f2), some (.int (l3_37 ||| (0 : Int32))), some (.int (l4_37 + (1 : Int32)))]) ⟨rfl, rfl, rfl, rfl, rfl, trivial⟩ ?_
          exact ih37 (l3_37 ||| (0 : Int32)) (l4_37 + (1 : Int32)) h
        · have h := xif_t q h
          refine x_iconst (1 : Int32) dX9_owing_76 (by decide) ?_
          refine x_iload dX9_owing_77 rfl ?_
          refine x_ishl dX9_owing_79 ?_
          refine x_goto 84 dX9_owing_80 (by decide) ?_
          refine x_ior dX9_owing_84 ?_
          refine x_istore_n (pl' := [some (.ref 0), some (.int f1), some (.int f2), some (.int (l3_37 ||| ((1 : Int32) <<< (l4_37 &&& 31)))), some (.int l4_37)]) dX9_owing_85 (by decide) rfl ?_
          refine x_iincK (1 : Int32) (pl' := [some (.ref 0), some (.int f1), some (.int f2), some (.int (l3_37 ||| ((1 : Int32) <<< (l4_37 &&& 31)))), some (.int (l4_37 + (1 : Int32)))]) dX9_owing_86 rfl (by decide) (by decide) rfl ?_
          refine x_goto 37 dX9_owing_89 (by decide) ?_
          refine x_weak (pl2 := [some (.ref 0), some (.int f1), some (.int f2), some (.int (l3_37 ||| ((1 : Int32) <<< (l4_37 &&& 31)))), some (.int (l4_37 + (1 : Int32)))]) ⟨rfl, rfl, rfl, rfl, rfl, trivial⟩ ?_
          exact ih37 (l3_37 ||| ((1 : Int32) <<< (l4_37 &&& 31))) (l4_37 + (1 : Int32)) h
set_option maxRecDepth 100000 in
set_option maxHeartbeats 4000000 in
theorem t_hB_X9_owing {g0 g1 g2 g3 g4 g5 g6 g7 g8 g9 g10 g11 g12 g13 g14 g15 g16 g17 g18 g19 g20 g21 g22 g23 g24 g25 g26 : Int32} {a0 a1 a2 a3 a4 a5 a6 a7 a8 a9 a10 a11 a12 a13 a14 a15 a16 a17 a18 a19 a20 a21 a22 a23 : (Nat → Int32)} {b0 : (Nat → Int64)} {w0 : Int64} {rv : Value} (x1 : Int32) (x2 : Int32) (res : Int32 × Int32 × Int32 × Int32) (h : e_hB_X9_owing g0 g22 g1 g2 g23 a1 x1 x2 = some res) (d : Nat) : xMet xks YX9_owing (d + 2) 0 0 [.ref 0, .int x1, .int x2] (hB g0 g1 g2 g3 g4 g5 g6 g7 g8 g9 g10 g11 g12 g13 g14 g15 g16 g17 g18 g19 g20 g21 g22 g23 g24 g25 g26 a0 a1 a2 a3 a4 a5 a6 a7 a8 a9 a10 a11 a12 a13 a14 a15 a16 a17 a18 a19 a20 a21 a22 a23 b0 w0 (.ref 11) rv) (some (.int res.1)) (hB res.2.1 res.2.2.1 res.2.2.2 g3 g4 g5 g6 g7 g8 g9 g10 g11 g12 g13 g14 g15 g16 g17 g18 g19 g20 g21 g22 g23 g24 g25 g26 a0 a1 a2 a3 a4 a5 a6 a7 a8 a9 a10 a11 a12 a13 a14 a15 a16 a17 a18 a19 a20 a21 a22 a23 b0 w0 (.ref 11) rv) := by
  unfold e_hB_X9_owing at h
  refine xMet_of (pl := [some (.ref 0), some (.int x1), some (.int x2), none, none]) (by decide) (Nat.le_of_ble_eq_true rfl) rfl (Nat.le_of_ble_eq_true rfl) ?_
  refine x_aload_n dX9_owing_0 rfl ?_
  refine x_iconst (0 : Int32) dX9_owing_1 (by decide) ?_
  refine x_put (h2 := (hB (0 : Int32) g1 g2 g3 g4 g5 g6 g7 g8 g9 g10 g11 g12 g13 g14 g15 g16 g17 g18 g19 g20 g21 g22 g23 g24 g25 g26 a0 a1 a2 a3 a4 a5 a6 a7 a8 a9 a10 a11 a12 a13 a14 a15 a16 a17 a18 a19 a20 a21 a22 a23 b0 w0 (.ref 11) rv)) fX9_45 dX9_owing_2 rfl rfl (Nat.le_of_ble_eq_true rfl : 0 + 1 ≤ _) (fun α => ⟨rfl, rfl⟩) rfl ?_
  refine x_aload_n dX9_owing_5 rfl ?_
  refine x_iload_n dX9_owing_6 rfl ?_
  obtain ⟨z7, y7, h⟩ := xbind h
  refine x_callV (t_hB_X9_isPerson x1 z7 y7 (d + 0)) kX9_362 dX9_owing_7 rfl rfl rfl rfl rfl (Nat.le_of_ble_eq_true rfl) (Nat.le_of_ble_eq_true rfl) rfl rfl (Or.inl rfl) ?_
  refine x_if_eq 26 dX9_owing_10 (by decide) (fun q => ?_) (fun q => ?_)
  · have h := xif_t q h
    refine x_aload_n dX9_owing_26 rfl ?_
    refine x_iconst (1 : Int32) dX9_owing_27 (by decide) ?_
    obtain ⟨z28, y28, h⟩ := xbind h
    refine x_callV (t_hB_X9_refused (1 : Int32) z28 y28 (d + 0)) kX9_51 dX9_owing_28 rfl rfl rfl rfl rfl (Nat.le_of_ble_eq_true rfl) (Nat.le_of_ble_eq_true rfl) rfl rfl (Or.inl rfl) ?_
    cases h
    exact x_iret2 dX9_owing_31 rfl rfl
  · have h := xif_f q h
    refine x_aload_n dX9_owing_13 rfl ?_
    refine x_iload_n dX9_owing_14 rfl ?_
    obtain ⟨z15, y15, h⟩ := xbind h
    refine x_callV (t_hB_X9_isPerson x2 z15 y15 (d + 0)) kX9_362 dX9_owing_15 rfl rfl rfl rfl rfl (Nat.le_of_ble_eq_true rfl) (Nat.le_of_ble_eq_true rfl) rfl rfl (Or.inl rfl) ?_
    refine x_if_eq 26 dX9_owing_18 (by decide) (fun q => ?_) (fun q => ?_)
    · have h := xif_t q h
      refine x_aload_n dX9_owing_26 rfl ?_
      refine x_iconst (1 : Int32) dX9_owing_27 (by decide) ?_
      obtain ⟨z28, y28, h⟩ := xbind h
      refine x_callV (t_hB_X9_refused (1 : Int32) z28 y28 (d + 0)) kX9_51 dX9_owing_28 rfl rfl rfl rfl rfl (Nat.le_of_ble_eq_true rfl) (Nat.le_of_ble_eq_true rfl) rfl rfl (Or.inl rfl) ?_
      cases h
      exact x_iret2 dX9_owing_31 rfl rfl
    · have h := xif_f q h
      refine x_iload_n dX9_owing_21 rfl ?_
      refine x_iload_n dX9_owing_22 rfl ?_
      refine x_icmp_ne 32 dX9_owing_23 (by decide) (fun q => ?_) (fun q => ?_)
      · have h := xif_f q h
        refine x_iconst (0 : Int32) dX9_owing_32 (by decide) ?_
        refine x_istore_n (pl' := [some (.ref 0), some (.int x1), some (.int x2), some (.int (0 : Int32)), none]) dX9_owing_33 (by decide) rfl ?_
        refine x_iconst (0 : Int32) dX9_owing_34 (by decide) ?_
        refine x_istore (pl' := [some (.ref 0), some (.int x1), some (.int x2), some (.int (0 : Int32)), some (.int (0 : Int32))]) dX9_owing_35 (by decide) rfl ?_
        refine x_weak (pl2 := [some (.ref 0), some (.int x1), some (.int x2), some (.int (0 : Int32)), some (.int (0 : Int32))]) ⟨rfl, rfl, rfl, rfl, rfl, trivial⟩ ?_
        refine lp_hB_X9_owing_37 d _ x1 x2 res _ (fun l3_37 l4_37 h => ?_) 200000 (0 : Int32) (0 : Int32) h
        refine x_aload_n dX9_owing_92 rfl ?_
        refine x_iload_n dX9_owing_93 rfl ?_
        obtain ⟨z94, y94, h⟩ := xbind h
        refine x_callV (t_hB_X9_good l3_37 z94 y94 (d + 0)) kX9_55 dX9_owing_94 rfl rfl rfl rfl rfl (Nat.le_of_ble_eq_true rfl) (Nat.le_of_ble_eq_true rfl) rfl rfl (Or.inl rfl) ?_
        cases h
        exact x_iret2 dX9_owing_97 rfl rfl
      · have h := xif_t q h
        refine x_aload_n dX9_owing_26 rfl ?_
        refine x_iconst (1 : Int32) dX9_owing_27 (by decide) ?_
        obtain ⟨z28, y28, h⟩ := xbind h
        refine x_callV (t_hB_X9_refused (1 : Int32) z28 y28 (d + 0)) kX9_51 dX9_owing_28 rfl rfl rfl rfl rfl (Nat.le_of_ble_eq_true rfl) (Nat.le_of_ble_eq_true rfl) rfl rfl (Or.inl rfl) ?_
        cases h
        exact x_iret2 dX9_owing_31 rfl rfl
noncomputable def L_hB_X9_tries_2 (p0 : (Nat → Int32))   (K : Int32 → (Nat → Int32) → Option ((Nat → Int32))) : Nat → Int32 → (Nat → Int32) → Option ((Nat → Int32))
  | 0, _, _ => none
  | n2 + 1, l1_2, ma2_2 => if (11 : Int32) ≤ l1_2 then K l1_2 ma2_2 else (xix l1_2 11 (xix l1_2 11 (L_hB_X9_tries_2 p0  K n2 (l1_2 + (1 : Int32)) (upd ma2_2 l1_2.toNatClampNeg (p0 l1_2.toNatClampNeg)))))
noncomputable def e_hB_X9_tries (p0 : (Nat → Int32)) (p1 : (Nat → Int32))  : Option ((Nat → Int32)) :=
  L_hB_X9_tries_2 p0  (fun l1_2 ma2_2 => some ma2_2) 200000 (0 : Int32) p1
set_option maxRecDepth 100000 in
set_option maxHeartbeats 4000000 in
theorem lp_hB_X9_tries_2 {g0 g1 g2 g3 g4 g5 g6 g7 g8 g9 g10 g11 g12 g13 g14 g15 g16 g17 g18 g19 g20 g21 g22 g23 g24 g25 g26 : Int32} {a0 a1 a3 a4 a5 a6 a7 a8 a9 a10 a11 a12 a13 a14 a15 a16 a17 a18 a19 a20 a21 a22 a23 : (Nat → Int32)} {b0 : (Nat → Int64)} {w0 : Int64} {rv : Value} (d n0 : Nat)  (res : (Nat → Int32)) (K : Int32 → (Nat → Int32) → Option ((Nat → Int32))) (hK : ∀ (l1_2 : Int32) (ma2_2 : (Nat → Int32)), K l1_2 ma2_2 = some res → xW xks YX9_tries (d + 1) 0 0 n0 (xZ 0 0 n0 none (hB g0 g1 g2 g3 g4 g5 g6 g7 g8 g9 g10 g11 g12 g13 g14 g15 g16 g17 g18 g19 g20 g21 g22 g23 g24 g25 g26 a0 a1 res a3 a4 a5 a6 a7 a8 a9 a10 a11 a12 a13 a14 a15 a16 a17 a18 a19 a20 a21 a22 a23 b0 w0 (.ref 11) rv)) 0 0 26 [none, none] [] (hB g0 g1 g2 g3 g4 g5 g6 g7 g8 g9 g10 g11 g12 g13 g14 g15 g16 g17 g18 g19 g20 g21 g22 g23 g24 g25 g26 a0 a1 ma2_2 a3 a4 a5 a6 a7 a8 a9 a10 a11 a12 a13 a14 a15 a16 a17 a18 a19 a20 a21 a22 a23 b0 w0 (.ref 11) rv)) : ∀ (n : Nat) (l1_2 : Int32) (ma2_2 : (Nat → Int32)), L_hB_X9_tries_2 a1  K n l1_2 ma2_2 = some res → xW xks YX9_tries (d + 1) 0 0 n0 (xZ 0 0 n0 none (hB g0 g1 g2 g3 g4 g5 g6 g7 g8 g9 g10 g11 g12 g13 g14 g15 g16 g17 g18 g19 g20 g21 g22 g23 g24 g25 g26 a0 a1 res a3 a4 a5 a6 a7 a8 a9 a10 a11 a12 a13 a14 a15 a16 a17 a18 a19 a20 a21 a22 a23 b0 w0 (.ref 11) rv)) 0 0 2 [some (.ref 0), some (.int l1_2)] [] (hB g0 g1 g2 g3 g4 g5 g6 g7 g8 g9 g10 g11 g12 g13 g14 g15 g16 g17 g18 g19 g20 g21 g22 g23 g24 g25 g26 a0 a1 ma2_2 a3 a4 a5 a6 a7 a8 a9 a10 a11 a12 a13 a14 a15 a16 a17 a18 a19 a20 a21 a22 a23 b0 w0 (.ref 11) rv) := by
  intro n
  induction n with
  | zero =>
    intro l1_2 ma2_2 h
    cases (show (none : Option ((Nat → Int32))) = some res from h)
  | succ n2 ih2 =>
    intro l1_2 ma2_2 h
    unfold L_hB_X9_tries_2 at h
    refine x_iload_n dX9_tries_2 rfl ?_
    refine x_bipush (11 : Int32) dX9_tries_3 (by decide) ?_
    refine x_icmp_ge 26 dX9_tries_5 (by decide) (fun q => ?_) (fun q => ?_)
    · have h := xif_t q h
      refine x_weak (pl2 := [none, none]) trivial ?_
      exact hK l1_2 ma2_2 h
    · have h := xif_f q h
      refine x_aload_n dX9_tries_8 rfl ?_
      refine x_get fX9_21 dX9_tries_9 rfl rfl rfl ?_
      refine x_iload_n dX9_tries_12 rfl ?_
      refine x_aload_n dX9_tries_13 rfl ?_
      refine x_get fX9_17 dX9_tries_14 rfl rfl rfl ?_
      refine x_iload_n dX9_tries_17 rfl ?_
      obtain ⟨q18, h⟩ := xix_of h
      refine x_iald dX9_tries_18 rfl q18 ?_
      obtain ⟨q19, h⟩ := xix_of h
      refine x_iast (h2 := (hB g0 g1 g2 g3 g4 g5 g6 g7 g8 g9 g10 g11 g12 g13 g14 g15 g16 g17 g18 g19 g20 g21 g22 g23 g24 g25 g26 a0 a1 (upd ma2_2 l1_2.toNatClampNeg (a1 l1_2.toNatClampNeg)) a3 a4 a5 a6 a7 a8 a9 a10 a11 a12 a13 a14 a15 a16 a17 a18 a19 a20 a21 a22 a23 b0 w0 (.ref 11) rv)) dX9_tries_19 rfl q19 rfl ?_
      refine x_iincK (1 : Int32) (pl' := [some (.ref 0), some (.int (l1_2 + (1 : Int32)))]) dX9_tries_20 rfl (by decide) (by decide) rfl ?_
      refine x_goto 2 dX9_tries_23 (by decide) ?_
      refine x_weak (pl2 := [some (.ref 0), some (.int (l1_2 + (1 : Int32)))]) ⟨rfl, rfl, trivial⟩ ?_
      exact ih2 (l1_2 + (1 : Int32)) (upd ma2_2 l1_2.toNatClampNeg (a1 l1_2.toNatClampNeg)) h
set_option maxRecDepth 100000 in
set_option maxHeartbeats 4000000 in
theorem t_hB_X9_tries {g0 g1 g2 g3 g4 g5 g6 g7 g8 g9 g10 g11 g12 g13 g14 g15 g16 g17 g18 g19 g20 g21 g22 g23 g24 g25 g26 : Int32} {a0 a1 a2 a3 a4 a5 a6 a7 a8 a9 a10 a11 a12 a13 a14 a15 a16 a17 a18 a19 a20 a21 a22 a23 : (Nat → Int32)} {b0 : (Nat → Int64)} {w0 : Int64} {rv : Value}  (res : (Nat → Int32)) (h : e_hB_X9_tries a1 a2  = some res) (d : Nat) : xMet xks YX9_tries (d + 1) 0 0 [.ref 0] (hB g0 g1 g2 g3 g4 g5 g6 g7 g8 g9 g10 g11 g12 g13 g14 g15 g16 g17 g18 g19 g20 g21 g22 g23 g24 g25 g26 a0 a1 a2 a3 a4 a5 a6 a7 a8 a9 a10 a11 a12 a13 a14 a15 a16 a17 a18 a19 a20 a21 a22 a23 b0 w0 (.ref 11) rv) none (hB g0 g1 g2 g3 g4 g5 g6 g7 g8 g9 g10 g11 g12 g13 g14 g15 g16 g17 g18 g19 g20 g21 g22 g23 g24 g25 g26 a0 a1 res a3 a4 a5 a6 a7 a8 a9 a10 a11 a12 a13 a14 a15 a16 a17 a18 a19 a20 a21 a22 a23 b0 w0 (.ref 11) rv) := by
  unfold e_hB_X9_tries at h
  refine xMet_of (pl := [some (.ref 0), none]) (by decide) (Nat.le_of_ble_eq_true rfl) rfl (Nat.le_of_ble_eq_true rfl) ?_
  refine x_iconst (0 : Int32) dX9_tries_0 (by decide) ?_
  refine x_istore_n (pl' := [some (.ref 0), some (.int (0 : Int32))]) dX9_tries_1 (by decide) rfl ?_
  refine x_weak (pl2 := [some (.ref 0), some (.int (0 : Int32))]) ⟨rfl, rfl, trivial⟩ ?_
  refine lp_hB_X9_tries_2 d _  res _ (fun l1_2 ma2_2 h => ?_) 200000 (0 : Int32) a2 h
  cases h
  exact x_vret2 dX9_tries_26 rfl rfl
noncomputable def e_hB_X9_change (p0 : Int32) (p1 : Int32) (p2 : (Nat → Int32)) (p3 : (Nat → Int32)) (p4 : Int32) (p5 : Int32) (p6 : (Nat → Int32)) (p7 : (Nat → Int32)) (p8 : (Nat → Int32)) (p9 : Int32) (p10 : Int32) (x1 : Int32) (x2 : Int32) : Option (Int32 × Int32 × (Nat → Int32) × Int32 × Int32) :=
  ((e_hB_X9_isPerson p1 x1).bind fun z7 => if z7 = (0 : Int32) then ((e_hB_X9_refused p9 p10 (1 : Int32)).bind fun z15 => some ((-1000 : Int32), (0 : Int32), p3, z15.2.1, z15.2.2)) else ((e_hB_X9_tries p2 p3).bind fun z24 => (e_hB_X9_ends p4 z24 p5 p1 p6 p7 p8 x2).bind fun z33 => (e_hB_X9_landsIn p4 z33 p7 x1).bind fun z43 => (e_hB_X9_landsIn p4 p2 p7 x1).bind fun z52 => (e_hB_X9_good p9 p10 (z43 - z52)).bind fun z56 => some (z56.1, (0 : Int32), z33, z56.2.1, z56.2.2)))
set_option maxRecDepth 100000 in
set_option maxHeartbeats 4000000 in
theorem t_hB_X9_change {g0 g1 g2 g3 g4 g5 g6 g7 g8 g9 g10 g11 g12 g13 g14 g15 g16 g17 g18 g19 g20 g21 g22 g23 g24 g25 g26 : Int32} {a0 a1 a2 a3 a4 a5 a6 a7 a8 a9 a10 a11 a12 a13 a14 a15 a16 a17 a18 a19 a20 a21 a22 a23 : (Nat → Int32)} {b0 : (Nat → Int64)} {w0 : Int64} {rv : Value} (x1 : Int32) (x2 : Int32) (res : Int32 × Int32 × (Nat → Int32) × Int32 × Int32) (h : e_hB_X9_change g0 g22 a1 a2 g23 g19 a10 a12 a11 g1 g2 x1 x2 = some res) (d : Nat) : xMet xks YX9_change (d + 4) 0 0 [.ref 0, .int x1, .int x2] (hB g0 g1 g2 g3 g4 g5 g6 g7 g8 g9 g10 g11 g12 g13 g14 g15 g16 g17 g18 g19 g20 g21 g22 g23 g24 g25 g26 a0 a1 a2 a3 a4 a5 a6 a7 a8 a9 a10 a11 a12 a13 a14 a15 a16 a17 a18 a19 a20 a21 a22 a23 b0 w0 (.ref 11) rv) (some (.int res.1)) (hB res.2.1 res.2.2.2.1 res.2.2.2.2 g3 g4 g5 g6 g7 g8 g9 g10 g11 g12 g13 g14 g15 g16 g17 g18 g19 g20 g21 g22 g23 g24 g25 g26 a0 a1 res.2.2.1 a3 a4 a5 a6 a7 a8 a9 a10 a11 a12 a13 a14 a15 a16 a17 a18 a19 a20 a21 a22 a23 b0 w0 (.ref 11) rv) := by
  unfold e_hB_X9_change at h
  refine xMet_of (pl := [some (.ref 0), some (.int x1), some (.int x2)]) (by decide) (Nat.le_of_ble_eq_true rfl) rfl (Nat.le_of_ble_eq_true rfl) ?_
  refine x_aload_n dX9_change_0 rfl ?_
  refine x_iconst (0 : Int32) dX9_change_1 (by decide) ?_
  refine x_put (h2 := (hB (0 : Int32) g1 g2 g3 g4 g5 g6 g7 g8 g9 g10 g11 g12 g13 g14 g15 g16 g17 g18 g19 g20 g21 g22 g23 g24 g25 g26 a0 a1 a2 a3 a4 a5 a6 a7 a8 a9 a10 a11 a12 a13 a14 a15 a16 a17 a18 a19 a20 a21 a22 a23 b0 w0 (.ref 11) rv)) fX9_45 dX9_change_2 rfl rfl (Nat.le_of_ble_eq_true rfl : 0 + 1 ≤ _) (fun α => ⟨rfl, rfl⟩) rfl ?_
  refine x_aload_n dX9_change_5 rfl ?_
  refine x_iload_n dX9_change_6 rfl ?_
  obtain ⟨z7, y7, h⟩ := xbind h
  refine x_callV (t_hB_X9_isPerson x1 z7 y7 (d + 2)) kX9_362 dX9_change_7 rfl rfl rfl rfl rfl (Nat.le_of_ble_eq_true rfl) (Nat.le_of_ble_eq_true rfl) rfl rfl (Or.inl rfl) ?_
  refine x_if_ne 23 dX9_change_10 (by decide) (fun q => ?_) (fun q => ?_)
  · have h := xif_f q h
    refine x_aload_n dX9_change_23 rfl ?_
    obtain ⟨z24, y24, h⟩ := xbind h
    refine x_callV (t_hB_X9_tries  z24 y24 (d + 2)) kX9_393 dX9_change_24 rfl rfl rfl rfl rfl (Nat.le_of_ble_eq_true rfl) (Nat.le_of_ble_eq_true rfl) rfl rfl (Or.inl rfl) ?_
    refine x_aload_n dX9_change_27 rfl ?_
    refine x_aload_n dX9_change_28 rfl ?_
    refine x_get fX9_21 dX9_change_29 rfl rfl rfl ?_
    refine x_iload_n dX9_change_32 rfl ?_
    obtain ⟨z33, y33, h⟩ := xbind h
    refine x_callV (t_hB_X9_ends x2 z33 y33 (d + 0)) kX9_352 dX9_change_33 rfl rfl rfl rfl rfl (Nat.le_of_ble_eq_true rfl) (Nat.le_of_ble_eq_true rfl) rfl rfl (Or.inl rfl) ?_
    refine x_aload_n dX9_change_36 rfl ?_
    refine x_aload_n dX9_change_37 rfl ?_
    refine x_aload_n dX9_change_38 rfl ?_
    refine x_get fX9_21 dX9_change_39 rfl rfl rfl ?_
    refine x_iload_n dX9_change_42 rfl ?_
    obtain ⟨z43, y43, h⟩ := xbind h
    refine x_callV (t_hB_X9_landsIn_2 x1 z43 y43 (d + 2)) kX9_365 dX9_change_43 rfl rfl rfl rfl rfl (Nat.le_of_ble_eq_true rfl) (Nat.le_of_ble_eq_true rfl) rfl rfl (Or.inl rfl) ?_
    refine x_aload_n dX9_change_46 rfl ?_
    refine x_aload_n dX9_change_47 rfl ?_
    refine x_get fX9_17 dX9_change_48 rfl rfl rfl ?_
    refine x_iload_n dX9_change_51 rfl ?_
    obtain ⟨z52, y52, h⟩ := xbind h
    refine x_callV (t_hB_X9_landsIn x1 z52 y52 (d + 2)) kX9_365 dX9_change_52 rfl rfl rfl rfl rfl (Nat.le_of_ble_eq_true rfl) (Nat.le_of_ble_eq_true rfl) rfl rfl (Or.inl rfl) ?_
    refine x_isub dX9_change_55 ?_
    obtain ⟨z56, y56, h⟩ := xbind h
    refine x_callV (t_hB_X9_good (z43 - z52) z56 y56 (d + 2)) kX9_55 dX9_change_56 rfl rfl rfl rfl rfl (Nat.le_of_ble_eq_true rfl) (Nat.le_of_ble_eq_true rfl) rfl rfl (Or.inl rfl) ?_
    cases h
    exact x_iret2 dX9_change_59 rfl rfl
  · have h := xif_t q h
    refine x_aload_n dX9_change_13 rfl ?_
    refine x_iconst (1 : Int32) dX9_change_14 (by decide) ?_
    obtain ⟨z15, y15, h⟩ := xbind h
    refine x_callV (t_hB_X9_refused (1 : Int32) z15 y15 (d + 2)) kX9_51 dX9_change_15 rfl rfl rfl rfl rfl (Nat.le_of_ble_eq_true rfl) (Nat.le_of_ble_eq_true rfl) rfl rfl (Or.inl rfl) ?_
    refine x_pop dX9_change_18 rfl ?_
    refine x_sipush (-1000 : Int32) dX9_change_19 (by decide) ?_
    cases h
    exact x_iret2 dX9_change_22 rfl rfl
noncomputable def L_hB_X9_lapsesIn_25 (p0 : Int32) (p1 : Int32) (p2 : (Nat → Int32)) (p4 : Int32) (p5 : Int32) (p6 : Int32) (p7 : Int32) (p8 : (Nat → Int32)) (p9 : (Nat → Int32)) (p10 : (Nat → Int32))  (f1 : Int32) (K : Int32 → (Nat → Int32) → Option (Int32 × Int32 × (Nat → Int32) × Int32 × Int32)) : Nat → Int32 → (Nat → Int32) → Option (Int32 × Int32 × (Nat → Int32) × Int32 × Int32)
  | 0, _, _ => none
  | n25 + 1, l2_25, ma2_25 => if (30 : Int32) < l2_25 then K l2_25 ma2_25 else (xix ((5 : Int32) + f1) 11 (if (ma2_25 ((5 : Int32) + f1).toNatClampNeg) = (-2 : Int32) then ((e_hB_X9_good p4 p5 l2_25).bind fun z46 => some (z46.1, p0, ma2_25, z46.2.1, z46.2.2)) else ((e_hB_X9_ends p1 ma2_25 p6 p7 p8 p9 p10 (0 : Int32)).bind fun z56 => L_hB_X9_lapsesIn_25 p0 p1 p2 p4 p5 p6 p7 p8 p9 p10 f1 K n25 (l2_25 + (1 : Int32)) z56)))
noncomputable def e_hB_X9_lapsesIn (p0 : Int32) (p1 : Int32) (p2 : (Nat → Int32)) (p3 : (Nat → Int32)) (p4 : Int32) (p5 : Int32) (p6 : Int32) (p7 : Int32) (p8 : (Nat → Int32)) (p9 : (Nat → Int32)) (p10 : (Nat → Int32)) (x1 : Int32) : Option (Int32 × Int32 × (Nat → Int32) × Int32 × Int32) :=
  ((e_hB_X9_isUmbrella p1 x1).bind fun z7 => if z7 = (0 : Int32) then ((e_hB_X9_refused p4 p5 (1 : Int32)).bind fun z15 => some (z15.1, (0 : Int32), p3, z15.2.1, z15.2.2)) else ((e_hB_X9_tries p2 p3).bind fun z20 => L_hB_X9_lapsesIn_25 (0 : Int32) p1 p2 p4 p5 p6 p7 p8 p9 p10 x1 (fun l2_25 ma2_25 => ((e_hB_X9_good p4 p5 (-2 : Int32)).bind fun z68 => some (z68.1, (0 : Int32), ma2_25, z68.2.1, z68.2.2))) 200000 (0 : Int32) z20))
set_option maxRecDepth 100000 in
set_option maxHeartbeats 4000000 in
theorem lp_hB_X9_lapsesIn_25 {g0 g1 g2 g3 g4 g5 g6 g7 g8 g9 g10 g11 g12 g13 g14 g15 g16 g17 g18 g19 g20 g21 g22 g23 g24 g25 g26 : Int32} {a0 a1 a3 a4 a5 a6 a7 a8 a9 a10 a11 a12 a13 a14 a15 a16 a17 a18 a19 a20 a21 a22 a23 : (Nat → Int32)} {b0 : (Nat → Int64)} {w0 : Int64} {rv : Value} (d n0 : Nat) (f1 : Int32) (res : Int32 × Int32 × (Nat → Int32) × Int32 × Int32) (K : Int32 → (Nat → Int32) → Option (Int32 × Int32 × (Nat → Int32) × Int32 × Int32)) (hK : ∀ (l2_25 : Int32) (ma2_25 : (Nat → Int32)), K l2_25 ma2_25 = some res → xW xks YX9_lapsesIn (d + 4) 0 0 n0 (xZ 0 0 n0 (some (.int res.1)) (hB res.2.1 res.2.2.2.1 res.2.2.2.2 g3 g4 g5 g6 g7 g8 g9 g10 g11 g12 g13 g14 g15 g16 g17 g18 g19 g20 g21 g22 g23 g24 g25 g26 a0 a1 res.2.2.1 a3 a4 a5 a6 a7 a8 a9 a10 a11 a12 a13 a14 a15 a16 a17 a18 a19 a20 a21 a22 a23 b0 w0 (.ref 11) rv)) 0 0 65 [some (.ref 0), none, none] [] (hB g0 g1 g2 g3 g4 g5 g6 g7 g8 g9 g10 g11 g12 g13 g14 g15 g16 g17 g18 g19 g20 g21 g22 g23 g24 g25 g26 a0 a1 ma2_25 a3 a4 a5 a6 a7 a8 a9 a10 a11 a12 a13 a14 a15 a16 a17 a18 a19 a20 a21 a22 a23 b0 w0 (.ref 11) rv)) : ∀ (n : Nat) (l2_25 : Int32) (ma2_25 : (Nat → Int32)), L_hB_X9_lapsesIn_25 g0 g23 a1 g1 g2 g19 g22 a10 a12 a11 f1 K n l2_25 ma2_25 = some res → xW xks YX9_lapsesIn (d + 4) 0 0 n0 (xZ 0 0 n0 (some (.int res.1)) (hB res.2.1 res.2.2.2.1 res.2.2.2.2 g3 g4 g5 g6 g7 g8 g9 g10 g11 g12 g13 g14 g15 g16 g17 g18 g19 g20 g21 g22 g23 g24 g25 g26 a0 a1 res.2.2.1 a3 a4 a5 a6 a7 a8 a9 a10 a11 a12 a13 a14 a15 a16 a17 a18 a19 a20 a21 a22 a23 b0 w0 (.ref 11) rv)) 0 0 25 [some (.ref 0), some (.int f1), some (.int l2_25)] [] (hB g0 g1 g2 g3 g4 g5 g6 g7 g8 g9 g10 g11 g12 g13 g14 g15 g16 g17 g18 g19 g20 g21 g22 g23 g24 g25 g26 a0 a1 ma2_25 a3 a4 a5 a6 a7 a8 a9 a10 a11 a12 a13 a14 a15 a16 a17 a18 a19 a20 a21 a22 a23 b0 w0 (.ref 11) rv) := by
  intro n
  induction n with
  | zero =>
    intro l2_25 ma2_25 h
    cases (show (none : Option (Int32 × Int32 × (Nat → Int32) × Int32 × Int32)) = some res from h)
  | succ n25 ih25 =>
    intro l2_25 ma2_25 h
    unfold L_hB_X9_lapsesIn_25 at h
    refine x_iload_n dX9_lapsesIn_25 rfl ?_
    refine x_bipush (30 : Int32) dX9_lapsesIn_26 (by decide) ?_
    refine x_icmp_gt 65 dX9_lapsesIn_28 (by decide) (fun q => ?_) (fun q => ?_)
    · have h := xif_t q h
      refine x_weak (pl2 := [some (.ref 0), none, none]) ⟨rfl, trivial⟩ ?_
      exact hK l2_25 ma2_25 h
    · have h := xif_f q h
      refine x_aload_n dX9_lapsesIn_31 rfl ?_
      refine x_get fX9_21 dX9_lapsesIn_32 rfl rfl rfl ?_
      refine x_iconst (5 : Int32) dX9_lapsesIn_35 (by decide) ?_
      refine x_iload_n dX9_lapsesIn_36 rfl ?_
      refine x_iadd dX9_lapsesIn_37 ?_
      obtain ⟨q38, h⟩ := xix_of h
      refine x_iald dX9_lapsesIn_38 rfl q38 ?_
      refine x_bipush (-2 : Int32) dX9_lapsesIn_39 (by decide) ?_
      refine x_icmp_ne 50 dX9_lapsesIn_41 (by decide) (fun q => ?_) (fun q => ?_)
      · have h := xif_f q h
        refine x_aload_n dX9_lapsesIn_50 rfl ?_
        refine x_aload_n dX9_lapsesIn_51 rfl ?_
        refine x_get fX9_21 dX9_lapsesIn_52 rfl rfl rfl ?_
        refine x_iconst (0 : Int32) dX9_lapsesIn_55 (by decide) ?_
        obtain ⟨z56, y56, h⟩ := xbind h
        refine x_callV (t_hB_X9_ends (0 : Int32) z56 y56 (d + 0)) kX9_352 dX9_lapsesIn_56 rfl rfl rfl rfl rfl (Nat.le_of_ble_eq_true rfl) (Nat.le_of_ble_eq_true rfl) rfl rfl (Or.inl rfl) ?_
        refine x_iincK (1 : Int32) (pl' := [some (.ref 0), some (.int f1), some (.int (l2_25 + (1 : Int32)))]) dX9_lapsesIn_59 rfl (by decide) (by decide) rfl ?_
        refine x_goto 25 dX9_lapsesIn_62 (by decide) ?_
        refine x_weak (pl2 := [some (.ref 0), some (.int f1), some (.int (l2_25 + (1 : Int32)))]) ⟨rfl, rfl, rfl, trivial⟩ ?_
        exact ih25 (l2_25 + (1 : Int32)) z56 h
      · have h := xif_t q h
        refine x_aload_n dX9_lapsesIn_44 rfl ?_
        refine x_iload_n dX9_lapsesIn_45 rfl ?_
        obtain ⟨z46, y46, h⟩ := xbind h
        refine x_callV (t_hB_X9_good l2_25 z46 y46 (d + 2)) kX9_55 dX9_lapsesIn_46 rfl rfl rfl rfl rfl (Nat.le_of_ble_eq_true rfl) (Nat.le_of_ble_eq_true rfl) rfl rfl (Or.inl rfl) ?_
        cases h
        exact x_iret2 dX9_lapsesIn_49 rfl rfl
set_option maxRecDepth 100000 in
set_option maxHeartbeats 4000000 in
theorem t_hB_X9_lapsesIn {g0 g1 g2 g3 g4 g5 g6 g7 g8 g9 g10 g11 g12 g13 g14 g15 g16 g17 g18 g19 g20 g21 g22 g23 g24 g25 g26 : Int32} {a0 a1 a2 a3 a4 a5 a6 a7 a8 a9 a10 a11 a12 a13 a14 a15 a16 a17 a18 a19 a20 a21 a22 a23 : (Nat → Int32)} {b0 : (Nat → Int64)} {w0 : Int64} {rv : Value} (x1 : Int32) (res : Int32 × Int32 × (Nat → Int32) × Int32 × Int32) (h : e_hB_X9_lapsesIn g0 g23 a1 a2 g1 g2 g19 g22 a10 a12 a11 x1 = some res) (d : Nat) : xMet xks YX9_lapsesIn (d + 4) 0 0 [.ref 0, .int x1] (hB g0 g1 g2 g3 g4 g5 g6 g7 g8 g9 g10 g11 g12 g13 g14 g15 g16 g17 g18 g19 g20 g21 g22 g23 g24 g25 g26 a0 a1 a2 a3 a4 a5 a6 a7 a8 a9 a10 a11 a12 a13 a14 a15 a16 a17 a18 a19 a20 a21 a22 a23 b0 w0 (.ref 11) rv) (some (.int res.1)) (hB res.2.1 res.2.2.2.1 res.2.2.2.2 g3 g4 g5 g6 g7 g8 g9 g10 g11 g12 g13 g14 g15 g16 g17 g18 g19 g20 g21 g22 g23 g24 g25 g26 a0 a1 res.2.2.1 a3 a4 a5 a6 a7 a8 a9 a10 a11 a12 a13 a14 a15 a16 a17 a18 a19 a20 a21 a22 a23 b0 w0 (.ref 11) rv) := by
  unfold e_hB_X9_lapsesIn at h
  refine xMet_of (pl := [some (.ref 0), some (.int x1), none]) (by decide) (Nat.le_of_ble_eq_true rfl) rfl (Nat.le_of_ble_eq_true rfl) ?_
  refine x_aload_n dX9_lapsesIn_0 rfl ?_
  refine x_iconst (0 : Int32) dX9_lapsesIn_1 (by decide) ?_
  refine x_put (h2 := (hB (0 : Int32) g1 g2 g3 g4 g5 g6 g7 g8 g9 g10 g11 g12 g13 g14 g15 g16 g17 g18 g19 g20 g21 g22 g23 g24 g25 g26 a0 a1 a2 a3 a4 a5 a6 a7 a8 a9 a10 a11 a12 a13 a14 a15 a16 a17 a18 a19 a20 a21 a22 a23 b0 w0 (.ref 11) rv)) fX9_45 dX9_lapsesIn_2 rfl rfl (Nat.le_of_ble_eq_true rfl : 0 + 1 ≤ _) (fun α => ⟨rfl, rfl⟩) rfl ?_
  refine x_aload_n dX9_lapsesIn_5 rfl ?_
  refine x_iload_n dX9_lapsesIn_6 rfl ?_
  obtain ⟨z7, y7, h⟩ := xbind h
  refine x_callV (t_hB_X9_isUmbrella x1 z7 y7 (d + 2)) kX9_359 dX9_lapsesIn_7 rfl rfl rfl rfl rfl (Nat.le_of_ble_eq_true rfl) (Nat.le_of_ble_eq_true rfl) rfl rfl (Or.inl rfl) ?_
  refine x_if_ne 19 dX9_lapsesIn_10 (by decide) (fun q => ?_) (fun q => ?_)
  · have h := xif_f q h
    refine x_aload_n dX9_lapsesIn_19 rfl ?_
    obtain ⟨z20, y20, h⟩ := xbind h
    refine x_callV (t_hB_X9_tries  z20 y20 (d + 2)) kX9_393 dX9_lapsesIn_20 rfl rfl rfl rfl rfl (Nat.le_of_ble_eq_true rfl) (Nat.le_of_ble_eq_true rfl) rfl rfl (Or.inl rfl) ?_
    refine x_iconst (0 : Int32) dX9_lapsesIn_23 (by decide) ?_
    refine x_istore_n (pl' := [some (.ref 0), some (.int x1), some (.int (0 : Int32))]) dX9_lapsesIn_24 (by decide) rfl ?_
    refine x_weak (pl2 := [some (.ref 0), some (.int x1), some (.int (0 : Int32))]) ⟨rfl, rfl, rfl, trivial⟩ ?_
    refine lp_hB_X9_lapsesIn_25 d _ x1 res _ (fun l2_25 ma2_25 h => ?_) 200000 (0 : Int32) z20 h
    refine x_aload_n dX9_lapsesIn_65 rfl ?_
    refine x_bipush (-2 : Int32) dX9_lapsesIn_66 (by decide) ?_
    obtain ⟨z68, y68, h⟩ := xbind h
    refine x_callV (t_hB_X9_good (-2 : Int32) z68 y68 (d + 2)) kX9_55 dX9_lapsesIn_68 rfl rfl rfl rfl rfl (Nat.le_of_ble_eq_true rfl) (Nat.le_of_ble_eq_true rfl) rfl rfl (Or.inl rfl) ?_
    cases h
    exact x_iret2 dX9_lapsesIn_71 rfl rfl
  · have h := xif_t q h
    refine x_aload_n dX9_lapsesIn_13 rfl ?_
    refine x_iconst (1 : Int32) dX9_lapsesIn_14 (by decide) ?_
    obtain ⟨z15, y15, h⟩ := xbind h
    refine x_callV (t_hB_X9_refused (1 : Int32) z15 y15 (d + 2)) kX9_51 dX9_lapsesIn_15 rfl rfl rfl rfl rfl (Nat.le_of_ble_eq_true rfl) (Nat.le_of_ble_eq_true rfl) rfl rfl (Or.inl rfl) ?_
    cases h
    exact x_iret2 dX9_lapsesIn_18 rfl rfl
noncomputable def e_hB_X9_isParty (p0 : Int32) (x1 : Int32) : Option (Int32) :=
  ((e_hB_X9_in x1 (1 : Int32) (((1 : Int32) <<< (p0 &&& 31)) - (1 : Int32))).bind fun z20 => if z20 = (0 : Int32) then some (0 : Int32) else some (1 : Int32))
set_option maxRecDepth 100000 in
set_option maxHeartbeats 4000000 in
theorem t_hB_X9_isParty {g0 g1 g2 g3 g4 g5 g6 g7 g8 g9 g10 g11 g12 g13 g14 g15 g16 g17 g18 g19 g20 g21 g22 g23 g24 g25 g26 : Int32} {a0 a1 a2 a3 a4 a5 a6 a7 a8 a9 a10 a11 a12 a13 a14 a15 a16 a17 a18 a19 a20 a21 a22 a23 : (Nat → Int32)} {b0 : (Nat → Int64)} {w0 : Int64} {rv : Value} (x1 : Int32) (res : Int32) (h : e_hB_X9_isParty g22 x1 = some res) (d : Nat) : xMet xks YX9_isParty (d + 2) 0 0 [.ref 0, .int x1] (hB g0 g1 g2 g3 g4 g5 g6 g7 g8 g9 g10 g11 g12 g13 g14 g15 g16 g17 g18 g19 g20 g21 g22 g23 g24 g25 g26 a0 a1 a2 a3 a4 a5 a6 a7 a8 a9 a10 a11 a12 a13 a14 a15 a16 a17 a18 a19 a20 a21 a22 a23 b0 w0 (.ref 11) rv) (some (.int res)) (hB g0 g1 g2 g3 g4 g5 g6 g7 g8 g9 g10 g11 g12 g13 g14 g15 g16 g17 g18 g19 g20 g21 g22 g23 g24 g25 g26 a0 a1 a2 a3 a4 a5 a6 a7 a8 a9 a10 a11 a12 a13 a14 a15 a16 a17 a18 a19 a20 a21 a22 a23 b0 w0 (.ref 11) rv) := by
  unfold e_hB_X9_isParty at h
  refine xMet_of (pl := [some (.ref 0), some (.int x1)]) (by decide) (Nat.le_of_ble_eq_true rfl) rfl (Nat.le_of_ble_eq_true rfl) ?_
  refine x_aload_n dX9_isParty_0 rfl ?_
  refine x_get fX9_316 dX9_isParty_1 rfl rfl rfl ?_
  refine x_ifnull dX9_isParty_4 ?_
  refine x_iload_n dX9_isParty_7 rfl ?_
  refine x_iconst (1 : Int32) dX9_isParty_8 (by decide) ?_
  refine x_iconst (1 : Int32) dX9_isParty_9 (by decide) ?_
  refine x_aload_n dX9_isParty_10 rfl ?_
  refine x_get fX9_316 dX9_isParty_11 rfl rfl rfl ?_
  refine x_get fX9_191 dX9_isParty_14 rfl rfl rfl ?_
  refine x_ishl dX9_isParty_17 ?_
  refine x_iconst (1 : Int32) dX9_isParty_18 (by decide) ?_
  refine x_isub dX9_isParty_19 ?_
  obtain ⟨z20, y20, h⟩ := xbind h
  refine x_callS (t_hB_X9_in x1 (1 : Int32) (((1 : Int32) <<< (g22 &&& 31)) - (1 : Int32)) z20 y20 (d + 0)) kX9_124 dX9_isParty_20 rfl rfl (Nat.le_of_ble_eq_true rfl) (Nat.le_of_ble_eq_true rfl) rfl rfl (Or.inl rfl) ?_
  refine x_if_eq 30 dX9_isParty_23 (by decide) (fun q => ?_) (fun q => ?_)
  · have h := xif_t q h
    refine x_iconst (0 : Int32) dX9_isParty_30 (by decide) ?_
    cases h
    exact x_zret2 dX9_isParty_31 rfl rfl rfl
  · have h := xif_f q h
    refine x_iconst (1 : Int32) dX9_isParty_26 (by decide) ?_
    refine x_goto 31 dX9_isParty_27 (by decide) ?_
    cases h
    exact x_zret2 dX9_isParty_31 rfl rfl rfl
noncomputable def e_hB_X9_bit  (x0 : Int32) (x1 : Int32) : Option (Int32) :=
  if ((x0 >>> (x1 &&& 31)) &&& (1 : Int32)) = (1 : Int32) then some (1 : Int32) else some (0 : Int32)
set_option maxRecDepth 100000 in
set_option maxHeartbeats 4000000 in
theorem t_hB_X9_bit {g0 g1 g2 g3 g4 g5 g6 g7 g8 g9 g10 g11 g12 g13 g14 g15 g16 g17 g18 g19 g20 g21 g22 g23 g24 g25 g26 : Int32} {a0 a1 a2 a3 a4 a5 a6 a7 a8 a9 a10 a11 a12 a13 a14 a15 a16 a17 a18 a19 a20 a21 a22 a23 : (Nat → Int32)} {b0 : (Nat → Int64)} {w0 : Int64} {rv : Value} (x0 : Int32) (x1 : Int32) (res : Int32) (h : e_hB_X9_bit  x0 x1 = some res) (d : Nat) : xMet xks YX9_bit (d + 1) 0 0 [.int x0, .int x1] (hB g0 g1 g2 g3 g4 g5 g6 g7 g8 g9 g10 g11 g12 g13 g14 g15 g16 g17 g18 g19 g20 g21 g22 g23 g24 g25 g26 a0 a1 a2 a3 a4 a5 a6 a7 a8 a9 a10 a11 a12 a13 a14 a15 a16 a17 a18 a19 a20 a21 a22 a23 b0 w0 (.ref 11) rv) (some (.int res)) (hB g0 g1 g2 g3 g4 g5 g6 g7 g8 g9 g10 g11 g12 g13 g14 g15 g16 g17 g18 g19 g20 g21 g22 g23 g24 g25 g26 a0 a1 a2 a3 a4 a5 a6 a7 a8 a9 a10 a11 a12 a13 a14 a15 a16 a17 a18 a19 a20 a21 a22 a23 b0 w0 (.ref 11) rv) := by
  unfold e_hB_X9_bit at h
  refine xMet_of (pl := [some (.int x0), some (.int x1)]) (by decide) (Nat.le_of_ble_eq_true rfl) rfl (Nat.le_of_ble_eq_true rfl) ?_
  refine x_iload_n dX9_bit_0 rfl ?_
  refine x_iload_n dX9_bit_1 rfl ?_
  refine x_ishr dX9_bit_2 ?_
  refine x_iconst (1 : Int32) dX9_bit_3 (by decide) ?_
  refine x_iand dX9_bit_4 ?_
  refine x_iconst (1 : Int32) dX9_bit_5 (by decide) ?_
  refine x_icmp_ne 13 dX9_bit_6 (by decide) (fun q => ?_) (fun q => ?_)
  · have h := xif_f q h
    refine x_iconst (0 : Int32) dX9_bit_13 (by decide) ?_
    cases h
    exact x_zret2 dX9_bit_14 rfl rfl rfl
  · have h := xif_t q h
    refine x_iconst (1 : Int32) dX9_bit_9 (by decide) ?_
    refine x_goto 14 dX9_bit_10 (by decide) ?_
    cases h
    exact x_zret2 dX9_bit_14 rfl rfl rfl
noncomputable def e_hB_X9_roomOf (p0 : (Nat → Int32)) (p1 : (Nat → Int32)) (x1 : Int32) (x2 : Int32) : Option (Int32) :=
  (xix ((0 : Int32) + x1) 11 (if (p0 ((0 : Int32) + x1).toNatClampNeg) = (-2 : Int32) then some (0 : Int32) else (xix ((0 : Int32) + x1) 11 ((e_hB_X9_bit x2 (p0 ((0 : Int32) + x1).toNatClampNeg)).bind fun z22 => if z22 = (0 : Int32) then some (0 : Int32) else (xix x1 5 (some ((p1 x1.toNatClampNeg) / (4 : Int32))))))))
set_option maxRecDepth 100000 in
set_option maxHeartbeats 4000000 in
theorem t_hB_X9_roomOf {g0 g1 g2 g3 g4 g5 g6 g7 g8 g9 g10 g11 g12 g13 g14 g15 g16 g17 g18 g19 g20 g21 g22 g23 g24 g25 g26 : Int32} {a0 a1 a2 a3 a4 a5 a6 a7 a8 a9 a10 a11 a12 a13 a14 a15 a16 a17 a18 a19 a20 a21 a22 a23 : (Nat → Int32)} {b0 : (Nat → Int64)} {w0 : Int64} {rv : Value} (x1 : Int32) (x2 : Int32) (res : Int32) (h : e_hB_X9_roomOf a1 a13 x1 x2 = some res) (d : Nat) : xMet xks YX9_roomOf (d + 2) 0 0 [.ref 0, .int x1, .int x2] (hB g0 g1 g2 g3 g4 g5 g6 g7 g8 g9 g10 g11 g12 g13 g14 g15 g16 g17 g18 g19 g20 g21 g22 g23 g24 g25 g26 a0 a1 a2 a3 a4 a5 a6 a7 a8 a9 a10 a11 a12 a13 a14 a15 a16 a17 a18 a19 a20 a21 a22 a23 b0 w0 (.ref 11) rv) (some (.int res)) (hB g0 g1 g2 g3 g4 g5 g6 g7 g8 g9 g10 g11 g12 g13 g14 g15 g16 g17 g18 g19 g20 g21 g22 g23 g24 g25 g26 a0 a1 a2 a3 a4 a5 a6 a7 a8 a9 a10 a11 a12 a13 a14 a15 a16 a17 a18 a19 a20 a21 a22 a23 b0 w0 (.ref 11) rv) := by
  unfold e_hB_X9_roomOf at h
  refine xMet_of (pl := [some (.ref 0), some (.int x1), some (.int x2)]) (by decide) (Nat.le_of_ble_eq_true rfl) rfl (Nat.le_of_ble_eq_true rfl) ?_
  refine x_aload_n dX9_roomOf_0 rfl ?_
  refine x_get fX9_17 dX9_roomOf_1 rfl rfl rfl ?_
  refine x_iconst (0 : Int32) dX9_roomOf_4 (by decide) ?_
  refine x_iload_n dX9_roomOf_5 rfl ?_
  refine x_iadd dX9_roomOf_6 ?_
  obtain ⟨q7, h⟩ := xix_of h
  refine x_iald dX9_roomOf_7 rfl q7 ?_
  refine x_bipush (-2 : Int32) dX9_roomOf_8 (by decide) ?_
  refine x_icmp_eq 42 dX9_roomOf_10 (by decide) (fun q => ?_) (fun q => ?_)
  · have h := xif_t q h
    refine x_iconst (0 : Int32) dX9_roomOf_42 (by decide) ?_
    cases h
    exact x_iret2 dX9_roomOf_43 rfl rfl
  · have h := xif_f q h
    refine x_iload_n dX9_roomOf_13 rfl ?_
    refine x_aload_n dX9_roomOf_14 rfl ?_
    refine x_get fX9_17 dX9_roomOf_15 rfl rfl rfl ?_
    refine x_iconst (0 : Int32) dX9_roomOf_18 (by decide) ?_
    refine x_iload_n dX9_roomOf_19 rfl ?_
    refine x_iadd dX9_roomOf_20 ?_
    obtain ⟨q21, h⟩ := xix_of h
    refine x_iald dX9_roomOf_21 rfl q21 ?_
    obtain ⟨z22, y22, h⟩ := xbind h
    refine x_callS (t_hB_X9_bit x2 (a1 ((0 : Int32) + x1).toNatClampNeg) z22 y22 (d + 0)) kX9_418 dX9_roomOf_22 rfl rfl (Nat.le_of_ble_eq_true rfl) (Nat.le_of_ble_eq_true rfl) rfl rfl (Or.inl rfl) ?_
    refine x_if_eq 42 dX9_roomOf_25 (by decide) (fun q => ?_) (fun q => ?_)
    · have h := xif_t q h
      refine x_iconst (0 : Int32) dX9_roomOf_42 (by decide) ?_
      cases h
      exact x_iret2 dX9_roomOf_43 rfl rfl
    · have h := xif_f q h
      refine x_aload_n dX9_roomOf_28 rfl ?_
      refine x_get fX9_316 dX9_roomOf_29 rfl rfl rfl ?_
      refine x_get fX9_275 dX9_roomOf_32 rfl rfl rfl ?_
      refine x_iload_n dX9_roomOf_35 rfl ?_
      obtain ⟨q36, h⟩ := xix_of h
      refine x_iald dX9_roomOf_36 rfl q36 ?_
      refine x_iconst (4 : Int32) dX9_roomOf_37 (by decide) ?_
      refine x_idiv dX9_roomOf_38 (by decide) ?_
      refine x_goto 43 dX9_roomOf_39 (by decide) ?_
      cases h
      exact x_iret2 dX9_roomOf_43 rfl rfl
noncomputable def L_hB_X9_dangerOf_4 (p0 : Int32) (p1 : Int32) (p2 : (Nat → Int32)) (p4 : (Nat → Int32)) (p5 : (Nat → Int32)) (p6 : (Nat → Int32))  (f1 : Int32) (f2 : Int32) (K : Int32 → (Nat → Int32) → Option (Int32 × (Nat → Int32))) : Nat → Int32 → (Nat → Int32) → Option (Int32 × (Nat → Int32))
  | 0, _, _ => none
  | n4 + 1, l3_4, ma9_4 => if p0 ≤ l3_4 then K l3_4 ma9_4 else ((e_hB_X9_roomOf p4 p6 l3_4 f1).bind fun z23 => xix l3_4 5 (L_hB_X9_dangerOf_4 p0 p1 p2 p4 p5 p6 f1 f2 K n4 (l3_4 + (1 : Int32)) (upd ma9_4 l3_4.toNatClampNeg z23)))
noncomputable def L_hB_X9_dangerOf_35 (p0 : Int32) (p1 : Int32) (p2 : (Nat → Int32)) (p4 : (Nat → Int32)) (p5 : (Nat → Int32)) (p6 : (Nat → Int32))  (f1 : Int32) (K : Int32 → Int32 → (Nat → Int32) → Option (Int32 × (Nat → Int32))) : Nat → Int32 → Int32 → (Nat → Int32) → Option (Int32 × (Nat → Int32))
  | 0, _, _, _ => none
  | n35 + 1, l2_35, l3_35, ma9_35 => if p1 ≤ l3_35 then K l2_35 l3_35 ma9_35 else ((e_hB_X9_bit f1 l3_35).bind fun z48 => if z48 = (0 : Int32) then L_hB_X9_dangerOf_35 p0 p1 p2 p4 p5 p6 f1 K n35 l2_35 (l3_35 + (1 : Int32)) ma9_35 else (xix l3_35 6 (xix (p2 l3_35.toNatClampNeg) 5 (xix (p2 l3_35.toNatClampNeg) 5 (xix (p2 l3_35.toNatClampNeg) 5 (if (0 : Int32) ≤ ((upd ma9_35 (p2 l3_35.toNatClampNeg).toNatClampNeg ((ma9_35 (p2 l3_35.toNatClampNeg).toNatClampNeg) - (1 : Int32))) (p2 l3_35.toNatClampNeg).toNatClampNeg) then (xix ((5 : Int32) + (p2 l3_35.toNatClampNeg)) 11 (if (p4 ((5 : Int32) + (p2 l3_35.toNatClampNeg)).toNatClampNeg) = l3_35 then L_hB_X9_dangerOf_35 p0 p1 p2 p4 p5 p6 f1 K n35 (l2_35 + (0 : Int32)) (l3_35 + (1 : Int32)) (upd ma9_35 (p2 l3_35.toNatClampNeg).toNatClampNeg ((ma9_35 (p2 l3_35.toNatClampNeg).toNatClampNeg) - (1 : Int32))) else (xix (p2 l3_35.toNatClampNeg) 5 (L_hB_X9_dangerOf_35 p0 p1 p2 p4 p5 p6 f1 K n35 (l2_35 + (p5 (p2 l3_35.toNatClampNeg).toNatClampNeg)) (l3_35 + (1 : Int32)) (upd ma9_35 (p2 l3_35.toNatClampNeg).toNatClampNeg ((ma9_35 (p2 l3_35.toNatClampNeg).toNatClampNeg) - (1 : Int32))))))) else some ((-2 : Int32), (upd ma9_35 (p2 l3_35.toNatClampNeg).toNatClampNeg ((ma9_35 (p2 l3_35.toNatClampNeg).toNatClampNeg) - (1 : Int32))))))))))
noncomputable def e_hB_X9_dangerOf (p0 : Int32) (p1 : Int32) (p2 : (Nat → Int32)) (p3 : (Nat → Int32)) (p4 : (Nat → Int32)) (p5 : (Nat → Int32)) (p6 : (Nat → Int32)) (x1 : Int32) : Option (Int32 × (Nat → Int32)) :=
  L_hB_X9_dangerOf_4 p0 p1 p2 p4 p5 p6 x1 (0 : Int32) (fun l3_4 ma9_4 => L_hB_X9_dangerOf_35 p0 p1 p2 p4 p5 p6 x1 (fun l2_35 l3_35 ma9_35 => some (l2_35, ma9_35)) 200000 (0 : Int32) (0 : Int32) ma9_4) 200000 (0 : Int32) p3
set_option maxRecDepth 100000 in
set_option maxHeartbeats 4000000 in
theorem lp_hB_X9_dangerOf_4 {g0 g1 g2 g3 g4 g5 g6 g7 g8 g9 g10 g11 g12 g13 g14 g15 g16 g17 g18 g19 g20 g21 g22 g23 g24 g25 g26 : Int32} {a0 a1 a2 a3 a4 a5 a6 a7 a8 a10 a11 a12 a13 a14 a15 a16 a17 a18 a19 a20 a21 a22 a23 : (Nat → Int32)} {b0 : (Nat → Int64)} {w0 : Int64} {rv : Value} (d n0 : Nat) (f1 : Int32) (f2 : Int32) (res : Int32 × (Nat → Int32)) (K : Int32 → (Nat → Int32) → Option (Int32 × (Nat → Int32))) (hK : ∀ (l3_4 : Int32) (ma9_4 : (Nat → Int32)), K l3_4 ma9_4 = some res → xW xks YX9_dangerOf (d + 3) 0 0 n0 (xZ 0 0 n0 (some (.int res.1)) (hB g0 g1 g2 g3 g4 g5 g6 g7 g8 g9 g10 g11 g12 g13 g14 g15 g16 g17 g18 g19 g20 g21 g22 g23 g24 g25 g26 a0 a1 a2 a3 a4 a5 a6 a7 a8 res.2 a10 a11 a12 a13 a14 a15 a16 a17 a18 a19 a20 a21 a22 a23 b0 w0 (.ref 11) rv)) 0 0 33 [some (.ref 0), some (.int f1), some (.int f2), none, none] [] (hB g0 g1 g2 g3 g4 g5 g6 g7 g8 g9 g10 g11 g12 g13 g14 g15 g16 g17 g18 g19 g20 g21 g22 g23 g24 g25 g26 a0 a1 a2 a3 a4 a5 a6 a7 a8 ma9_4 a10 a11 a12 a13 a14 a15 a16 a17 a18 a19 a20 a21 a22 a23 b0 w0 (.ref 11) rv)) : ∀ (n : Nat) (l3_4 : Int32) (ma9_4 : (Nat → Int32)), L_hB_X9_dangerOf_4 g23 g22 a7 a1 a12 a13 f1 f2 K n l3_4 ma9_4 = some res → xW xks YX9_dangerOf (d + 3) 0 0 n0 (xZ 0 0 n0 (some (.int res.1)) (hB g0 g1 g2 g3 g4 g5 g6 g7 g8 g9 g10 g11 g12 g13 g14 g15 g16 g17 g18 g19 g20 g21 g22 g23 g24 g25 g26 a0 a1 a2 a3 a4 a5 a6 a7 a8 res.2 a10 a11 a12 a13 a14 a15 a16 a17 a18 a19 a20 a21 a22 a23 b0 w0 (.ref 11) rv)) 0 0 4 [some (.ref 0), some (.int f1), some (.int f2), some (.int l3_4), none] [] (hB g0 g1 g2 g3 g4 g5 g6 g7 g8 g9 g10 g11 g12 g13 g14 g15 g16 g17 g18 g19 g20 g21 g22 g23 g24 g25 g26 a0 a1 a2 a3 a4 a5 a6 a7 a8 ma9_4 a10 a11 a12 a13 a14 a15 a16 a17 a18 a19 a20 a21 a22 a23 b0 w0 (.ref 11) rv) := by
  intro n
  induction n with
  | zero =>
    intro l3_4 ma9_4 h
    cases (show (none : Option (Int32 × (Nat → Int32))) = some res from h)
  | succ n4 ih4 =>
    intro l3_4 ma9_4 h
    unfold L_hB_X9_dangerOf_4 at h
    refine x_iload_n dX9_dangerOf_4 rfl ?_
    refine x_aload_n dX9_dangerOf_5 rfl ?_
    refine x_get fX9_316 dX9_dangerOf_6 rfl rfl rfl ?_
    refine x_get fX9_194 dX9_dangerOf_9 rfl rfl rfl ?_
    refine x_icmp_ge 33 dX9_dangerOf_12 (by decide) (fun q => ?_) (fun q => ?_)
    · have h := xif_t q h
      refine x_weak (pl2 := [some (.ref 0), some (.int f1), some (.int f2), none, none]) ⟨rfl, rfl, rfl, trivial⟩ ?_
      exact hK l3_4 ma9_4 h
    · have h := xif_f q h
      refine x_aload_n dX9_dangerOf_15 rfl ?_
      refine x_get fX9_42 dX9_dangerOf_16 rfl rfl rfl ?_
      refine x_iload_n dX9_dangerOf_19 rfl ?_
      refine x_aload_n dX9_dangerOf_20 rfl ?_
      refine x_iload_n dX9_dangerOf_21 rfl ?_
      refine x_iload_n dX9_dangerOf_22 rfl ?_
      obtain ⟨z23, y23, h⟩ := xbind h
      refine x_callV (t_hB_X9_roomOf l3_4 f1 z23 y23 (d + 0)) kX9_430 dX9_dangerOf_23 rfl rfl rfl rfl rfl (Nat.le_of_ble_eq_true rfl) (Nat.le_of_ble_eq_true rfl) rfl rfl (Or.inl rfl) ?_
      obtain ⟨q26, h⟩ := xix_of h
      refine x_iast (h2 := (hB g0 g1 g2 g3 g4 g5 g6 g7 g8 g9 g10 g11 g12 g13 g14 g15 g16 g17 g18 g19 g20 g21 g22 g23 g24 g25 g26 a0 a1 a2 a3 a4 a5 a6 a7 a8 (upd ma9_4 l3_4.toNatClampNeg z23) a10 a11 a12 a13 a14 a15 a16 a17 a18 a19 a20 a21 a22 a23 b0 w0 (.ref 11) rv)) dX9_dangerOf_26 rfl q26 rfl ?_
      refine x_iincK (1 : Int32) (pl' := [some (.ref 0), some (.int f1), some (.int f2), some (.int (l3_4 + (1 : Int32))), none]) dX9_dangerOf_27 rfl (by decide) (by decide) rfl ?_
      refine x_goto 4 dX9_dangerOf_30 (by decide) ?_
      refine x_weak (pl2 := [some (.ref 0), some (.int f1), some (.int f2), some (.int (l3_4 + (1 : Int32))), none]) ⟨rfl, rfl, rfl, rfl, trivial⟩ ?_
      exact ih4 (l3_4 + (1 : Int32)) (upd ma9_4 l3_4.toNatClampNeg z23) h
set_option maxRecDepth 100000 in
set_option maxHeartbeats 4000000 in
theorem lp_hB_X9_dangerOf_35 {g0 g1 g2 g3 g4 g5 g6 g7 g8 g9 g10 g11 g12 g13 g14 g15 g16 g17 g18 g19 g20 g21 g22 g23 g24 g25 g26 : Int32} {a0 a1 a2 a3 a4 a5 a6 a7 a8 a10 a11 a12 a13 a14 a15 a16 a17 a18 a19 a20 a21 a22 a23 : (Nat → Int32)} {b0 : (Nat → Int64)} {w0 : Int64} {rv : Value} (d n0 : Nat) (f1 : Int32) (res : Int32 × (Nat → Int32)) (K : Int32 → Int32 → (Nat → Int32) → Option (Int32 × (Nat → Int32))) (hK : ∀ (l2_35 : Int32) (l3_35 : Int32) (ma9_35 : (Nat → Int32)), K l2_35 l3_35 ma9_35 = some res → xW xks YX9_dangerOf (d + 3) 0 0 n0 (xZ 0 0 n0 (some (.int res.1)) (hB g0 g1 g2 g3 g4 g5 g6 g7 g8 g9 g10 g11 g12 g13 g14 g15 g16 g17 g18 g19 g20 g21 g22 g23 g24 g25 g26 a0 a1 a2 a3 a4 a5 a6 a7 a8 res.2 a10 a11 a12 a13 a14 a15 a16 a17 a18 a19 a20 a21 a22 a23 b0 w0 (.ref 11) rv)) 0 0 125 [none, none, some (.int l2_35), none, none] [] (hB g0 g1 g2 g3 g4 g5 g6 g7 g8 g9 g10 g11 g12 g13 g14 g15 g16 g17 g18 g19 g20 g21 g22 g23 g24 g25 g26 a0 a1 a2 a3 a4 a5 a6 a7 a8 ma9_35 a10 a11 a12 a13 a14 a15 a16 a17 a18 a19 a20 a21 a22 a23 b0 w0 (.ref 11) rv)) : ∀ (n : Nat) (l2_35 : Int32) (l3_35 : Int32) (ma9_35 : (Nat → Int32)), L_hB_X9_dangerOf_35 g23 g22 a7 a1 a12 a13 f1 K n l2_35 l3_35 ma9_35 = some res → xW xks YX9_dangerOf (d + 3) 0 0 n0 (xZ 0 0 n0 (some (.int res.1)) (hB g0 g1 g2 g3 g4 g5 g6 g7 g8 g9 g10 g11 g12 g13 g14 g15 g16 g17 g18 g19 g20 g21 g22 g23 g24 g25 g26 a0 a1 a2 a3 a4 a5 a6 a7 a8 res.2 a10 a11 a12 a13 a14 a15 a16 a17 a18 a19 a20 a21 a22 a23 b0 w0 (.ref 11) rv)) 0 0 35 [some (.ref 0), some (.int f1), some (.int l2_35), some (.int l3_35), none] [] (hB g0 g1 g2 g3 g4 g5 g6 g7 g8 g9 g10 g11 g12 g13 g14 g15 g16 g17 g18 g19 g20 g21 g22 g23 g24 g25 g26 a0 a1 a2 a3 a4 a5 a6 a7 a8 ma9_35 a10 a11 a12 a13 a14 a15 a16 a17 a18 a19 a20 a21 a22 a23 b0 w0 (.ref 11) rv) := by
  intro n
  induction n with
  | zero =>
    intro l2_35 l3_35 ma9_35 h
    cases (show (none : Option (Int32 × (Nat → Int32))) = some res from h)
  | succ n35 ih35 =>
    intro l2_35 l3_35 ma9_35 h
    unfold L_hB_X9_dangerOf_35 at h
    refine x_iload_n dX9_dangerOf_35 rfl ?_
    refine x_aload_n dX9_dangerOf_36 rfl ?_
    refine x_get fX9_316 dX9_dangerOf_37 rfl rfl rfl ?_
    refine x_get fX9_191 dX9_dangerOf_40 rfl rfl rfl ?_
    refine x_icmp_ge 125 dX9_dangerOf_43 (by decide) (fun q => ?_) (fun q => ?_)
    · have h := xif_t q h
      refine x_weak (pl2 := [none, none, some (.int l2_35), none, none]) ⟨rfl, trivial⟩ ?_
      exact hK l2_35 l3_35 ma9_35 h
    · have h := xif_f q h
      refine x_iload_n dX9_dangerOf_46 rfl ?_
      refine x_iload_n dX9_dangerOf_47 rfl ?_
      obtain ⟨z48, y48, h⟩ := xbind h
      refine x_callS (t_hB_X9_bit f1 l3_35 z48 y48 (d + 1)) kX9_418 dX9_dangerOf_48 rfl rfl (Nat.le_of_ble_eq_true rfl) (Nat.le_of_ble_eq_true rfl) rfl rfl (Or.inl rfl) ?_
      refine x_if_ne 57 dX9_dangerOf_51 (by decide) (fun q => ?_) (fun q => ?_)
      · have h := xif_f q h
        refine x_aload_n dX9_dangerOf_57 rfl ?_
        refine x_get fX9_36 dX9_dangerOf_58 rfl rfl rfl ?_
        refine x_iload_n dX9_dangerOf_61 rfl ?_
        obtain ⟨q62, h⟩ := xix_of h
        refine x_iald dX9_dangerOf_62 rfl q62 ?_
        refine x_istore (pl' := [some (.ref 0), some (.int f1), some (.int l2_35), some (.int l3_35), some (.int (a7 l3_35.toNatClampNeg))]) dX9_dangerOf_63 (by decide) rfl ?_
        refine x_aload_n dX9_dangerOf_65 rfl ?_
        refine x_get fX9_42 dX9_dangerOf_66 rfl rfl rfl ?_
        refine x_iload dX9_dangerOf_69 rfl ?_
        refine x_dup2 dX9_dangerOf_71 rfl rfl ?_
        obtain ⟨q72, h⟩ := xix_of h
        refine x_iald dX9_dangerOf_72 rfl q72 ?_
        refine x_iconst (1 : Int32) dX9_dangerOf_73 (by decide) ?_
        refine x_isub dX9_dangerOf_74 ?_
        obtain ⟨q75, h⟩ := xix_of h
        refine x_iast (h2 := (hB g0 g1 g2 g3 g4 g5 g6 g7 g8 g9 g10 g11 g12 g13 g14 g15 g16 g17 g18 g19 g20 g21 g22 g23 g24 g25 g26 a0 a1 a2 a3 a4 a5 a6 a7 a8 (upd ma9_35 (a7 l3_35.toNatClampNeg).toNatClampNeg ((ma9_35 (a7 l3_35.toNatClampNeg).toNatClampNeg) - (1 : Int32))) a10 a11 a12 a13 a14 a15 a16 a17 a18 a19 a20 a21 a22 a23 b0 w0 (.ref 11) rv)) dX9_dangerOf_75 rfl q75 rfl ?_
        refine x_aload_n dX9_dangerOf_76 rfl ?_
        refine x_get fX9_42 dX9_dangerOf_77 rfl rfl rfl ?_
        refine x_iload dX9_dangerOf_80 rfl ?_
        obtain ⟨q82, h⟩ := xix_of h
        refine x_iald dX9_dangerOf_82 rfl q82 ?_
        refine x_if_ge 89 dX9_dangerOf_83 (by decide) (fun q => ?_) (fun q => ?_)
        · have h := xif_t q h
          refine x_iload_n dX9_dangerOf_89 rfl ?_
          refine x_aload_n dX9_dangerOf_90 rfl ?_
          refine x_get fX9_17 dX9_dangerOf_91 rfl rfl rfl ?_
          refine x_iconst (5 : Int32) dX9_dangerOf_94 (by decide) ?_
          refine x_iload dX9_dangerOf_95 rfl ?_
          refine x_iadd dX9_dangerOf_97 ?_
          obtain ⟨q98, h⟩ := xix_of h
          refine x_iald dX9_dangerOf_98 rfl q98 ?_
          refine x_iload_n dX9_dangerOf_99 rfl ?_
          refine x_icmp_ne 107 dX9_dangerOf_100 (by decide) (fun q => ?_) (fun q => ?_)
          · have h := xif_f q h
            refine x_aload_n dX9_dangerOf_107 rfl ?_
            refine x_get fX9_316 dX9_dangerOf_108 rfl rfl rfl ?_
            refine x_get fX9_273 dX9_dangerOf_111 rfl rfl rfl ?_
            refine x_iload dX9_dangerOf_114 rfl ?_
            obtain ⟨q116, h⟩ := xix_of h
            refine x_iald dX9_dangerOf_116 rfl q116 ?_
            refine x_iadd dX9_dangerOf_117 ?_
            refine x_istore_n (pl' := [some (.ref 0), some (.int f1), some (.int (l2_35 + (a12 (a7 l3_35.toNatClampNeg).toNatClampNeg))), some (.int l3_35), some (.int (a7 l3_35.toNatClampNeg))]) dX9_dangerOf_118 (by decide) rfl ?_
            refine x_iincK (1 : Int32) (pl' := [some (.ref 0), some (.int f1), some (.int (l2_35 + (a12 (a7 l3_35.toNatClampNeg).toNatClampNeg))), some (.int (l3_35 + (1 : Int32))), some (.int (a7 l3_35.toNatClampNeg))]) dX9_dangerOf_119 rfl (by decide) (by decide) rfl ?_
            refine x_goto 35 dX9_dangerOf_122 (by decide) ?_
            refine x_weak (pl2 := [some (.ref 0), some (.int f1), some (.int (l2_35 + (a12 (a7 l3_35.toNatClampNeg).toNatClampNeg))), some (.int (l3_35 + (1 : Int32))), none]) ⟨rfl, rfl, rfl, rfl, trivial⟩ ?_
            exact ih35 (l2_35 + (a12 (a7 l3_35.toNatClampNeg).toNatClampNeg)) (l3_35 + (1 : Int32)) (upd ma9_35 (a7 l3_35.toNatClampNeg).toNatClampNeg ((ma9_35 (a7 l3_35.toNatClampNeg).toNatClampNeg) - (1 : Int32))) h
          · have h := xif_t q h
            refine x_iconst (0 : Int32) dX9_dangerOf_103 (by decide) ?_
            refine x_goto 117 dX9_dangerOf_104 (by decide) ?_
            refine x_iadd dX9_dangerOf_117 ?_
            refine x_istore_n (pl' := [some (.ref 0), some (.int f1), some (.int (l2_35 + (0 : Int32))), some (.int l3_35), some (.int (a7 l3_35.toNatClampNeg))]) dX9_dangerOf_118 (by decide) rfl ?_
            refine x_iincK (1 : Int32) (pl' := [some (.ref 0), some (.int f1), some (.int (l2_35 + (0 : Int32))), some (.int (l3_35 + (1 : Int32))), some (.int (a7 l3_35.toNatClampNeg))]) dX9_dangerOf_119 rfl (by decide) (by decide) rfl ?_
            refine x_goto 35 dX9_dangerOf_122 (by decide) ?_
            refine x_weak (pl2 := [some (.ref 0), some (.int f1), some (.int (l2_35 + (0 : Int32))), some (.int (l3_35 + (1 : Int32))), none]) ⟨rfl, rfl, rfl, rfl, trivial⟩ ?_
            exact ih35 (l2_35 + (0 : Int32)) (l3_35 + (1 : Int32)) (upd ma9_35 (a7 l3_35.toNatClampNeg).toNatClampNeg ((ma9_35 (a7 l3_35.toNatClampNeg).toNatClampNeg) - (1 : Int32))) h
        · have h := xif_f q h
          refine x_bipush (-2 : Int32) dX9_dangerOf_86 (by decide) ?_
          cases h
          exact x_iret2 dX9_dangerOf_88 rfl rfl
      · have h := xif_t q h
        refine x_goto 119 dX9_dangerOf_54 (by decide) ?_
        refine x_iincK (1 : Int32) (pl' := [some (.ref 0), some (.int f1), some (.int l2_35), some (.int (l3_35 + (1 : Int32))), none]) dX9_dangerOf_119 rfl (by decide) (by decide) rfl ?_
        refine x_goto 35 dX9_dangerOf_122 (by decide) ?_
        refine x_weak (pl2 := [some (.ref 0), some (.int f1), some (.int l2_35), some (.int (l3_35 + (1 : Int32))), none]) ⟨rfl, rfl, rfl, rfl, trivial⟩ ?_
        exact ih35 l2_35 (l3_35 + (1 : Int32)) ma9_35 h
set_option maxRecDepth 100000 in
set_option maxHeartbeats 4000000 in
theorem t_hB_X9_dangerOf {g0 g1 g2 g3 g4 g5 g6 g7 g8 g9 g10 g11 g12 g13 g14 g15 g16 g17 g18 g19 g20 g21 g22 g23 g24 g25 g26 : Int32} {a0 a1 a2 a3 a4 a5 a6 a7 a8 a9 a10 a11 a12 a13 a14 a15 a16 a17 a18 a19 a20 a21 a22 a23 : (Nat → Int32)} {b0 : (Nat → Int64)} {w0 : Int64} {rv : Value} (x1 : Int32) (res : Int32 × (Nat → Int32)) (h : e_hB_X9_dangerOf g23 g22 a7 a9 a1 a12 a13 x1 = some res) (d : Nat) : xMet xks YX9_dangerOf (d + 3) 0 0 [.ref 0, .int x1] (hB g0 g1 g2 g3 g4 g5 g6 g7 g8 g9 g10 g11 g12 g13 g14 g15 g16 g17 g18 g19 g20 g21 g22 g23 g24 g25 g26 a0 a1 a2 a3 a4 a5 a6 a7 a8 a9 a10 a11 a12 a13 a14 a15 a16 a17 a18 a19 a20 a21 a22 a23 b0 w0 (.ref 11) rv) (some (.int res.1)) (hB g0 g1 g2 g3 g4 g5 g6 g7 g8 g9 g10 g11 g12 g13 g14 g15 g16 g17 g18 g19 g20 g21 g22 g23 g24 g25 g26 a0 a1 a2 a3 a4 a5 a6 a7 a8 res.2 a10 a11 a12 a13 a14 a15 a16 a17 a18 a19 a20 a21 a22 a23 b0 w0 (.ref 11) rv) := by
  unfold e_hB_X9_dangerOf at h
  refine xMet_of (pl := [some (.ref 0), some (.int x1), none, none, none]) (by decide) (Nat.le_of_ble_eq_true rfl) rfl (Nat.le_of_ble_eq_true rfl) ?_
  refine x_iconst (0 : Int32) dX9_dangerOf_0 (by decide) ?_
  refine x_istore_n (pl' := [some (.ref 0), some (.int x1), some (.int (0 : Int32)), none, none]) dX9_dangerOf_1 (by decide) rfl ?_
  refine x_iconst (0 : Int32) dX9_dangerOf_2 (by decide) ?_
  refine x_istore_n (pl' := [some (.ref 0), some (.int x1), some (.int (0 : Int32)), some (.int (0 : Int32)), none]) dX9_dangerOf_3 (by decide) rfl ?_
  refine x_weak (pl2 := [some (.ref 0), some (.int x1), some (.int (0 : Int32)), some (.int (0 : Int32)), none]) ⟨rfl, rfl, rfl, rfl, trivial⟩ ?_
  refine lp_hB_X9_dangerOf_4 d _ x1 (0 : Int32) res _ (fun l3_4 ma9_4 h => ?_) 200000 (0 : Int32) a9 h
  refine x_iconst (0 : Int32) dX9_dangerOf_33 (by decide) ?_
  refine x_istore_n (pl' := [some (.ref 0), some (.int x1), some (.int (0 : Int32)), some (.int (0 : Int32)), none]) dX9_dangerOf_34 (by decide) rfl ?_
  refine x_weak (pl2 := [some (.ref 0), some (.int x1), some (.int (0 : Int32)), some (.int (0 : Int32)), none]) ⟨rfl, rfl, rfl, rfl, trivial⟩ ?_
  refine lp_hB_X9_dangerOf_35 d _ x1 res _ (fun l2_35 l3_35 ma9_35 h => ?_) 200000 (0 : Int32) (0 : Int32) ma9_4 h
  refine x_iload_n dX9_dangerOf_125 rfl ?_
  cases h
  exact x_iret2 dX9_dangerOf_126 rfl rfl
noncomputable def L_hB_X9_nextUnder_10 (p0 : Int32) (p2 : Int32)  (f1 : Int32) (K : Int32 → (Nat → Int32) → Option (Int32 × (Nat → Int32))) : Nat → Int32 → (Nat → Int32) → Option (Int32 × (Nat → Int32))
  | 0, _, _ => none
  | n10 + 1, l2_10, ma7_10 => if l2_10 < (0 : Int32) then K l2_10 ma7_10 else ((e_hB_X9_bit f1 l2_10).bind fun z16 => if z16 = (0 : Int32) then L_hB_X9_nextUnder_10 p0 p2 f1 K n10 (l2_10 + (-1 : Int32)) ma7_10 else (xix l2_10 6 (xix l2_10 6 (xix l2_10 6 (if p2 ≤ ((upd ma7_10 l2_10.toNatClampNeg ((ma7_10 l2_10.toNatClampNeg) + (1 : Int32))) l2_10.toNatClampNeg) then (xix l2_10 6 (L_hB_X9_nextUnder_10 p0 p2 f1 K n10 (l2_10 + (-1 : Int32)) (upd (upd ma7_10 l2_10.toNatClampNeg ((ma7_10 l2_10.toNatClampNeg) + (1 : Int32))) l2_10.toNatClampNeg (0 : Int32)))) else some ((1 : Int32), (upd ma7_10 l2_10.toNatClampNeg ((ma7_10 l2_10.toNatClampNeg) + (1 : Int32)))))))))
noncomputable def e_hB_X9_nextUnder (p0 : Int32) (p1 : (Nat → Int32)) (p2 : Int32) (x1 : Int32) : Option (Int32 × (Nat → Int32)) :=
  L_hB_X9_nextUnder_10 p0 p2 x1 (fun l2_10 ma7_10 => some ((0 : Int32), ma7_10)) 200000 (p0 - (1 : Int32)) p1
set_option maxRecDepth 100000 in
set_option maxHeartbeats 4000000 in
theorem lp_hB_X9_nextUnder_10 {g0 g1 g2 g3 g4 g5 g6 g7 g8 g9 g10 g11 g12 g13 g14 g15 g16 g17 g18 g19 g20 g21 g22 g23 g24 g25 g26 : Int32} {a0 a1 a2 a3 a4 a5 a6 a8 a9 a10 a11 a12 a13 a14 a15 a16 a17 a18 a19 a20 a21 a22 a23 : (Nat → Int32)} {b0 : (Nat → Int64)} {w0 : Int64} {rv : Value} (d n0 : Nat) (f1 : Int32) (res : Int32 × (Nat → Int32)) (K : Int32 → (Nat → Int32) → Option (Int32 × (Nat → Int32))) (hK : ∀ (l2_10 : Int32) (ma7_10 : (Nat → Int32)), K l2_10 ma7_10 = some res → xW xks YX9_nextUnder (d + 2) 0 0 n0 (xZ 0 0 n0 (some (.int res.1)) (hB g0 g1 g2 g3 g4 g5 g6 g7 g8 g9 g10 g11 g12 g13 g14 g15 g16 g17 g18 g19 g20 g21 g22 g23 g24 g25 g26 a0 a1 a2 a3 a4 a5 a6 res.2 a8 a9 a10 a11 a12 a13 a14 a15 a16 a17 a18 a19 a20 a21 a22 a23 b0 w0 (.ref 11) rv)) 0 0 66 [none, none, none] [] (hB g0 g1 g2 g3 g4 g5 g6 g7 g8 g9 g10 g11 g12 g13 g14 g15 g16 g17 g18 g19 g20 g21 g22 g23 g24 g25 g26 a0 a1 a2 a3 a4 a5 a6 ma7_10 a8 a9 a10 a11 a12 a13 a14 a15 a16 a17 a18 a19 a20 a21 a22 a23 b0 w0 (.ref 11) rv)) : ∀ (n : Nat) (l2_10 : Int32) (ma7_10 : (Nat → Int32)), L_hB_X9_nextUnder_10 g22 g23 f1 K n l2_10 ma7_10 = some res → xW xks YX9_nextUnder (d + 2) 0 0 n0 (xZ 0 0 n0 (some (.int res.1)) (hB g0 g1 g2 g3 g4 g5 g6 g7 g8 g9 g10 g11 g12 g13 g14 g15 g16 g17 g18 g19 g20 g21 g22 g23 g24 g25 g26 a0 a1 a2 a3 a4 a5 a6 res.2 a8 a9 a10 a11 a12 a13 a14 a15 a16 a17 a18 a19 a20 a21 a22 a23 b0 w0 (.ref 11) rv)) 0 0 10 [some (.ref 0), some (.int f1), some (.int l2_10)] [] (hB g0 g1 g2 g3 g4 g5 g6 g7 g8 g9 g10 g11 g12 g13 g14 g15 g16 g17 g18 g19 g20 g21 g22 g23 g24 g25 g26 a0 a1 a2 a3 a4 a5 a6 ma7_10 a8 a9 a10 a11 a12 a13 a14 a15 a16 a17 a18 a19 a20 a21 a22 a23 b0 w0 (.ref 11) rv) := by
  intro n
  induction n with
  | zero =>
    intro l2_10 ma7_10 h
    cases (show (none : Option (Int32 × (Nat → Int32))) = some res from h)
  | succ n10 ih10 =>
    intro l2_10 ma7_10 h
    unfold L_hB_X9_nextUnder_10 at h
    refine x_iload_n dX9_nextUnder_10 rfl ?_
    refine x_if_lt 66 dX9_nextUnder_11 (by decide) (fun q => ?_) (fun q => ?_)
    · have h := xif_t q h
      refine x_weak (pl2 := [none, none, none]) trivial ?_
      exact hK l2_10 ma7_10 h
    · have h := xif_f q h
      refine x_iload_n dX9_nextUnder_14 rfl ?_
      refine x_iload_n dX9_nextUnder_15 rfl ?_
      obtain ⟨z16, y16, h⟩ := xbind h
      refine x_callS (t_hB_X9_bit f1 l2_10 z16 y16 (d + 0)) kX9_418 dX9_nextUnder_16 rfl rfl (Nat.le_of_ble_eq_true rfl) (Nat.le_of_ble_eq_true rfl) rfl rfl (Or.inl rfl) ?_
      refine x_if_ne 25 dX9_nextUnder_19 (by decide) (fun q => ?_) (fun q => ?_)
      · have h := xif_f q h
        refine x_aload_n dX9_nextUnder_25 rfl ?_
        refine x_get fX9_36 dX9_nextUnder_26 rfl rfl rfl ?_
        refine x_iload_n dX9_nextUnder_29 rfl ?_
        refine x_dup2 dX9_nextUnder_30 rfl rfl ?_
        obtain ⟨q31, h⟩ := xix_of h
        refine x_iald dX9_nextUnder_31 rfl q31 ?_
        refine x_iconst (1 : Int32) dX9_nextUnder_32 (by decide) ?_
        refine x_iadd dX9_nextUnder_33 ?_
        obtain ⟨q34, h⟩ := xix_of h
        refine x_iast (h2 := (hB g0 g1 g2 g3 g4 g5 g6 g7 g8 g9 g10 g11 g12 g13 g14 g15 g16 g17 g18 g19 g20 g21 g22 g23 g24 g25 g26 a0 a1 a2 a3 a4 a5 a6 (upd ma7_10 l2_10.toNatClampNeg ((ma7_10 l2_10.toNatClampNeg) + (1 : Int32))) a8 a9 a10 a11 a12 a13 a14 a15 a16 a17 a18 a19 a20 a21 a22 a23 b0 w0 (.ref 11) rv)) dX9_nextUnder_34 rfl q34 rfl ?_
        refine x_aload_n dX9_nextUnder_35 rfl ?_
        refine x_get fX9_36 dX9_nextUnder_36 rfl rfl rfl ?_
        refine x_iload_n dX9_nextUnder_39 rfl ?_
        obtain ⟨q40, h⟩ := xix_of h
        refine x_iald dX9_nextUnder_40 rfl q40 ?_
        refine x_aload_n dX9_nextUnder_41 rfl ?_
        refine x_get fX9_316 dX9_nextUnder_42 rfl rfl rfl ?_
        refine x_get fX9_194 dX9_nextUnder_45 rfl rfl rfl ?_
        refine x_icmp_ge 53 dX9_nextUnder_48 (by decide) (fun q => ?_) (fun q => ?_)
        · have h := xif_t q h
          refine x_aload_n dX9_nextUnder_53 rfl ?_
          refine x_get fX9_36 dX9_nextUnder_54 rfl rfl rfl ?_
          refine x_iload_n dX9_nextUnder_57 rfl ?_
          refine x_iconst (0 : Int32) dX9_nextUnder_58 (by decide) ?_
          obtain ⟨q59, h⟩ := xix_of h
          refine x_iast (h2 := (hB g0 g1 g2 g3 g4 g5 g6 g7 g8 g9 g10 g11 g12 g13 g14 g15 g16 g17 g18 g19 g20 g21 g22 g23 g24 g25 g26 a0 a1 a2 a3 a4 a5 a6 (upd (upd ma7_10 l2_10.toNatClampNeg ((ma7_10 l2_10.toNatClampNeg) + (1 : Int32))) l2_10.toNatClampNeg (0 : Int32)) a8 a9 a10 a11 a12 a13 a14 a15 a16 a17 a18 a19 a20 a21 a22 a23 b0 w0 (.ref 11) rv)) dX9_nextUnder_59 rfl q59 rfl ?_
          refine x_iincK (-1 : Int32) (pl' := [some (.ref 0), some (.int f1), some (.int (l2_10 + (-1 : Int32)))]) dX9_nextUnder_60 rfl (by decide) (by decide) rfl ?_
          refine x_goto 10 dX9_nextUnder_63 (by decide) ?_
          refine x_weak (pl2 := [some (.ref 0), some (.int f1), some (.int (l2_10 + (-1 : Int32)))]) ⟨rfl, rfl, rfl, trivial⟩ ?_
          exact ih10 (l2_10 + (-1 : Int32)) (upd (upd ma7_10 l2_10.toNatClampNeg ((ma7_10 l2_10.toNatClampNeg) + (1 : Int32))) l2_10.toNatClampNeg (0 : Int32)) h
        · have h := xif_f q h
          refine x_iconst (1 : Int32) dX9_nextUnder_51 (by decide) ?_
          cases h
          exact x_zret2 dX9_nextUnder_52 rfl rfl rfl
      · have h := xif_t q h
        refine x_goto 60 dX9_nextUnder_22 (by decide) ?_
        refine x_iincK (-1 : Int32) (pl' := [some (.ref 0), some (.int f1), some (.int (l2_10 + (-1 : Int32)))]) dX9_nextUnder_60 rfl (by decide) (by decide) rfl ?_
        refine x_goto 10 dX9_nextUnder_63 (by decide) ?_
        refine x_weak (pl2 := [some (.ref 0), some (.int f1), some (.int (l2_10 + (-1 : Int32)))]) ⟨rfl, rfl, rfl, trivial⟩ ?_
        exact ih10 (l2_10 + (-1 : Int32)) ma7_10 h
set_option maxRecDepth 100000 in
set_option maxHeartbeats 4000000 in
theorem t_hB_X9_nextUnder {g0 g1 g2 g3 g4 g5 g6 g7 g8 g9 g10 g11 g12 g13 g14 g15 g16 g17 g18 g19 g20 g21 g22 g23 g24 g25 g26 : Int32} {a0 a1 a2 a3 a4 a5 a6 a7 a8 a9 a10 a11 a12 a13 a14 a15 a16 a17 a18 a19 a20 a21 a22 a23 : (Nat → Int32)} {b0 : (Nat → Int64)} {w0 : Int64} {rv : Value} (x1 : Int32) (res : Int32 × (Nat → Int32)) (h : e_hB_X9_nextUnder g22 a7 g23 x1 = some res) (d : Nat) : xMet xks YX9_nextUnder (d + 2) 0 0 [.ref 0, .int x1] (hB g0 g1 g2 g3 g4 g5 g6 g7 g8 g9 g10 g11 g12 g13 g14 g15 g16 g17 g18 g19 g20 g21 g22 g23 g24 g25 g26 a0 a1 a2 a3 a4 a5 a6 a7 a8 a9 a10 a11 a12 a13 a14 a15 a16 a17 a18 a19 a20 a21 a22 a23 b0 w0 (.ref 11) rv) (some (.int res.1)) (hB g0 g1 g2 g3 g4 g5 g6 g7 g8 g9 g10 g11 g12 g13 g14 g15 g16 g17 g18 g19 g20 g21 g22 g23 g24 g25 g26 a0 a1 a2 a3 a4 a5 a6 res.2 a8 a9 a10 a11 a12 a13 a14 a15 a16 a17 a18 a19 a20 a21 a22 a23 b0 w0 (.ref 11) rv) := by
  unfold e_hB_X9_nextUnder at h
  refine xMet_of (pl := [some (.ref 0), some (.int x1), none]) (by decide) (Nat.le_of_ble_eq_true rfl) rfl (Nat.le_of_ble_eq_true rfl) ?_
  refine x_aload_n dX9_nextUnder_0 rfl ?_
  refine x_get fX9_316 dX9_nextUnder_1 rfl rfl rfl ?_
  refine x_get fX9_191 dX9_nextUnder_4 rfl rfl rfl ?_
  refine x_iconst (1 : Int32) dX9_nextUnder_7 (by decide) ?_
  refine x_isub dX9_nextUnder_8 ?_
  refine x_istore_n (pl' := [some (.ref 0), some (.int x1), some (.int (g22 - (1 : Int32)))]) dX9_nextUnder_9 (by decide) rfl ?_
  refine x_weak (pl2 := [some (.ref 0), some (.int x1), some (.int (g22 - (1 : Int32)))]) ⟨rfl, rfl, rfl, trivial⟩ ?_
  refine lp_hB_X9_nextUnder_10 d _ x1 res _ (fun l2_10 ma7_10 h => ?_) 200000 (g22 - (1 : Int32)) a7 h
  refine x_iconst (0 : Int32) dX9_nextUnder_66 (by decide) ?_
  cases h
  exact x_zret2 dX9_nextUnder_67 rfl rfl rfl
noncomputable def L_hB_X9_parties_8 (p0 : Int32) (p1 : Int32) (p2 : Int32) (p4 : (Nat → Int32)) (p5 : (Nat → Int32)) (p6 : (Nat → Int32)) (p7 : (Nat → Int32)) (p8 : (Nat → Int32))  (f1 : Int32) (K : Int32 → (Nat → Int32) → Option (Int32 × (Nat → Int32) × (Nat → Int32) × (Nat → Int32))) : Nat → Int32 → (Nat → Int32) → Option (Int32 × (Nat → Int32) × (Nat → Int32) × (Nat → Int32))
  | 0, _, _ => none
  | n8 + 1, l2_8, ma7_8 => if (6 : Int32) ≤ l2_8 then K l2_8 ma7_8 else (xix l2_8 6 (L_hB_X9_parties_8 p0 p1 p2 p4 p5 p6 p7 p8 f1 K n8 (l2_8 + (1 : Int32)) (upd ma7_8 l2_8.toNatClampNeg (0 : Int32))))
noncomputable def L_hB_X9_parties_70 (p0 : Int32) (p1 : Int32) (p2 : Int32) (p3 : (Nat → Int32)) (p4 : (Nat → Int32)) (p5 : (Nat → Int32)) (p6 : (Nat → Int32)) (p7 : (Nat → Int32))  (f1 : Int32) (K : Int32 → (Nat → Int32) → Option (Int32 × (Nat → Int32) × (Nat → Int32) × (Nat → Int32))) : Nat → Int32 → (Nat → Int32) → Option (Int32 × (Nat → Int32) × (Nat → Int32) × (Nat → Int32))
  | 0, _, _ => none
  | n70 + 1, l4_70, ma8_70 => if (6 : Int32) ≤ l4_70 then K l4_70 ma8_70 else (xix l4_70 6 (xix l4_70 6 (L_hB_X9_parties_70 p0 p1 p2 p3 p4 p5 p6 p7 f1 K n70 (l4_70 + (1 : Int32)) (upd ma8_70 l4_70.toNatClampNeg (p3 l4_70.toNatClampNeg)))))
noncomputable def L_hB_X9_parties_29 (p1 : Int32) (p2 : Int32) (p5 : (Nat → Int32)) (p6 : (Nat → Int32)) (p7 : (Nat → Int32))  (f1 : Int32) (K : Int32 → (Nat → Int32) → Int32 → (Nat → Int32) → (Nat → Int32) → Option (Int32 × (Nat → Int32) × (Nat → Int32) × (Nat → Int32))) : Nat → Int32 → (Nat → Int32) → Int32 → (Nat → Int32) → (Nat → Int32) → Option (Int32 × (Nat → Int32) × (Nat → Int32) × (Nat → Int32))
  | 0, _, _, _, _, _ => none
  | n29 + 1, l2_29, ma9_29, mg16_29, ma8_29, ma7_29 => if l2_29 = (0 : Int32) then K l2_29 ma9_29 mg16_29 ma8_29 ma7_29 else ((e_hB_X9_dangerOf p1 p2 ma7_29 ma9_29 p5 p6 p7 f1).bind fun z35 => if z35.1 = (-2 : Int32) then ((e_hB_X9_nextUnder p2 ma7_29 p1 f1).bind fun z99 => L_hB_X9_parties_29 p1 p2 p5 p6 p7 f1 K n29 z99.1 z35.2 mg16_29 ma8_29 z99.2) else if mg16_29 = (-2 : Int32) then L_hB_X9_parties_70 z35.1 p1 p2 ma7_29 z35.2 p5 p6 p7 f1 (fun l4_70 ma8_70 => ((e_hB_X9_nextUnder p2 ma7_29 p1 f1).bind fun z99 => L_hB_X9_parties_29 p1 p2 p5 p6 p7 f1 K n29 z99.1 z35.2 z35.1 ma8_70 z99.2)) 200000 (0 : Int32) ma8_29 else if mg16_29 ≤ z35.1 then ((e_hB_X9_nextUnder p2 ma7_29 p1 f1).bind fun z99 => L_hB_X9_parties_29 p1 p2 p5 p6 p7 f1 K n29 z99.1 z35.2 mg16_29 ma8_29 z99.2) else L_hB_X9_parties_70 z35.1 p1 p2 ma7_29 z35.2 p5 p6 p7 f1 (fun l4_70 ma8_70 => ((e_hB_X9_nextUnder p2 ma7_29 p1 f1).bind fun z99 => L_hB_X9_parties_29 p1 p2 p5 p6 p7 f1 K n29 z99.1 z35.2 z35.1 ma8_70 z99.2)) 200000 (0 : Int32) ma8_29)
noncomputable def e_hB_X9_parties (p0 : Int32) (p1 : Int32) (p2 : Int32) (p3 : (Nat → Int32)) (p4 : (Nat → Int32)) (p5 : (Nat → Int32)) (p6 : (Nat → Int32)) (p7 : (Nat → Int32)) (p8 : (Nat → Int32)) (x1 : Int32) : Option (Int32 × (Nat → Int32) × (Nat → Int32) × (Nat → Int32)) :=
  L_hB_X9_parties_8 (-2 : Int32) p1 p2 p4 p5 p6 p7 p8 x1 (fun l2_8 ma7_8 => L_hB_X9_parties_29 p1 p2 p5 p6 p7 x1 (fun l2_29 ma9_29 mg16_29 ma8_29 ma7_29 => some (mg16_29, ma9_29, ma7_29, ma8_29)) 200000 (1 : Int32) p4 (-2 : Int32) p8 ma7_8) 200000 (0 : Int32) p3
set_option maxRecDepth 100000 in
set_option maxHeartbeats 4000000 in
theorem lp_hB_X9_parties_8 {g0 g1 g2 g3 g4 g5 g6 g7 g8 g9 g10 g11 g12 g13 g14 g15 g16 g17 g18 g19 g20 g21 g22 g23 g24 g25 g26 : Int32} {a0 a1 a2 a3 a4 a5 a6 a8 a9 a10 a11 a12 a13 a14 a15 a16 a17 a18 a19 a20 a21 a22 a23 : (Nat → Int32)} {b0 : (Nat → Int64)} {w0 : Int64} {rv : Value} (d n0 : Nat) (f1 : Int32) (res : Int32 × (Nat → Int32) × (Nat → Int32) × (Nat → Int32)) (K : Int32 → (Nat → Int32) → Option (Int32 × (Nat → Int32) × (Nat → Int32) × (Nat → Int32))) (hK : ∀ (l2_8 : Int32) (ma7_8 : (Nat → Int32)), K l2_8 ma7_8 = some res → xW xks YX9_parties (d + 4) 0 0 n0 (xZ 0 0 n0 none (hB g0 g1 g2 g3 g4 g5 g6 g7 g8 g9 g10 g11 g12 g13 g14 g15 res.1 g17 g18 g19 g20 g21 g22 g23 g24 g25 g26 a0 a1 a2 a3 a4 a5 a6 res.2.2.1 res.2.2.2 res.2.1 a10 a11 a12 a13 a14 a15 a16 a17 a18 a19 a20 a21 a22 a23 b0 w0 (.ref 11) rv)) 0 0 27 [some (.ref 0), some (.int f1), none, none, none] [] (hB g0 g1 g2 g3 g4 g5 g6 g7 g8 g9 g10 g11 g12 g13 g14 g15 g16 g17 g18 g19 g20 g21 g22 g23 g24 g25 g26 a0 a1 a2 a3 a4 a5 a6 ma7_8 a8 a9 a10 a11 a12 a13 a14 a15 a16 a17 a18 a19 a20 a21 a22 a23 b0 w0 (.ref 11) rv)) : ∀ (n : Nat) (l2_8 : Int32) (ma7_8 : (Nat → Int32)), L_hB_X9_parties_8 g16 g23 g22 a9 a1 a12 a13 a8 f1 K n l2_8 ma7_8 = some res → xW xks YX9_parties (d + 4) 0 0 n0 (xZ 0 0 n0 none (hB g0 g1 g2 g3 g4 g5 g6 g7 g8 g9 g10 g11 g12 g13 g14 g15 res.1 g17 g18 g19 g20 g21 g22 g23 g24 g25 g26 a0 a1 a2 a3 a4 a5 a6 res.2.2.1 res.2.2.2 res.2.1 a10 a11 a12 a13 a14 a15 a16 a17 a18 a19 a20 a21 a22 a23 b0 w0 (.ref 11) rv)) 0 0 8 [some (.ref 0), some (.int f1), some (.int l2_8), none, none] [] (hB g0 g1 g2 g3 g4 g5 g6 g7 g8 g9 g10 g11 g12 g13 g14 g15 g16 g17 g18 g19 g20 g21 g22 g23 g24 g25 g26 a0 a1 a2 a3 a4 a5 a6 ma7_8 a8 a9 a10 a11 a12 a13 a14 a15 a16 a17 a18 a19 a20 a21 a22 a23 b0 w0 (.ref 11) rv) := by
  intro n
  induction n with
  | zero =>
    intro l2_8 ma7_8 h
    cases (show (none : Option (Int32 × (Nat → Int32) × (Nat → Int32) × (Nat → Int32))) = some res from h)
  | succ n8 ih8 =>
    intro l2_8 ma7_8 h
    unfold L_hB_X9_parties_8 at h
    refine x_iload_n dX9_parties_8 rfl ?_
    refine x_bipush (6 : Int32) dX9_parties_9 (by decide) ?_
    refine x_icmp_ge 27 dX9_parties_11 (by decide) (fun q => ?_) (fun q => ?_)
    · have h := xif_t q h
      refine x_weak (pl2 := [some (.ref 0), some (.int f1), none, none, none]) ⟨rfl, rfl, trivial⟩ ?_
      exact hK l2_8 ma7_8 h
    · have h := xif_f q h
      refine x_aload_n dX9_parties_14 rfl ?_
      refine x_get fX9_36 dX9_parties_15 rfl rfl rfl ?_
      refine x_iload_n dX9_parties_18 rfl ?_
      refine x_iconst (0 : Int32) dX9_parties_19 (by decide) ?_
      obtain ⟨q20, h⟩ := xix_of h
      refine x_iast (h2 := (hB g0 g1 g2 g3 g4 g5 g6 g7 g8 g9 g10 g11 g12 g13 g14 g15 g16 g17 g18 g19 g20 g21 g22 g23 g24 g25 g26 a0 a1 a2 a3 a4 a5 a6 (upd ma7_8 l2_8.toNatClampNeg (0 : Int32)) a8 a9 a10 a11 a12 a13 a14 a15 a16 a17 a18 a19 a20 a21 a22 a23 b0 w0 (.ref 11) rv)) dX9_parties_20 rfl q20 rfl ?_
      refine x_iincK (1 : Int32) (pl' := [some (.ref 0), some (.int f1), some (.int (l2_8 + (1 : Int32))), none, none]) dX9_parties_21 rfl (by decide) (by decide) rfl ?_
      refine x_goto 8 dX9_parties_24 (by decide) ?_
      refine x_weak (pl2 := [some (.ref 0), some (.int f1), some (.int (l2_8 + (1 : Int32))), none, none]) ⟨rfl, rfl, rfl, trivial⟩ ?_
      exact ih8 (l2_8 + (1 : Int32)) (upd ma7_8 l2_8.toNatClampNeg (0 : Int32)) h
set_option maxRecDepth 100000 in
set_option maxHeartbeats 4000000 in
theorem lp_hB_X9_parties_70 {g0 g1 g2 g3 g4 g5 g6 g7 g8 g9 g10 g11 g12 g13 g14 g15 g16 g17 g18 g19 g20 g21 g22 g23 g24 g25 g26 : Int32} {a0 a1 a2 a3 a4 a5 a6 a7 a9 a10 a11 a12 a13 a14 a15 a16 a17 a18 a19 a20 a21 a22 a23 : (Nat → Int32)} {b0 : (Nat → Int64)} {w0 : Int64} {rv : Value} (d n0 : Nat) (f1 : Int32) (res : Int32 × (Nat → Int32) × (Nat → Int32) × (Nat → Int32)) (K : Int32 → (Nat → Int32) → Option (Int32 × (Nat → Int32) × (Nat → Int32) × (Nat → Int32))) (hK : ∀ (l4_70 : Int32) (ma8_70 : (Nat → Int32)), K l4_70 ma8_70 = some res → xW xks YX9_parties (d + 4) 0 0 n0 (xZ 0 0 n0 none (hB g0 g1 g2 g3 g4 g5 g6 g7 g8 g9 g10 g11 g12 g13 g14 g15 res.1 g17 g18 g19 g20 g21 g22 g23 g24 g25 g26 a0 a1 a2 a3 a4 a5 a6 res.2.2.1 res.2.2.2 res.2.1 a10 a11 a12 a13 a14 a15 a16 a17 a18 a19 a20 a21 a22 a23 b0 w0 (.ref 11) rv)) 0 0 97 [some (.ref 0), some (.int f1), none, none, none] [] (hB g0 g1 g2 g3 g4 g5 g6 g7 g8 g9 g10 g11 g12 g13 g14 g15 g16 g17 g18 g19 g20 g21 g22 g23 g24 g25 g26 a0 a1 a2 a3 a4 a5 a6 a7 ma8_70 a9 a10 a11 a12 a13 a14 a15 a16 a17 a18 a19 a20 a21 a22 a23 b0 w0 (.ref 11) rv)) : ∀ (n : Nat) (l4_70 : Int32) (ma8_70 : (Nat → Int32)), L_hB_X9_parties_70 g16 g23 g22 a7 a9 a1 a12 a13 f1 K n l4_70 ma8_70 = some res → xW xks YX9_parties (d + 4) 0 0 n0 (xZ 0 0 n0 none (hB g0 g1 g2 g3 g4 g5 g6 g7 g8 g9 g10 g11 g12 g13 g14 g15 res.1 g17 g18 g19 g20 g21 g22 g23 g24 g25 g26 a0 a1 a2 a3 a4 a5 a6 res.2.2.1 res.2.2.2 res.2.1 a10 a11 a12 a13 a14 a15 a16 a17 a18 a19 a20 a21 a22 a23 b0 w0 (.ref 11) rv)) 0 0 70 [some (.ref 0), some (.int f1), none, none, some (.int l4_70)] [] (hB g0 g1 g2 g3 g4 g5 g6 g7 g8 g9 g10 g11 g12 g13 g14 g15 g16 g17 g18 g19 g20 g21 g22 g23 g24 g25 g26 a0 a1 a2 a3 a4 a5 a6 a7 ma8_70 a9 a10 a11 a12 a13 a14 a15 a16 a17 a18 a19 a20 a21 a22 a23 b0 w0 (.ref 11) rv) := by
  intro n
  induction n with
  | zero =>
    intro l4_70 ma8_70 h
    cases (show (none : Option (Int32 × (Nat → Int32) × (Nat → Int32) × (Nat → Int32))) = some res from h)
  | succ n70 ih70 =>
    intro l4_70 ma8_70 h
    unfold L_hB_X9_parties_70 at h
    refine x_iload dX9_parties_70 rfl ?_
    refine x_bipush (6 : Int32) dX9_parties_72 (by decide) ?_
    refine x_icmp_ge 97 dX9_parties_74 (by decide) (fun q => ?_) (fun q => ?_)
    · have h := xif_t q h
      refine x_weak (pl2 := [some (.ref 0), some (.int f1), none, none, none]) ⟨rfl, rfl, trivial⟩ ?_
      exact hK l4_70 ma8_70 h
    · have h := xif_f q h
      refine x_aload_n dX9_parties_77 rfl ?_
      refine x_get fX9_39 dX9_parties_78 rfl rfl rfl ?_
      refine x_iload dX9_parties_81 rfl ?_
      refine x_aload_n dX9_parties_83 rfl ?_
      refine x_get fX9_36 dX9_parties_84 rfl rfl rfl ?_
      refine x_iload dX9_parties_87 rfl ?_
      obtain ⟨q89, h⟩ := xix_of h
      refine x_iald dX9_parties_89 rfl q89 ?_
      obtain ⟨q90, h⟩ := xix_of h
      refine x_iast (h2 := (hB g0 g1 g2 g3 g4 g5 g6 g7 g8 g9 g10 g11 g12 g13 g14 g15 g16 g17 g18 g19 g20 g21 g22 g23 g24 g25 g26 a0 a1 a2 a3 a4 a5 a6 a7 (upd ma8_70 l4_70.toNatClampNeg (a7 l4_70.toNatClampNeg)) a9 a10 a11 a12 a13 a14 a15 a16 a17 a18 a19 a20 a21 a22 a23 b0 w0 (.ref 11) rv)) dX9_parties_90 rfl q90 rfl ?_
      refine x_iincK (1 : Int32) (pl' := [some (.ref 0), some (.int f1), none, none, some (.int (l4_70 + (1 : Int32)))]) dX9_parties_91 rfl (by decide) (by decide) rfl ?_
      refine x_goto 70 dX9_parties_94 (by decide) ?_
      refine x_weak (pl2 := [some (.ref 0), some (.int f1), none, none, some (.int (l4_70 + (1 : Int32)))]) ⟨rfl, rfl, rfl, trivial⟩ ?_
      exact ih70 (l4_70 + (1 : Int32)) (upd ma8_70 l4_70.toNatClampNeg (a7 l4_70.toNatClampNeg)) h
set_option maxRecDepth 100000 in
set_option maxHeartbeats 4000000 in
theorem lp_hB_X9_parties_29 {g0 g1 g2 g3 g4 g5 g6 g7 g8 g9 g10 g11 g12 g13 g14 g15 g17 g18 g19 g20 g21 g22 g23 g24 g25 g26 : Int32} {a0 a1 a2 a3 a4 a5 a6 a10 a11 a12 a13 a14 a15 a16 a17 a18 a19 a20 a21 a22 a23 : (Nat → Int32)} {b0 : (Nat → Int64)} {w0 : Int64} {rv : Value} (d n0 : Nat) (f1 : Int32) (res : Int32 × (Nat → Int32) × (Nat → Int32) × (Nat → Int32)) (K : Int32 → (Nat → Int32) → Int32 → (Nat → Int32) → (Nat → Int32) → Option (Int32 × (Nat → Int32) × (Nat → Int32) × (Nat → Int32))) (hK : ∀ (l2_29 : Int32) (ma9_29 : (Nat → Int32)) (mg16_29 : Int32) (ma8_29 : (Nat → Int32)) (ma7_29 : (Nat → Int32)), K l2_29 ma9_29 mg16_29 ma8_29 ma7_29 = some res → xW xks YX9_parties (d + 4) 0 0 n0 (xZ 0 0 n0 none (hB g0 g1 g2 g3 g4 g5 g6 g7 g8 g9 g10 g11 g12 g13 g14 g15 res.1 g17 g18 g19 g20 g21 g22 g23 g24 g25 g26 a0 a1 a2 a3 a4 a5 a6 res.2.2.1 res.2.2.2 res.2.1 a10 a11 a12 a13 a14 a15 a16 a17 a18 a19 a20 a21 a22 a23 b0 w0 (.ref 11) rv)) 0 0 106 [none, none, none, none, none] [] (hB g0 g1 g2 g3 g4 g5 g6 g7 g8 g9 g10 g11 g12 g13 g14 g15 mg16_29 g17 g18 g19 g20 g21 g22 g23 g24 g25 g26 a0 a1 a2 a3 a4 a5 a6 ma7_29 ma8_29 ma9_29 a10 a11 a12 a13 a14 a15 a16 a17 a18 a19 a20 a21 a22 a23 b0 w0 (.ref 11) rv)) : ∀ (n : Nat) (l2_29 : Int32) (ma9_29 : (Nat → Int32)) (mg16_29 : Int32) (ma8_29 : (Nat → Int32)) (ma7_29 : (Nat → Int32)), L_hB_X9_parties_29 g23 g22 a1 a12 a13 f1 K n l2_29 ma9_29 mg16_29 ma8_29 ma7_29 = some res → xW xks YX9_parties (d + 4) 0 0 n0 (xZ 0 0 n0 none (hB g0 g1 g2 g3 g4 g5 g6 g7 g8 g9 g10 g11 g12 g13 g14 g15 res.1 g17 g18 g19 g20 g21 g22 g23 g24 g25 g26 a0 a1 a2 a3 a4 a5 a6 res.2.2.1 res.2.2.2 res.2.1 a10 a11 a12 a13 a14 a15 a16 a17 a18 a19 a20 a21 a22 a23 b0 w0 (.ref 11) rv)) 0 0 29 [some (.ref 0), some (.int f1), some (.int l2_29), none, none] [] (hB g0 g1 g2 g3 g4 g5 g6 g7 g8 g9 g10 g11 g12 g13 g14 g15 mg16_29 g17 g18 g19 g20 g21 g22 g23 g24 g25 g26 a0 a1 a2 a3 a4 a5 a6 ma7_29 ma8_29 ma9_29 a10 a11 a12 a13 a14 a15 a16 a17 a18 a19 a20 a21 a22 a23 b0 w0 (.ref 11) rv) := by
  intro n
  induction n with
  | zero =>
    intro l2_29 ma9_29 mg16_29 ma8_29 ma7_29 h
    cases (show (none : Option (Int32 × (Nat → Int32) × (Nat → Int32) × (Nat → Int32))) = some res from h)
  | succ n29 ih29 =>
    intro l2_29 ma9_29 mg16_29 ma8_29 ma7_29 h
    unfold L_hB_X9_parties_29 at h
    refine x_iload_n dX9_parties_29 rfl ?_
    refine x_if_eq 106 dX9_parties_30 (by decide) (fun q => ?_) (fun q => ?_)
    · have h := xif_t q h
      refine x_weak (pl2 := [none, none, none, none, none]) trivial ?_
      exact hK l2_29 ma9_29 mg16_29 ma8_29 ma7_29 h
    · have h := xif_f q h
      refine x_aload_n dX9_parties_33 rfl ?_
      refine x_iload_n dX9_parties_34 rfl ?_
      obtain ⟨z35, y35, h⟩ := xbind h
      refine x_callV (t_hB_X9_dangerOf f1 z35 y35 (d + 0)) kX9_424 dX9_parties_35 rfl rfl rfl rfl rfl (Nat.le_of_ble_eq_true rfl) (Nat.le_of_ble_eq_true rfl) rfl rfl (Or.inl rfl) ?_
      refine x_istore_n (pl' := [some (.ref 0), some (.int f1), some (.int l2_29), some (.int z35.1), none]) dX9_parties_38 (by decide) rfl ?_
      refine x_iload_n dX9_parties_39 rfl ?_
      refine x_bipush (-2 : Int32) dX9_parties_40 (by decide) ?_
      refine x_icmp_eq 97 dX9_parties_42 (by decide) (fun q => ?_) (fun q => ?_)
      · have h := xif_t q h
        refine x_aload_n dX9_parties_97 rfl ?_
        refine x_iload_n dX9_parties_98 rfl ?_
        obtain ⟨z99, y99, h⟩ := xbind h
        refine x_callV (t_hB_X9_nextUnder f1 z99 y99 (d + 1)) kX9_427 dX9_parties_99 rfl rfl rfl rfl rfl (Nat.le_of_ble_eq_true rfl) (Nat.le_of_ble_eq_true rfl) rfl rfl (Or.inl rfl) ?_
        refine x_istore_n (pl' := [some (.ref 0), some (.int f1), some (.int z99.1), some (.int z35.1), none]) dX9_parties_102 (by decide) rfl ?_
        refine x_goto 29 dX9_parties_103 (by decide) ?_
        refine x_weak (pl2 := [some (.ref 0), some (.int f1), some (.int z99.1), none, none]) ⟨rfl, rfl, rfl, trivial⟩ ?_
        exact ih29 z99.1 z35.2 mg16_29 ma8_29 z99.2 h
      · have h := xif_f q h
        refine x_aload_n dX9_parties_45 rfl ?_
        refine x_get fX9_421 dX9_parties_46 rfl rfl rfl ?_
        refine x_bipush (-2 : Int32) dX9_parties_49 (by decide) ?_
        refine x_icmp_eq 62 dX9_parties_51 (by decide) (fun q => ?_) (fun q => ?_)
        · have h := xif_t q h
          refine x_aload_n dX9_parties_62 rfl ?_
          refine x_iload_n dX9_parties_63 rfl ?_
          refine x_put (h2 := (hB g0 g1 g2 g3 g4 g5 g6 g7 g8 g9 g10 g11 g12 g13 g14 g15 z35.1 g17 g18 g19 g20 g21 g22 g23 g24 g25 g26 a0 a1 a2 a3 a4 a5 a6 ma7_29 ma8_29 z35.2 a10 a11 a12 a13 a14 a15 a16 a17 a18 a19 a20 a21 a22 a23 b0 w0 (.ref 11) rv)) fX9_421 dX9_parties_64 rfl rfl (Nat.le_of_ble_eq_true rfl : 29 + 1 ≤ _) (fun α => ⟨rfl, rfl⟩) rfl ?_
          refine x_iconst (0 : Int32) dX9_parties_67 (by decide) ?_
          refine x_istore (pl' := [some (.ref 0), some (.int f1), some (.int l2_29), some (.int z35.1), some (.int (0 : Int32))]) dX9_parties_68 (by decide) rfl ?_
          refine x_weak (pl2 := [some (.ref 0), some (.int f1), none, none, some (.int (0 : Int32))]) ⟨rfl, rfl, rfl, trivial⟩ ?_
          refine lp_hB_X9_parties_70 d _ f1 res _ (fun l4_70 ma8_70 h => ?_) 200000 (0 : Int32) ma8_29 h
          refine x_aload_n dX9_parties_97 rfl ?_
          refine x_iload_n dX9_parties_98 rfl ?_
          obtain ⟨z99, y99, h⟩ := xbind h
          refine x_callV (t_hB_X9_nextUnder f1 z99 y99 (d + 1)) kX9_427 dX9_parties_99 rfl rfl rfl rfl rfl (Nat.le_of_ble_eq_true rfl) (Nat.le_of_ble_eq_true rfl) rfl rfl (Or.inl rfl) ?_
          refine x_istore_n (pl' := [some (.ref 0), some (.int f1), some (.int z99.1), none, none]) dX9_parties_102 (by decide) rfl ?_
          refine x_goto 29 dX9_parties_103 (by decide) ?_
          refine x_weak (pl2 := [some (.ref 0), some (.int f1), some (.int z99.1), none, none]) ⟨rfl, rfl, rfl, trivial⟩ ?_
          exact ih29 z99.1 z35.2 z35.1 ma8_70 z99.2 h
        · have h := xif_f q h
          refine x_iload_n dX9_parties_54 rfl ?_
          refine x_aload_n dX9_parties_55 rfl ?_
          refine x_get fX9_421 dX9_parties_56 rfl rfl rfl ?_
          refine x_icmp_ge 97 dX9_parties_59 (by decide) (fun q => ?_) (fun q => ?_)
          · have h := xif_t q h
            refine x_aload_n dX9_parties_97 rfl ?_
            refine x_iload_n dX9_parties_98 rfl ?_
            obtain ⟨z99, y99, h⟩ := xbind h
            refine x_callV (t_hB_X9_nextUnder f1 z99 y99 (d + 1)) kX9_427 dX9_parties_99 rfl rfl rfl rfl rfl (Nat.le_of_ble_eq_true rfl) (Nat.le_of_ble_eq_true rfl) rfl rfl (Or.inl rfl) ?_
            refine x_istore_n (pl' := [some (.ref 0), some (.int f1), some (.int z99.1), some (.int z35.1), none]) dX9_parties_102 (by decide) rfl ?_
            refine x_goto 29 dX9_parties_103 (by decide) ?_
            refine x_weak (pl2 := [some (.ref 0), some (.int f1), some (.int z99.1), none, none]) ⟨rfl, rfl, rfl, trivial⟩ ?_
            exact ih29 z99.1 z35.2 mg16_29 ma8_29 z99.2 h
          · have h := xif_f q h
            refine x_aload_n dX9_parties_62 rfl ?_
            refine x_iload_n dX9_parties_63 rfl ?_
            refine x_put (h2 := (hB g0 g1 g2 g3 g4 g5 g6 g7 g8 g9 g10 g11 g12 g13 g14 g15 z35.1 g17 g18 g19 g20 g21 g22 g23 g24 g25 g26 a0 a1 a2 a3 a4 a5 a6 ma7_29 ma8_29 z35.2 a10 a11 a12 a13 a14 a15 a16 a17 a18 a19 a20 a21 a22 a23 b0 w0 (.ref 11) rv)) fX9_421 dX9_parties_64 rfl rfl (Nat.le_of_ble_eq_true rfl : 29 + 1 ≤ _) (fun α => ⟨rfl, rfl⟩) rfl ?_
            refine x_iconst (0 : Int32) dX9_parties_67 (by decide) ?_
            refine x_istore (pl' := [some (.ref 0), some (.int f1), some (.int l2_29), some (.int z35.1), some (.int (0 : Int32))]) dX9_parties_68 (by decide) rfl ?_
            refine x_weak (pl2 := [some (.ref 0), some (.int f1), none, none, some (.int (0 : Int32))]) ⟨rfl, rfl, rfl, trivial⟩ ?_
            refine lp_hB_X9_parties_70 d _ f1 res _ (fun l4_70 ma8_70 h => ?_) 200000 (0 : Int32) ma8_29 h
            refine x_aload_n dX9_parties_97 rfl ?_
            refine x_iload_n dX9_parties_98 rfl ?_
            obtain ⟨z99, y99, h⟩ := xbind h
            refine x_callV (t_hB_X9_nextUnder f1 z99 y99 (d + 1)) kX9_427 dX9_parties_99 rfl rfl rfl rfl rfl (Nat.le_of_ble_eq_true rfl) (Nat.le_of_ble_eq_true rfl) rfl rfl (Or.inl rfl) ?_
            refine x_istore_n (pl' := [some (.ref 0), some (.int f1), some (.int z99.1), none, none]) dX9_parties_102 (by decide) rfl ?_
            refine x_goto 29 dX9_parties_103 (by decide) ?_
            refine x_weak (pl2 := [some (.ref 0), some (.int f1), some (.int z99.1), none, none]) ⟨rfl, rfl, rfl, trivial⟩ ?_
            exact ih29 z99.1 z35.2 z35.1 ma8_70 z99.2 h
set_option maxRecDepth 100000 in
set_option maxHeartbeats 4000000 in
theorem t_hB_X9_parties {g0 g1 g2 g3 g4 g5 g6 g7 g8 g9 g10 g11 g12 g13 g14 g15 g16 g17 g18 g19 g20 g21 g22 g23 g24 g25 g26 : Int32} {a0 a1 a2 a3 a4 a5 a6 a7 a8 a9 a10 a11 a12 a13 a14 a15 a16 a17 a18 a19 a20 a21 a22 a23 : (Nat → Int32)} {b0 : (Nat → Int64)} {w0 : Int64} {rv : Value} (x1 : Int32) (res : Int32 × (Nat → Int32) × (Nat → Int32) × (Nat → Int32)) (h : e_hB_X9_parties g16 g23 g22 a7 a9 a1 a12 a13 a8 x1 = some res) (d : Nat) : xMet xks YX9_parties (d + 4) 0 0 [.ref 0, .int x1] (hB g0 g1 g2 g3 g4 g5 g6 g7 g8 g9 g10 g11 g12 g13 g14 g15 g16 g17 g18 g19 g20 g21 g22 g23 g24 g25 g26 a0 a1 a2 a3 a4 a5 a6 a7 a8 a9 a10 a11 a12 a13 a14 a15 a16 a17 a18 a19 a20 a21 a22 a23 b0 w0 (.ref 11) rv) none (hB g0 g1 g2 g3 g4 g5 g6 g7 g8 g9 g10 g11 g12 g13 g14 g15 res.1 g17 g18 g19 g20 g21 g22 g23 g24 g25 g26 a0 a1 a2 a3 a4 a5 a6 res.2.2.1 res.2.2.2 res.2.1 a10 a11 a12 a13 a14 a15 a16 a17 a18 a19 a20 a21 a22 a23 b0 w0 (.ref 11) rv) := by
  unfold e_hB_X9_parties at h
  refine xMet_of (pl := [some (.ref 0), some (.int x1), none, none, none]) (by decide) (Nat.le_of_ble_eq_true rfl) rfl (Nat.le_of_ble_eq_true rfl) ?_
  refine x_aload_n dX9_parties_0 rfl ?_
  refine x_bipush (-2 : Int32) dX9_parties_1 (by decide) ?_
  refine x_put (h2 := (hB g0 g1 g2 g3 g4 g5 g6 g7 g8 g9 g10 g11 g12 g13 g14 g15 (-2 : Int32) g17 g18 g19 g20 g21 g22 g23 g24 g25 g26 a0 a1 a2 a3 a4 a5 a6 a7 a8 a9 a10 a11 a12 a13 a14 a15 a16 a17 a18 a19 a20 a21 a22 a23 b0 w0 (.ref 11) rv)) fX9_421 dX9_parties_3 rfl rfl (Nat.le_of_ble_eq_true rfl : 29 + 1 ≤ _) (fun α => ⟨rfl, rfl⟩) rfl ?_
  refine x_iconst (0 : Int32) dX9_parties_6 (by decide) ?_
  refine x_istore_n (pl' := [some (.ref 0), some (.int x1), some (.int (0 : Int32)), none, none]) dX9_parties_7 (by decide) rfl ?_
  refine x_weak (pl2 := [some (.ref 0), some (.int x1), some (.int (0 : Int32)), none, none]) ⟨rfl, rfl, rfl, trivial⟩ ?_
  refine lp_hB_X9_parties_8 d _ x1 res _ (fun l2_8 ma7_8 h => ?_) 200000 (0 : Int32) a7 h
  refine x_iconst (1 : Int32) dX9_parties_27 (by decide) ?_
  refine x_istore_n (pl' := [some (.ref 0), some (.int x1), some (.int (1 : Int32)), none, none]) dX9_parties_28 (by decide) rfl ?_
  refine x_weak (pl2 := [some (.ref 0), some (.int x1), some (.int (1 : Int32)), none, none]) ⟨rfl, rfl, rfl, trivial⟩ ?_
  refine lp_hB_X9_parties_29 d _ x1 res _ (fun l2_29 ma9_29 mg16_29 ma8_29 ma7_29 h => ?_) 200000 (1 : Int32) a9 (-2 : Int32) a8 ma7_8 h
  cases h
  exact x_vret2 dX9_parties_106 rfl rfl
noncomputable def L_hB_X9_guest_27 (p0 : Int32) (p1 : Int32) (p2 : Int32) (p3 : Int32) (p5 : Int32) (p8 : (Nat → Int32)) (p9 : (Nat → Int32)) (p10 : (Nat → Int32))  (f1 : Int32) (K : Int32 → Int32 → Int32 → Int32 → (Nat → Int32) → (Nat → Int32) → (Nat → Int32) → Option (Int32 × Int32 × Int32 × Int32 × Int32 × (Nat → Int32) × (Nat → Int32) × (Nat → Int32))) : Nat → Int32 → Int32 → Int32 → Int32 → (Nat → Int32) → (Nat → Int32) → (Nat → Int32) → Option (Int32 × Int32 × Int32 × Int32 × Int32 × (Nat → Int32) × (Nat → Int32) × (Nat → Int32))
  | 0, _, _, _, _, _, _, _ => none
  | n27 + 1, l2_27, l3_27, l4_27, mg16_27, ma9_27, ma7_27, ma8_27 => if p1 ≤ l4_27 then K l2_27 l3_27 l4_27 mg16_27 ma9_27 ma7_27 ma8_27 else ((e_hB_X9_bit f1 l4_27).bind fun z42 => if z42 = (0 : Int32) then ((e_hB_X9_parties mg16_27 p5 p1 ma7_27 ma9_27 p8 p9 p10 ma8_27 (f1 ||| ((1 : Int32) <<< (l4_27 &&& 31)))).bind fun z58 => if z58.1 = (-2 : Int32) then L_hB_X9_guest_27 p0 p1 p2 p3 p5 p8 p9 p10 f1 K n27 l2_27 l3_27 (l4_27 + (1 : Int32)) z58.1 z58.2.1 z58.2.2.1 z58.2.2.2 else if l2_27 = (-2 : Int32) then L_hB_X9_guest_27 p0 p1 p2 p3 p5 p8 p9 p10 f1 K n27 l4_27 z58.1 (l4_27 + (1 : Int32)) z58.1 z58.2.1 z58.2.2.1 z58.2.2.2 else if z58.1 < l3_27 then L_hB_X9_guest_27 p0 p1 p2 p3 p5 p8 p9 p10 f1 K n27 l4_27 z58.1 (l4_27 + (1 : Int32)) z58.1 z58.2.1 z58.2.2.1 z58.2.2.2 else L_hB_X9_guest_27 p0 p1 p2 p3 p5 p8 p9 p10 f1 K n27 l2_27 l3_27 (l4_27 + (1 : Int32)) z58.1 z58.2.1 z58.2.2.1 z58.2.2.2) else L_hB_X9_guest_27 p0 p1 p2 p3 p5 p8 p9 p10 f1 K n27 l2_27 l3_27 (l4_27 + (1 : Int32)) mg16_27 ma9_27 ma7_27 ma8_27)
noncomputable def e_hB_X9_guest (p0 : Int32) (p1 : Int32) (p2 : Int32) (p3 : Int32) (p4 : Int32) (p5 : Int32) (p6 : (Nat → Int32)) (p7 : (Nat → Int32)) (p8 : (Nat → Int32)) (p9 : (Nat → Int32)) (p10 : (Nat → Int32)) (p11 : (Nat → Int32)) (x1 : Int32) : Option (Int32 × Int32 × Int32 × Int32 × Int32 × (Nat → Int32) × (Nat → Int32) × (Nat → Int32)) :=
  ((e_hB_X9_isParty p1 x1).bind fun z7 => if z7 = (0 : Int32) then ((e_hB_X9_refused p2 p3 (1 : Int32)).bind fun z15 => some (z15.1, (0 : Int32), z15.2.1, z15.2.2, p4, p7, p6, p11)) else L_hB_X9_guest_27 (0 : Int32) p1 p2 p3 p5 p8 p9 p10 x1 (fun l2_27 l3_27 l4_27 mg16_27 ma9_27 ma7_27 ma8_27 => ((e_hB_X9_good p2 p3 l2_27).bind fun z103 => some (z103.1, (0 : Int32), z103.2.1, z103.2.2, mg16_27, ma9_27, ma7_27, ma8_27))) 200000 (-2 : Int32) (0 : Int32) (0 : Int32) p4 p7 p6 p11)
set_option maxRecDepth 100000 in
set_option maxHeartbeats 4000000 in
theorem lp_hB_X9_guest_27 {g0 g1 g2 g3 g4 g5 g6 g7 g8 g9 g10 g11 g12 g13 g14 g15 g17 g18 g19 g20 g21 g22 g23 g24 g25 g26 : Int32} {a0 a1 a2 a3 a4 a5 a6 a10 a11 a12 a13 a14 a15 a16 a17 a18 a19 a20 a21 a22 a23 : (Nat → Int32)} {b0 : (Nat → Int64)} {w0 : Int64} {rv : Value} (d n0 : Nat) (f1 : Int32) (res : Int32 × Int32 × Int32 × Int32 × Int32 × (Nat → Int32) × (Nat → Int32) × (Nat → Int32)) (K : Int32 → Int32 → Int32 → Int32 → (Nat → Int32) → (Nat → Int32) → (Nat → Int32) → Option (Int32 × Int32 × Int32 × Int32 × Int32 × (Nat → Int32) × (Nat → Int32) × (Nat → Int32))) (hK : ∀ (l2_27 : Int32) (l3_27 : Int32) (l4_27 : Int32) (mg16_27 : Int32) (ma9_27 : (Nat → Int32)) (ma7_27 : (Nat → Int32)) (ma8_27 : (Nat → Int32)), K l2_27 l3_27 l4_27 mg16_27 ma9_27 ma7_27 ma8_27 = some res → xW xks YX9_guest (d + 5) 0 0 n0 (xZ 0 0 n0 (some (.int res.1)) (hB res.2.1 res.2.2.1 res.2.2.2.1 g3 g4 g5 g6 g7 g8 g9 g10 g11 g12 g13 g14 g15 res.2.2.2.2.1 g17 g18 g19 g20 g21 g22 g23 g24 g25 g26 a0 a1 a2 a3 a4 a5 a6 res.2.2.2.2.2.2.1 res.2.2.2.2.2.2.2 res.2.2.2.2.2.1 a10 a11 a12 a13 a14 a15 a16 a17 a18 a19 a20 a21 a22 a23 b0 w0 (.ref 11) rv)) 0 0 101 [some (.ref 0), none, some (.int l2_27), none, none] [] (hB g0 g1 g2 g3 g4 g5 g6 g7 g8 g9 g10 g11 g12 g13 g14 g15 mg16_27 g17 g18 g19 g20 g21 g22 g23 g24 g25 g26 a0 a1 a2 a3 a4 a5 a6 ma7_27 ma8_27 ma9_27 a10 a11 a12 a13 a14 a15 a16 a17 a18 a19 a20 a21 a22 a23 b0 w0 (.ref 11) rv)) : ∀ (n : Nat) (l2_27 : Int32) (l3_27 : Int32) (l4_27 : Int32) (mg16_27 : Int32) (ma9_27 : (Nat → Int32)) (ma7_27 : (Nat → Int32)) (ma8_27 : (Nat → Int32)), L_hB_X9_guest_27 g0 g22 g1 g2 g23 a1 a12 a13 f1 K n l2_27 l3_27 l4_27 mg16_27 ma9_27 ma7_27 ma8_27 = some res → xW xks YX9_guest (d + 5) 0 0 n0 (xZ 0 0 n0 (some (.int res.1)) (hB res.2.1 res.2.2.1 res.2.2.2.1 g3 g4 g5 g6 g7 g8 g9 g10 g11 g12 g13 g14 g15 res.2.2.2.2.1 g17 g18 g19 g20 g21 g22 g23 g24 g25 g26 a0 a1 a2 a3 a4 a5 a6 res.2.2.2.2.2.2.1 res.2.2.2.2.2.2.2 res.2.2.2.2.2.1 a10 a11 a12 a13 a14 a15 a16 a17 a18 a19 a20 a21 a22 a23 b0 w0 (.ref 11) rv)) 0 0 27 [some (.ref 0), some (.int f1), some (.int l2_27), some (.int l3_27), some (.int l4_27)] [] (hB g0 g1 g2 g3 g4 g5 g6 g7 g8 g9 g10 g11 g12 g13 g14 g15 mg16_27 g17 g18 g19 g20 g21 g22 g23 g24 g25 g26 a0 a1 a2 a3 a4 a5 a6 ma7_27 ma8_27 ma9_27 a10 a11 a12 a13 a14 a15 a16 a17 a18 a19 a20 a21 a22 a23 b0 w0 (.ref 11) rv) := by
  intro n
  induction n with
  | zero =>
    intro l2_27 l3_27 l4_27 mg16_27 ma9_27 ma7_27 ma8_27 h
    cases (show (none : Option (Int32 × Int32 × Int32 × Int32 × Int32 × (Nat → Int32) × (Nat → Int32) × (Nat → Int32))) = some res from h)
  | succ n27 ih27 =>
    intro l2_27 l3_27 l4_27 mg16_27 ma9_27 ma7_27 ma8_27 h
    unfold L_hB_X9_guest_27 at h
    refine x_iload dX9_guest_27 rfl ?_
    refine x_aload_n dX9_guest_29 rfl ?_
    refine x_get fX9_316 dX9_guest_30 rfl rfl rfl ?_
    refine x_get fX9_191 dX9_guest_33 rfl rfl rfl ?_
    refine x_icmp_ge 101 dX9_guest_36 (by decide) (fun q => ?_) (fun q => ?_)
    · have h := xif_t q h
      refine x_weak (pl2 := [some (.ref 0), none, some (.int l2_27), none, none]) ⟨rfl, rfl, trivial⟩ ?_
      exact hK l2_27 l3_27 l4_27 mg16_27 ma9_27 ma7_27 ma8_27 h
    · have h := xif_f q h
      refine x_iload_n dX9_guest_39 rfl ?_
      refine x_iload dX9_guest_40 rfl ?_
      obtain ⟨z42, y42, h⟩ := xbind h
      refine x_callS (t_hB_X9_bit f1 l4_27 z42 y42 (d + 3)) kX9_418 dX9_guest_42 rfl rfl (Nat.le_of_ble_eq_true rfl) (Nat.le_of_ble_eq_true rfl) rfl rfl (Or.inl rfl) ?_
      refine x_if_eq 51 dX9_guest_45 (by decide) (fun q => ?_) (fun q => ?_)
      · have h := xif_t q h
        refine x_aload_n dX9_guest_51 rfl ?_
        refine x_iload_n dX9_guest_52 rfl ?_
        refine x_iconst (1 : Int32) dX9_guest_53 (by decide) ?_
        refine x_iload dX9_guest_54 rfl ?_
        refine x_ishl dX9_guest_56 ?_
        refine x_ior dX9_guest_57 ?_
        obtain ⟨z58, y58, h⟩ := xbind h
        refine x_callV (t_hB_X9_parties (f1 ||| ((1 : Int32) <<< (l4_27 &&& 31))) z58 y58 (d + 0)) kX9_436 dX9_guest_58 rfl rfl rfl rfl rfl (Nat.le_of_ble_eq_true rfl) (Nat.le_of_ble_eq_true rfl) rfl rfl (Or.inl rfl) ?_
        refine x_aload_n dX9_guest_61 rfl ?_
        refine x_get fX9_421 dX9_guest_62 rfl rfl rfl ?_
        refine x_bipush (-2 : Int32) dX9_guest_65 (by decide) ?_
        refine x_icmp_eq 95 dX9_guest_67 (by decide) (fun q => ?_) (fun q => ?_)
        · have h := xif_t q h
          refine x_iincK (1 : Int32) (pl' := [some (.ref 0), some (.int f1), some (.int l2_27), some (.int l3_27), some (.int (l4_27 + (1 : Int32)))]) dX9_guest_95 rfl (by decide) (by decide) rfl ?_
          refine x_goto 27 dX9_guest_98 (by decide) ?_
          refine x_weak (pl2 := [some (.ref 0), some (.int f1), some (.int l2_27), some (.int l3_27), some (.int (l4_27 + (1 : Int32)))]) ⟨rfl, rfl, rfl, rfl, rfl, trivial⟩ ?_
          exact ih27 l2_27 l3_27 (l4_27 + (1 : Int32)) z58.1 z58.2.1 z58.2.2.1 z58.2.2.2 h
        · have h := xif_f q h
          refine x_iload_n dX9_guest_70 rfl ?_
          refine x_bipush (-2 : Int32) dX9_guest_71 (by decide) ?_
          refine x_icmp_eq 87 dX9_guest_73 (by decide) (fun q => ?_) (fun q => ?_)
          · have h := xif_t q h
            refine x_aload_n dX9_guest_87 rfl ?_
            refine x_get fX9_421 dX9_guest_88 rfl rfl rfl ?_
            refine x_istore_n (pl' := [some (.ref 0), some (.int f1), some (.int l2_27), some (.int z58.1), some (.int l4_27)]) dX9_guest_91 (by decide) rfl ?_
            refine x_iload dX9_guest_92 rfl ?_
            refine x_istore_n (pl' := [some (.ref 0), some (.int f1), some (.int l4_27), some (.int z58.1), some (.int l4_27)]) dX9_guest_94 (by decide) rfl ?_
            refine x_iincK (1 : Int32) (pl' := [some (.ref 0), some (.int f1), some (.int l4_27), some (.int z58.1), some (.int (l4_27 + (1 : Int32)))]) dX9_guest_95 rfl (by decide) (by decide) rfl ?_
            refine x_goto 27 dX9_guest_98 (by decide) ?_
            refine x_weak (pl2 := [some (.ref 0), some (.int f1), some (.int l4_27), some (.int z58.1), some (.int (l4_27 + (1 : Int32)))]) ⟨rfl, rfl, rfl, rfl, rfl, trivial⟩ ?_
            exact ih27 l4_27 z58.1 (l4_27 + (1 : Int32)) z58.1 z58.2.1 z58.2.2.1 z58.2.2.2 h
          · have h := xif_f q h
            refine x_aload_n dX9_guest_76 rfl ?_
            refine x_get fX9_421 dX9_guest_77 rfl rfl rfl ?_
            refine x_iload_n dX9_guest_80 rfl ?_
            refine x_icmp_lt 87 dX9_guest_81 (by decide) (fun q => ?_) (fun q => ?_)
            · have h := xif_t q h
              refine x_aload_n dX9_guest_87 rfl ?_
              refine x_get fX9_421 dX9_guest_88 rfl rfl rfl ?_
              refine x_istore_n (pl' := [some (.ref 0), some (.int f1), some (.int l2_27), some (.int z58.1), some (.int l4_27)]) dX9_guest_91 (by decide) rfl ?_
              refine x_iload dX9_guest_92 rfl ?_
              refine x_istore_n (pl' := [some (.ref 0), some (.int f1), some (.int l4_27), some (.int z58.1), some (.int l4_27)]) dX9_guest_94 (by decide) rfl ?_
              refine x_iincK (1 : Int32) (pl' := [some (.ref 0), some (.int f1), some (.int l4_27), some (.int z58.1), some (.int (l4_27 + (1 : Int32)))]) dX9_guest_95 rfl (by decide) (by decide) rfl ?_
              refine x_goto 27 dX9_guest_98 (by decide) ?_
              refine x_weak (pl2 := [some (.ref 0), some (.int f1), some (.int l4_27), some (.int z58.1), some (.int (l4_27 + (1 : Int32)))]) ⟨rfl, rfl, rfl, rfl, rfl, trivial⟩ ?_
              exact ih27 l4_27 z58.1 (l4_27 + (1 : Int32)) z58.1 z58.2.1 z58.2.2.1 z58.2.2.2 h
            · have h := xif_f q h
              refine x_goto 95 dX9_guest_84 (by decide) ?_
              refine x_iincK (1 : Int32) (pl' := [some (.ref 0), some (.int f1), some (.int l2_27), some (.int l3_27), some (.int (l4_27 + (1 : Int32)))]) dX9_guest_95 rfl (by decide) (by decide) rfl ?_
              refine x_goto 27 dX9_guest_98 (by decide) ?_
              refine x_weak (pl2 := [some (.ref 0), some (.int f1), some (.int l2_27), some (.int l3_27), some (.int (l4_27 + (1 : Int32)))]) ⟨rfl, rfl, rfl, rfl, rfl, trivial⟩ ?_
              exact ih27 l2_27 l3_27 (l4_27 + (1 : Int32)) z58.1 z58.2.1 z58.2.2.1 z58.2.2.2 h
      · have h := xif_f q h
        refine x_goto 95 dX9_guest_48 (by decide) ?_
        refine x_iincK (1 : Int32) (pl' := [some (.ref 0), some (.int f1), some (.int l2_27), some (.int l3_27), some (.int (l4_27 + (1 : Int32)))]) dX9_guest_95 rfl (by decide) (by decide) rfl ?_
        refine x_goto 27 dX9_guest_98 (by decide) ?_
        refine x_weak (pl2 := [some (.ref 0), some (.int f1), some (.int l2_27), some (.int l3_27), some (.int (l4_27 + (1 : Int32)))]) ⟨rfl, rfl, rfl, rfl, rfl, trivial⟩ ?_
        exact ih27 l2_27 l3_27 (l4_27 + (1 : Int32)) mg16_27 ma9_27 ma7_27 ma8_27 h
set_option maxRecDepth 100000 in
set_option maxHeartbeats 4000000 in
theorem t_hB_X9_guest {g0 g1 g2 g3 g4 g5 g6 g7 g8 g9 g10 g11 g12 g13 g14 g15 g16 g17 g18 g19 g20 g21 g22 g23 g24 g25 g26 : Int32} {a0 a1 a2 a3 a4 a5 a6 a7 a8 a9 a10 a11 a12 a13 a14 a15 a16 a17 a18 a19 a20 a21 a22 a23 : (Nat → Int32)} {b0 : (Nat → Int64)} {w0 : Int64} {rv : Value} (x1 : Int32) (res : Int32 × Int32 × Int32 × Int32 × Int32 × (Nat → Int32) × (Nat → Int32) × (Nat → Int32)) (h : e_hB_X9_guest g0 g22 g1 g2 g16 g23 a7 a9 a1 a12 a13 a8 x1 = some res) (d : Nat) : xMet xks YX9_guest (d + 5) 0 0 [.ref 0, .int x1] (hB g0 g1 g2 g3 g4 g5 g6 g7 g8 g9 g10 g11 g12 g13 g14 g15 g16 g17 g18 g19 g20 g21 g22 g23 g24 g25 g26 a0 a1 a2 a3 a4 a5 a6 a7 a8 a9 a10 a11 a12 a13 a14 a15 a16 a17 a18 a19 a20 a21 a22 a23 b0 w0 (.ref 11) rv) (some (.int res.1)) (hB res.2.1 res.2.2.1 res.2.2.2.1 g3 g4 g5 g6 g7 g8 g9 g10 g11 g12 g13 g14 g15 res.2.2.2.2.1 g17 g18 g19 g20 g21 g22 g23 g24 g25 g26 a0 a1 a2 a3 a4 a5 a6 res.2.2.2.2.2.2.1 res.2.2.2.2.2.2.2 res.2.2.2.2.2.1 a10 a11 a12 a13 a14 a15 a16 a17 a18 a19 a20 a21 a22 a23 b0 w0 (.ref 11) rv) := by
  unfold e_hB_X9_guest at h
  refine xMet_of (pl := [some (.ref 0), some (.int x1), none, none, none]) (by decide) (Nat.le_of_ble_eq_true rfl) rfl (Nat.le_of_ble_eq_true rfl) ?_
  refine x_aload_n dX9_guest_0 rfl ?_
  refine x_iconst (0 : Int32) dX9_guest_1 (by decide) ?_
  refine x_put (h2 := (hB (0 : Int32) g1 g2 g3 g4 g5 g6 g7 g8 g9 g10 g11 g12 g13 g14 g15 g16 g17 g18 g19 g20 g21 g22 g23 g24 g25 g26 a0 a1 a2 a3 a4 a5 a6 a7 a8 a9 a10 a11 a12 a13 a14 a15 a16 a17 a18 a19 a20 a21 a22 a23 b0 w0 (.ref 11) rv)) fX9_45 dX9_guest_2 rfl rfl (Nat.le_of_ble_eq_true rfl : 0 + 1 ≤ _) (fun α => ⟨rfl, rfl⟩) rfl ?_
  refine x_aload_n dX9_guest_5 rfl ?_
  refine x_iload_n dX9_guest_6 rfl ?_
  obtain ⟨z7, y7, h⟩ := xbind h
  refine x_callV (t_hB_X9_isParty x1 z7 y7 (d + 2)) kX9_433 dX9_guest_7 rfl rfl rfl rfl rfl (Nat.le_of_ble_eq_true rfl) (Nat.le_of_ble_eq_true rfl) rfl rfl (Or.inl rfl) ?_
  refine x_if_ne 19 dX9_guest_10 (by decide) (fun q => ?_) (fun q => ?_)
  · have h := xif_f q h
    refine x_bipush (-2 : Int32) dX9_guest_19 (by decide) ?_
    refine x_istore_n (pl' := [some (.ref 0), some (.int x1), some (.int (-2 : Int32)), none, none]) dX9_guest_21 (by decide) rfl ?_
    refine x_iconst (0 : Int32) dX9_guest_22 (by decide) ?_
    refine x_istore_n (pl' := [some (.ref 0), some (.int x1), some (.int (-2 : Int32)), some (.int (0 : Int32)), none]) dX9_guest_23 (by decide) rfl ?_
    refine x_iconst (0 : Int32) dX9_guest_24 (by decide) ?_
    refine x_istore (pl' := [some (.ref 0), some (.int x1), some (.int (-2 : Int32)), some (.int (0 : Int32)), some (.int (0 : Int32))]) dX9_guest_25 (by decide) rfl ?_
    refine x_weak (pl2 := [some (.ref 0), some (.int x1), some (.int (-2 : Int32)), some (.int (0 : Int32)), some (.int (0 : Int32))]) ⟨rfl, rfl, rfl, rfl, rfl, trivial⟩ ?_
    refine lp_hB_X9_guest_27 d _ x1 res _ (fun l2_27 l3_27 l4_27 mg16_27 ma9_27 ma7_27 ma8_27 h => ?_) 200000 (-2 : Int32) (0 : Int32) (0 : Int32) g16 a9 a7 a8 h
    refine x_aload_n dX9_guest_101 rfl ?_
    refine x_iload_n dX9_guest_102 rfl ?_
    obtain ⟨z103, y103, h⟩ := xbind h
    refine x_callV (t_hB_X9_good l2_27 z103 y103 (d + 3)) kX9_55 dX9_guest_103 rfl rfl rfl rfl rfl (Nat.le_of_ble_eq_true rfl) (Nat.le_of_ble_eq_true rfl) rfl rfl (Or.inl rfl) ?_
    cases h
    exact x_iret2 dX9_guest_106 rfl rfl
  · have h := xif_t q h
    refine x_aload_n dX9_guest_13 rfl ?_
    refine x_iconst (1 : Int32) dX9_guest_14 (by decide) ?_
    obtain ⟨z15, y15, h⟩ := xbind h
    refine x_callV (t_hB_X9_refused (1 : Int32) z15 y15 (d + 3)) kX9_51 dX9_guest_15 rfl rfl rfl rfl rfl (Nat.le_of_ble_eq_true rfl) (Nat.le_of_ble_eq_true rfl) rfl rfl (Or.inl rfl) ?_
    cases h
    exact x_iret2 dX9_guest_18 rfl rfl
noncomputable def e_hB_X9_canExchange (p0 : (Nat → Int32)) (x2 : Int32) (x3 : Int32) : Option (Int32) :=
  if x2 = x3 then some (0 : Int32) else (xix ((0 : Int32) + x2) 11 (xix ((0 : Int32) + x3) 11 (if (p0 ((0 : Int32) + x2).toNatClampNeg) = (p0 ((0 : Int32) + x3).toNatClampNeg) then some (0 : Int32) else some (1 : Int32))))
set_option maxRecDepth 100000 in
set_option maxHeartbeats 4000000 in
theorem t_hB_X9_canExchange {g0 g1 g2 g3 g4 g5 g6 g7 g8 g9 g10 g11 g12 g13 g14 g15 g16 g17 g18 g19 g20 g21 g22 g23 g24 g25 g26 : Int32} {a0 a1 a2 a3 a4 a5 a6 a7 a8 a9 a10 a11 a12 a13 a14 a15 a16 a17 a18 a19 a20 a21 a22 a23 : (Nat → Int32)} {b0 : (Nat → Int64)} {w0 : Int64} {rv : Value} (x2 : Int32) (x3 : Int32) (res : Int32) (h : e_hB_X9_canExchange a2 x2 x3 = some res) (d : Nat) : xMet xks YX9_canExchange (d + 1) 0 0 [.ref 0, .ref 3, .int x2, .int x3] (hB g0 g1 g2 g3 g4 g5 g6 g7 g8 g9 g10 g11 g12 g13 g14 g15 g16 g17 g18 g19 g20 g21 g22 g23 g24 g25 g26 a0 a1 a2 a3 a4 a5 a6 a7 a8 a9 a10 a11 a12 a13 a14 a15 a16 a17 a18 a19 a20 a21 a22 a23 b0 w0 (.ref 11) rv) (some (.int res)) (hB g0 g1 g2 g3 g4 g5 g6 g7 g8 g9 g10 g11 g12 g13 g14 g15 g16 g17 g18 g19 g20 g21 g22 g23 g24 g25 g26 a0 a1 a2 a3 a4 a5 a6 a7 a8 a9 a10 a11 a12 a13 a14 a15 a16 a17 a18 a19 a20 a21 a22 a23 b0 w0 (.ref 11) rv) := by
  unfold e_hB_X9_canExchange at h
  refine xMet_of (pl := [some (.ref 0), some (.ref 3), some (.int x2), some (.int x3)]) (by decide) (Nat.le_of_ble_eq_true rfl) rfl (Nat.le_of_ble_eq_true rfl) ?_
  refine x_iload_n dX9_canExchange_0 rfl ?_
  refine x_iload_n dX9_canExchange_1 rfl ?_
  refine x_icmp_eq 22 dX9_canExchange_2 (by decide) (fun q => ?_) (fun q => ?_)
  · have h := xif_t q h
    refine x_iconst (0 : Int32) dX9_canExchange_22 (by decide) ?_
    cases h
    exact x_zret2 dX9_canExchange_23 rfl rfl rfl
  · have h := xif_f q h
    refine x_aload_n dX9_canExchange_5 rfl ?_
    refine x_iconst (0 : Int32) dX9_canExchange_6 (by decide) ?_
    refine x_iload_n dX9_canExchange_7 rfl ?_
    refine x_iadd dX9_canExchange_8 ?_
    obtain ⟨q9, h⟩ := xix_of h
    refine x_iald dX9_canExchange_9 rfl q9 ?_
    refine x_aload_n dX9_canExchange_10 rfl ?_
    refine x_iconst (0 : Int32) dX9_canExchange_11 (by decide) ?_
    refine x_iload_n dX9_canExchange_12 rfl ?_
    refine x_iadd dX9_canExchange_13 ?_
    obtain ⟨q14, h⟩ := xix_of h
    refine x_iald dX9_canExchange_14 rfl q14 ?_
    refine x_icmp_eq 22 dX9_canExchange_15 (by decide) (fun q => ?_) (fun q => ?_)
    · have h := xif_t q h
      refine x_iconst (0 : Int32) dX9_canExchange_22 (by decide) ?_
      cases h
      exact x_zret2 dX9_canExchange_23 rfl rfl rfl
    · have h := xif_f q h
      refine x_iconst (1 : Int32) dX9_canExchange_18 (by decide) ?_
      refine x_goto 23 dX9_canExchange_19 (by decide) ?_
      cases h
      exact x_zret2 dX9_canExchange_23 rfl rfl rfl
noncomputable def L_hB_X9_isDone_2 (p0 : (Nat → Int32)) (p1 : Int32)  (f1 : Int32) (K : Int32 → (Nat → Int32) → Option (Int32 × (Nat → Int32))) : Nat → Int32 → (Nat → Int32) → Option (Int32 × (Nat → Int32))
  | 0, _, _ => none
  | n2 + 1, l2_2, ma2_2 => if f1 ≤ l2_2 then K l2_2 ma2_2 else (xix l2_2 3 (xix l2_2 3 (if ((p0 l2_2.toNatClampNeg) - (p0 l2_2.toNatClampNeg) / (10 : Int32) * (10 : Int32)) ≤ ((p0 l2_2.toNatClampNeg) / (10 : Int32)) then some ((0 : Int32), ma2_2) else if p1 ≤ ((p0 l2_2.toNatClampNeg) - (p0 l2_2.toNatClampNeg) / (10 : Int32) * (10 : Int32)) then some ((0 : Int32), ma2_2) else ((e_hB_X9_canExchange ma2_2 ((p0 l2_2.toNatClampNeg) / (10 : Int32)) ((p0 l2_2.toNatClampNeg) - (p0 l2_2.toNatClampNeg) / (10 : Int32) * (10 : Int32))).bind fun z54 => if z54 = (0 : Int32) then some ((0 : Int32), ma2_2) else ((e_hB_X9_changes ma2_2 ((p0 l2_2.toNatClampNeg) / (10 : Int32)) ((p0 l2_2.toNatClampNeg) - (p0 l2_2.toNatClampNeg) / (10 : Int32) * (10 : Int32))).bind fun z69 => L_hB_X9_isDone_2 p0 p1 f1 K n2 (l2_2 + (1 : Int32)) z69)))))
noncomputable def e_hB_X9_isDone (p0 : (Nat → Int32)) (p1 : Int32) (p2 : (Nat → Int32)) (x1 : Int32) : Option (Int32 × (Nat → Int32)) :=
  L_hB_X9_isDone_2 p0 p1 x1 (fun l2_2 ma2_2 => some ((1 : Int32), ma2_2)) 200000 (0 : Int32) p2
set_option maxRecDepth 100000 in
set_option maxHeartbeats 4000000 in
theorem lp_hB_X9_isDone_2 {g0 g1 g2 g3 g4 g5 g6 g7 g8 g9 g10 g11 g12 g13 g14 g15 g16 g17 g18 g19 g20 g21 g22 g23 g24 g25 g26 : Int32} {a0 a1 a3 a4 a5 a6 a7 a8 a9 a10 a11 a12 a13 a14 a15 a16 a17 a18 a19 a20 a21 a22 a23 : (Nat → Int32)} {b0 : (Nat → Int64)} {w0 : Int64} {rv : Value} (d n0 : Nat) (f1 : Int32) (res : Int32 × (Nat → Int32)) (K : Int32 → (Nat → Int32) → Option (Int32 × (Nat → Int32))) (hK : ∀ (l2_2 : Int32) (ma2_2 : (Nat → Int32)), K l2_2 ma2_2 = some res → xW xks YX9_isDone (d + 2) 0 0 n0 (xZ 0 0 n0 (some (.int res.1)) (hB g0 g1 g2 g3 g4 g5 g6 g7 g8 g9 g10 g11 g12 g13 g14 g15 g16 g17 g18 g19 g20 g21 g22 g23 g24 g25 g26 a0 a1 res.2 a3 a4 a5 a6 a7 a8 a9 a10 a11 a12 a13 a14 a15 a16 a17 a18 a19 a20 a21 a22 a23 b0 w0 (.ref 11) rv)) 0 0 78 [none, none, none, none, none] [] (hB g0 g1 g2 g3 g4 g5 g6 g7 g8 g9 g10 g11 g12 g13 g14 g15 g16 g17 g18 g19 g20 g21 g22 g23 g24 g25 g26 a0 a1 ma2_2 a3 a4 a5 a6 a7 a8 a9 a10 a11 a12 a13 a14 a15 a16 a17 a18 a19 a20 a21 a22 a23 b0 w0 (.ref 11) rv)) : ∀ (n : Nat) (l2_2 : Int32) (ma2_2 : (Nat → Int32)), L_hB_X9_isDone_2 a5 g23 f1 K n l2_2 ma2_2 = some res → xW xks YX9_isDone (d + 2) 0 0 n0 (xZ 0 0 n0 (some (.int res.1)) (hB g0 g1 g2 g3 g4 g5 g6 g7 g8 g9 g10 g11 g12 g13 g14 g15 g16 g17 g18 g19 g20 g21 g22 g23 g24 g25 g26 a0 a1 res.2 a3 a4 a5 a6 a7 a8 a9 a10 a11 a12 a13 a14 a15 a16 a17 a18 a19 a20 a21 a22 a23 b0 w0 (.ref 11) rv)) 0 0 2 [some (.ref 0), some (.int f1), some (.int l2_2), none, none] [] (hB g0 g1 g2 g3 g4 g5 g6 g7 g8 g9 g10 g11 g12 g13 g14 g15 g16 g17 g18 g19 g20 g21 g22 g23 g24 g25 g26 a0 a1 ma2_2 a3 a4 a5 a6 a7 a8 a9 a10 a11 a12 a13 a14 a15 a16 a17 a18 a19 a20 a21 a22 a23 b0 w0 (.ref 11) rv) := by
  intro n
  induction n with
  | zero =>
    intro l2_2 ma2_2 h
    cases (show (none : Option (Int32 × (Nat → Int32))) = some res from h)
  | succ n2 ih2 =>
    intro l2_2 ma2_2 h
    unfold L_hB_X9_isDone_2 at h
    refine x_iload_n dX9_isDone_2 rfl ?_
    refine x_iload_n dX9_isDone_3 rfl ?_
    refine x_icmp_ge 78 dX9_isDone_4 (by decide) (fun q => ?_) (fun q => ?_)
    · have h := xif_t q h
      refine x_weak (pl2 := [none, none, none, none, none]) trivial ?_
      exact hK l2_2 ma2_2 h
    · have h := xif_f q h
      refine x_aload_n dX9_isDone_7 rfl ?_
      refine x_get fX9_30 dX9_isDone_8 rfl rfl rfl ?_
      refine x_iload_n dX9_isDone_11 rfl ?_
      obtain ⟨q12, h⟩ := xix_of h
      refine x_iald dX9_isDone_12 rfl q12 ?_
      refine x_bipush (10 : Int32) dX9_isDone_13 (by decide) ?_
      refine x_idiv dX9_isDone_15 (by decide) ?_
      refine x_istore_n (pl' := [some (.ref 0), some (.int f1), some (.int l2_2), some (.int ((a5 l2_2.toNatClampNeg) / (10 : Int32))), none]) dX9_isDone_16 (by decide) rfl ?_
      refine x_aload_n dX9_isDone_17 rfl ?_
      refine x_get fX9_30 dX9_isDone_18 rfl rfl rfl ?_
      refine x_iload_n dX9_isDone_21 rfl ?_
      obtain ⟨q22, h⟩ := xix_of h
      refine x_iald dX9_isDone_22 rfl q22 ?_
      refine x_bipush (10 : Int32) dX9_isDone_23 (by decide) ?_
      refine x_irem dX9_isDone_25 (by decide) ?_
      refine x_istore (pl' := [some (.ref 0), some (.int f1), some (.int l2_2), some (.int ((a5 l2_2.toNatClampNeg) / (10 : Int32))), some (.int ((a5 l2_2.toNatClampNeg) - (a5 l2_2.toNatClampNeg) / (10 : Int32) * (10 : Int32)))]) dX9_isDone_26 (by decide) rfl ?_
      refine x_iload_n dX9_isDone_28 rfl ?_
      refine x_iload dX9_isDone_29 rfl ?_
      refine x_icmp_ge 60 dX9_isDone_31 (by decide) (fun q => ?_) (fun q => ?_)
      · have h := xif_t q h
        refine x_iconst (0 : Int32) dX9_isDone_60 (by decide) ?_
        cases h
        exact x_zret2 dX9_isDone_61 rfl rfl rfl
      · have h := xif_f q h
        refine x_iload dX9_isDone_34 rfl ?_
        refine x_aload_n dX9_isDone_36 rfl ?_
        refine x_get fX9_316 dX9_isDone_37 rfl rfl rfl ?_
        refine x_get fX9_194 dX9_isDone_40 rfl rfl rfl ?_
        refine x_icmp_ge 60 dX9_isDone_43 (by decide) (fun q => ?_) (fun q => ?_)
        · have h := xif_t q h
          refine x_iconst (0 : Int32) dX9_isDone_60 (by decide) ?_
          cases h
          exact x_zret2 dX9_isDone_61 rfl rfl rfl
        · have h := xif_f q h
          refine x_aload_n dX9_isDone_46 rfl ?_
          refine x_aload_n dX9_isDone_47 rfl ?_
          refine x_get fX9_21 dX9_isDone_48 rfl rfl rfl ?_
          refine x_iload_n dX9_isDone_51 rfl ?_
          refine x_iload dX9_isDone_52 rfl ?_
          obtain ⟨z54, y54, h⟩ := xbind h
          refine x_callV (t_hB_X9_canExchange ((a5 l2_2.toNatClampNeg) / (10 : Int32)) ((a5 l2_2.toNatClampNeg) - (a5 l2_2.toNatClampNeg) / (10 : Int32) * (10 : Int32)) z54 y54 (d + 0)) kX9_411 dX9_isDone_54 rfl rfl rfl rfl rfl (Nat.le_of_ble_eq_true rfl) (Nat.le_of_ble_eq_true rfl) rfl rfl (Or.inl rfl) ?_
          refine x_if_ne 62 dX9_isDone_57 (by decide) (fun q => ?_) (fun q => ?_)
          · have h := xif_f q h
            refine x_aload_n dX9_isDone_62 rfl ?_
            refine x_get fX9_21 dX9_isDone_63 rfl rfl rfl ?_
            refine x_iload_n dX9_isDone_66 rfl ?_
            refine x_iload dX9_isDone_67 rfl ?_
            obtain ⟨z69, y69, h⟩ := xbind h
            refine x_callS (t_hB_X9_changes ((a5 l2_2.toNatClampNeg) / (10 : Int32)) ((a5 l2_2.toNatClampNeg) - (a5 l2_2.toNatClampNeg) / (10 : Int32) * (10 : Int32)) z69 y69 (d + 0)) kX9_345 dX9_isDone_69 rfl rfl (Nat.le_of_ble_eq_true rfl) (Nat.le_of_ble_eq_true rfl) rfl rfl (Or.inl rfl) ?_
            refine x_iincK (1 : Int32) (pl' := [some (.ref 0), some (.int f1), some (.int (l2_2 + (1 : Int32))), some (.int ((a5 l2_2.toNatClampNeg) / (10 : Int32))), some (.int ((a5 l2_2.toNatClampNeg) - (a5 l2_2.toNatClampNeg) / (10 : Int32) * (10 : Int32)))]) dX9_isDone_72 rfl (by decide) (by decide) rfl ?_
            refine x_goto 2 dX9_isDone_75 (by decide) ?_
            refine x_weak (pl2 := [some (.ref 0), some (.int f1), some (.int (l2_2 + (1 : Int32))), none, none]) ⟨rfl, rfl, rfl, trivial⟩ ?_
            exact ih2 (l2_2 + (1 : Int32)) z69 h
          · have h := xif_t q h
            refine x_iconst (0 : Int32) dX9_isDone_60 (by decide) ?_
            cases h
            exact x_zret2 dX9_isDone_61 rfl rfl rfl
set_option maxRecDepth 100000 in
set_option maxHeartbeats 4000000 in
theorem t_hB_X9_isDone {g0 g1 g2 g3 g4 g5 g6 g7 g8 g9 g10 g11 g12 g13 g14 g15 g16 g17 g18 g19 g20 g21 g22 g23 g24 g25 g26 : Int32} {a0 a1 a2 a3 a4 a5 a6 a7 a8 a9 a10 a11 a12 a13 a14 a15 a16 a17 a18 a19 a20 a21 a22 a23 : (Nat → Int32)} {b0 : (Nat → Int64)} {w0 : Int64} {rv : Value} (x1 : Int32) (res : Int32 × (Nat → Int32)) (h : e_hB_X9_isDone a5 g23 a2 x1 = some res) (d : Nat) : xMet xks YX9_isDone (d + 2) 0 0 [.ref 0, .int x1] (hB g0 g1 g2 g3 g4 g5 g6 g7 g8 g9 g10 g11 g12 g13 g14 g15 g16 g17 g18 g19 g20 g21 g22 g23 g24 g25 g26 a0 a1 a2 a3 a4 a5 a6 a7 a8 a9 a10 a11 a12 a13 a14 a15 a16 a17 a18 a19 a20 a21 a22 a23 b0 w0 (.ref 11) rv) (some (.int res.1)) (hB g0 g1 g2 g3 g4 g5 g6 g7 g8 g9 g10 g11 g12 g13 g14 g15 g16 g17 g18 g19 g20 g21 g22 g23 g24 g25 g26 a0 a1 res.2 a3 a4 a5 a6 a7 a8 a9 a10 a11 a12 a13 a14 a15 a16 a17 a18 a19 a20 a21 a22 a23 b0 w0 (.ref 11) rv) := by
  unfold e_hB_X9_isDone at h
  refine xMet_of (pl := [some (.ref 0), some (.int x1), none, none, none]) (by decide) (Nat.le_of_ble_eq_true rfl) rfl (Nat.le_of_ble_eq_true rfl) ?_
  refine x_iconst (0 : Int32) dX9_isDone_0 (by decide) ?_
  refine x_istore_n (pl' := [some (.ref 0), some (.int x1), some (.int (0 : Int32)), none, none]) dX9_isDone_1 (by decide) rfl ?_
  refine x_weak (pl2 := [some (.ref 0), some (.int x1), some (.int (0 : Int32)), none, none]) ⟨rfl, rfl, rfl, trivial⟩ ?_
  refine lp_hB_X9_isDone_2 d _ x1 res _ (fun l2_2 ma2_2 h => ?_) 200000 (0 : Int32) a2 h
  refine x_iconst (1 : Int32) dX9_isDone_78 (by decide) ?_
  cases h
  exact x_zret2 dX9_isDone_79 rfl rfl rfl
