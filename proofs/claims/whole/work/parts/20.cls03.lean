noncomputable def e_hA_X6_seat (p0 : Int32) (p1 : Int32) (p2 : Int32) (p3 : (Nat → Int32)) (p4 : (Nat → Int32)) (p5 : (Nat → Int32)) (p6 : (Nat → Int32)) (p7 : (Nat → Int32)) (p8 : (Nat → Int32)) (p9 : Int32) (p10 : (Nat → Int32)) (p11 : (Nat → Int32)) (x3 : Int32) : Option (Int32 × Int32 × Int32 × (Nat → Int32) × (Nat → Int32) × (Nat → Int32) × (Nat → Int32)) :=
  ((e_hA_X6_openUmbrellas p2 p3 p4 p5 x3).bind fun z14 => if z14.1 < (xbc x3) then some ((0 : Int32), (0 : Int32), (0 : Int32), z14.2, p6, p11, p10) else ((e_hA_X6_countLeast p6 p2 p7 p8 z14.2 x3).bind fun z28 => (e_hA_X6_place 8 p9 (0 : Int32) (0 : Int32) p10 p11 p2 p7 p8 z14.2 z28 x3 (0 : Int32) (0 : Int32)).bind fun z37 => xbo z37.1 (some (z37.1, z37.1, z37.2.1, z37.2.2.2.1, z28, z37.2.2.1, z37.2.2.2.2))))
set_option maxRecDepth 100000 in
set_option maxHeartbeats 4000000 in
theorem t_hA_X6_seat {g0 g1 g2 g3 g4 g5 g6 g7 g8 g9 g10 g11 g12 g13 g14 g15 g16 g17 g18 g19 g20 g21 g22 g23 g24 g25 g26 g27 g28 g29 g30 g31 g32 g33 g34 g35 g36 : Int32} {a0 a1 a2 a3 a4 a5 a6 a7 a8 a9 a10 a11 a12 a13 a14 a15 a16 a17 a18 a19 a20 a21 a22 a23 a24 a25 a26 a27 a28 a29 a30 a31 a32 a33 a34 a35 a36 a37 a38 a39 : (Nat → Int32)} {b0 b1 b2 b3 b4 : (Nat → Int64)} {w0 : Int64} (x3 : Int32) (res : Int32 × Int32 × Int32 × (Nat → Int32) × (Nat → Int32) × (Nat → Int32) × (Nat → Int32)) (h : e_hA_X6_seat g28 g29 g4 a27 a34 a3 a37 a28 a2 g3 a35 a36 x3 = some res) (d : Nat) : xMet xks YX6_seat (d + 10) 0 0 [.ref 49, .ref 1, .ref 37, .int x3] (hA g0 g1 g2 g3 g4 g5 g6 g7 g8 g9 g10 g11 g12 g13 g14 g15 g16 g17 g18 g19 g20 g21 g22 g23 g24 g25 g26 g27 g28 g29 g30 g31 g32 g33 g34 g35 g36 a0 a1 a2 a3 a4 a5 a6 a7 a8 a9 a10 a11 a12 a13 a14 a15 a16 a17 a18 a19 a20 a21 a22 a23 a24 a25 a26 a27 a28 a29 a30 a31 a32 a33 a34 a35 a36 a37 a38 a39 b0 b1 b2 b3 b4 w0 (.ref 19) (.ref 1)) (some (.int res.1)) (hA g0 g1 g2 g3 g4 g5 g6 g7 g8 g9 g10 g11 g12 g13 g14 g15 g16 g17 g18 g19 g20 g21 g22 g23 g24 g25 g26 g27 res.2.1 res.2.2.1 g30 g31 g32 g33 g34 g35 g36 a0 a1 a2 a3 a4 a5 a6 a7 a8 a9 a10 a11 a12 a13 a14 a15 a16 a17 a18 a19 a20 a21 a22 a23 a24 a25 a26 a27 a28 a29 a30 a31 a32 a33 res.2.2.2.1 res.2.2.2.2.2.2 res.2.2.2.2.2.1 res.2.2.2.2.1 a38 a39 b0 b1 b2 b3 b4 w0 (.ref 19) (.ref 1)) := by
  unfold e_hA_X6_seat at h
  refine xMet_of (pl := [some (.ref 49), some (.ref 1), some (.ref 37), some (.int x3)]) (by decide) (Nat.le_of_ble_eq_true rfl) rfl (Nat.le_of_ble_eq_true rfl) ?_
  refine x_aload_n dX6_seat_0 rfl ?_
  refine x_iconst (0 : Int32) dX6_seat_1 (by decide) ?_
  refine x_put (h2 := (hA g0 g1 g2 g3 g4 g5 g6 g7 g8 g9 g10 g11 g12 g13 g14 g15 g16 g17 g18 g19 g20 g21 g22 g23 g24 g25 g26 g27 (0 : Int32) g29 g30 g31 g32 g33 g34 g35 g36 a0 a1 a2 a3 a4 a5 a6 a7 a8 a9 a10 a11 a12 a13 a14 a15 a16 a17 a18 a19 a20 a21 a22 a23 a24 a25 a26 a27 a28 a29 a30 a31 a32 a33 a34 a35 a36 a37 a38 a39 b0 b1 b2 b3 b4 w0 (.ref 19) (.ref 1))) fX6_24 dX6_seat_2 rfl rfl (Nat.le_of_ble_eq_true rfl : 4 + 1 ≤ _) (fun α => ⟨rfl, rfl⟩) rfl ?_
  refine x_aload_n dX6_seat_5 rfl ?_
  refine x_iconst (0 : Int32) dX6_seat_6 (by decide) ?_
  refine x_put (h2 := (hA g0 g1 g2 g3 g4 g5 g6 g7 g8 g9 g10 g11 g12 g13 g14 g15 g16 g17 g18 g19 g20 g21 g22 g23 g24 g25 g26 g27 (0 : Int32) (0 : Int32) g30 g31 g32 g33 g34 g35 g36 a0 a1 a2 a3 a4 a5 a6 a7 a8 a9 a10 a11 a12 a13 a14 a15 a16 a17 a18 a19 a20 a21 a22 a23 a24 a25 a26 a27 a28 a29 a30 a31 a32 a33 a34 a35 a36 a37 a38 a39 b0 b1 b2 b3 b4 w0 (.ref 19) (.ref 1))) fX6_28 dX6_seat_7 rfl rfl (Nat.le_of_ble_eq_true rfl : 5 + 1 ≤ _) (fun α => ⟨rfl, rfl⟩) rfl ?_
  refine x_aload_n dX6_seat_10 rfl ?_
  refine x_aload_n dX6_seat_11 rfl ?_
  refine x_aload_n dX6_seat_12 rfl ?_
  refine x_iload_n dX6_seat_13 rfl ?_
  obtain ⟨z14, y14, h⟩ := xbind h
  refine x_callV (t_hA_X6_openUmbrellas x3 z14 y14 (d + 8)) kX6_32 dX6_seat_14 rfl rfl rfl rfl rfl (Nat.le_of_ble_eq_true rfl) (Nat.le_of_ble_eq_true rfl) rfl rfl (Or.inl rfl) ?_
  refine x_iload_n dX6_seat_17 rfl ?_
  refine x_callS (t_bitCount (hA g0 g1 g2 g3 g4 g5 g6 g7 g8 g9 g10 g11 g12 g13 g14 g15 g16 g17 g18 g19 g20 g21 g22 g23 g24 g25 g26 g27 (0 : Int32) (0 : Int32) g30 g31 g32 g33 g34 g35 g36 a0 a1 a2 a3 a4 a5 a6 a7 a8 a9 a10 a11 a12 a13 a14 a15 a16 a17 a18 a19 a20 a21 a22 a23 a24 a25 a26 a27 a28 a29 a30 a31 a32 a33 z14.2 a35 a36 a37 a38 a39 b0 b1 b2 b3 b4 w0 (.ref 19) (.ref 1)) (Nat.le_of_ble_eq_true rfl) _ (d + 8)) kX6_36 dX6_seat_18 rfl rfl (Nat.le_of_ble_eq_true rfl) (Nat.le_of_ble_eq_true rfl) rfl rfl (Or.inl rfl) ?_
  refine x_icmp_lt 40 dX6_seat_21 (by decide) (fun q => ?_) (fun q => ?_)
  · have h := xif_t q h
    refine x_aload_n dX6_seat_40 rfl ?_
    refine x_get fX6_24 dX6_seat_41 rfl rfl rfl ?_
    cases h
    exact x_zret2 dX6_seat_44 rfl rfl rfl
  · have h := xif_f q h
    refine x_aload_n dX6_seat_24 rfl ?_
    refine x_aload_n dX6_seat_25 rfl ?_
    refine x_aload_n dX6_seat_26 rfl ?_
    refine x_iload_n dX6_seat_27 rfl ?_
    obtain ⟨z28, y28, h⟩ := xbind h
    refine x_callV (t_hA_X6_countLeast x3 z28 y28 (d + 7)) kX6_42 dX6_seat_28 rfl rfl rfl rfl rfl (Nat.le_of_ble_eq_true rfl) (Nat.le_of_ble_eq_true rfl) rfl rfl (Or.inl rfl) ?_
    refine x_aload_n dX6_seat_31 rfl ?_
    refine x_aload_n dX6_seat_32 rfl ?_
    refine x_aload_n dX6_seat_33 rfl ?_
    refine x_iload_n dX6_seat_34 rfl ?_
    refine x_iconst (0 : Int32) dX6_seat_35 (by decide) ?_
    refine x_iconst (0 : Int32) dX6_seat_36 (by decide) ?_
    obtain ⟨z37, y37, h⟩ := xbind h
    refine x_callV (t_hA_X6_place 8 _ _ _ _ _ _ _ _ _ _ _ _ _ _ _ _ _ _ _ _ _ _ _ _ _ _ _ _ _ _ _ _ _ _ _ _ _ _ _ _ _ _ _ _ _ _ _ _ _ _ _ _ _ _ _ _ _ _ _ _ _ _ _ _ _ _ _ _ _ _ _ _ _ _ _ _ _ _ _ _ _ _ _ x3 (0 : Int32) (0 : Int32) z37 y37 (d + 0)) kX6_46 dX6_seat_37 rfl rfl rfl rfl rfl (Nat.le_of_ble_eq_true rfl) (Nat.le_of_ble_eq_true rfl) rfl rfl (Or.inl rfl) ?_
    refine x_aload_n dX6_seat_40 rfl ?_
    refine x_get fX6_24 dX6_seat_41 rfl rfl rfl ?_
    obtain ⟨-, q44, h⟩ := xbo_of h
    cases h
    exact x_zret2 dX6_seat_44 rfl q44 rfl
noncomputable def e_hA_X7_answer (p0 : Int32) (x1 : Int32) : Option (Int32 × Int32) :=
  some (x1, (0 : Int32))
set_option maxRecDepth 100000 in
set_option maxHeartbeats 4000000 in
theorem t_hA_X7_answer {g0 g1 g2 g3 g4 g5 g6 g7 g8 g9 g10 g11 g12 g13 g14 g15 g16 g17 g18 g19 g20 g21 g22 g23 g24 g25 g26 g27 g28 g29 g30 g31 g32 g33 g34 g35 g36 : Int32} {a0 a1 a2 a3 a4 a5 a6 a7 a8 a9 a10 a11 a12 a13 a14 a15 a16 a17 a18 a19 a20 a21 a22 a23 a24 a25 a26 a27 a28 a29 a30 a31 a32 a33 a34 a35 a36 a37 a38 a39 : (Nat → Int32)} {b0 b1 b2 b3 b4 : (Nat → Int64)} {w0 : Int64} (x1 : Int32) (res : Int32 × Int32) (h : e_hA_X7_answer g34 x1 = some res) (d : Nat) : xMet xks YX7_answer (d + 1) 0 0 [.ref 0, .int x1] (hA g0 g1 g2 g3 g4 g5 g6 g7 g8 g9 g10 g11 g12 g13 g14 g15 g16 g17 g18 g19 g20 g21 g22 g23 g24 g25 g26 g27 g28 g29 g30 g31 g32 g33 g34 g35 g36 a0 a1 a2 a3 a4 a5 a6 a7 a8 a9 a10 a11 a12 a13 a14 a15 a16 a17 a18 a19 a20 a21 a22 a23 a24 a25 a26 a27 a28 a29 a30 a31 a32 a33 a34 a35 a36 a37 a38 a39 b0 b1 b2 b3 b4 w0 (.ref 19) (.ref 1)) (some (.int res.1)) (hA g0 g1 g2 g3 g4 g5 g6 g7 g8 g9 g10 g11 g12 g13 g14 g15 g16 g17 g18 g19 g20 g21 g22 g23 g24 g25 g26 g27 g28 g29 g30 g31 g32 g33 res.2 g35 g36 a0 a1 a2 a3 a4 a5 a6 a7 a8 a9 a10 a11 a12 a13 a14 a15 a16 a17 a18 a19 a20 a21 a22 a23 a24 a25 a26 a27 a28 a29 a30 a31 a32 a33 a34 a35 a36 a37 a38 a39 b0 b1 b2 b3 b4 w0 (.ref 19) (.ref 1)) := by
  unfold e_hA_X7_answer at h
  refine xMet_of (pl := [some (.ref 0), some (.int x1)]) (by decide) (Nat.le_of_ble_eq_true rfl) rfl (Nat.le_of_ble_eq_true rfl) ?_
  refine x_aload_n dX7_answer_0 rfl ?_
  refine x_iconst (0 : Int32) dX7_answer_1 (by decide) ?_
  refine x_put (h2 := (hA g0 g1 g2 g3 g4 g5 g6 g7 g8 g9 g10 g11 g12 g13 g14 g15 g16 g17 g18 g19 g20 g21 g22 g23 g24 g25 g26 g27 g28 g29 g30 g31 g32 g33 (0 : Int32) g35 g36 a0 a1 a2 a3 a4 a5 a6 a7 a8 a9 a10 a11 a12 a13 a14 a15 a16 a17 a18 a19 a20 a21 a22 a23 a24 a25 a26 a27 a28 a29 a30 a31 a32 a33 a34 a35 a36 a37 a38 a39 b0 b1 b2 b3 b4 w0 (.ref 19) (.ref 1))) fX7_30 dX7_answer_2 rfl rfl (Nat.le_of_ble_eq_true rfl : 4 + 1 ≤ _) (fun α => ⟨rfl, rfl⟩) rfl ?_
  refine x_iload_n dX7_answer_5 rfl ?_
  cases h
  exact x_iret2 dX7_answer_6 rfl rfl
noncomputable def e_hA_X7_refuse (p0 : Int32) (x1 : Int32) : Option (Int32 × Int32) :=
  some ((-1 : Int32), x1)
set_option maxRecDepth 100000 in
set_option maxHeartbeats 4000000 in
theorem t_hA_X7_refuse {g0 g1 g2 g3 g4 g5 g6 g7 g8 g9 g10 g11 g12 g13 g14 g15 g16 g17 g18 g19 g20 g21 g22 g23 g24 g25 g26 g27 g28 g29 g30 g31 g32 g33 g34 g35 g36 : Int32} {a0 a1 a2 a3 a4 a5 a6 a7 a8 a9 a10 a11 a12 a13 a14 a15 a16 a17 a18 a19 a20 a21 a22 a23 a24 a25 a26 a27 a28 a29 a30 a31 a32 a33 a34 a35 a36 a37 a38 a39 : (Nat → Int32)} {b0 b1 b2 b3 b4 : (Nat → Int64)} {w0 : Int64} (x1 : Int32) (res : Int32 × Int32) (h : e_hA_X7_refuse g34 x1 = some res) (d : Nat) : xMet xks YX7_refuse (d + 1) 0 0 [.ref 0, .int x1] (hA g0 g1 g2 g3 g4 g5 g6 g7 g8 g9 g10 g11 g12 g13 g14 g15 g16 g17 g18 g19 g20 g21 g22 g23 g24 g25 g26 g27 g28 g29 g30 g31 g32 g33 g34 g35 g36 a0 a1 a2 a3 a4 a5 a6 a7 a8 a9 a10 a11 a12 a13 a14 a15 a16 a17 a18 a19 a20 a21 a22 a23 a24 a25 a26 a27 a28 a29 a30 a31 a32 a33 a34 a35 a36 a37 a38 a39 b0 b1 b2 b3 b4 w0 (.ref 19) (.ref 1)) (some (.int res.1)) (hA g0 g1 g2 g3 g4 g5 g6 g7 g8 g9 g10 g11 g12 g13 g14 g15 g16 g17 g18 g19 g20 g21 g22 g23 g24 g25 g26 g27 g28 g29 g30 g31 g32 g33 res.2 g35 g36 a0 a1 a2 a3 a4 a5 a6 a7 a8 a9 a10 a11 a12 a13 a14 a15 a16 a17 a18 a19 a20 a21 a22 a23 a24 a25 a26 a27 a28 a29 a30 a31 a32 a33 a34 a35 a36 a37 a38 a39 b0 b1 b2 b3 b4 w0 (.ref 19) (.ref 1)) := by
  unfold e_hA_X7_refuse at h
  refine xMet_of (pl := [some (.ref 0), some (.int x1)]) (by decide) (Nat.le_of_ble_eq_true rfl) rfl (Nat.le_of_ble_eq_true rfl) ?_
  refine x_aload_n dX7_refuse_0 rfl ?_
  refine x_iload_n dX7_refuse_1 rfl ?_
  refine x_put (h2 := (hA g0 g1 g2 g3 g4 g5 g6 g7 g8 g9 g10 g11 g12 g13 g14 g15 g16 g17 g18 g19 g20 g21 g22 g23 g24 g25 g26 g27 g28 g29 g30 g31 g32 g33 x1 g35 g36 a0 a1 a2 a3 a4 a5 a6 a7 a8 a9 a10 a11 a12 a13 a14 a15 a16 a17 a18 a19 a20 a21 a22 a23 a24 a25 a26 a27 a28 a29 a30 a31 a32 a33 a34 a35 a36 a37 a38 a39 b0 b1 b2 b3 b4 w0 (.ref 19) (.ref 1))) fX7_30 dX7_refuse_2 rfl rfl (Nat.le_of_ble_eq_true rfl : 4 + 1 ≤ _) (fun α => ⟨rfl, rfl⟩) rfl ?_
  refine x_iconst (-1 : Int32) dX7_refuse_5 (by decide) ?_
  cases h
  exact x_iret2 dX7_refuse_6 rfl rfl
noncomputable def e_hA_X7_party (p0 : Int32) (p1 : Int32) (p2 : Int32) (p3 : Int32) (p4 : (Nat → Int32)) (p5 : (Nat → Int32)) (p6 : (Nat → Int32)) (p7 : (Nat → Int32)) (p8 : (Nat → Int32)) (p9 : (Nat → Int32)) (p10 : (Nat → Int32)) (p11 : (Nat → Int32)) (p12 : Int32) (x1 : Int32) : Option (Int32 × Int32 × Int32 × (Nat → Int32) × (Nat → Int32) × (Nat → Int32) × (Nat → Int32) × Int32) :=
  ((e_hA_X7_arePeople p0 x1).bind fun z2 => if z2 = (0 : Int32) then ((e_hA_X7_refuse p12 (1 : Int32)).bind fun z10 => some (z10.1, p1, p2, p5, p7, p11, p10, z10.2)) else ((e_hA_X6_seat p1 p2 p3 p4 p5 p6 p7 p8 p9 p0 p10 p11 x1).bind fun z28 => if z28.1 = (0 : Int32) then ((e_hA_X7_answer p12 (-2 : Int32)).bind fun z46 => some (z46.1, z28.2.1, z28.2.2.1, z28.2.2.2.1, z28.2.2.2.2.1, z28.2.2.2.2.2.1, z28.2.2.2.2.2.2, z46.2)) else ((e_hA_X7_answer p12 z28.2.2.1).bind fun z46 => some (z46.1, z28.2.1, z28.2.2.1, z28.2.2.2.1, z28.2.2.2.2.1, z28.2.2.2.2.2.1, z28.2.2.2.2.2.2, z46.2))))
set_option maxRecDepth 100000 in
set_option maxHeartbeats 4000000 in
theorem t_hA_X7_party {g0 g1 g2 g3 g4 g5 g6 g7 g8 g9 g10 g11 g12 g13 g14 g15 g16 g17 g18 g19 g20 g21 g22 g23 g24 g25 g26 g27 g28 g29 g30 g31 g32 g33 g34 g35 g36 : Int32} {a0 a1 a2 a3 a4 a5 a6 a7 a8 a9 a10 a11 a12 a13 a14 a15 a16 a17 a18 a19 a20 a21 a22 a23 a24 a25 a26 a27 a28 a29 a30 a31 a32 a33 a34 a35 a36 a37 a38 a39 : (Nat → Int32)} {b0 b1 b2 b3 b4 : (Nat → Int64)} {w0 : Int64} (x1 : Int32) (res : Int32 × Int32 × Int32 × (Nat → Int32) × (Nat → Int32) × (Nat → Int32) × (Nat → Int32) × Int32) (h : e_hA_X7_party g3 g28 g29 g4 a27 a34 a3 a37 a28 a2 a35 a36 g34 x1 = some res) (d : Nat) : xMet xks YX7_party (d + 11) 0 0 [.ref 0, .int x1] (hA g0 g1 g2 g3 g4 g5 g6 g7 g8 g9 g10 g11 g12 g13 g14 g15 g16 g17 g18 g19 g20 g21 g22 g23 g24 g25 g26 g27 g28 g29 g30 g31 g32 g33 g34 g35 g36 a0 a1 a2 a3 a4 a5 a6 a7 a8 a9 a10 a11 a12 a13 a14 a15 a16 a17 a18 a19 a20 a21 a22 a23 a24 a25 a26 a27 a28 a29 a30 a31 a32 a33 a34 a35 a36 a37 a38 a39 b0 b1 b2 b3 b4 w0 (.ref 19) (.ref 1)) (some (.int res.1)) (hA g0 g1 g2 g3 g4 g5 g6 g7 g8 g9 g10 g11 g12 g13 g14 g15 g16 g17 g18 g19 g20 g21 g22 g23 g24 g25 g26 g27 res.2.1 res.2.2.1 g30 g31 g32 g33 res.2.2.2.2.2.2.2 g35 g36 a0 a1 a2 a3 a4 a5 a6 a7 a8 a9 a10 a11 a12 a13 a14 a15 a16 a17 a18 a19 a20 a21 a22 a23 a24 a25 a26 a27 a28 a29 a30 a31 a32 a33 res.2.2.2.1 res.2.2.2.2.2.2.1 res.2.2.2.2.2.1 res.2.2.2.2.1 a38 a39 b0 b1 b2 b3 b4 w0 (.ref 19) (.ref 1)) := by
  unfold e_hA_X7_party at h
  refine xMet_of (pl := [some (.ref 0), some (.int x1)]) (by decide) (Nat.le_of_ble_eq_true rfl) rfl (Nat.le_of_ble_eq_true rfl) ?_
  refine x_aload_n dX7_party_0 rfl ?_
  refine x_iload_n dX7_party_1 rfl ?_
  obtain ⟨z2, y2, h⟩ := xbind h
  refine x_callV (t_hA_X7_arePeople x1 z2 y2 (d + 9)) kX7_204 dX7_party_2 rfl rfl rfl rfl rfl (Nat.le_of_ble_eq_true rfl) (Nat.le_of_ble_eq_true rfl) rfl rfl (Or.inl rfl) ?_
  refine x_if_ne 14 dX7_party_5 (by decide) (fun q => ?_) (fun q => ?_)
  · have h := xif_f q h
    refine x_aload_n dX7_party_14 rfl ?_
    refine x_aload_n dX7_party_15 rfl ?_
    refine x_get fX7_53 dX7_party_16 rfl rfl rfl ?_
    refine x_aload_n dX7_party_19 rfl ?_
    refine x_get fX7_10 dX7_party_20 rfl rfl rfl ?_
    refine x_aload_n dX7_party_23 rfl ?_
    refine x_get fX7_36 dX7_party_24 rfl rfl rfl ?_
    refine x_iload_n dX7_party_27 rfl ?_
    obtain ⟨z28, y28, h⟩ := xbind h
    refine x_callV (t_hA_X6_seat x1 z28 y28 (d + 0)) kX7_207 dX7_party_28 rfl rfl rfl rfl rfl (Nat.le_of_ble_eq_true rfl) (Nat.le_of_ble_eq_true rfl) rfl rfl (Or.inl rfl) ?_
    refine x_if_eq 44 dX7_party_31 (by decide) (fun q => ?_) (fun q => ?_)
    · have h := xif_t q h
      refine x_bipush (-2 : Int32) dX7_party_44 (by decide) ?_
      obtain ⟨z46, y46, h⟩ := xbind h
      refine x_callV (t_hA_X7_answer (-2 : Int32) z46 y46 (d + 9)) kX7_110 dX7_party_46 rfl rfl rfl rfl rfl (Nat.le_of_ble_eq_true rfl) (Nat.le_of_ble_eq_true rfl) rfl rfl (Or.inl rfl) ?_
      cases h
      exact x_iret2 dX7_party_49 rfl rfl
    · have h := xif_f q h
      refine x_aload_n dX7_party_34 rfl ?_
      refine x_get fX7_53 dX7_party_35 rfl rfl rfl ?_
      refine x_get fX7_211 dX7_party_38 rfl rfl rfl ?_
      refine x_goto 46 dX7_party_41 (by decide) ?_
      obtain ⟨z46, y46, h⟩ := xbind h
      refine x_callV (t_hA_X7_answer z28.2.2.1 z46 y46 (d + 9)) kX7_110 dX7_party_46 rfl rfl rfl rfl rfl (Nat.le_of_ble_eq_true rfl) (Nat.le_of_ble_eq_true rfl) rfl rfl (Or.inl rfl) ?_
      cases h
      exact x_iret2 dX7_party_49 rfl rfl
  · have h := xif_t q h
    refine x_aload_n dX7_party_8 rfl ?_
    refine x_iconst (1 : Int32) dX7_party_9 (by decide) ?_
    obtain ⟨z10, y10, h⟩ := xbind h
    refine x_callV (t_hA_X7_refuse (1 : Int32) z10 y10 (d + 9)) kX7_84 dX7_party_10 rfl rfl rfl rfl rfl (Nat.le_of_ble_eq_true rfl) (Nat.le_of_ble_eq_true rfl) rfl rfl (Or.inl rfl) ?_
    cases h
    exact x_iret2 dX7_party_13 rfl rfl
