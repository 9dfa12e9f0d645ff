noncomputable def e_hA_X7_undo (p0 : Int32) (p1 : (Nat → Int64)) (p2 : Int32) (p3 : (Nat → Int32)) (p4 : (Nat → Int32)) (p5 : Int32)  : Option (Int32 × Int32 × Int32 × (Nat → Int32) × (Nat → Int32) × Int32) :=
  if (0 : Int32) < p0 then (xix (p0 - (1 : Int32)) 16 ((e_hA_X3_unpack_2 p2 p3 p4 (p1 (p0 - (1 : Int32)).toNatClampNeg)).bind fun z37 => (e_hA_X7_grant p5).bind fun z41 => xbo z41.1 (some (z41.1, (p0 - (1 : Int32)), z37.1, z37.2.1, z37.2.2, z41.2)))) else ((e_hA_X7_deny p5 (6 : Int32)).bind fun z10 => xbo z10.1 (some (z10.1, p0, p2, p3, p4, z10.2)))
set_option maxRecDepth 100000 in
set_option maxHeartbeats 4000000 in
theorem t_hA_X7_undo {g0 g1 g2 g3 g4 g5 g6 g7 g8 g9 g10 g11 g12 g13 g14 g15 g16 g17 g18 g19 g20 g21 g22 g23 g24 g25 g26 g27 g28 g29 g30 g31 g32 g33 g34 g35 g36 : Int32} {a0 a1 a2 a3 a4 a5 a6 a7 a8 a9 a10 a11 a12 a13 a14 a15 a16 a17 a18 a19 a20 a21 a22 a23 a24 a25 a26 a27 a28 a29 a30 a31 a32 a33 a34 a35 a36 a37 a38 a39 : (Nat → Int32)} {b0 b1 b2 b3 b4 : (Nat → Int64)} {w0 : Int64}  (res : Int32 × Int32 × Int32 × (Nat → Int32) × (Nat → Int32) × Int32) (h : e_hA_X7_undo g35 b3 g22 a28 a27 g34  = some res) (d : Nat) : xMet xks YX7_undo (d + 2) 0 0 [.ref 0] (hA g0 g1 g2 g3 g4 g5 g6 g7 g8 g9 g10 g11 g12 g13 g14 g15 g16 g17 g18 g19 g20 g21 g22 g23 g24 g25 g26 g27 g28 g29 g30 g31 g32 g33 g34 g35 g36 a0 a1 a2 a3 a4 a5 a6 a7 a8 a9 a10 a11 a12 a13 a14 a15 a16 a17 a18 a19 a20 a21 a22 a23 a24 a25 a26 a27 a28 a29 a30 a31 a32 a33 a34 a35 a36 a37 a38 a39 b0 b1 b2 b3 b4 w0 (.ref 19) (.ref 1)) (some (.int res.1)) (hA g0 g1 g2 g3 g4 g5 g6 g7 g8 g9 g10 g11 g12 g13 g14 g15 g16 g17 g18 g19 g20 g21 res.2.2.1 g23 g24 g25 g26 g27 g28 g29 g30 g31 g32 g33 res.2.2.2.2.2 res.2.1 g36 a0 a1 a2 a3 a4 a5 a6 a7 a8 a9 a10 a11 a12 a13 a14 a15 a16 a17 a18 a19 a20 a21 a22 a23 a24 a25 a26 res.2.2.2.2.1 res.2.2.2.1 a29 a30 a31 a32 a33 a34 a35 a36 a37 a38 a39 b0 b1 b2 b3 b4 w0 (.ref 19) (.ref 1)) := by
  unfold e_hA_X7_undo at h
  refine xMet_of (pl := [some (.ref 0)]) (by decide) (Nat.le_of_ble_eq_true rfl) rfl (Nat.le_of_ble_eq_true rfl) ?_
  refine x_aload_n dX7_undo_0 rfl ?_
  refine x_get fX7_68 dX7_undo_1 rfl rfl rfl ?_
  refine x_if_gt 14 dX7_undo_4 (by decide) (fun q => ?_) (fun q => ?_)
  · have h := xif_t q h
    refine x_aload_n dX7_undo_14 rfl ?_
    refine x_dup dX7_undo_15 rfl ?_
    refine x_get fX7_68 dX7_undo_16 rfl rfl rfl ?_
    refine x_iconst (1 : Int32) dX7_undo_19 (by decide) ?_
    refine x_isub dX7_undo_20 ?_
    refine x_put (h2 := (hA g0 g1 g2 g3 g4 g5 g6 g7 g8 g9 g10 g11 g12 g13 g14 g15 g16 g17 g18 g19 g20 g21 g22 g23 g24 g25 g26 g27 g28 g29 g30 g31 g32 g33 g34 (g35 - (1 : Int32)) g36 a0 a1 a2 a3 a4 a5 a6 a7 a8 a9 a10 a11 a12 a13 a14 a15 a16 a17 a18 a19 a20 a21 a22 a23 a24 a25 a26 a27 a28 a29 a30 a31 a32 a33 a34 a35 a36 a37 a38 a39 b0 b1 b2 b3 b4 w0 (.ref 19) (.ref 1))) fX7_68 dX7_undo_21 rfl rfl (Nat.le_of_ble_eq_true rfl : 11 + 1 ≤ _) (fun α => ⟨rfl, rfl⟩) rfl ?_
    refine x_aload_n dX7_undo_24 rfl ?_
    refine x_get fX7_36 dX7_undo_25 rfl rfl rfl ?_
    refine x_aload_n dX7_undo_28 rfl ?_
    refine x_get fX7_64 dX7_undo_29 rfl rfl rfl ?_
    refine x_aload_n dX7_undo_32 rfl ?_
    refine x_get fX7_68 dX7_undo_33 rfl rfl rfl ?_
    obtain ⟨q36, h⟩ := xix_of h
    refine x_lald dX7_undo_36 rfl q36 ?_
    obtain ⟨z37, y37, h⟩ := xbind h
    refine x_callV (t_hA_X3_unpack_2 (b3 (g35 - (1 : Int32)).toNatClampNeg) z37 y37 (d + 0)) kX7_279 dX7_undo_37 rfl rfl rfl rfl rfl (Nat.le_of_ble_eq_true rfl) (Nat.le_of_ble_eq_true rfl) rfl rfl (Or.inl rfl) ?_
    refine x_aload_n dX7_undo_40 rfl ?_
    obtain ⟨z41, y41, h⟩ := xbind h
    refine x_callV (t_hA_X7_grant  z41 y41 (d + 0)) kX7_273 dX7_undo_41 rfl rfl rfl rfl rfl (Nat.le_of_ble_eq_true rfl) (Nat.le_of_ble_eq_true rfl) rfl rfl (Or.inl rfl) ?_
    obtain ⟨-, q44, h⟩ := xbo_of h
    cases h
    exact x_zret2 dX7_undo_44 rfl q44 rfl
  · have h := xif_f q h
    refine x_aload_n dX7_undo_7 rfl ?_
    refine x_bipush (6 : Int32) dX7_undo_8 (by decide) ?_
    obtain ⟨z10, y10, h⟩ := xbind h
    refine x_callV (t_hA_X7_deny (6 : Int32) z10 y10 (d + 0)) kX7_267 dX7_undo_10 rfl rfl rfl rfl rfl (Nat.le_of_ble_eq_true rfl) (Nat.le_of_ble_eq_true rfl) rfl rfl (Or.inl rfl) ?_
    obtain ⟨-, q13, h⟩ := xbo_of h
    cases h
    exact x_zret2 dX7_undo_13 rfl q13 rfl
noncomputable def e_hA_X7_mark (p0 : Int32) (p1 : Int32) (p2 : Int32) (p3 : (Nat → Int32)) (p4 : (Nat → Int32)) (p5 : (Nat → Int64)) (p6 : Int32)  : Option (Int32 × (Nat → Int64) × Int32 × Int32) :=
  ((e_hA_X7_isTold p0).bind fun z1 => if z1 = (0 : Int32) then ((e_hA_X7_refuse p6 (1 : Int32)).bind fun z9 => some (z9.1, p5, p1, z9.2)) else if p1 < (3 : Int32) then ((e_hA_X3_packed p2 p3 p4).bind fun z39 => xix p1 3 ((e_hA_X7_answer p6 ((p1 + (1 : Int32)) - (1 : Int32))).bind fun z60 => some (z60.1, (vp_updL p5 p1.toNatClampNeg z39), (p1 + (1 : Int32)), z60.2))) else ((e_hA_X7_refuse p6 (3 : Int32)).bind fun z23 => some (z23.1, p5, p1, z23.2)))
set_option maxRecDepth 100000 in
set_option maxHeartbeats 4000000 in
theorem t_hA_X7_mark {g0 g1 g2 g3 g4 g5 g6 g7 g8 g9 g10 g11 g12 g13 g14 g15 g16 g17 g18 g19 g20 g21 g22 g23 g24 g25 g26 g27 g28 g29 g30 g31 g32 g33 g34 g35 g36 : Int32} {a0 a1 a2 a3 a4 a5 a6 a7 a8 a9 a10 a11 a12 a13 a14 a15 a16 a17 a18 a19 a20 a21 a22 a23 a24 a25 a26 a27 a28 a29 a30 a31 a32 a33 a34 a35 a36 a37 a38 a39 : (Nat → Int32)} {b0 b1 b2 b3 b4 : (Nat → Int64)} {w0 : Int64}  (res : Int32 × (Nat → Int64) × Int32 × Int32) (h : e_hA_X7_mark g4 g36 g22 a27 a28 b4 g34  = some res) (d : Nat) : xMet xks YX7_mark (d + 2) 0 0 [.ref 0] (hA g0 g1 g2 g3 g4 g5 g6 g7 g8 g9 g10 g11 g12 g13 g14 g15 g16 g17 g18 g19 g20 g21 g22 g23 g24 g25 g26 g27 g28 g29 g30 g31 g32 g33 g34 g35 g36 a0 a1 a2 a3 a4 a5 a6 a7 a8 a9 a10 a11 a12 a13 a14 a15 a16 a17 a18 a19 a20 a21 a22 a23 a24 a25 a26 a27 a28 a29 a30 a31 a32 a33 a34 a35 a36 a37 a38 a39 b0 b1 b2 b3 b4 w0 (.ref 19) (.ref 1)) (some (.int res.1)) (hA g0 g1 g2 g3 g4 g5 g6 g7 g8 g9 g10 g11 g12 g13 g14 g15 g16 g17 g18 g19 g20 g21 g22 g23 g24 g25 g26 g27 g28 g29 g30 g31 g32 g33 res.2.2.2 g35 res.2.2.1 a0 a1 a2 a3 a4 a5 a6 a7 a8 a9 a10 a11 a12 a13 a14 a15 a16 a17 a18 a19 a20 a21 a22 a23 a24 a25 a26 a27 a28 a29 a30 a31 a32 a33 a34 a35 a36 a37 a38 a39 b0 b1 b2 b3 res.2.1 w0 (.ref 19) (.ref 1)) := by
  unfold e_hA_X7_mark at h
  refine xMet_of (pl := [some (.ref 0)]) (by decide) (Nat.le_of_ble_eq_true rfl) rfl (Nat.le_of_ble_eq_true rfl) ?_
  refine x_aload_n dX7_mark_0 rfl ?_
  obtain ⟨z1, y1, h⟩ := xbind h
  refine x_callV (t_hA_X7_isTold  z1 y1 (d + 0)) kX7_149 dX7_mark_1 rfl rfl rfl rfl rfl (Nat.le_of_ble_eq_true rfl) (Nat.le_of_ble_eq_true rfl) rfl rfl (Or.inl rfl) ?_
  refine x_if_ne 13 dX7_mark_4 (by decide) (fun q => ?_) (fun q => ?_)
  · have h := xif_f q h
    refine x_aload_n dX7_mark_13 rfl ?_
    refine x_get fX7_74 dX7_mark_14 rfl rfl rfl ?_
    refine x_iconst (3 : Int32) dX7_mark_17 (by decide) ?_
    refine x_icmp_lt 27 dX7_mark_18 (by decide) (fun q => ?_) (fun q => ?_)
    · have h := xif_t q h
      refine x_aload_n dX7_mark_27 rfl ?_
      refine x_get fX7_71 dX7_mark_28 rfl rfl rfl ?_
      refine x_aload_n dX7_mark_31 rfl ?_
      refine x_get fX7_74 dX7_mark_32 rfl rfl rfl ?_
      refine x_aload_n dX7_mark_35 rfl ?_
      refine x_get fX7_36 dX7_mark_36 rfl rfl rfl ?_
      obtain ⟨z39, y39, h⟩ := xbind h
      refine x_callV (t_hA_X3_packed_2  z39 y39 (d + 0)) kX7_283 dX7_mark_39 rfl rfl rfl rfl rfl (Nat.le_of_ble_eq_true rfl) (Nat.le_of_ble_eq_true rfl) rfl rfl (Or.inl rfl) ?_
      obtain ⟨q42, h⟩ := xix_of h
      refine x_last (h2 := (hA g0 g1 g2 g3 g4 g5 g6 g7 g8 g9 g10 g11 g12 g13 g14 g15 g16 g17 g18 g19 g20 g21 g22 g23 g24 g25 g26 g27 g28 g29 g30 g31 g32 g33 g34 g35 g36 a0 a1 a2 a3 a4 a5 a6 a7 a8 a9 a10 a11 a12 a13 a14 a15 a16 a17 a18 a19 a20 a21 a22 a23 a24 a25 a26 a27 a28 a29 a30 a31 a32 a33 a34 a35 a36 a37 a38 a39 b0 b1 b2 b3 (vp_updL b4 g36.toNatClampNeg z39) w0 (.ref 19) (.ref 1))) dX7_mark_42 rfl q42 rfl ?_
      refine x_aload_n dX7_mark_43 rfl ?_
      refine x_dup dX7_mark_44 rfl ?_
      refine x_get fX7_74 dX7_mark_45 rfl rfl rfl ?_
      refine x_iconst (1 : Int32) dX7_mark_48 (by decide) ?_
      refine x_iadd dX7_mark_49 ?_
      refine x_put (h2 := (hA g0 g1 g2 g3 g4 g5 g6 g7 g8 g9 g10 g11 g12 g13 g14 g15 g16 g17 g18 g19 g20 g21 g22 g23 g24 g25 g26 g27 g28 g29 g30 g31 g32 g33 g34 g35 (g36 + (1 : Int32)) a0 a1 a2 a3 a4 a5 a6 a7 a8 a9 a10 a11 a12 a13 a14 a15 a16 a17 a18 a19 a20 a21 a22 a23 a24 a25 a26 a27 a28 a29 a30 a31 a32 a33 a34 a35 a36 a37 a38 a39 b0 b1 b2 b3 (vp_updL b4 g36.toNatClampNeg z39) w0 (.ref 19) (.ref 1))) fX7_74 dX7_mark_50 rfl rfl (Nat.le_of_ble_eq_true rfl : 13 + 1 ≤ _) (fun α => ⟨rfl, rfl⟩) rfl ?_
      refine x_aload_n dX7_mark_53 rfl ?_
      refine x_aload_n dX7_mark_54 rfl ?_
      refine x_get fX7_74 dX7_mark_55 rfl rfl rfl ?_
      refine x_iconst (1 : Int32) dX7_mark_58 (by decide) ?_
      refine x_isub dX7_mark_59 ?_
      obtain ⟨z60, y60, h⟩ := xbind h
      refine x_callV (t_hA_X7_answer_2 ((g36 + (1 : Int32)) - (1 : Int32)) z60 y60 (d + 0)) kX7_110 dX7_mark_60 rfl rfl rfl rfl rfl (Nat.le_of_ble_eq_true rfl) (Nat.le_of_ble_eq_true rfl) rfl rfl (Or.inl rfl) ?_
      cases h
      exact x_iret2 dX7_mark_63 rfl rfl
    · have h := xif_f q h
      refine x_aload_n dX7_mark_21 rfl ?_
      refine x_iconst (3 : Int32) dX7_mark_22 (by decide) ?_
      obtain ⟨z23, y23, h⟩ := xbind h
      refine x_callV (t_hA_X7_refuse (3 : Int32) z23 y23 (d + 0)) kX7_84 dX7_mark_23 rfl rfl rfl rfl rfl (Nat.le_of_ble_eq_true rfl) (Nat.le_of_ble_eq_true rfl) rfl rfl (Or.inl rfl) ?_
      cases h
      exact x_iret2 dX7_mark_26 rfl rfl
  · have h := xif_t q h
    refine x_aload_n dX7_mark_7 rfl ?_
    refine x_iconst (1 : Int32) dX7_mark_8 (by decide) ?_
    obtain ⟨z9, y9, h⟩ := xbind h
    refine x_callV (t_hA_X7_refuse (1 : Int32) z9 y9 (d + 0)) kX7_84 dX7_mark_9 rfl rfl rfl rfl rfl (Nat.le_of_ble_eq_true rfl) (Nat.le_of_ble_eq_true rfl) rfl rfl (Or.inl rfl) ?_
    cases h
    exact x_iret2 dX7_mark_12 rfl rfl
noncomputable def e_hA_X7_back (p0 : Int32) (p1 : Int32) (p2 : (Nat → Int64)) (p3 : Int32) (p4 : (Nat → Int32)) (p5 : (Nat → Int32)) (p6 : Int32) (x1 : Int32) : Option (Int32 × Int32 × Int32 × (Nat → Int32) × (Nat → Int32) × Int32) :=
  if x1 < (0 : Int32) then ((e_hA_X7_deny p0 (1 : Int32)).bind fun z14 => xbo z14.1 (some (z14.1, z14.2, p3, p4, p5, p6))) else if x1 < p1 then (xix x1 3 ((e_hA_X3_unpack_2 p3 p4 p5 (p2 x1.toNatClampNeg)).bind fun z28 => (e_hA_X7_grant p0).bind fun z37 => xbo z37.1 (some (z37.1, z37.2, z28.1, z28.2.1, z28.2.2, (0 : Int32))))) else ((e_hA_X7_deny p0 (1 : Int32)).bind fun z14 => xbo z14.1 (some (z14.1, z14.2, p3, p4, p5, p6)))
set_option maxRecDepth 100000 in
set_option maxHeartbeats 4000000 in
theorem t_hA_X7_back {g0 g1 g2 g3 g4 g5 g6 g7 g8 g9 g10 g11 g12 g13 g14 g15 g16 g17 g18 g19 g20 g21 g22 g23 g24 g25 g26 g27 g28 g29 g30 g31 g32 g33 g34 g35 g36 : Int32} {a0 a1 a2 a3 a4 a5 a6 a7 a8 a9 a10 a11 a12 a13 a14 a15 a16 a17 a18 a19 a20 a21 a22 a23 a24 a25 a26 a27 a28 a29 a30 a31 a32 a33 a34 a35 a36 a37 a38 a39 : (Nat → Int32)} {b0 b1 b2 b3 b4 : (Nat → Int64)} {w0 : Int64} (x1 : Int32) (res : Int32 × Int32 × Int32 × (Nat → Int32) × (Nat → Int32) × Int32) (h : e_hA_X7_back g34 g36 b4 g22 a28 a27 g35 x1 = some res) (d : Nat) : xMet xks YX7_back (d + 2) 0 0 [.ref 0, .int x1] (hA g0 g1 g2 g3 g4 g5 g6 g7 g8 g9 g10 g11 g12 g13 g14 g15 g16 g17 g18 g19 g20 g21 g22 g23 g24 g25 g26 g27 g28 g29 g30 g31 g32 g33 g34 g35 g36 a0 a1 a2 a3 a4 a5 a6 a7 a8 a9 a10 a11 a12 a13 a14 a15 a16 a17 a18 a19 a20 a21 a22 a23 a24 a25 a26 a27 a28 a29 a30 a31 a32 a33 a34 a35 a36 a37 a38 a39 b0 b1 b2 b3 b4 w0 (.ref 19) (.ref 1)) (some (.int res.1)) (hA g0 g1 g2 g3 g4 g5 g6 g7 g8 g9 g10 g11 g12 g13 g14 g15 g16 g17 g18 g19 g20 g21 res.2.2.1 g23 g24 g25 g26 g27 g28 g29 g30 g31 g32 g33 res.2.1 res.2.2.2.2.2 g36 a0 a1 a2 a3 a4 a5 a6 a7 a8 a9 a10 a11 a12 a13 a14 a15 a16 a17 a18 a19 a20 a21 a22 a23 a24 a25 a26 res.2.2.2.2.1 res.2.2.2.1 a29 a30 a31 a32 a33 a34 a35 a36 a37 a38 a39 b0 b1 b2 b3 b4 w0 (.ref 19) (.ref 1)) := by
  unfold e_hA_X7_back at h
  refine xMet_of (pl := [some (.ref 0), some (.int x1)]) (by decide) (Nat.le_of_ble_eq_true rfl) rfl (Nat.le_of_ble_eq_true rfl) ?_
  refine x_iload_n dX7_back_0 rfl ?_
  refine x_if_lt 12 dX7_back_1 (by decide) (fun q => ?_) (fun q => ?_)
  · have h := xif_t q h
    refine x_aload_n dX7_back_12 rfl ?_
    refine x_iconst (1 : Int32) dX7_back_13 (by decide) ?_
    obtain ⟨z14, y14, h⟩ := xbind h
    refine x_callV (t_hA_X7_deny (1 : Int32) z14 y14 (d + 0)) kX7_267 dX7_back_14 rfl rfl rfl rfl rfl (Nat.le_of_ble_eq_true rfl) (Nat.le_of_ble_eq_true rfl) rfl rfl (Or.inl rfl) ?_
    obtain ⟨-, q17, h⟩ := xbo_of h
    cases h
    exact x_zret2 dX7_back_17 rfl q17 rfl
  · have h := xif_f q h
    refine x_iload_n dX7_back_4 rfl ?_
    refine x_aload_n dX7_back_5 rfl ?_
    refine x_get fX7_74 dX7_back_6 rfl rfl rfl ?_
    refine x_icmp_lt 18 dX7_back_9 (by decide) (fun q => ?_) (fun q => ?_)
    · have h := xif_t q h
      refine x_aload_n dX7_back_18 rfl ?_
      refine x_get fX7_36 dX7_back_19 rfl rfl rfl ?_
      refine x_aload_n dX7_back_22 rfl ?_
      refine x_get fX7_71 dX7_back_23 rfl rfl rfl ?_
      refine x_iload_n dX7_back_26 rfl ?_
      obtain ⟨q27, h⟩ := xix_of h
      refine x_lald dX7_back_27 rfl q27 ?_
      obtain ⟨z28, y28, h⟩ := xbind h
      refine x_callV (t_hA_X3_unpack_2 (b4 x1.toNatClampNeg) z28 y28 (d + 0)) kX7_279 dX7_back_28 rfl rfl rfl rfl rfl (Nat.le_of_ble_eq_true rfl) (Nat.le_of_ble_eq_true rfl) rfl rfl (Or.inl rfl) ?_
      refine x_aload_n dX7_back_31 rfl ?_
      refine x_iconst (0 : Int32) dX7_back_32 (by decide) ?_
      refine x_put (h2 := (hA g0 g1 g2 g3 g4 g5 g6 g7 g8 g9 g10 g11 g12 g13 g14 g15 g16 g17 g18 g19 g20 g21 z28.1 g23 g24 g25 g26 g27 g28 g29 g30 g31 g32 g33 g34 (0 : Int32) g36 a0 a1 a2 a3 a4 a5 a6 a7 a8 a9 a10 a11 a12 a13 a14 a15 a16 a17 a18 a19 a20 a21 a22 a23 a24 a25 a26 z28.2.2 z28.2.1 a29 a30 a31 a32 a33 a34 a35 a36 a37 a38 a39 b0 b1 b2 b3 b4 w0 (.ref 19) (.ref 1))) fX7_68 dX7_back_33 rfl rfl (Nat.le_of_ble_eq_true rfl : 11 + 1 ≤ _) (fun α => ⟨rfl, rfl⟩) rfl ?_
      refine x_aload_n dX7_back_36 rfl ?_
      obtain ⟨z37, y37, h⟩ := xbind h
      refine x_callV (t_hA_X7_grant  z37 y37 (d + 0)) kX7_273 dX7_back_37 rfl rfl rfl rfl rfl (Nat.le_of_ble_eq_true rfl) (Nat.le_of_ble_eq_true rfl) rfl rfl (Or.inl rfl) ?_
      obtain ⟨-, q40, h⟩ := xbo_of h
      cases h
      exact x_zret2 dX7_back_40 rfl q40 rfl
    · have h := xif_f q h
      refine x_aload_n dX7_back_12 rfl ?_
      refine x_iconst (1 : Int32) dX7_back_13 (by decide) ?_
      obtain ⟨z14, y14, h⟩ := xbind h
      refine x_callV (t_hA_X7_deny (1 : Int32) z14 y14 (d + 0)) kX7_267 dX7_back_14 rfl rfl rfl rfl rfl (Nat.le_of_ble_eq_true rfl) (Nat.le_of_ble_eq_true rfl) rfl rfl (Or.inl rfl) ?_
      obtain ⟨-, q17, h⟩ := xbo_of h
      cases h
      exact x_zret2 dX7_back_17 rfl q17 rfl
noncomputable def e_hA_X7_size (p0 : Int32) (p1 : Int32) (p2 : Int32) (p3 : Int32) (p4 : Int32) (p5 : Int32) (p6 : Int32) (p7 : Int32) (p8 : Int32) (p9 : Int32) (p10 : Int32) (x1 : Int32) : Option (Int32) :=
  if x1.toInt < 0 ∨ 10 < x1.toInt then some (-1 : Int32) else if x1 = (0 : Int32) then some p0 else if x1 = (1 : Int32) then some p1 else if x1 = (2 : Int32) then some p2 else if x1 = (3 : Int32) then some p3 else if x1 = (4 : Int32) then some p4 else if x1 = (5 : Int32) then some p5 else if x1 = (6 : Int32) then some p6 else if x1 = (7 : Int32) then some p7 else if x1 = (8 : Int32) then some p8 else if x1 = (9 : Int32) then some p9 else if x1 = (10 : Int32) then some p10 else none
set_option maxRecDepth 100000 in
set_option maxHeartbeats 4000000 in
theorem t_hA_X7_size {g0 g1 g2 g3 g4 g5 g6 g7 g8 g9 g10 g11 g12 g13 g14 g15 g16 g17 g18 g19 g20 g21 g22 g23 g24 g25 g26 g27 g28 g29 g30 g31 g32 g33 g34 g35 g36 : Int32} {a0 a1 a2 a3 a4 a5 a6 a7 a8 a9 a10 a11 a12 a13 a14 a15 a16 a17 a18 a19 a20 a21 a22 a23 a24 a25 a26 a27 a28 a29 a30 a31 a32 a33 a34 a35 a36 a37 a38 a39 : (Nat → Int32)} {b0 b1 b2 b3 b4 : (Nat → Int64)} {w0 : Int64} (x1 : Int32) (res : Int32) (h : e_hA_X7_size g0 g1 g2 g3 g4 g5 g6 g22 g35 g36 g16 x1 = some res) (d : Nat) : xMet xks YX7_size (d + 1) 0 0 [.ref 0, .int x1] (hA g0 g1 g2 g3 g4 g5 g6 g7 g8 g9 g10 g11 g12 g13 g14 g15 g16 g17 g18 g19 g20 g21 g22 g23 g24 g25 g26 g27 g28 g29 g30 g31 g32 g33 g34 g35 g36 a0 a1 a2 a3 a4 a5 a6 a7 a8 a9 a10 a11 a12 a13 a14 a15 a16 a17 a18 a19 a20 a21 a22 a23 a24 a25 a26 a27 a28 a29 a30 a31 a32 a33 a34 a35 a36 a37 a38 a39 b0 b1 b2 b3 b4 w0 (.ref 19) (.ref 1)) (some (.int res)) (hA g0 g1 g2 g3 g4 g5 g6 g7 g8 g9 g10 g11 g12 g13 g14 g15 g16 g17 g18 g19 g20 g21 g22 g23 g24 g25 g26 g27 g28 g29 g30 g31 g32 g33 g34 g35 g36 a0 a1 a2 a3 a4 a5 a6 a7 a8 a9 a10 a11 a12 a13 a14 a15 a16 a17 a18 a19 a20 a21 a22 a23 a24 a25 a26 a27 a28 a29 a30 a31 a32 a33 a34 a35 a36 a37 a38 a39 b0 b1 b2 b3 b4 w0 (.ref 19) (.ref 1)) := by
  unfold e_hA_X7_size at h
  refine xMet_of (pl := [some (.ref 0), some (.int x1)]) (by decide) (Nat.le_of_ble_eq_true rfl) rfl (Nat.le_of_ble_eq_true rfl) ?_
  refine x_iload_n dX7_size_0 rfl ?_
  by_cases q : x1.toInt < 0 ∨ 10 < x1.toInt
  · have h := xif_t q h
    refine x_tableOut 148 dX7_size_1 q (by decide) ?_
    refine x_iconst (-1 : Int32) dX7_size_148 (by decide) ?_
    cases h
    exact x_iret2 dX7_size_149 rfl rfl
  · have h := xif_f q h
    by_cases q : x1 = (0 : Int32)
    · have h := xif_t q h
      refine x_tableK 60 q dX7_size_1 (by decide) (by decide) rfl (by decide) ?_
      refine x_aload_n dX7_size_60 rfl ?_
      refine x_get fX7_10 dX7_size_61 rfl rfl rfl ?_
      refine x_get fX7_294 dX7_size_64 rfl rfl rfl ?_
      cases h
      exact x_iret2 dX7_size_67 rfl rfl
    · have h := xif_f q h
      by_cases q : x1 = (1 : Int32)
      · have h := xif_t q h
        refine x_tableK 68 q dX7_size_1 (by decide) (by decide) rfl (by decide) ?_
        refine x_aload_n dX7_size_68 rfl ?_
        refine x_get fX7_10 dX7_size_69 rfl rfl rfl ?_
        refine x_get fX7_297 dX7_size_72 rfl rfl rfl ?_
        cases h
        exact x_iret2 dX7_size_75 rfl rfl
      · have h := xif_f q h
        by_cases q : x1 = (2 : Int32)
        · have h := xif_t q h
          refine x_tableK 76 q dX7_size_1 (by decide) (by decide) rfl (by decide) ?_
          refine x_aload_n dX7_size_76 rfl ?_
          refine x_get fX7_10 dX7_size_77 rfl rfl rfl ?_
          refine x_get fX7_300 dX7_size_80 rfl rfl rfl ?_
          cases h
          exact x_iret2 dX7_size_83 rfl rfl
        · have h := xif_f q h
          by_cases q : x1 = (3 : Int32)
          · have h := xif_t q h
            refine x_tableK 84 q dX7_size_1 (by decide) (by decide) rfl (by decide) ?_
            refine x_aload_n dX7_size_84 rfl ?_
            refine x_get fX7_10 dX7_size_85 rfl rfl rfl ?_
            refine x_get fX7_157 dX7_size_88 rfl rfl rfl ?_
            cases h
            exact x_iret2 dX7_size_91 rfl rfl
          · have h := xif_f q h
            by_cases q : x1 = (4 : Int32)
            · have h := xif_t q h
              refine x_tableK 92 q dX7_size_1 (by decide) (by decide) rfl (by decide) ?_
              refine x_aload_n dX7_size_92 rfl ?_
              refine x_get fX7_10 dX7_size_93 rfl rfl rfl ?_
              refine x_get fX7_107 dX7_size_96 rfl rfl rfl ?_
              cases h
              exact x_iret2 dX7_size_99 rfl rfl
            · have h := xif_f q h
              by_cases q : x1 = (5 : Int32)
              · have h := xif_t q h
                refine x_tableK 100 q dX7_size_1 (by decide) (by decide) rfl (by decide) ?_
                refine x_aload_n dX7_size_100 rfl ?_
                refine x_get fX7_10 dX7_size_101 rfl rfl rfl ?_
                refine x_get fX7_303 dX7_size_104 rfl rfl rfl ?_
                refine x_get fX7_175 dX7_size_107 rfl rfl rfl ?_
                cases h
                exact x_iret2 dX7_size_110 rfl rfl
              · have h := xif_f q h
                by_cases q : x1 = (6 : Int32)
                · have h := xif_t q h
                  refine x_tableK 111 q dX7_size_1 (by decide) (by decide) rfl (by decide) ?_
                  refine x_aload_n dX7_size_111 rfl ?_
                  refine x_get fX7_10 dX7_size_112 rfl rfl rfl ?_
                  refine x_get fX7_171 dX7_size_115 rfl rfl rfl ?_
                  refine x_get fX7_175 dX7_size_118 rfl rfl rfl ?_
                  cases h
                  exact x_iret2 dX7_size_121 rfl rfl
                · have h := xif_f q h
                  by_cases q : x1 = (7 : Int32)
                  · have h := xif_t q h
                    refine x_tableK 122 q dX7_size_1 (by decide) (by decide) rfl (by decide) ?_
                    refine x_aload_n dX7_size_122 rfl ?_
                    refine x_get fX7_36 dX7_size_123 rfl rfl rfl ?_
                    refine x_get fX7_306 dX7_size_126 rfl rfl rfl ?_
                    cases h
                    exact x_iret2 dX7_size_129 rfl rfl
                  · have h := xif_f q h
                    by_cases q : x1 = (8 : Int32)
                    · have h := xif_t q h
                      refine x_tableK 130 q dX7_size_1 (by decide) (by decide) rfl (by decide) ?_
                      refine x_aload_n dX7_size_130 rfl ?_
                      refine x_get fX7_68 dX7_size_131 rfl rfl rfl ?_
                      cases h
                      exact x_iret2 dX7_size_134 rfl rfl
                    · have h := xif_f q h
                      by_cases q : x1 = (9 : Int32)
                      · have h := xif_t q h
                        refine x_tableK 135 q dX7_size_1 (by decide) (by decide) rfl (by decide) ?_
                        refine x_aload_n dX7_size_135 rfl ?_
                        refine x_get fX7_74 dX7_size_136 rfl rfl rfl ?_
                        cases h
                        exact x_iret2 dX7_size_139 rfl rfl
                      · have h := xif_f q h
                        by_cases q : x1 = (10 : Int32)
                        · have h := xif_t q h
                          refine x_tableK 140 q dX7_size_1 (by decide) (by decide) rfl (by decide) ?_
                          refine x_aload_n dX7_size_140 rfl ?_
                          refine x_get fX7_19 dX7_size_141 rfl rfl rfl ?_
                          refine x_get fX7_77 dX7_size_144 rfl rfl rfl ?_
                          cases h
                          exact x_iret2 dX7_size_147 rfl rfl
                        · have h := xif_f q h
                          cases h
noncomputable def e_hA_X7_trouble (p0 : Int32)  : Option (Int32) :=
  some p0
set_option maxRecDepth 100000 in
set_option maxHeartbeats 4000000 in
theorem t_hA_X7_trouble {g0 g1 g2 g3 g4 g5 g6 g7 g8 g9 g10 g11 g12 g13 g14 g15 g16 g17 g18 g19 g20 g21 g22 g23 g24 g25 g26 g27 g28 g29 g30 g31 g32 g33 g34 g35 g36 : Int32} {a0 a1 a2 a3 a4 a5 a6 a7 a8 a9 a10 a11 a12 a13 a14 a15 a16 a17 a18 a19 a20 a21 a22 a23 a24 a25 a26 a27 a28 a29 a30 a31 a32 a33 a34 a35 a36 a37 a38 a39 : (Nat → Int32)} {b0 b1 b2 b3 b4 : (Nat → Int64)} {w0 : Int64}  (res : Int32) (h : e_hA_X7_trouble g34  = some res) (d : Nat) : xMet xks YX7_trouble (d + 1) 0 0 [.ref 0] (hA g0 g1 g2 g3 g4 g5 g6 g7 g8 g9 g10 g11 g12 g13 g14 g15 g16 g17 g18 g19 g20 g21 g22 g23 g24 g25 g26 g27 g28 g29 g30 g31 g32 g33 g34 g35 g36 a0 a1 a2 a3 a4 a5 a6 a7 a8 a9 a10 a11 a12 a13 a14 a15 a16 a17 a18 a19 a20 a21 a22 a23 a24 a25 a26 a27 a28 a29 a30 a31 a32 a33 a34 a35 a36 a37 a38 a39 b0 b1 b2 b3 b4 w0 (.ref 19) (.ref 1)) (some (.int res)) (hA g0 g1 g2 g3 g4 g5 g6 g7 g8 g9 g10 g11 g12 g13 g14 g15 g16 g17 g18 g19 g20 g21 g22 g23 g24 g25 g26 g27 g28 g29 g30 g31 g32 g33 g34 g35 g36 a0 a1 a2 a3 a4 a5 a6 a7 a8 a9 a10 a11 a12 a13 a14 a15 a16 a17 a18 a19 a20 a21 a22 a23 a24 a25 a26 a27 a28 a29 a30 a31 a32 a33 a34 a35 a36 a37 a38 a39 b0 b1 b2 b3 b4 w0 (.ref 19) (.ref 1)) := by
  unfold e_hA_X7_trouble at h
  refine xMet_of (pl := [some (.ref 0)]) (by decide) (Nat.le_of_ble_eq_true rfl) rfl (Nat.le_of_ble_eq_true rfl) ?_
  refine x_aload_n dX7_trouble_0 rfl ?_
  refine x_get fX7_30 dX7_trouble_1 rfl rfl rfl ?_
  cases h
  exact x_iret2 dX7_trouble_4 rfl rfl
