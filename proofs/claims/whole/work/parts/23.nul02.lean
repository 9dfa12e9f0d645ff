noncomputable def e_hN_X9_lend (p0 : Int32) (p1 : Int32) (p2 : Int32) (p3 : (Nat → Int32)) (p4 : Int32) (p5 : (Nat → Int32)) (x1 : Int32) (x2 : Int32) : Option (Int32 × Int32 × Int32 × Int32 × Int32 × (Nat → Int32) × (Nat → Int32)) :=
  ((e_hN_X9_isUmbrella x1).bind fun z7 => if z7 = (0 : Int32) then ((e_hN_X9_denied p1 p2 (1 : Int32)).bind fun z23 => xbo z23.1 (some (z23.1, (0 : Int32), z23.2.1, z23.2.2, p4, p5, p3))) else ((e_hN_X9_isPerson x2).bind fun z15 => if z15 = (0 : Int32) then ((e_hN_X9_denied p1 p2 (1 : Int32)).bind fun z23 => xbo z23.1 (some (z23.1, (0 : Int32), z23.2.1, z23.2.2, p4, p5, p3))) else (xix ((0 : Int32) + x1) 11 (if (p3 ((0 : Int32) + x1).toNatClampNeg) = x2 then ((e_hN_X9_denied p1 p2 (5 : Int32)).bind fun z41 => xbo z41.1 (some (z41.1, (0 : Int32), z41.2.1, z41.2.2, p4, p5, p3))) else ((e_hN_X9_remembers p4 p3 p5).bind fun z46 => xix ((0 : Int32) + x1) 11 ((e_hN_X9_granted p1 p2).bind fun z59 => xbo z59.1 (some (z59.1, (0 : Int32), z59.2.1, z59.2.2, z46.1, z46.2, (upd p3 ((0 : Int32) + x1).toNatClampNeg x2)))))))))
set_option maxRecDepth 100000 in
set_option maxHeartbeats 4000000 in
theorem t_hN_X9_lend {g0 g1 g2 g3 g4 g5 g6 g7 g8 g9 g10 g11 g12 g13 g14 g15 g16 g17 g18 : Int32} {a0 a1 a2 a3 a4 a5 a6 a7 a8 a9 : (Nat → Int32)} {w0 : Int64} {rv : Value} (x1 : Int32) (x2 : Int32) (res : Int32 × Int32 × Int32 × Int32 × Int32 × (Nat → Int32) × (Nat → Int32)) (h : e_hN_X9_lend g0 g1 g2 a1 g11 a3 x1 x2 = some res) (d : Nat) : xMet xks YX9_lend (d + 3) 0 0 [.ref 0, .int x1, .int x2] (hN g0 g1 g2 g3 g4 g5 g6 g7 g8 g9 g10 g11 g12 g13 g14 g15 g16 g17 g18 a0 a1 a2 a3 a4 a5 a6 a7 a8 a9 w0 .null rv) (some (.int res.1)) (hN res.2.1 res.2.2.1 res.2.2.2.1 g3 g4 g5 g6 g7 g8 g9 g10 res.2.2.2.2.1 g12 g13 g14 g15 g16 g17 g18 a0 res.2.2.2.2.2.2 a2 res.2.2.2.2.2.1 a4 a5 a6 a7 a8 a9 w0 .null rv) := by
  unfold e_hN_X9_lend at h
  refine xMet_of (pl := [some (.ref 0), some (.int x1), some (.int x2)]) (by decide) (Nat.le_of_ble_eq_true rfl) rfl (Nat.le_of_ble_eq_true rfl) ?_
  refine x_aload_n dX9_lend_0 rfl ?_
  refine x_iconst (0 : Int32) dX9_lend_1 (by decide) ?_
  refine x_put (h2 := (hN (0 : Int32) g1 g2 g3 g4 g5 g6 g7 g8 g9 g10 g11 g12 g13 g14 g15 g16 g17 g18 a0 a1 a2 a3 a4 a5 a6 a7 a8 a9 w0 .null rv)) fX9_45 dX9_lend_2 rfl rfl (Nat.le_of_ble_eq_true rfl : 0 + 1 ≤ _) (fun α => ⟨rfl, rfl⟩) rfl ?_
  refine x_aload_n dX9_lend_5 rfl ?_
  refine x_iload_n dX9_lend_6 rfl ?_
  obtain ⟨z7, y7, h⟩ := xbind h
  refine x_callV (t_hN_X9_isUmbrella x1 z7 y7 (d + 1)) kX9_359 dX9_lend_7 rfl rfl rfl rfl rfl (Nat.le_of_ble_eq_true rfl) (Nat.le_of_ble_eq_true rfl) rfl rfl (Or.inl rfl) ?_
  refine x_if_eq 21 dX9_lend_10 (by decide) (fun q => ?_) (fun q => ?_)
  · have h := xif_t q h
    refine x_aload_n dX9_lend_21 rfl ?_
    refine x_iconst (1 : Int32) dX9_lend_22 (by decide) ?_
    obtain ⟨z23, y23, h⟩ := xbind h
    refine x_callV (t_hN_X9_denied (1 : Int32) z23 y23 (d + 0)) kX9_488 dX9_lend_23 rfl rfl rfl rfl rfl (Nat.le_of_ble_eq_true rfl) (Nat.le_of_ble_eq_true rfl) rfl rfl (Or.inl rfl) ?_
    obtain ⟨-, q26, h⟩ := xbo_of h
    cases h
    exact x_zret2 dX9_lend_26 rfl q26 rfl
  · have h := xif_f q h
    refine x_aload_n dX9_lend_13 rfl ?_
    refine x_iload_n dX9_lend_14 rfl ?_
    obtain ⟨z15, y15, h⟩ := xbind h
    refine x_callV (t_hN_X9_isPerson x2 z15 y15 (d + 1)) kX9_362 dX9_lend_15 rfl rfl rfl rfl rfl (Nat.le_of_ble_eq_true rfl) (Nat.le_of_ble_eq_true rfl) rfl rfl (Or.inl rfl) ?_
    refine x_if_ne 27 dX9_lend_18 (by decide) (fun q => ?_) (fun q => ?_)
    · have h := xif_f q h
      refine x_aload_n dX9_lend_27 rfl ?_
      refine x_get fX9_17 dX9_lend_28 rfl rfl rfl ?_
      refine x_iconst (0 : Int32) dX9_lend_31 (by decide) ?_
      refine x_iload_n dX9_lend_32 rfl ?_
      refine x_iadd dX9_lend_33 ?_
      obtain ⟨q34, h⟩ := xix_of h
      refine x_iald dX9_lend_34 rfl q34 ?_
      refine x_iload_n dX9_lend_35 rfl ?_
      refine x_icmp_ne 45 dX9_lend_36 (by decide) (fun q => ?_) (fun q => ?_)
      · have h := xif_f q h
        refine x_aload_n dX9_lend_45 rfl ?_
        obtain ⟨z46, y46, h⟩ := xbind h
        refine x_callV (t_hN_X9_remembers  z46 y46 (d + 1)) kX9_491 dX9_lend_46 rfl rfl rfl rfl rfl (Nat.le_of_ble_eq_true rfl) (Nat.le_of_ble_eq_true rfl) rfl rfl (Or.inl rfl) ?_
        refine x_aload_n dX9_lend_49 rfl ?_
        refine x_get fX9_17 dX9_lend_50 rfl rfl rfl ?_
        refine x_iconst (0 : Int32) dX9_lend_53 (by decide) ?_
        refine x_iload_n dX9_lend_54 rfl ?_
        refine x_iadd dX9_lend_55 ?_
        refine x_iload_n dX9_lend_56 rfl ?_
        obtain ⟨q57, h⟩ := xix_of h
        refine x_iast (h2 := (hN (0 : Int32) g1 g2 g3 g4 g5 g6 g7 g8 g9 g10 z46.1 g12 g13 g14 g15 g16 g17 g18 a0 (upd a1 ((0 : Int32) + x1).toNatClampNeg x2) a2 z46.2 a4 a5 a6 a7 a8 a9 w0 .null rv)) dX9_lend_57 rfl q57 rfl ?_
        refine x_aload_n dX9_lend_58 rfl ?_
        obtain ⟨z59, y59, h⟩ := xbind h
        refine x_callV (t_hN_X9_granted  z59 y59 (d + 0)) kX9_494 dX9_lend_59 rfl rfl rfl rfl rfl (Nat.le_of_ble_eq_true rfl) (Nat.le_of_ble_eq_true rfl) rfl rfl (Or.inl rfl) ?_
        obtain ⟨-, q62, h⟩ := xbo_of h
        cases h
        exact x_zret2 dX9_lend_62 rfl q62 rfl
      · have h := xif_t q h
        refine x_aload_n dX9_lend_39 rfl ?_
        refine x_iconst (5 : Int32) dX9_lend_40 (by decide) ?_
        obtain ⟨z41, y41, h⟩ := xbind h
        refine x_callV (t_hN_X9_denied (5 : Int32) z41 y41 (d + 0)) kX9_488 dX9_lend_41 rfl rfl rfl rfl rfl (Nat.le_of_ble_eq_true rfl) (Nat.le_of_ble_eq_true rfl) rfl rfl (Or.inl rfl) ?_
        obtain ⟨-, q44, h⟩ := xbo_of h
        cases h
        exact x_zret2 dX9_lend_44 rfl q44 rfl
    · have h := xif_t q h
      refine x_aload_n dX9_lend_21 rfl ?_
      refine x_iconst (1 : Int32) dX9_lend_22 (by decide) ?_
      obtain ⟨z23, y23, h⟩ := xbind h
      refine x_callV (t_hN_X9_denied (1 : Int32) z23 y23 (d + 0)) kX9_488 dX9_lend_23 rfl rfl rfl rfl rfl (Nat.le_of_ble_eq_true rfl) (Nat.le_of_ble_eq_true rfl) rfl rfl (Or.inl rfl) ?_
      obtain ⟨-, q26, h⟩ := xbo_of h
      cases h
      exact x_zret2 dX9_lend_26 rfl q26 rfl
noncomputable def e_hN_X9_leave (p0 : Int32) (p1 : (Nat → Int32)) (p2 : Int32) (p3 : (Nat → Int32)) (p4 : Int32) (p5 : Int32) (x1 : Int32) : Option (Int32 × Int32 × Int32 × (Nat → Int32) × (Nat → Int32) × Int32 × Int32) :=
  ((e_hN_X9_isUmbrella x1).bind fun z7 => if z7 = (0 : Int32) then ((e_hN_X9_denied p4 p5 (1 : Int32)).bind fun z15 => xbo z15.1 (some (z15.1, (0 : Int32), p2, p3, p1, z15.2.1, z15.2.2))) else (xix ((0 : Int32) + x1) 11 (if (p1 ((0 : Int32) + x1).toNatClampNeg) = (-2 : Int32) then ((e_hN_X9_denied p4 p5 (5 : Int32)).bind fun z34 => xbo z34.1 (some (z34.1, (0 : Int32), p2, p3, p1, z34.2.1, z34.2.2))) else ((e_hN_X9_remembers p2 p1 p3).bind fun z39 => xix ((0 : Int32) + x1) 11 ((e_hN_X9_granted p4 p5).bind fun z53 => xbo z53.1 (some (z53.1, (0 : Int32), z39.1, z39.2, (upd p1 ((0 : Int32) + x1).toNatClampNeg (-2 : Int32)), z53.2.1, z53.2.2)))))))
set_option maxRecDepth 100000 in
set_option maxHeartbeats 4000000 in
theorem t_hN_X9_leave {g0 g1 g2 g3 g4 g5 g6 g7 g8 g9 g10 g11 g12 g13 g14 g15 g16 g17 g18 : Int32} {a0 a1 a2 a3 a4 a5 a6 a7 a8 a9 : (Nat → Int32)} {w0 : Int64} {rv : Value} (x1 : Int32) (res : Int32 × Int32 × Int32 × (Nat → Int32) × (Nat → Int32) × Int32 × Int32) (h : e_hN_X9_leave g0 a1 g11 a3 g1 g2 x1 = some res) (d : Nat) : xMet xks YX9_leave (d + 3) 0 0 [.ref 0, .int x1] (hN g0 g1 g2 g3 g4 g5 g6 g7 g8 g9 g10 g11 g12 g13 g14 g15 g16 g17 g18 a0 a1 a2 a3 a4 a5 a6 a7 a8 a9 w0 .null rv) (some (.int res.1)) (hN res.2.1 res.2.2.2.2.2.1 res.2.2.2.2.2.2 g3 g4 g5 g6 g7 g8 g9 g10 res.2.2.1 g12 g13 g14 g15 g16 g17 g18 a0 res.2.2.2.2.1 a2 res.2.2.2.1 a4 a5 a6 a7 a8 a9 w0 .null rv) := by
  unfold e_hN_X9_leave at h
  refine xMet_of (pl := [some (.ref 0), some (.int x1)]) (by decide) (Nat.le_of_ble_eq_true rfl) rfl (Nat.le_of_ble_eq_true rfl) ?_
  refine x_aload_n dX9_leave_0 rfl ?_
  refine x_iconst (0 : Int32) dX9_leave_1 (by decide) ?_
  refine x_put (h2 := (hN (0 : Int32) g1 g2 g3 g4 g5 g6 g7 g8 g9 g10 g11 g12 g13 g14 g15 g16 g17 g18 a0 a1 a2 a3 a4 a5 a6 a7 a8 a9 w0 .null rv)) fX9_45 dX9_leave_2 rfl rfl (Nat.le_of_ble_eq_true rfl : 0 + 1 ≤ _) (fun α => ⟨rfl, rfl⟩) rfl ?_
  refine x_aload_n dX9_leave_5 rfl ?_
  refine x_iload_n dX9_leave_6 rfl ?_
  obtain ⟨z7, y7, h⟩ := xbind h
  refine x_callV (t_hN_X9_isUmbrella x1 z7 y7 (d + 1)) kX9_359 dX9_leave_7 rfl rfl rfl rfl rfl (Nat.le_of_ble_eq_true rfl) (Nat.le_of_ble_eq_true rfl) rfl rfl (Or.inl rfl) ?_
  refine x_if_ne 19 dX9_leave_10 (by decide) (fun q => ?_) (fun q => ?_)
  · have h := xif_f q h
    refine x_aload_n dX9_leave_19 rfl ?_
    refine x_get fX9_17 dX9_leave_20 rfl rfl rfl ?_
    refine x_iconst (0 : Int32) dX9_leave_23 (by decide) ?_
    refine x_iload_n dX9_leave_24 rfl ?_
    refine x_iadd dX9_leave_25 ?_
    obtain ⟨q26, h⟩ := xix_of h
    refine x_iald dX9_leave_26 rfl q26 ?_
    refine x_bipush (-2 : Int32) dX9_leave_27 (by decide) ?_
    refine x_icmp_ne 38 dX9_leave_29 (by decide) (fun q => ?_) (fun q => ?_)
    · have h := xif_f q h
      refine x_aload_n dX9_leave_38 rfl ?_
      obtain ⟨z39, y39, h⟩ := xbind h
      refine x_callV (t_hN_X9_remembers  z39 y39 (d + 1)) kX9_491 dX9_leave_39 rfl rfl rfl rfl rfl (Nat.le_of_ble_eq_true rfl) (Nat.le_of_ble_eq_true rfl) rfl rfl (Or.inl rfl) ?_
      refine x_aload_n dX9_leave_42 rfl ?_
      refine x_get fX9_17 dX9_leave_43 rfl rfl rfl ?_
      refine x_iconst (0 : Int32) dX9_leave_46 (by decide) ?_
      refine x_iload_n dX9_leave_47 rfl ?_
      refine x_iadd dX9_leave_48 ?_
      refine x_bipush (-2 : Int32) dX9_leave_49 (by decide) ?_
      obtain ⟨q51, h⟩ := xix_of h
      refine x_iast (h2 := (hN (0 : Int32) g1 g2 g3 g4 g5 g6 g7 g8 g9 g10 z39.1 g12 g13 g14 g15 g16 g17 g18 a0 (upd a1 ((0 : Int32) + x1).toNatClampNeg (-2 : Int32)) a2 z39.2 a4 a5 a6 a7 a8 a9 w0 .null rv)) dX9_leave_51 rfl q51 rfl ?_
      refine x_aload_n dX9_leave_52 rfl ?_
      obtain ⟨z53, y53, h⟩ := xbind h
      refine x_callV (t_hN_X9_granted  z53 y53 (d + 0)) kX9_494 dX9_leave_53 rfl rfl rfl rfl rfl (Nat.le_of_ble_eq_true rfl) (Nat.le_of_ble_eq_true rfl) rfl rfl (Or.inl rfl) ?_
      obtain ⟨-, q56, h⟩ := xbo_of h
      cases h
      exact x_zret2 dX9_leave_56 rfl q56 rfl
    · have h := xif_t q h
      refine x_aload_n dX9_leave_32 rfl ?_
      refine x_iconst (5 : Int32) dX9_leave_33 (by decide) ?_
      obtain ⟨z34, y34, h⟩ := xbind h
      refine x_callV (t_hN_X9_denied (5 : Int32) z34 y34 (d + 0)) kX9_488 dX9_leave_34 rfl rfl rfl rfl rfl (Nat.le_of_ble_eq_true rfl) (Nat.le_of_ble_eq_true rfl) rfl rfl (Or.inl rfl) ?_
      obtain ⟨-, q37, h⟩ := xbo_of h
      cases h
      exact x_zret2 dX9_leave_37 rfl q37 rfl
  · have h := xif_t q h
    refine x_aload_n dX9_leave_13 rfl ?_
    refine x_iconst (1 : Int32) dX9_leave_14 (by decide) ?_
    obtain ⟨z15, y15, h⟩ := xbind h
    refine x_callV (t_hN_X9_denied (1 : Int32) z15 y15 (d + 0)) kX9_488 dX9_leave_15 rfl rfl rfl rfl rfl (Nat.le_of_ble_eq_true rfl) (Nat.le_of_ble_eq_true rfl) rfl rfl (Or.inl rfl) ?_
    obtain ⟨-, q18, h⟩ := xbo_of h
    cases h
    exact x_zret2 dX9_leave_18 rfl q18 rfl
noncomputable def e_hN_X9_canExchange (p0 : (Nat → Int32)) (x2 : Int32) (x3 : Int32) : Option (Int32) :=
  if x2 = x3 then some (0 : Int32) else (xix ((0 : Int32) + x2) 11 (xix ((0 : Int32) + x3) 11 (if (p0 ((0 : Int32) + x2).toNatClampNeg) = (p0 ((0 : Int32) + x3).toNatClampNeg) then some (0 : Int32) else some (1 : Int32))))
set_option maxRecDepth 100000 in
set_option maxHeartbeats 4000000 in
theorem t_hN_X9_canExchange {g0 g1 g2 g3 g4 g5 g6 g7 g8 g9 g10 g11 g12 g13 g14 g15 g16 g17 g18 : Int32} {a0 a1 a2 a3 a4 a5 a6 a7 a8 a9 : (Nat → Int32)} {w0 : Int64} {rv : Value} (x2 : Int32) (x3 : Int32) (res : Int32) (h : e_hN_X9_canExchange a1 x2 x3 = some res) (d : Nat) : xMet xks YX9_canExchange (d + 1) 0 0 [.ref 0, .ref 2, .int x2, .int x3] (hN g0 g1 g2 g3 g4 g5 g6 g7 g8 g9 g10 g11 g12 g13 g14 g15 g16 g17 g18 a0 a1 a2 a3 a4 a5 a6 a7 a8 a9 w0 .null rv) (some (.int res)) (hN g0 g1 g2 g3 g4 g5 g6 g7 g8 g9 g10 g11 g12 g13 g14 g15 g16 g17 g18 a0 a1 a2 a3 a4 a5 a6 a7 a8 a9 w0 .null rv) := by
  unfold e_hN_X9_canExchange at h
  refine xMet_of (pl := [some (.ref 0), some (.ref 2), some (.int x2), some (.int x3)]) (by decide) (Nat.le_of_ble_eq_true rfl) rfl (Nat.le_of_ble_eq_true rfl) ?_
  refine x_iload_n dX9_canExchange_0 rfl ?_
  refine x_iload_n dX9_canExchange_1 rfl ?_
  refine x_icmp_eq 22 dX9_canExchange_2 (by decide) (fun q => ?_) (fun q => ?_)
  · have h := xif_t q h
    refine x_iconst (0 : Int32) dX9_canExchange_22 (by decide) ?_
    cases h
    exact x_zret2 dX9_canExchange_23 rfl rfl rfl
  · have h := xif_f q h
    refine x_aload_n dX9_canExchange_5 rfl ?_
    refine x_iconst (0 : Int32) dX9_canExchange_6 (by decide) ?_
    refine x_iload_n dX9_canExchange_7 rfl ?_
    refine x_iadd dX9_canExchange_8 ?_
    obtain ⟨q9, h⟩ := xix_of h
    refine x_iald dX9_canExchange_9 rfl q9 ?_
    refine x_aload_n dX9_canExchange_10 rfl ?_
    refine x_iconst (0 : Int32) dX9_canExchange_11 (by decide) ?_
    refine x_iload_n dX9_canExchange_12 rfl ?_
    refine x_iadd dX9_canExchange_13 ?_
    obtain ⟨q14, h⟩ := xix_of h
    refine x_iald dX9_canExchange_14 rfl q14 ?_
    refine x_icmp_eq 22 dX9_canExchange_15 (by decide) (fun q => ?_) (fun q => ?_)
    · have h := xif_t q h
      refine x_iconst (0 : Int32) dX9_canExchange_22 (by decide) ?_
      cases h
      exact x_zret2 dX9_canExchange_23 rfl rfl rfl
    · have h := xif_f q h
      refine x_iconst (1 : Int32) dX9_canExchange_18 (by decide) ?_
      refine x_goto 23 dX9_canExchange_19 (by decide) ?_
      cases h
      exact x_zret2 dX9_canExchange_23 rfl rfl rfl
noncomputable def e_hN_X9_changes (p0 : (Nat → Int32)) (x1 : Int32) (x2 : Int32) : Option ((Nat → Int32)) :=
  (xix ((0 : Int32) + x1) 11 (xix ((0 : Int32) + x2) 11 (xix ((0 : Int32) + x1) 11 (xix ((0 : Int32) + x2) 11 (some (upd (upd p0 ((0 : Int32) + x1).toNatClampNeg (p0 ((0 : Int32) + x2).toNatClampNeg)) ((0 : Int32) + x2).toNatClampNeg (p0 ((0 : Int32) + x1).toNatClampNeg)))))))
set_option maxRecDepth 100000 in
set_option maxHeartbeats 4000000 in
theorem t_hN_X9_changes {g0 g1 g2 g3 g4 g5 g6 g7 g8 g9 g10 g11 g12 g13 g14 g15 g16 g17 g18 : Int32} {a0 a1 a2 a3 a4 a5 a6 a7 a8 a9 : (Nat → Int32)} {w0 : Int64} {rv : Value} (x1 : Int32) (x2 : Int32) (res : (Nat → Int32)) (h : e_hN_X9_changes a1 x1 x2 = some res) (d : Nat) : xMet xks YX9_changes (d + 1) 0 0 [.ref 2, .int x1, .int x2] (hN g0 g1 g2 g3 g4 g5 g6 g7 g8 g9 g10 g11 g12 g13 g14 g15 g16 g17 g18 a0 a1 a2 a3 a4 a5 a6 a7 a8 a9 w0 .null rv) none (hN g0 g1 g2 g3 g4 g5 g6 g7 g8 g9 g10 g11 g12 g13 g14 g15 g16 g17 g18 a0 res a2 a3 a4 a5 a6 a7 a8 a9 w0 .null rv) := by
  unfold e_hN_X9_changes at h
  refine xMet_of (pl := [some (.ref 2), some (.int x1), some (.int x2), none]) (by decide) (Nat.le_of_ble_eq_true rfl) rfl (Nat.le_of_ble_eq_true rfl) ?_
  refine x_aload_n dX9_changes_0 rfl ?_
  refine x_iconst (0 : Int32) dX9_changes_1 (by decide) ?_
  refine x_iload_n dX9_changes_2 rfl ?_
  refine x_iadd dX9_changes_3 ?_
  obtain ⟨q4, h⟩ := xix_of h
  refine x_iald dX9_changes_4 rfl q4 ?_
  refine x_istore_n (pl' := [some (.ref 2), some (.int x1), some (.int x2), some (.int (a1 ((0 : Int32) + x1).toNatClampNeg))]) dX9_changes_5 (by decide) rfl ?_
  refine x_aload_n dX9_changes_6 rfl ?_
  refine x_iconst (0 : Int32) dX9_changes_7 (by decide) ?_
  refine x_iload_n dX9_changes_8 rfl ?_
  refine x_iadd dX9_changes_9 ?_
  refine x_aload_n dX9_changes_10 rfl ?_
  refine x_iconst (0 : Int32) dX9_changes_11 (by decide) ?_
  refine x_iload_n dX9_changes_12 rfl ?_
  refine x_iadd dX9_changes_13 ?_
  obtain ⟨q14, h⟩ := xix_of h
  refine x_iald dX9_changes_14 rfl q14 ?_
  obtain ⟨q15, h⟩ := xix_of h
  refine x_iast (h2 := (hN g0 g1 g2 g3 g4 g5 g6 g7 g8 g9 g10 g11 g12 g13 g14 g15 g16 g17 g18 a0 (upd a1 ((0 : Int32) + x1).toNatClampNeg (a1 ((0 : Int32) + x2).toNatClampNeg)) a2 a3 a4 a5 a6 a7 a8 a9 w0 .null rv)) dX9_changes_15 rfl q15 rfl ?_
  refine x_aload_n dX9_changes_16 rfl ?_
  refine x_iconst (0 : Int32) dX9_changes_17 (by decide) ?_
  refine x_iload_n dX9_changes_18 rfl ?_
  refine x_iadd dX9_changes_19 ?_
  refine x_iload_n dX9_changes_20 rfl ?_
  obtain ⟨q21, h⟩ := xix_of h
  refine x_iast (h2 := (hN g0 g1 g2 g3 g4 g5 g6 g7 g8 g9 g10 g11 g12 g13 g14 g15 g16 g17 g18 a0 (upd (upd a1 ((0 : Int32) + x1).toNatClampNeg (a1 ((0 : Int32) + x2).toNatClampNeg)) ((0 : Int32) + x2).toNatClampNeg (a1 ((0 : Int32) + x1).toNatClampNeg)) a2 a3 a4 a5 a6 a7 a8 a9 w0 .null rv)) dX9_changes_21 rfl q21 rfl ?_
  cases h
  exact x_vret2 dX9_changes_22 rfl rfl
noncomputable def e_hN_X9_exchange (p0 : Int32) (p1 : Int32) (p2 : Int32) (p3 : (Nat → Int32)) (p4 : Int32) (p5 : (Nat → Int32)) (x1 : Int32) (x2 : Int32) : Option (Int32 × Int32 × Int32 × Int32 × Int32 × (Nat → Int32) × (Nat → Int32)) :=
  ((e_hN_X9_isUmbrella x1).bind fun z7 => if z7 = (0 : Int32) then ((e_hN_X9_denied p1 p2 (1 : Int32)).bind fun z28 => xbo z28.1 (some (z28.1, (0 : Int32), z28.2.1, z28.2.2, p4, p5, p3))) else ((e_hN_X9_isUmbrella x2).bind fun z15 => if z15 = (0 : Int32) then ((e_hN_X9_denied p1 p2 (1 : Int32)).bind fun z28 => xbo z28.1 (some (z28.1, (0 : Int32), z28.2.1, z28.2.2, p4, p5, p3))) else if x1 = x2 then ((e_hN_X9_denied p1 p2 (1 : Int32)).bind fun z28 => xbo z28.1 (some (z28.1, (0 : Int32), z28.2.1, z28.2.2, p4, p5, p3))) else ((e_hN_X9_canExchange p3 x1 x2).bind fun z39 => if z39 = (0 : Int32) then ((e_hN_X9_denied p1 p2 (5 : Int32)).bind fun z47 => xbo z47.1 (some (z47.1, (0 : Int32), z47.2.1, z47.2.2, p4, p5, p3))) else ((e_hN_X9_remembers p4 p3 p5).bind fun z52 => (e_hN_X9_changes p3 x1 x2).bind fun z61 => (e_hN_X9_granted p1 p2).bind fun z65 => xbo z65.1 (some (z65.1, (0 : Int32), z65.2.1, z65.2.2, z52.1, z52.2, z61))))))
set_option maxRecDepth 100000 in
set_option maxHeartbeats 4000000 in
theorem t_hN_X9_exchange {g0 g1 g2 g3 g4 g5 g6 g7 g8 g9 g10 g11 g12 g13 g14 g15 g16 g17 g18 : Int32} {a0 a1 a2 a3 a4 a5 a6 a7 a8 a9 : (Nat → Int32)} {w0 : Int64} {rv : Value} (x1 : Int32) (x2 : Int32) (res : Int32 × Int32 × Int32 × Int32 × Int32 × (Nat → Int32) × (Nat → Int32)) (h : e_hN_X9_exchange g0 g1 g2 a1 g11 a3 x1 x2 = some res) (d : Nat) : xMet xks YX9_exchange (d + 3) 0 0 [.ref 0, .int x1, .int x2] (hN g0 g1 g2 g3 g4 g5 g6 g7 g8 g9 g10 g11 g12 g13 g14 g15 g16 g17 g18 a0 a1 a2 a3 a4 a5 a6 a7 a8 a9 w0 .null rv) (some (.int res.1)) (hN res.2.1 res.2.2.1 res.2.2.2.1 g3 g4 g5 g6 g7 g8 g9 g10 res.2.2.2.2.1 g12 g13 g14 g15 g16 g17 g18 a0 res.2.2.2.2.2.2 a2 res.2.2.2.2.2.1 a4 a5 a6 a7 a8 a9 w0 .null rv) := by
  unfold e_hN_X9_exchange at h
  refine xMet_of (pl := [some (.ref 0), some (.int x1), some (.int x2)]) (by decide) (Nat.le_of_ble_eq_true rfl) rfl (Nat.le_of_ble_eq_true rfl) ?_
  refine x_aload_n dX9_exchange_0 rfl ?_
  refine x_iconst (0 : Int32) dX9_exchange_1 (by decide) ?_
  refine x_put (h2 := (hN (0 : Int32) g1 g2 g3 g4 g5 g6 g7 g8 g9 g10 g11 g12 g13 g14 g15 g16 g17 g18 a0 a1 a2 a3 a4 a5 a6 a7 a8 a9 w0 .null rv)) fX9_45 dX9_exchange_2 rfl rfl (Nat.le_of_ble_eq_true rfl : 0 + 1 ≤ _) (fun α => ⟨rfl, rfl⟩) rfl ?_
  refine x_aload_n dX9_exchange_5 rfl ?_
  refine x_iload_n dX9_exchange_6 rfl ?_
  obtain ⟨z7, y7, h⟩ := xbind h
  refine x_callV (t_hN_X9_isUmbrella x1 z7 y7 (d + 1)) kX9_359 dX9_exchange_7 rfl rfl rfl rfl rfl (Nat.le_of_ble_eq_true rfl) (Nat.le_of_ble_eq_true rfl) rfl rfl (Or.inl rfl) ?_
  refine x_if_eq 26 dX9_exchange_10 (by decide) (fun q => ?_) (fun q => ?_)
  · have h := xif_t q h
    refine x_aload_n dX9_exchange_26 rfl ?_
    refine x_iconst (1 : Int32) dX9_exchange_27 (by decide) ?_
    obtain ⟨z28, y28, h⟩ := xbind h
    refine x_callV (t_hN_X9_denied (1 : Int32) z28 y28 (d + 0)) kX9_488 dX9_exchange_28 rfl rfl rfl rfl rfl (Nat.le_of_ble_eq_true rfl) (Nat.le_of_ble_eq_true rfl) rfl rfl (Or.inl rfl) ?_
    obtain ⟨-, q31, h⟩ := xbo_of h
    cases h
    exact x_zret2 dX9_exchange_31 rfl q31 rfl
  · have h := xif_f q h
    refine x_aload_n dX9_exchange_13 rfl ?_
    refine x_iload_n dX9_exchange_14 rfl ?_
    obtain ⟨z15, y15, h⟩ := xbind h
    refine x_callV (t_hN_X9_isUmbrella x2 z15 y15 (d + 1)) kX9_359 dX9_exchange_15 rfl rfl rfl rfl rfl (Nat.le_of_ble_eq_true rfl) (Nat.le_of_ble_eq_true rfl) rfl rfl (Or.inl rfl) ?_
    refine x_if_eq 26 dX9_exchange_18 (by decide) (fun q => ?_) (fun q => ?_)
    · have h := xif_t q h
      refine x_aload_n dX9_exchange_26 rfl ?_
      refine x_iconst (1 : Int32) dX9_exchange_27 (by decide) ?_
      obtain ⟨z28, y28, h⟩ := xbind h
      refine x_callV (t_hN_X9_denied (1 : Int32) z28 y28 (d + 0)) kX9_488 dX9_exchange_28 rfl rfl rfl rfl rfl (Nat.le_of_ble_eq_true rfl) (Nat.le_of_ble_eq_true rfl) rfl rfl (Or.inl rfl) ?_
      obtain ⟨-, q31, h⟩ := xbo_of h
      cases h
      exact x_zret2 dX9_exchange_31 rfl q31 rfl
    · have h := xif_f q h
      refine x_iload_n dX9_exchange_21 rfl ?_
      refine x_iload_n dX9_exchange_22 rfl ?_
      refine x_icmp_ne 32 dX9_exchange_23 (by decide) (fun q => ?_) (fun q => ?_)
      · have h := xif_f q h
        refine x_aload_n dX9_exchange_32 rfl ?_
        refine x_aload_n dX9_exchange_33 rfl ?_
        refine x_get fX9_17 dX9_exchange_34 rfl rfl rfl ?_
        refine x_iload_n dX9_exchange_37 rfl ?_
        refine x_iload_n dX9_exchange_38 rfl ?_
        obtain ⟨z39, y39, h⟩ := xbind h
        refine x_callV (t_hN_X9_canExchange x1 x2 z39 y39 (d + 1)) kX9_411 dX9_exchange_39 rfl rfl rfl rfl rfl (Nat.le_of_ble_eq_true rfl) (Nat.le_of_ble_eq_true rfl) rfl rfl (Or.inl rfl) ?_
        refine x_if_ne 51 dX9_exchange_42 (by decide) (fun q => ?_) (fun q => ?_)
        · have h := xif_f q h
          refine x_aload_n dX9_exchange_51 rfl ?_
          obtain ⟨z52, y52, h⟩ := xbind h
          refine x_callV (t_hN_X9_remembers  z52 y52 (d + 1)) kX9_491 dX9_exchange_52 rfl rfl rfl rfl rfl (Nat.le_of_ble_eq_true rfl) (Nat.le_of_ble_eq_true rfl) rfl rfl (Or.inl rfl) ?_
          refine x_aload_n dX9_exchange_55 rfl ?_
          refine x_get fX9_17 dX9_exchange_56 rfl rfl rfl ?_
          refine x_iload_n dX9_exchange_59 rfl ?_
          refine x_iload_n dX9_exchange_60 rfl ?_
          obtain ⟨z61, y61, h⟩ := xbind h
          refine x_callS (t_hN_X9_changes x1 x2 z61 y61 (d + 1)) kX9_345 dX9_exchange_61 rfl rfl (Nat.le_of_ble_eq_true rfl) (Nat.le_of_ble_eq_true rfl) rfl rfl (Or.inl rfl) ?_
          refine x_aload_n dX9_exchange_64 rfl ?_
          obtain ⟨z65, y65, h⟩ := xbind h
          refine x_callV (t_hN_X9_granted  z65 y65 (d + 0)) kX9_494 dX9_exchange_65 rfl rfl rfl rfl rfl (Nat.le_of_ble_eq_true rfl) (Nat.le_of_ble_eq_true rfl) rfl rfl (Or.inl rfl) ?_
          obtain ⟨-, q68, h⟩ := xbo_of h
          cases h
          exact x_zret2 dX9_exchange_68 rfl q68 rfl
        · have h := xif_t q h
          refine x_aload_n dX9_exchange_45 rfl ?_
          refine x_iconst (5 : Int32) dX9_exchange_46 (by decide) ?_
          obtain ⟨z47, y47, h⟩ := xbind h
          refine x_callV (t_hN_X9_denied (5 : Int32) z47 y47 (d + 0)) kX9_488 dX9_exchange_47 rfl rfl rfl rfl rfl (Nat.le_of_ble_eq_true rfl) (Nat.le_of_ble_eq_true rfl) rfl rfl (Or.inl rfl) ?_
          obtain ⟨-, q50, h⟩ := xbo_of h
          cases h
          exact x_zret2 dX9_exchange_50 rfl q50 rfl
      · have h := xif_t q h
        refine x_aload_n dX9_exchange_26 rfl ?_
        refine x_iconst (1 : Int32) dX9_exchange_27 (by decide) ?_
        obtain ⟨z28, y28, h⟩ := xbind h
        refine x_callV (t_hN_X9_denied (1 : Int32) z28 y28 (d + 0)) kX9_488 dX9_exchange_28 rfl rfl rfl rfl rfl (Nat.le_of_ble_eq_true rfl) (Nat.le_of_ble_eq_true rfl) rfl rfl (Or.inl rfl) ?_
        obtain ⟨-, q31, h⟩ := xbo_of h
        cases h
        exact x_zret2 dX9_exchange_31 rfl q31 rfl
noncomputable def e_hN_X9_day (p0 : Int32) (p1 : Int32) (p2 : Int32) (x1 : Int32) : Option (Int32 × Int32 × Int32 × Int32) :=
  ((e_hN_X9_refused p1 p2 (1 : Int32)).bind fun z14 => some (z14.1, (0 : Int32), z14.2.1, z14.2.2))
set_option maxRecDepth 100000 in
set_option maxHeartbeats 4000000 in
theorem t_hN_X9_day {g0 g1 g2 g3 g4 g5 g6 g7 g8 g9 g10 g11 g12 g13 g14 g15 g16 g17 g18 : Int32} {a0 a1 a2 a3 a4 a5 a6 a7 a8 a9 : (Nat → Int32)} {w0 : Int64} {rv : Value} (x1 : Int32) (res : Int32 × Int32 × Int32 × Int32) (h : e_hN_X9_day g0 g1 g2 x1 = some res) (d : Nat) : xMet xks YX9_day (d + 2) 0 0 [.ref 0, .int x1] (hN g0 g1 g2 g3 g4 g5 g6 g7 g8 g9 g10 g11 g12 g13 g14 g15 g16 g17 g18 a0 a1 a2 a3 a4 a5 a6 a7 a8 a9 w0 .null rv) (some (.int res.1)) (hN res.2.1 res.2.2.1 res.2.2.2 g3 g4 g5 g6 g7 g8 g9 g10 g11 g12 g13 g14 g15 g16 g17 g18 a0 a1 a2 a3 a4 a5 a6 a7 a8 a9 w0 .null rv) := by
  unfold e_hN_X9_day at h
  refine xMet_of (pl := [some (.ref 0), some (.int x1), none, none]) (by decide) (Nat.le_of_ble_eq_true rfl) rfl (Nat.le_of_ble_eq_true rfl) ?_
  refine x_aload_n dX9_day_0 rfl ?_
  refine x_iconst (0 : Int32) dX9_day_1 (by decide) ?_
  refine x_put (h2 := (hN (0 : Int32) g1 g2 g3 g4 g5 g6 g7 g8 g9 g10 g11 g12 g13 g14 g15 g16 g17 g18 a0 a1 a2 a3 a4 a5 a6 a7 a8 a9 w0 .null rv)) fX9_45 dX9_day_2 rfl rfl (Nat.le_of_ble_eq_true rfl : 0 + 1 ≤ _) (fun α => ⟨rfl, rfl⟩) rfl ?_
  refine x_aload_n dX9_day_5 rfl ?_
  refine x_get fX9_316 dX9_day_6 rfl rfl rfl ?_
  refine x_ifnonnullN dX9_day_9 ?_
  refine x_aload_n dX9_day_12 rfl ?_
  refine x_iconst (1 : Int32) dX9_day_13 (by decide) ?_
  obtain ⟨z14, y14, h⟩ := xbind h
  refine x_callV (t_hN_X9_refused (1 : Int32) z14 y14 (d + 0)) kX9_51 dX9_day_14 rfl rfl rfl rfl rfl (Nat.le_of_ble_eq_true rfl) (Nat.le_of_ble_eq_true rfl) rfl rfl (Or.inl rfl) ?_
  cases h
  exact x_iret2 dX9_day_17 rfl rfl
noncomputable def e_hN_X9_undo (p0 : Int32) (p1 : Int32) (p2 : Int32)  : Option (Int32 × Int32 × Int32 × Int32) :=
  ((e_hN_X9_denied p1 p2 (6 : Int32)).bind fun z22 => xbo z22.1 (some (z22.1, (0 : Int32), z22.2.1, z22.2.2)))
set_option maxRecDepth 100000 in
set_option maxHeartbeats 4000000 in
theorem t_hN_X9_undo {g0 g1 g2 g3 g4 g5 g6 g7 g8 g9 g10 g11 g12 g13 g14 g15 g16 g17 g18 : Int32} {a0 a1 a2 a3 a4 a5 a6 a7 a8 a9 : (Nat → Int32)} {w0 : Int64} {rv : Value}  (res : Int32 × Int32 × Int32 × Int32) (h : e_hN_X9_undo g0 g1 g2  = some res) (d : Nat) : xMet xks YX9_undo (d + 3) 0 0 [.ref 0] (hN g0 g1 g2 g3 g4 g5 g6 g7 g8 g9 g10 g11 g12 g13 g14 g15 g16 g17 g18 a0 a1 a2 a3 a4 a5 a6 a7 a8 a9 w0 .null rv) (some (.int res.1)) (hN res.2.1 res.2.2.1 res.2.2.2 g3 g4 g5 g6 g7 g8 g9 g10 g11 g12 g13 g14 g15 g16 g17 g18 a0 a1 a2 a3 a4 a5 a6 a7 a8 a9 w0 .null rv) := by
  unfold e_hN_X9_undo at h
  refine xMet_of (pl := [some (.ref 0), none]) (by decide) (Nat.le_of_ble_eq_true rfl) rfl (Nat.le_of_ble_eq_true rfl) ?_
  refine x_aload_n dX9_undo_0 rfl ?_
  refine x_iconst (0 : Int32) dX9_undo_1 (by decide) ?_
  refine x_put (h2 := (hN (0 : Int32) g1 g2 g3 g4 g5 g6 g7 g8 g9 g10 g11 g12 g13 g14 g15 g16 g17 g18 a0 a1 a2 a3 a4 a5 a6 a7 a8 a9 w0 .null rv)) fX9_45 dX9_undo_2 rfl rfl (Nat.le_of_ble_eq_true rfl : 0 + 1 ≤ _) (fun α => ⟨rfl, rfl⟩) rfl ?_
  refine x_aload_n dX9_undo_5 rfl ?_
  refine x_get fX9_316 dX9_undo_6 rfl rfl rfl ?_
  refine x_ifnullN 19 dX9_undo_9 (by decide) ?_
  refine x_aload_n dX9_undo_19 rfl ?_
  refine x_bipush (6 : Int32) dX9_undo_20 (by decide) ?_
  obtain ⟨z22, y22, h⟩ := xbind h
  refine x_callV (t_hN_X9_denied (6 : Int32) z22 y22 (d + 0)) kX9_488 dX9_undo_22 rfl rfl rfl rfl rfl (Nat.le_of_ble_eq_true rfl) (Nat.le_of_ble_eq_true rfl) rfl rfl (Or.inl rfl) ?_
  obtain ⟨-, q25, h⟩ := xbo_of h
  cases h
  exact x_zret2 dX9_undo_25 rfl q25 rfl
noncomputable def e_hN_X9_mark (p0 : Int32) (p1 : Int32) (p2 : Int32)  : Option (Int32 × Int32 × Int32 × Int32) :=
  ((e_hN_X9_refused p1 p2 (1 : Int32)).bind fun z14 => some (z14.1, (0 : Int32), z14.2.1, z14.2.2))
set_option maxRecDepth 100000 in
set_option maxHeartbeats 4000000 in
theorem t_hN_X9_mark {g0 g1 g2 g3 g4 g5 g6 g7 g8 g9 g10 g11 g12 g13 g14 g15 g16 g17 g18 : Int32} {a0 a1 a2 a3 a4 a5 a6 a7 a8 a9 : (Nat → Int32)} {w0 : Int64} {rv : Value}  (res : Int32 × Int32 × Int32 × Int32) (h : e_hN_X9_mark g0 g1 g2  = some res) (d : Nat) : xMet xks YX9_mark (d + 2) 0 0 [.ref 0] (hN g0 g1 g2 g3 g4 g5 g6 g7 g8 g9 g10 g11 g12 g13 g14 g15 g16 g17 g18 a0 a1 a2 a3 a4 a5 a6 a7 a8 a9 w0 .null rv) (some (.int res.1)) (hN res.2.1 res.2.2.1 res.2.2.2 g3 g4 g5 g6 g7 g8 g9 g10 g11 g12 g13 g14 g15 g16 g17 g18 a0 a1 a2 a3 a4 a5 a6 a7 a8 a9 w0 .null rv) := by
  unfold e_hN_X9_mark at h
  refine xMet_of (pl := [some (.ref 0), none]) (by decide) (Nat.le_of_ble_eq_true rfl) rfl (Nat.le_of_ble_eq_true rfl) ?_
  refine x_aload_n dX9_mark_0 rfl ?_
  refine x_iconst (0 : Int32) dX9_mark_1 (by decide) ?_
  refine x_put (h2 := (hN (0 : Int32) g1 g2 g3 g4 g5 g6 g7 g8 g9 g10 g11 g12 g13 g14 g15 g16 g17 g18 a0 a1 a2 a3 a4 a5 a6 a7 a8 a9 w0 .null rv)) fX9_45 dX9_mark_2 rfl rfl (Nat.le_of_ble_eq_true rfl : 0 + 1 ≤ _) (fun α => ⟨rfl, rfl⟩) rfl ?_
  refine x_aload_n dX9_mark_5 rfl ?_
  refine x_get fX9_316 dX9_mark_6 rfl rfl rfl ?_
  refine x_ifnonnullN dX9_mark_9 ?_
  refine x_aload_n dX9_mark_12 rfl ?_
  refine x_iconst (1 : Int32) dX9_mark_13 (by decide) ?_
  obtain ⟨z14, y14, h⟩ := xbind h
  refine x_callV (t_hN_X9_refused (1 : Int32) z14 y14 (d + 0)) kX9_51 dX9_mark_14 rfl rfl rfl rfl rfl (Nat.le_of_ble_eq_true rfl) (Nat.le_of_ble_eq_true rfl) rfl rfl (Or.inl rfl) ?_
  cases h
  exact x_iret2 dX9_mark_17 rfl rfl
noncomputable def e_hN_X9_back (p0 : Int32) (p1 : Int32) (p2 : Int32) (x1 : Int32) : Option (Int32 × Int32 × Int32 × Int32) :=
  ((e_hN_X9_denied p1 p2 (1 : Int32)).bind fun z26 => xbo z26.1 (some (z26.1, (0 : Int32), z26.2.1, z26.2.2)))
set_option maxRecDepth 100000 in
set_option maxHeartbeats 4000000 in
theorem t_hN_X9_back {g0 g1 g2 g3 g4 g5 g6 g7 g8 g9 g10 g11 g12 g13 g14 g15 g16 g17 g18 : Int32} {a0 a1 a2 a3 a4 a5 a6 a7 a8 a9 : (Nat → Int32)} {w0 : Int64} {rv : Value} (x1 : Int32) (res : Int32 × Int32 × Int32 × Int32) (h : e_hN_X9_back g0 g1 g2 x1 = some res) (d : Nat) : xMet xks YX9_back (d + 3) 0 0 [.ref 0, .int x1] (hN g0 g1 g2 g3 g4 g5 g6 g7 g8 g9 g10 g11 g12 g13 g14 g15 g16 g17 g18 a0 a1 a2 a3 a4 a5 a6 a7 a8 a9 w0 .null rv) (some (.int res.1)) (hN res.2.1 res.2.2.1 res.2.2.2 g3 g4 g5 g6 g7 g8 g9 g10 g11 g12 g13 g14 g15 g16 g17 g18 a0 a1 a2 a3 a4 a5 a6 a7 a8 a9 w0 .null rv) := by
  unfold e_hN_X9_back at h
  refine xMet_of (pl := [some (.ref 0), some (.int x1), none]) (by decide) (Nat.le_of_ble_eq_true rfl) rfl (Nat.le_of_ble_eq_true rfl) ?_
  refine x_aload_n dX9_back_0 rfl ?_
  refine x_iconst (0 : Int32) dX9_back_1 (by decide) ?_
  refine x_put (h2 := (hN (0 : Int32) g1 g2 g3 g4 g5 g6 g7 g8 g9 g10 g11 g12 g13 g14 g15 g16 g17 g18 a0 a1 a2 a3 a4 a5 a6 a7 a8 a9 w0 .null rv)) fX9_45 dX9_back_2 rfl rfl (Nat.le_of_ble_eq_true rfl : 0 + 1 ≤ _) (fun α => ⟨rfl, rfl⟩) rfl ?_
  refine x_aload_n dX9_back_5 rfl ?_
  refine x_get fX9_316 dX9_back_6 rfl rfl rfl ?_
  refine x_ifnullN 24 dX9_back_9 (by decide) ?_
  refine x_aload_n dX9_back_24 rfl ?_
  refine x_iconst (1 : Int32) dX9_back_25 (by decide) ?_
  obtain ⟨z26, y26, h⟩ := xbind h
  refine x_callV (t_hN_X9_denied (1 : Int32) z26 y26 (d + 0)) kX9_488 dX9_back_26 rfl rfl rfl rfl rfl (Nat.le_of_ble_eq_true rfl) (Nat.le_of_ble_eq_true rfl) rfl rfl (Or.inl rfl) ?_
  obtain ⟨-, q29, h⟩ := xbo_of h
  cases h
  exact x_zret2 dX9_back_29 rfl q29 rfl
noncomputable def e_hN_X9_size (p0 : Int32) (p1 : Int32) (x1 : Int32) : Option (Int32 × Int32) :=
  if x1 = (10 : Int32) then some (p1, (0 : Int32)) else ((e_hN_X9_in x1 (0 : Int32) (9 : Int32)).bind fun z20 => if z20 = (0 : Int32) then some ((-1 : Int32), (0 : Int32)) else some ((0 : Int32), (0 : Int32)))
set_option maxRecDepth 100000 in
set_option maxHeartbeats 4000000 in
theorem t_hN_X9_size {g0 g1 g2 g3 g4 g5 g6 g7 g8 g9 g10 g11 g12 g13 g14 g15 g16 g17 g18 : Int32} {a0 a1 a2 a3 a4 a5 a6 a7 a8 a9 : (Nat → Int32)} {w0 : Int64} {rv : Value} (x1 : Int32) (res : Int32 × Int32) (h : e_hN_X9_size g0 g3 x1 = some res) (d : Nat) : xMet xks YX9_size (d + 2) 0 0 [.ref 0, .int x1] (hN g0 g1 g2 g3 g4 g5 g6 g7 g8 g9 g10 g11 g12 g13 g14 g15 g16 g17 g18 a0 a1 a2 a3 a4 a5 a6 a7 a8 a9 w0 .null rv) (some (.int res.1)) (hN res.2 g1 g2 g3 g4 g5 g6 g7 g8 g9 g10 g11 g12 g13 g14 g15 g16 g17 g18 a0 a1 a2 a3 a4 a5 a6 a7 a8 a9 w0 .null rv) := by
  unfold e_hN_X9_size at h
  refine xMet_of (pl := [some (.ref 0), some (.int x1)]) (by decide) (Nat.le_of_ble_eq_true rfl) rfl (Nat.le_of_ble_eq_true rfl) ?_
  refine x_aload_n dX9_size_0 rfl ?_
  refine x_iconst (0 : Int32) dX9_size_1 (by decide) ?_
  refine x_put (h2 := (hN (0 : Int32) g1 g2 g3 g4 g5 g6 g7 g8 g9 g10 g11 g12 g13 g14 g15 g16 g17 g18 a0 a1 a2 a3 a4 a5 a6 a7 a8 a9 w0 .null rv)) fX9_45 dX9_size_2 rfl rfl (Nat.le_of_ble_eq_true rfl : 0 + 1 ≤ _) (fun α => ⟨rfl, rfl⟩) rfl ?_
  refine x_iload_n dX9_size_5 rfl ?_
  refine x_bipush (10 : Int32) dX9_size_6 (by decide) ?_
  refine x_icmp_ne 16 dX9_size_8 (by decide) (fun q => ?_) (fun q => ?_)
  · have h := xif_f q h
    refine x_iload_n dX9_size_16 rfl ?_
    refine x_iconst (0 : Int32) dX9_size_17 (by decide) ?_
    refine x_bipush (9 : Int32) dX9_size_18 (by decide) ?_
    obtain ⟨z20, y20, h⟩ := xbind h
    refine x_callS (t_hN_X9_in x1 (0 : Int32) (9 : Int32) z20 y20 (d + 0)) kX9_124 dX9_size_20 rfl rfl (Nat.le_of_ble_eq_true rfl) (Nat.le_of_ble_eq_true rfl) rfl rfl (Or.inl rfl) ?_
    refine x_if_ne 28 dX9_size_23 (by decide) (fun q => ?_) (fun q => ?_)
    · have h := xif_f q h
      refine x_aload_n dX9_size_28 rfl ?_
      refine x_get fX9_316 dX9_size_29 rfl rfl rfl ?_
      refine x_ifnonnullN dX9_size_32 ?_
      refine x_iconst (0 : Int32) dX9_size_35 (by decide) ?_
      cases h
      exact x_iret2 dX9_size_36 rfl rfl
    · have h := xif_t q h
      refine x_iconst (-1 : Int32) dX9_size_26 (by decide) ?_
      cases h
      exact x_iret2 dX9_size_27 rfl rfl
  · have h := xif_t q h
    refine x_aload_n dX9_size_11 rfl ?_
    refine x_get fX9_309 dX9_size_12 rfl rfl rfl ?_
    cases h
    exact x_iret2 dX9_size_15 rfl rfl
noncomputable def e_hN_X9_trouble (p0 : Int32) (p1 : Int32)  : Option (Int32 × Int32) :=
  some (p1, (0 : Int32))
set_option maxRecDepth 100000 in
set_option maxHeartbeats 4000000 in
theorem t_hN_X9_trouble {g0 g1 g2 g3 g4 g5 g6 g7 g8 g9 g10 g11 g12 g13 g14 g15 g16 g17 g18 : Int32} {a0 a1 a2 a3 a4 a5 a6 a7 a8 a9 : (Nat → Int32)} {w0 : Int64} {rv : Value}  (res : Int32 × Int32) (h : e_hN_X9_trouble g0 g1  = some res) (d : Nat) : xMet xks YX9_trouble (d + 1) 0 0 [.ref 0] (hN g0 g1 g2 g3 g4 g5 g6 g7 g8 g9 g10 g11 g12 g13 g14 g15 g16 g17 g18 a0 a1 a2 a3 a4 a5 a6 a7 a8 a9 w0 .null rv) (some (.int res.1)) (hN res.2 g1 g2 g3 g4 g5 g6 g7 g8 g9 g10 g11 g12 g13 g14 g15 g16 g17 g18 a0 a1 a2 a3 a4 a5 a6 a7 a8 a9 w0 .null rv) := by
  unfold e_hN_X9_trouble at h
  refine xMet_of (pl := [some (.ref 0)]) (by decide) (Nat.le_of_ble_eq_true rfl) rfl (Nat.le_of_ble_eq_true rfl) ?_
  refine x_aload_n dX9_trouble_0 rfl ?_
  refine x_iconst (0 : Int32) dX9_trouble_1 (by decide) ?_
  refine x_put (h2 := (hN (0 : Int32) g1 g2 g3 g4 g5 g6 g7 g8 g9 g10 g11 g12 g13 g14 g15 g16 g17 g18 a0 a1 a2 a3 a4 a5 a6 a7 a8 a9 w0 .null rv)) fX9_45 dX9_trouble_2 rfl rfl (Nat.le_of_ble_eq_true rfl : 0 + 1 ≤ _) (fun α => ⟨rfl, rfl⟩) rfl ?_
  refine x_aload_n dX9_trouble_5 rfl ?_
  refine x_get fX9_48 dX9_trouble_6 rfl rfl rfl ?_
  cases h
  exact x_iret2 dX9_trouble_9 rfl rfl
noncomputable def e_hN_X9_thrown (p0 : Int32)  : Option (Int32) :=
  some p0
set_option maxRecDepth 100000 in
set_option maxHeartbeats 4000000 in
theorem t_hN_X9_thrown {g0 g1 g2 g3 g4 g5 g6 g7 g8 g9 g10 g11 g12 g13 g14 g15 g16 g17 g18 : Int32} {a0 a1 a2 a3 a4 a5 a6 a7 a8 a9 : (Nat → Int32)} {w0 : Int64} {rv : Value}  (res : Int32) (h : e_hN_X9_thrown g0  = some res) (d : Nat) : xMet xks YX9_thrown (d + 1) 0 0 [.ref 0] (hN g0 g1 g2 g3 g4 g5 g6 g7 g8 g9 g10 g11 g12 g13 g14 g15 g16 g17 g18 a0 a1 a2 a3 a4 a5 a6 a7 a8 a9 w0 .null rv) (some (.int res)) (hN g0 g1 g2 g3 g4 g5 g6 g7 g8 g9 g10 g11 g12 g13 g14 g15 g16 g17 g18 a0 a1 a2 a3 a4 a5 a6 a7 a8 a9 w0 .null rv) := by
  unfold e_hN_X9_thrown at h
  refine xMet_of (pl := [some (.ref 0)]) (by decide) (Nat.le_of_ble_eq_true rfl) rfl (Nat.le_of_ble_eq_true rfl) ?_
  refine x_aload_n dX9_thrown_0 rfl ?_
  refine x_get fX9_45 dX9_thrown_1 rfl rfl rfl ?_
  cases h
  exact x_iret2 dX9_thrown_4 rfl rfl
noncomputable def L_hN_X9_led_9 (p0 : Int32)  (f1 : Int32) (K : Int32 → Int32 → Option (Int32 × Int32)) : Nat → Int32 → Int32 → Option (Int32 × Int32)
  | 0, _, _ => none
  | n9 + 1, l2_9, l3_9 => K l2_9 l3_9
noncomputable def e_hN_X9_led (p0 : Int32) (x1 : Int32) : Option (Int32 × Int32) :=
  L_hN_X9_led_9 (0 : Int32) x1 (fun l2_9 l3_9 => some ((0 : Int32), (1 : Int32))) 200000 (0 : Int32) (0 : Int32)
set_option maxRecDepth 100000 in
set_option maxHeartbeats 4000000 in
theorem lp_hN_X9_led_9 {g0 g1 g2 g3 g4 g5 g6 g7 g8 g9 g10 g11 g12 g13 g14 g15 g16 g17 g18 : Int32} {a0 a1 a2 a3 a4 a5 a6 a7 a8 a9 : (Nat → Int32)} {w0 : Int64} {rv : Value} (d n0 : Nat) (f1 : Int32) (res : Int32 × Int32) (K : Int32 → Int32 → Option (Int32 × Int32)) (hK : ∀ (l2_9 : Int32) (l3_9 : Int32), K l2_9 l3_9 = some res → xW xks YX9_led (d + 1) 0 0 n0 (xZ 0 0 n0 (some (.int res.1)) (hN res.2 g1 g2 g3 g4 g5 g6 g7 g8 g9 g10 g11 g12 g13 g14 g15 g16 g17 g18 a0 a1 a2 a3 a4 a5 a6 a7 a8 a9 w0 .null rv)) 0 0 59 [some (.ref 0), none, none, none] [] (hN g0 g1 g2 g3 g4 g5 g6 g7 g8 g9 g10 g11 g12 g13 g14 g15 g16 g17 g18 a0 a1 a2 a3 a4 a5 a6 a7 a8 a9 w0 .null rv)) : ∀ (n : Nat) (l2_9 : Int32) (l3_9 : Int32), L_hN_X9_led_9 g0 f1 K n l2_9 l3_9 = some res → xW xks YX9_led (d + 1) 0 0 n0 (xZ 0 0 n0 (some (.int res.1)) (hN res.2 g1 g2 g3 g4 g5 g6 g7 g8 g9 g10 g11 g12 g13 g14 g15 g16 g17 g18 a0 a1 a2 a3 a4 a5 a6 a7 a8 a9 w0 .null rv)) 0 0 9 [some (.ref 0), some (.int f1), some (.int l2_9), some (.int l3_9)] [] (hN g0 g1 g2 g3 g4 g5 g6 g7 g8 g9 g10 g11 g12 g13 g14 g15 g16 g17 g18 a0 a1 a2 a3 a4 a5 a6 a7 a8 a9 w0 .null rv) := by
  intro n
  induction n with
  | zero =>
    intro l2_9 l3_9 h
    cases (show (none : Option (Int32 × Int32)) = some res from h)
  | succ n9 ih9 =>
    intro l2_9 l3_9 h
    unfold L_hN_X9_led_9 at h
    refine x_aload_n dX9_led_9 rfl ?_
    refine x_get fX9_316 dX9_led_10 rfl rfl rfl ?_
    refine x_ifnullN 59 dX9_led_13 (by decide) ?_
    refine x_weak (pl2 := [some (.ref 0), none, none, none]) ⟨rfl, trivial⟩ ?_
    exact hK l2_9 l3_9 h
set_option maxRecDepth 100000 in
set_option maxHeartbeats 4000000 in
theorem t_hN_X9_led {g0 g1 g2 g3 g4 g5 g6 g7 g8 g9 g10 g11 g12 g13 g14 g15 g16 g17 g18 : Int32} {a0 a1 a2 a3 a4 a5 a6 a7 a8 a9 : (Nat → Int32)} {w0 : Int64} {rv : Value} (x1 : Int32) (res : Int32 × Int32) (h : e_hN_X9_led g0 x1 = some res) (d : Nat) : xMet xks YX9_led (d + 1) 0 0 [.ref 0, .int x1] (hN g0 g1 g2 g3 g4 g5 g6 g7 g8 g9 g10 g11 g12 g13 g14 g15 g16 g17 g18 a0 a1 a2 a3 a4 a5 a6 a7 a8 a9 w0 .null rv) (some (.int res.1)) (hN res.2 g1 g2 g3 g4 g5 g6 g7 g8 g9 g10 g11 g12 g13 g14 g15 g16 g17 g18 a0 a1 a2 a3 a4 a5 a6 a7 a8 a9 w0 .null rv) := by
  unfold e_hN_X9_led at h
  refine xMet_of (pl := [some (.ref 0), some (.int x1), none, none]) (by decide) (Nat.le_of_ble_eq_true rfl) rfl (Nat.le_of_ble_eq_true rfl) ?_
  refine x_aload_n dX9_led_0 rfl ?_
  refine x_iconst (0 : Int32) dX9_led_1 (by decide) ?_
  refine x_put (h2 := (hN (0 : Int32) g1 g2 g3 g4 g5 g6 g7 g8 g9 g10 g11 g12 g13 g14 g15 g16 g17 g18 a0 a1 a2 a3 a4 a5 a6 a7 a8 a9 w0 .null rv)) fX9_45 dX9_led_2 rfl rfl (Nat.le_of_ble_eq_true rfl : 0 + 1 ≤ _) (fun α => ⟨rfl, rfl⟩) rfl ?_
  refine x_iconst (0 : Int32) dX9_led_5 (by decide) ?_
  refine x_istore_n (pl' := [some (.ref 0), some (.int x1), some (.int (0 : Int32)), none]) dX9_led_6 (by decide) rfl ?_
  refine x_iconst (0 : Int32) dX9_led_7 (by decide) ?_
  refine x_istore_n (pl' := [some (.ref 0), some (.int x1), some (.int (0 : Int32)), some (.int (0 : Int32))]) dX9_led_8 (by decide) rfl ?_
  refine x_weak (pl2 := [some (.ref 0), some (.int x1), some (.int (0 : Int32)), some (.int (0 : Int32))]) ⟨rfl, rfl, rfl, rfl, trivial⟩ ?_
  refine lp_hN_X9_led_9 d _ x1 res _ (fun l2_9 l3_9 h => ?_) 200000 (0 : Int32) (0 : Int32) h
  refine x_aload_n dX9_led_59 rfl ?_
  refine x_iconst (1 : Int32) dX9_led_60 (by decide) ?_
  refine x_put (h2 := (hN (1 : Int32) g1 g2 g3 g4 g5 g6 g7 g8 g9 g10 g11 g12 g13 g14 g15 g16 g17 g18 a0 a1 a2 a3 a4 a5 a6 a7 a8 a9 w0 .null rv)) fX9_45 dX9_led_61 rfl rfl (Nat.le_of_ble_eq_true rfl : 0 + 1 ≤ _) (fun α => ⟨rfl, rfl⟩) rfl ?_
  refine x_iconst (0 : Int32) dX9_led_64 (by decide) ?_
  cases h
  exact x_iret2 dX9_led_65 rfl rfl
