set_option maxRecDepth 100000 in
set_option maxHeartbeats 4000000 in
theorem t_hA_X5_readNumber_4 {g0 g1 g2 g3 g4 g5 g6 g7 g8 g9 g10 g11 g12 g13 g14 g15 g16 g17 g18 g19 g20 g21 g22 g23 g24 g25 g26 g27 g28 g29 g30 g31 g32 g33 g34 g35 g36 : Int32} {a0 a1 a2 a3 a4 a5 a6 a7 a8 a9 a10 a11 a12 a13 a14 a15 a16 a17 a18 a19 a20 a21 a22 a23 a24 a25 a26 a27 a28 a29 a30 a31 a32 a33 a34 a35 a36 a37 a38 a39 : (Nat → Int32)} {b0 b1 b2 b3 b4 : (Nat → Int64)} {w0 : Int64} (x2 : Int32) (x3 : Int32) (res : Int32 × Int32 × Int64 × Int32 × Int32 × Int32 × Int32) (h : e_hA_X5_readNumber g19 w0 g18 g17 g15 a13 g14 g20 (xsy 2) x2 x3 = some res) (d : Nat) : xMet xks YX5_readNumber (d + 6) 0 0 [.ref 17, .ref 1002, .int x2, .int x3] (hA g0 g1 g2 g3 g4 g5 g6 g7 g8 g9 g10 g11 g12 g13 g14 g15 g16 g17 g18 g19 g20 g21 g22 g23 g24 g25 g26 g27 g28 g29 g30 g31 g32 g33 g34 g35 g36 a0 a1 a2 a3 a4 a5 a6 a7 a8 a9 a10 a11 a12 a13 a14 a15 a16 a17 a18 a19 a20 a21 a22 a23 a24 a25 a26 a27 a28 a29 a30 a31 a32 a33 a34 a35 a36 a37 a38 a39 b0 b1 b2 b3 b4 w0 (.ref 19) (.ref 1)) (some (.int res.1)) (hA g0 g1 g2 g3 g4 g5 g6 g7 g8 g9 g10 g11 g12 g13 res.2.2.2.2.2.1 res.2.1 g16 g17 res.2.2.2.2.1 res.2.2.2.1 res.2.2.2.2.2.2 g21 g22 g23 g24 g25 g26 g27 g28 g29 g30 g31 g32 g33 g34 g35 g36 a0 a1 a2 a3 a4 a5 a6 a7 a8 a9 a10 a11 a12 a13 a14 a15 a16 a17 a18 a19 a20 a21 a22 a23 a24 a25 a26 a27 a28 a29 a30 a31 a32 a33 a34 a35 a36 a37 a38 a39 b0 b1 b2 b3 b4 res.2.2.1 (.ref 19) (.ref 1)) := by
  unfold e_hA_X5_readNumber at h
  refine xMet_of (pl := [some (.ref 17), some (.ref 1002), some (.int x2), some (.int x3)]) (by decide) (Nat.le_of_ble_eq_true rfl) rfl (Nat.le_of_ble_eq_true rfl) ?_
  refine x_aload_n dX5_readNumber_0 rfl ?_
  refine x_aload_n dX5_readNumber_1 rfl ?_
  obtain ⟨z2, y2, h⟩ := xbind h
  refine x_callV (t_hA_X5_indexAmong_8  z2 y2 (d + 0)) kX5_104 dX5_readNumber_2 rfl rfl rfl rfl rfl (Nat.le_of_ble_eq_true rfl) (Nat.le_of_ble_eq_true rfl) rfl rfl (Or.inl rfl) ?_
  refine x_iconst (-1 : Int32) dX5_readNumber_5 (by decide) ?_
  refine x_icmp_ne 15 dX5_readNumber_6 (by decide) (fun q => ?_) (fun q => ?_)
  · have h := xif_f q h
    refine x_aload_n dX5_readNumber_15 rfl ?_
    obtain ⟨z16, y16, h⟩ := xbind h
    refine x_callV (t_hA_X5_readToken  z16 y16 (d + 2)) kX5_68 dX5_readNumber_16 rfl rfl rfl rfl rfl (Nat.le_of_ble_eq_true rfl) (Nat.le_of_ble_eq_true rfl) rfl rfl (Or.inl rfl) ?_
    refine x_aload_n dX5_readNumber_19 rfl ?_
    refine x_get fX5_31 dX5_readNumber_20 rfl rfl rfl ?_
    refine x_iconst (2 : Int32) dX5_readNumber_23 (by decide) ?_
    refine x_icmp_eq 33 dX5_readNumber_24 (by decide) (fun q => ?_) (fun q => ?_)
    · have h := xif_t q h
      refine x_aload_n dX5_readNumber_33 rfl ?_
      refine x_get fX5_34 dX5_readNumber_34 rfl rfl rfl ?_
      refine x_iload_n dX5_readNumber_37 rfl ?_
      refine x_i2l dX5_readNumber_38 ?_
      refine x_lcmp dX5_readNumber_39 ?_
      refine x_if_lt 53 dX5_readNumber_40 (by decide) (fun q => ?_) (fun q => ?_)
      · have h := xif_t q h
        refine x_aload_n dX5_readNumber_53 rfl ?_
        refine x_iconst (4 : Int32) dX5_readNumber_54 (by decide) ?_
        obtain ⟨z55, y55, h⟩ := xbind h
        refine x_callV (t_hA_X5_fail (4 : Int32) z55 y55 (d + 4)) kX5_75 dX5_readNumber_55 rfl rfl rfl rfl rfl (Nat.le_of_ble_eq_true rfl) (Nat.le_of_ble_eq_true rfl) rfl rfl (Or.inl rfl) ?_
        obtain ⟨-, q58, h⟩ := xbo_of h
        cases h
        exact x_zret2 dX5_readNumber_58 rfl q58 rfl
      · have h := xif_f q h
        refine x_aload_n dX5_readNumber_43 rfl ?_
        refine x_get fX5_34 dX5_readNumber_44 rfl rfl rfl ?_
        refine x_iload_n dX5_readNumber_47 rfl ?_
        refine x_i2l dX5_readNumber_48 ?_
        refine x_lcmp dX5_readNumber_49 ?_
        refine x_if_le 59 dX5_readNumber_50 (by decide) (fun q => ?_) (fun q => ?_)
        · have h := xif_t q h
          refine x_aload_n dX5_readNumber_59 rfl ?_
          refine x_aload_n dX5_readNumber_60 rfl ?_
          refine x_get fX5_34 dX5_readNumber_61 rfl rfl rfl ?_
          refine x_l2i dX5_readNumber_64 ?_
          refine x_put (h2 := (hA g0 g1 g2 g3 g4 g5 g6 g7 g8 g9 g10 g11 g12 g13 g14 z16.1 g16 g17 z16.2.2.2 z16.2.2.1 z16.2.1.toInt32 g21 g22 g23 g24 g25 g26 g27 g28 g29 g30 g31 g32 g33 g34 g35 g36 a0 a1 a2 a3 a4 a5 a6 a7 a8 a9 a10 a11 a12 a13 a14 a15 a16 a17 a18 a19 a20 a21 a22 a23 a24 a25 a26 a27 a28 a29 a30 a31 a32 a33 a34 a35 a36 a37 a38 a39 b0 b1 b2 b3 b4 z16.2.1 (.ref 19) (.ref 1))) fX5_38 dX5_readNumber_65 rfl rfl (Nat.le_of_ble_eq_true rfl : 8 + 1 ≤ _) (fun α => ⟨rfl, rfl⟩) rfl ?_
          refine x_aload_n dX5_readNumber_68 rfl ?_
          obtain ⟨z69, y69, h⟩ := xbind h
          refine x_callV (t_hA_X5_readToken  z69 y69 (d + 2)) kX5_68 dX5_readNumber_69 rfl rfl rfl rfl rfl (Nat.le_of_ble_eq_true rfl) (Nat.le_of_ble_eq_true rfl) rfl rfl (Or.inl rfl) ?_
          refine x_iconst (1 : Int32) dX5_readNumber_72 (by decide) ?_
          cases h
          exact x_zret2 dX5_readNumber_73 rfl rfl rfl
        · have h := xif_f q h
          refine x_aload_n dX5_readNumber_53 rfl ?_
          refine x_iconst (4 : Int32) dX5_readNumber_54 (by decide) ?_
          obtain ⟨z55, y55, h⟩ := xbind h
          refine x_callV (t_hA_X5_fail (4 : Int32) z55 y55 (d + 4)) kX5_75 dX5_readNumber_55 rfl rfl rfl rfl rfl (Nat.le_of_ble_eq_true rfl) (Nat.le_of_ble_eq_true rfl) rfl rfl (Or.inl rfl) ?_
          obtain ⟨-, q58, h⟩ := xbo_of h
          cases h
          exact x_zret2 dX5_readNumber_58 rfl q58 rfl
    · have h := xif_f q h
      refine x_aload_n dX5_readNumber_27 rfl ?_
      refine x_iconst (1 : Int32) dX5_readNumber_28 (by decide) ?_
      obtain ⟨z29, y29, h⟩ := xbind h
      refine x_callV (t_hA_X5_fail (1 : Int32) z29 y29 (d + 4)) kX5_75 dX5_readNumber_29 rfl rfl rfl rfl rfl (Nat.le_of_ble_eq_true rfl) (Nat.le_of_ble_eq_true rfl) rfl rfl (Or.inl rfl) ?_
      obtain ⟨-, q32, h⟩ := xbo_of h
      cases h
      exact x_zret2 dX5_readNumber_32 rfl q32 rfl
  · have h := xif_t q h
    refine x_aload_n dX5_readNumber_9 rfl ?_
    refine x_iconst (1 : Int32) dX5_readNumber_10 (by decide) ?_
    obtain ⟨z11, y11, h⟩ := xbind h
    refine x_callV (t_hA_X5_fail (1 : Int32) z11 y11 (d + 4)) kX5_75 dX5_readNumber_11 rfl rfl rfl rfl rfl (Nat.le_of_ble_eq_true rfl) (Nat.le_of_ble_eq_true rfl) rfl rfl (Or.inl rfl) ?_
    obtain ⟨-, q14, h⟩ := xbo_of h
    cases h
    exact x_zret2 dX5_readNumber_14 rfl q14 rfl
set_option maxRecDepth 100000 in
set_option maxHeartbeats 4000000 in
theorem lp_hA_X5_indexAmong_9_17 {g0 g1 g2 g3 g4 g5 g6 g7 g8 g9 g10 g11 g12 g13 g14 g15 g16 g17 g18 g19 g20 g21 g22 g23 g24 g25 g26 g27 g28 g29 g30 g31 g32 g33 g34 g35 g36 : Int32} {a0 a1 a2 a3 a4 a5 a6 a7 a8 a9 a10 a11 a12 a13 a14 a15 a16 a17 a18 a19 a20 a21 a22 a23 a24 a25 a26 a27 a28 a29 a30 a31 a32 a33 a34 a35 a36 a37 a38 a39 : (Nat → Int32)} {b0 b1 b2 b3 b4 : (Nat → Int64)} {w0 : Int64} (d n0 : Nat)  (res : Int32) (K : Int32 → Int64 → Int32 → Option (Int32)) (hK : ∀ (l2_17 : Int32) (l3_17 : Int64) (l5_17 : Int32), K l2_17 l3_17 l5_17 = some res → xW xks YX5_indexAmong (d + 5) 0 0 n0 (xZ 0 0 n0 (some (.int res)) (hA g0 g1 g2 g3 g4 g5 g6 g7 g8 g9 g10 g11 g12 g13 g14 g15 g16 g17 g18 g19 g20 g21 g22 g23 g24 g25 g26 g27 g28 g29 g30 g31 g32 g33 g34 g35 g36 a0 a1 a2 a3 a4 a5 a6 a7 a8 a9 a10 a11 a12 a13 a14 a15 a16 a17 a18 a19 a20 a21 a22 a23 a24 a25 a26 a27 a28 a29 a30 a31 a32 a33 a34 a35 a36 a37 a38 a39 b0 b1 b2 b3 b4 w0 (.ref 19) (.ref 1))) 0 0 95 [none, none, none, none, none, none, none] [] (hA g0 g1 g2 g3 g4 g5 g6 g7 g8 g9 g10 g11 g12 g13 g14 g15 g16 g17 g18 g19 g20 g21 g22 g23 g24 g25 g26 g27 g28 g29 g30 g31 g32 g33 g34 g35 g36 a0 a1 a2 a3 a4 a5 a6 a7 a8 a9 a10 a11 a12 a13 a14 a15 a16 a17 a18 a19 a20 a21 a22 a23 a24 a25 a26 a27 a28 a29 a30 a31 a32 a33 a34 a35 a36 a37 a38 a39 b0 b1 b2 b3 b4 w0 (.ref 19) (.ref 1))) : ∀ (n : Nat) (l2_17 : Int32) (l3_17 : Int64) (l5_17 : Int32), L_hA_X5_indexAmong_17 g19 w0 (xsy 3)  K n l2_17 l3_17 l5_17 = some res → xW xks YX5_indexAmong (d + 5) 0 0 n0 (xZ 0 0 n0 (some (.int res)) (hA g0 g1 g2 g3 g4 g5 g6 g7 g8 g9 g10 g11 g12 g13 g14 g15 g16 g17 g18 g19 g20 g21 g22 g23 g24 g25 g26 g27 g28 g29 g30 g31 g32 g33 g34 g35 g36 a0 a1 a2 a3 a4 a5 a6 a7 a8 a9 a10 a11 a12 a13 a14 a15 a16 a17 a18 a19 a20 a21 a22 a23 a24 a25 a26 a27 a28 a29 a30 a31 a32 a33 a34 a35 a36 a37 a38 a39 b0 b1 b2 b3 b4 w0 (.ref 19) (.ref 1))) 0 0 17 [some (.ref 17), some (.ref 1003), some (.int l2_17), some (.long l3_17), none, some (.int l5_17), none] [] (hA g0 g1 g2 g3 g4 g5 g6 g7 g8 g9 g10 g11 g12 g13 g14 g15 g16 g17 g18 g19 g20 g21 g22 g23 g24 g25 g26 g27 g28 g29 g30 g31 g32 g33 g34 g35 g36 a0 a1 a2 a3 a4 a5 a6 a7 a8 a9 a10 a11 a12 a13 a14 a15 a16 a17 a18 a19 a20 a21 a22 a23 a24 a25 a26 a27 a28 a29 a30 a31 a32 a33 a34 a35 a36 a37 a38 a39 b0 b1 b2 b3 b4 w0 (.ref 19) (.ref 1)) := by
  intro n
  induction n with
  | zero =>
    intro l2_17 l3_17 l5_17 h
    cases (show (none : Option (Int32)) = some res from h)
  | succ n17 ih17 =>
    intro l2_17 l3_17 l5_17 h
    unfold L_hA_X5_indexAmong_17 at h
    refine x_iload dX5_indexAmong_17 rfl ?_
    refine x_aload_n dX5_indexAmong_19 rfl ?_
    refine x_slen (k := 3) (s := xsy 3) rfl rfl (Nat.le_of_ble_eq_true rfl) kX5_93 dX5_indexAmong_20 (Nat.le_of_ble_eq_true rfl) ?_
    refine x_icmp_gt 95 dX5_indexAmong_23 (by decide) (fun q => ?_) (fun q => ?_)
    · have h := xif_t q h
      refine x_weak (pl2 := [none, none, none, none, none, none, none]) trivial ?_
      exact hK l2_17 l3_17 l5_17 h
    · have h := xif_f q h
      refine x_iload dX5_indexAmong_26 rfl ?_
      refine x_aload_n dX5_indexAmong_28 rfl ?_
      refine x_slen (k := 3) (s := xsy 3) rfl rfl (Nat.le_of_ble_eq_true rfl) kX5_93 dX5_indexAmong_29 (Nat.le_of_ble_eq_true rfl) ?_
      refine x_icmp_ge 44 dX5_indexAmong_32 (by decide) (fun q => ?_) (fun q => ?_)
      · have h := xif_t q h
        refine x_bipush (32 : Int32) dX5_indexAmong_44 (by decide) ?_
        refine x_istore (pl' := [some (.ref 17), some (.ref 1003), some (.int l2_17), some (.long l3_17), none, some (.int l5_17), some (.int (32 : Int32))]) dX5_indexAmong_46 (by decide) rfl ?_
        refine x_iload dX5_indexAmong_48 rfl ?_
        refine x_bipush (32 : Int32) dX5_indexAmong_50 (by decide) ?_
        refine x_icmp_eq 73 dX5_indexAmong_52 (by decide) (fun q => ?_) (fun q => ?_)
        · have h := xif_t q h
          refine x_lload_n dX5_indexAmong_73 rfl ?_
          refine x_aload_n dX5_indexAmong_74 rfl ?_
          refine x_get fX5_34 dX5_indexAmong_75 rfl rfl rfl ?_
          refine x_lcmp dX5_indexAmong_78 ?_
          refine x_if_ne 84 dX5_indexAmong_79 (by decide) (fun q => ?_) (fun q => ?_)
          · have h := xif_f q h
            refine x_iincK (1 : Int32) (pl' := [some (.ref 17), some (.ref 1003), some (.int (l2_17 + (1 : Int32))), some (.long l3_17), none, some (.int l5_17), some (.int (32 : Int32))]) dX5_indexAmong_84 rfl (by decide) (by decide) rfl ?_
            refine x_lconst (0 : Int64) dX5_indexAmong_87 (by decide) ?_
            refine x_lstore_n (pl' := [some (.ref 17), some (.ref 1003), some (.int (l2_17 + (1 : Int32))), some (.long (0 : Int64)), none, some (.int l5_17), some (.int (32 : Int32))]) dX5_indexAmong_88 (by decide) rfl ?_
            refine x_iincK (1 : Int32) (pl' := [some (.ref 17), some (.ref 1003), some (.int (l2_17 + (1 : Int32))), some (.long (0 : Int64)), none, some (.int (l5_17 + (1 : Int32))), some (.int (32 : Int32))]) dX5_indexAmong_89 rfl (by decide) (by decide) rfl ?_
            refine x_goto 17 dX5_indexAmong_92 (by decide) ?_
            refine x_weak (pl2 := [some (.ref 17), some (.ref 1003), some (.int (l2_17 + (1 : Int32))), some (.long (0 : Int64)), none, some (.int (l5_17 + (1 : Int32))), none]) ⟨rfl, rfl, rfl, rfl, rfl, trivial⟩ ?_
            exact ih17 (l2_17 + (1 : Int32)) (0 : Int64) (l5_17 + (1 : Int32)) h
          · have h := xif_t q h
            refine x_iload_n dX5_indexAmong_82 rfl ?_
            cases h
            exact x_iret2 dX5_indexAmong_83 rfl rfl
        · have h := xif_f q h
          refine x_lload_n dX5_indexAmong_55 rfl ?_
          refine x_ldc2 iX5_102 dX5_indexAmong_56 ?_
          refine x_lmul dX5_indexAmong_59 ?_
          refine x_iload dX5_indexAmong_60 rfl ?_
          refine x_bipush (97 : Int32) dX5_indexAmong_62 (by decide) ?_
          refine x_isub dX5_indexAmong_64 ?_
          refine x_iconst (1 : Int32) dX5_indexAmong_65 (by decide) ?_
          refine x_iadd dX5_indexAmong_66 ?_
          refine x_i2l dX5_indexAmong_67 ?_
          refine x_ladd dX5_indexAmong_68 ?_
          refine x_lstore_n (pl' := [some (.ref 17), some (.ref 1003), some (.int l2_17), some (.long ((l3_17 * (27 : Int64)) + (((32 : Int32) - (97 : Int32)) + (1 : Int32)).toInt64)), none, some (.int l5_17), some (.int (32 : Int32))]) dX5_indexAmong_69 (by decide) rfl ?_
          refine x_goto 89 dX5_indexAmong_70 (by decide) ?_
          refine x_iincK (1 : Int32) (pl' := [some (.ref 17), some (.ref 1003), some (.int l2_17), some (.long ((l3_17 * (27 : Int64)) + (((32 : Int32) - (97 : Int32)) + (1 : Int32)).toInt64)), none, some (.int (l5_17 + (1 : Int32))), some (.int (32 : Int32))]) dX5_indexAmong_89 rfl (by decide) (by decide) rfl ?_
          refine x_goto 17 dX5_indexAmong_92 (by decide) ?_
          refine x_weak (pl2 := [some (.ref 17), some (.ref 1003), some (.int l2_17), some (.long ((l3_17 * (27 : Int64)) + (((32 : Int32) - (97 : Int32)) + (1 : Int32)).toInt64)), none, some (.int (l5_17 + (1 : Int32))), none]) ⟨rfl, rfl, rfl, rfl, rfl, trivial⟩ ?_
          exact ih17 l2_17 ((l3_17 * (27 : Int64)) + (((32 : Int32) - (97 : Int32)) + (1 : Int32)).toInt64) (l5_17 + (1 : Int32)) h
      · have h := xif_f q h
        refine x_aload_n dX5_indexAmong_35 rfl ?_
        refine x_iload dX5_indexAmong_36 rfl ?_
        obtain ⟨q38, h⟩ := xix_of h
        refine x_schar (k := 3) (s := xsy 3) rfl rfl q38 (Nat.le_of_ble_eq_true rfl) kX5_98 dX5_indexAmong_38 (Nat.le_of_ble_eq_true rfl) ?_
        refine x_goto 46 dX5_indexAmong_41 (by decide) ?_
        refine x_istore (pl' := [some (.ref 17), some (.ref 1003), some (.int l2_17), some (.long l3_17), none, some (.int l5_17), some (.int (xch (xsy 3) l5_17))]) dX5_indexAmong_46 (by decide) rfl ?_
        refine x_iload dX5_indexAmong_48 rfl ?_
        refine x_bipush (32 : Int32) dX5_indexAmong_50 (by decide) ?_
        refine x_icmp_eq 73 dX5_indexAmong_52 (by decide) (fun q => ?_) (fun q => ?_)
        · have h := xif_t q h
          refine x_lload_n dX5_indexAmong_73 rfl ?_
          refine x_aload_n dX5_indexAmong_74 rfl ?_
          refine x_get fX5_34 dX5_indexAmong_75 rfl rfl rfl ?_
          refine x_lcmp dX5_indexAmong_78 ?_
          refine x_if_ne 84 dX5_indexAmong_79 (by decide) (fun q => ?_) (fun q => ?_)
          · have h := xif_f q h
            refine x_iincK (1 : Int32) (pl' := [some (.ref 17), some (.ref 1003), some (.int (l2_17 + (1 : Int32))), some (.long l3_17), none, some (.int l5_17), some (.int (xch (xsy 3) l5_17))]) dX5_indexAmong_84 rfl (by decide) (by decide) rfl ?_
            refine x_lconst (0 : Int64) dX5_indexAmong_87 (by decide) ?_
            refine x_lstore_n (pl' := [some (.ref 17), some (.ref 1003), some (.int (l2_17 + (1 : Int32))), some (.long (0 : Int64)), none, some (.int l5_17), some (.int (xch (xsy 3) l5_17))]) dX5_indexAmong_88 (by decide) rfl ?_
            refine x_iincK (1 : Int32) (pl' := [some (.ref 17), some (.ref 1003), some (.int (l2_17 + (1 : Int32))), some (.long (0 : Int64)), none, some (.int (l5_17 + (1 : Int32))), some (.int (xch (xsy 3) l5_17))]) dX5_indexAmong_89 rfl (by decide) (by decide) rfl ?_
            refine x_goto 17 dX5_indexAmong_92 (by decide) ?_
            refine x_weak (pl2 := [some (.ref 17), some (.ref 1003), some (.int (l2_17 + (1 : Int32))), some (.long (0 : Int64)), none, some (.int (l5_17 + (1 : Int32))), none]) ⟨rfl, rfl, rfl, rfl, rfl, trivial⟩ ?_
            exact ih17 (l2_17 + (1 : Int32)) (0 : Int64) (l5_17 + (1 : Int32)) h
          · have h := xif_t q h
            refine x_iload_n dX5_indexAmong_82 rfl ?_
            cases h
            exact x_iret2 dX5_indexAmong_83 rfl rfl
        · have h := xif_f q h
          refine x_lload_n dX5_indexAmong_55 rfl ?_
          refine x_ldc2 iX5_102 dX5_indexAmong_56 ?_
          refine x_lmul dX5_indexAmong_59 ?_
          refine x_iload dX5_indexAmong_60 rfl ?_
          refine x_bipush (97 : Int32) dX5_indexAmong_62 (by decide) ?_
          refine x_isub dX5_indexAmong_64 ?_
          refine x_iconst (1 : Int32) dX5_indexAmong_65 (by decide) ?_
          refine x_iadd dX5_indexAmong_66 ?_
          refine x_i2l dX5_indexAmong_67 ?_
          refine x_ladd dX5_indexAmong_68 ?_
          refine x_lstore_n (pl' := [some (.ref 17), some (.ref 1003), some (.int l2_17), some (.long ((l3_17 * (27 : Int64)) + (((xch (xsy 3) l5_17) - (97 : Int32)) + (1 : Int32)).toInt64)), none, some (.int l5_17), some (.int (xch (xsy 3) l5_17))]) dX5_indexAmong_69 (by decide) rfl ?_
          refine x_goto 89 dX5_indexAmong_70 (by decide) ?_
          refine x_iincK (1 : Int32) (pl' := [some (.ref 17), some (.ref 1003), some (.int l2_17), some (.long ((l3_17 * (27 : Int64)) + (((xch (xsy 3) l5_17) - (97 : Int32)) + (1 : Int32)).toInt64)), none, some (.int (l5_17 + (1 : Int32))), some (.int (xch (xsy 3) l5_17))]) dX5_indexAmong_89 rfl (by decide) (by decide) rfl ?_
          refine x_goto 17 dX5_indexAmong_92 (by decide) ?_
          refine x_weak (pl2 := [some (.ref 17), some (.ref 1003), some (.int l2_17), some (.long ((l3_17 * (27 : Int64)) + (((xch (xsy 3) l5_17) - (97 : Int32)) + (1 : Int32)).toInt64)), none, some (.int (l5_17 + (1 : Int32))), none]) ⟨rfl, rfl, rfl, rfl, rfl, trivial⟩ ?_
          exact ih17 l2_17 ((l3_17 * (27 : Int64)) + (((xch (xsy 3) l5_17) - (97 : Int32)) + (1 : Int32)).toInt64) (l5_17 + (1 : Int32)) h
set_option maxRecDepth 100000 in
set_option maxHeartbeats 4000000 in
theorem t_hA_X5_indexAmong_9 {g0 g1 g2 g3 g4 g5 g6 g7 g8 g9 g10 g11 g12 g13 g14 g15 g16 g17 g18 g19 g20 g21 g22 g23 g24 g25 g26 g27 g28 g29 g30 g31 g32 g33 g34 g35 g36 : Int32} {a0 a1 a2 a3 a4 a5 a6 a7 a8 a9 a10 a11 a12 a13 a14 a15 a16 a17 a18 a19 a20 a21 a22 a23 a24 a25 a26 a27 a28 a29 a30 a31 a32 a33 a34 a35 a36 a37 a38 a39 : (Nat → Int32)} {b0 b1 b2 b3 b4 : (Nat → Int64)} {w0 : Int64}  (res : Int32) (h : e_hA_X5_indexAmong g19 w0 (xsy 3)  = some res) (d : Nat) : xMet xks YX5_indexAmong (d + 5) 0 0 [.ref 17, .ref 1003] (hA g0 g1 g2 g3 g4 g5 g6 g7 g8 g9 g10 g11 g12 g13 g14 g15 g16 g17 g18 g19 g20 g21 g22 g23 g24 g25 g26 g27 g28 g29 g30 g31 g32 g33 g34 g35 g36 a0 a1 a2 a3 a4 a5 a6 a7 a8 a9 a10 a11 a12 a13 a14 a15 a16 a17 a18 a19 a20 a21 a22 a23 a24 a25 a26 a27 a28 a29 a30 a31 a32 a33 a34 a35 a36 a37 a38 a39 b0 b1 b2 b3 b4 w0 (.ref 19) (.ref 1)) (some (.int res)) (hA g0 g1 g2 g3 g4 g5 g6 g7 g8 g9 g10 g11 g12 g13 g14 g15 g16 g17 g18 g19 g20 g21 g22 g23 g24 g25 g26 g27 g28 g29 g30 g31 g32 g33 g34 g35 g36 a0 a1 a2 a3 a4 a5 a6 a7 a8 a9 a10 a11 a12 a13 a14 a15 a16 a17 a18 a19 a20 a21 a22 a23 a24 a25 a26 a27 a28 a29 a30 a31 a32 a33 a34 a35 a36 a37 a38 a39 b0 b1 b2 b3 b4 w0 (.ref 19) (.ref 1)) := by
  unfold e_hA_X5_indexAmong at h
  refine xMet_of (pl := [some (.ref 17), some (.ref 1003), none, none, none, none, none]) (by decide) (Nat.le_of_ble_eq_true rfl) rfl (Nat.le_of_ble_eq_true rfl) ?_
  refine x_aload_n dX5_indexAmong_0 rfl ?_
  refine x_get fX5_31 dX5_indexAmong_1 rfl rfl rfl ?_
  refine x_iconst (1 : Int32) dX5_indexAmong_4 (by decide) ?_
  refine x_icmp_eq 10 dX5_indexAmong_5 (by decide) (fun q => ?_) (fun q => ?_)
  · have h := xif_t q h
    refine x_iconst (0 : Int32) dX5_indexAmong_10 (by decide) ?_
    refine x_istore_n (pl' := [some (.ref 17), some (.ref 1003), some (.int (0 : Int32)), none, none, none, none]) dX5_indexAmong_11 (by decide) rfl ?_
    refine x_lconst (0 : Int64) dX5_indexAmong_12 (by decide) ?_
    refine x_lstore_n (pl' := [some (.ref 17), some (.ref 1003), some (.int (0 : Int32)), some (.long (0 : Int64)), none, none, none]) dX5_indexAmong_13 (by decide) rfl ?_
    refine x_iconst (0 : Int32) dX5_indexAmong_14 (by decide) ?_
    refine x_istore (pl' := [some (.ref 17), some (.ref 1003), some (.int (0 : Int32)), some (.long (0 : Int64)), none, some (.int (0 : Int32)), none]) dX5_indexAmong_15 (by decide) rfl ?_
    refine x_weak (pl2 := [some (.ref 17), some (.ref 1003), some (.int (0 : Int32)), some (.long (0 : Int64)), none, some (.int (0 : Int32)), none]) ⟨rfl, rfl, rfl, rfl, rfl, trivial⟩ ?_
    refine lp_hA_X5_indexAmong_9_17 d _  res _ (fun l2_17 l3_17 l5_17 h => ?_) 200000 (0 : Int32) (0 : Int64) (0 : Int32) h
    refine x_iconst (-1 : Int32) dX5_indexAmong_95 (by decide) ?_
    cases h
    exact x_iret2 dX5_indexAmong_96 rfl rfl
  · have h := xif_f q h
    refine x_iconst (-1 : Int32) dX5_indexAmong_8 (by decide) ?_
    cases h
    exact x_iret2 dX5_indexAmong_9 rfl rfl
set_option maxRecDepth 100000 in
set_option maxHeartbeats 4000000 in
theorem t_hA_X5_readNumber_5 {g0 g1 g2 g3 g4 g5 g6 g7 g8 g9 g10 g11 g12 g13 g14 g15 g16 g17 g18 g19 g20 g21 g22 g23 g24 g25 g26 g27 g28 g29 g30 g31 g32 g33 g34 g35 g36 : Int32} {a0 a1 a2 a3 a4 a5 a6 a7 a8 a9 a10 a11 a12 a13 a14 a15 a16 a17 a18 a19 a20 a21 a22 a23 a24 a25 a26 a27 a28 a29 a30 a31 a32 a33 a34 a35 a36 a37 a38 a39 : (Nat → Int32)} {b0 b1 b2 b3 b4 : (Nat → Int64)} {w0 : Int64} (x2 : Int32) (x3 : Int32) (res : Int32 × Int32 × Int64 × Int32 × Int32 × Int32 × Int32) (h : e_hA_X5_readNumber g19 w0 g18 g17 g15 a13 g14 g20 (xsy 3) x2 x3 = some res) (d : Nat) : xMet xks YX5_readNumber (d + 6) 0 0 [.ref 17, .ref 1003, .int x2, .int x3] (hA g0 g1 g2 g3 g4 g5 g6 g7 g8 g9 g10 g11 g12 g13 g14 g15 g16 g17 g18 g19 g20 g21 g22 g23 g24 g25 g26 g27 g28 g29 g30 g31 g32 g33 g34 g35 g36 a0 a1 a2 a3 a4 a5 a6 a7 a8 a9 a10 a11 a12 a13 a14 a15 a16 a17 a18 a19 a20 a21 a22 a23 a24 a25 a26 a27 a28 a29 a30 a31 a32 a33 a34 a35 a36 a37 a38 a39 b0 b1 b2 b3 b4 w0 (.ref 19) (.ref 1)) (some (.int res.1)) (hA g0 g1 g2 g3 g4 g5 g6 g7 g8 g9 g10 g11 g12 g13 res.2.2.2.2.2.1 res.2.1 g16 g17 res.2.2.2.2.1 res.2.2.2.1 res.2.2.2.2.2.2 g21 g22 g23 g24 g25 g26 g27 g28 g29 g30 g31 g32 g33 g34 g35 g36 a0 a1 a2 a3 a4 a5 a6 a7 a8 a9 a10 a11 a12 a13 a14 a15 a16 a17 a18 a19 a20 a21 a22 a23 a24 a25 a26 a27 a28 a29 a30 a31 a32 a33 a34 a35 a36 a37 a38 a39 b0 b1 b2 b3 b4 res.2.2.1 (.ref 19) (.ref 1)) := by
  unfold e_hA_X5_readNumber at h
  refine xMet_of (pl := [some (.ref 17), some (.ref 1003), some (.int x2), some (.int x3)]) (by decide) (Nat.le_of_ble_eq_true rfl) rfl (Nat.le_of_ble_eq_true rfl) ?_
  refine x_aload_n dX5_readNumber_0 rfl ?_
  refine x_aload_n dX5_readNumber_1 rfl ?_
  obtain ⟨z2, y2, h⟩ := xbind h
  refine x_callV (t_hA_X5_indexAmong_9  z2 y2 (d + 0)) kX5_104 dX5_readNumber_2 rfl rfl rfl rfl rfl (Nat.le_of_ble_eq_true rfl) (Nat.le_of_ble_eq_true rfl) rfl rfl (Or.inl rfl) ?_
  refine x_iconst (-1 : Int32) dX5_readNumber_5 (by decide) ?_
  refine x_icmp_ne 15 dX5_readNumber_6 (by decide) (fun q => ?_) (fun q => ?_)
  · have h := xif_f q h
    refine x_aload_n dX5_readNumber_15 rfl ?_
    obtain ⟨z16, y16, h⟩ := xbind h
    refine x_callV (t_hA_X5_readToken  z16 y16 (d + 2)) kX5_68 dX5_readNumber_16 rfl rfl rfl rfl rfl (Nat.le_of_ble_eq_true rfl) (Nat.le_of_ble_eq_true rfl) rfl rfl (Or.inl rfl) ?_
    refine x_aload_n dX5_readNumber_19 rfl ?_
    refine x_get fX5_31 dX5_readNumber_20 rfl rfl rfl ?_
    refine x_iconst (2 : Int32) dX5_readNumber_23 (by decide) ?_
    refine x_icmp_eq 33 dX5_readNumber_24 (by decide) (fun q => ?_) (fun q => ?_)
    · have h := xif_t q h
      refine x_aload_n dX5_readNumber_33 rfl ?_
      refine x_get fX5_34 dX5_readNumber_34 rfl rfl rfl ?_
      refine x_iload_n dX5_readNumber_37 rfl ?_
      refine x_i2l dX5_readNumber_38 ?_
      refine x_lcmp dX5_readNumber_39 ?_
      refine x_if_lt 53 dX5_readNumber_40 (by decide) (fun q => ?_) (fun q => ?_)
      · have h := xif_t q h
        refine x_aload_n dX5_readNumber_53 rfl ?_
        refine x_iconst (4 : Int32) dX5_readNumber_54 (by decide) ?_
        obtain ⟨z55, y55, h⟩ := xbind h
        refine x_callV (t_hA_X5_fail (4 : Int32) z55 y55 (d + 4)) kX5_75 dX5_readNumber_55 rfl rfl rfl rfl rfl (Nat.le_of_ble_eq_true rfl) (Nat.le_of_ble_eq_true rfl) rfl rfl (Or.inl rfl) ?_
        obtain ⟨-, q58, h⟩ := xbo_of h
        cases h
        exact x_zret2 dX5_readNumber_58 rfl q58 rfl
      · have h := xif_f q h
        refine x_aload_n dX5_readNumber_43 rfl ?_
        refine x_get fX5_34 dX5_readNumber_44 rfl rfl rfl ?_
        refine x_iload_n dX5_readNumber_47 rfl ?_
        refine x_i2l dX5_readNumber_48 ?_
        refine x_lcmp dX5_readNumber_49 ?_
        refine x_if_le 59 dX5_readNumber_50 (by decide) (fun q => ?_) (fun q => ?_)
        · have h := xif_t q h
          refine x_aload_n dX5_readNumber_59 rfl ?_
          refine x_aload_n dX5_readNumber_60 rfl ?_
          refine x_get fX5_34 dX5_readNumber_61 rfl rfl rfl ?_
          refine x_l2i dX5_readNumber_64 ?_
          refine x_put (h2 := (hA g0 g1 g2 g3 g4 g5 g6 g7 g8 g9 g10 g11 g12 g13 g14 z16.1 g16 g17 z16.2.2.2 z16.2.2.1 z16.2.1.toInt32 g21 g22 g23 g24 g25 g26 g27 g28 g29 g30 g31 g32 g33 g34 g35 g36 a0 a1 a2 a3 a4 a5 a6 a7 a8 a9 a10 a11 a12 a13 a14 a15 a16 a17 a18 a19 a20 a21 a22 a23 a24 a25 a26 a27 a28 a29 a30 a31 a32 a33 a34 a35 a36 a37 a38 a39 b0 b1 b2 b3 b4 z16.2.1 (.ref 19) (.ref 1))) fX5_38 dX5_readNumber_65 rfl rfl (Nat.le_of_ble_eq_true rfl : 8 + 1 ≤ _) (fun α => ⟨rfl, rfl⟩) rfl ?_
          refine x_aload_n dX5_readNumber_68 rfl ?_
          obtain ⟨z69, y69, h⟩ := xbind h
          refine x_callV (t_hA_X5_readToken  z69 y69 (d + 2)) kX5_68 dX5_readNumber_69 rfl rfl rfl rfl rfl (Nat.le_of_ble_eq_true rfl) (Nat.le_of_ble_eq_true rfl) rfl rfl (Or.inl rfl) ?_
          refine x_iconst (1 : Int32) dX5_readNumber_72 (by decide) ?_
          cases h
          exact x_zret2 dX5_readNumber_73 rfl rfl rfl
        · have h := xif_f q h
          refine x_aload_n dX5_readNumber_53 rfl ?_
          refine x_iconst (4 : Int32) dX5_readNumber_54 (by decide) ?_
          obtain ⟨z55, y55, h⟩ := xbind h
          refine x_callV (t_hA_X5_fail (4 : Int32) z55 y55 (d + 4)) kX5_75 dX5_readNumber_55 rfl rfl rfl rfl rfl (Nat.le_of_ble_eq_true rfl) (Nat.le_of_ble_eq_true rfl) rfl rfl (Or.inl rfl) ?_
          obtain ⟨-, q58, h⟩ := xbo_of h
          cases h
          exact x_zret2 dX5_readNumber_58 rfl q58 rfl
    · have h := xif_f q h
      refine x_aload_n dX5_readNumber_27 rfl ?_
      refine x_iconst (1 : Int32) dX5_readNumber_28 (by decide) ?_
      obtain ⟨z29, y29, h⟩ := xbind h
      refine x_callV (t_hA_X5_fail (1 : Int32) z29 y29 (d + 4)) kX5_75 dX5_readNumber_29 rfl rfl rfl rfl rfl (Nat.le_of_ble_eq_true rfl) (Nat.le_of_ble_eq_true rfl) rfl rfl (Or.inl rfl) ?_
      obtain ⟨-, q32, h⟩ := xbo_of h
      cases h
      exact x_zret2 dX5_readNumber_32 rfl q32 rfl
  · have h := xif_t q h
    refine x_aload_n dX5_readNumber_9 rfl ?_
    refine x_iconst (1 : Int32) dX5_readNumber_10 (by decide) ?_
    obtain ⟨z11, y11, h⟩ := xbind h
    refine x_callV (t_hA_X5_fail (1 : Int32) z11 y11 (d + 4)) kX5_75 dX5_readNumber_11 rfl rfl rfl rfl rfl (Nat.le_of_ble_eq_true rfl) (Nat.le_of_ble_eq_true rfl) rfl rfl (Or.inl rfl) ?_
    obtain ⟨-, q14, h⟩ := xbo_of h
    cases h
    exact x_zret2 dX5_readNumber_14 rfl q14 rfl
set_option maxRecDepth 100000 in
set_option maxHeartbeats 4000000 in
theorem lp_hA_X5_indexAmong_10_17 {g0 g1 g2 g3 g4 g5 g6 g7 g8 g9 g10 g11 g12 g13 g14 g15 g16 g17 g18 g19 g20 g21 g22 g23 g24 g25 g26 g27 g28 g29 g30 g31 g32 g33 g34 g35 g36 : Int32} {a0 a1 a2 a3 a4 a5 a6 a7 a8 a9 a10 a11 a12 a13 a14 a15 a16 a17 a18 a19 a20 a21 a22 a23 a24 a25 a26 a27 a28 a29 a30 a31 a32 a33 a34 a35 a36 a37 a38 a39 : (Nat → Int32)} {b0 b1 b2 b3 b4 : (Nat → Int64)} {w0 : Int64} (d n0 : Nat)  (res : Int32) (K : Int32 → Int64 → Int32 → Option (Int32)) (hK : ∀ (l2_17 : Int32) (l3_17 : Int64) (l5_17 : Int32), K l2_17 l3_17 l5_17 = some res → xW xks YX5_indexAmong (d + 5) 0 0 n0 (xZ 0 0 n0 (some (.int res)) (hA g0 g1 g2 g3 g4 g5 g6 g7 g8 g9 g10 g11 g12 g13 g14 g15 g16 g17 g18 g19 g20 g21 g22 g23 g24 g25 g26 g27 g28 g29 g30 g31 g32 g33 g34 g35 g36 a0 a1 a2 a3 a4 a5 a6 a7 a8 a9 a10 a11 a12 a13 a14 a15 a16 a17 a18 a19 a20 a21 a22 a23 a24 a25 a26 a27 a28 a29 a30 a31 a32 a33 a34 a35 a36 a37 a38 a39 b0 b1 b2 b3 b4 w0 (.ref 19) (.ref 1))) 0 0 95 [none, none, none, none, none, none, none] [] (hA g0 g1 g2 g3 g4 g5 g6 g7 g8 g9 g10 g11 g12 g13 g14 g15 g16 g17 g18 g19 g20 g21 g22 g23 g24 g25 g26 g27 g28 g29 g30 g31 g32 g33 g34 g35 g36 a0 a1 a2 a3 a4 a5 a6 a7 a8 a9 a10 a11 a12 a13 a14 a15 a16 a17 a18 a19 a20 a21 a22 a23 a24 a25 a26 a27 a28 a29 a30 a31 a32 a33 a34 a35 a36 a37 a38 a39 b0 b1 b2 b3 b4 w0 (.ref 19) (.ref 1))) : ∀ (n : Nat) (l2_17 : Int32) (l3_17 : Int64) (l5_17 : Int32), L_hA_X5_indexAmong_17 g19 w0 (xsy 4)  K n l2_17 l3_17 l5_17 = some res → xW xks YX5_indexAmong (d + 5) 0 0 n0 (xZ 0 0 n0 (some (.int res)) (hA g0 g1 g2 g3 g4 g5 g6 g7 g8 g9 g10 g11 g12 g13 g14 g15 g16 g17 g18 g19 g20 g21 g22 g23 g24 g25 g26 g27 g28 g29 g30 g31 g32 g33 g34 g35 g36 a0 a1 a2 a3 a4 a5 a6 a7 a8 a9 a10 a11 a12 a13 a14 a15 a16 a17 a18 a19 a20 a21 a22 a23 a24 a25 a26 a27 a28 a29 a30 a31 a32 a33 a34 a35 a36 a37 a38 a39 b0 b1 b2 b3 b4 w0 (.ref 19) (.ref 1))) 0 0 17 [some (.ref 17), some (.ref 1004), some (.int l2_17), some (.long l3_17), none, some (.int l5_17), none] [] (hA g0 g1 g2 g3 g4 g5 g6 g7 g8 g9 g10 g11 g12 g13 g14 g15 g16 g17 g18 g19 g20 g21 g22 g23 g24 g25 g26 g27 g28 g29 g30 g31 g32 g33 g34 g35 g36 a0 a1 a2 a3 a4 a5 a6 a7 a8 a9 a10 a11 a12 a13 a14 a15 a16 a17 a18 a19 a20 a21 a22 a23 a24 a25 a26 a27 a28 a29 a30 a31 a32 a33 a34 a35 a36 a37 a38 a39 b0 b1 b2 b3 b4 w0 (.ref 19) (.ref 1)) := by
  intro n
  induction n with
  | zero =>
    intro l2_17 l3_17 l5_17 h
    cases (show (none : Option (Int32)) = some res from h)
  | succ n17 ih17 =>
    intro l2_17 l3_17 l5_17 h
    unfold L_hA_X5_indexAmong_17 at h
    refine x_iload dX5_indexAmong_17 rfl ?_
    refine x_aload_n dX5_indexAmong_19 rfl ?_
    refine x_slen (k := 4) (s := xsy 4) rfl rfl (Nat.le_of_ble_eq_true rfl) kX5_93 dX5_indexAmong_20 (Nat.le_of_ble_eq_true rfl) ?_
    refine x_icmp_gt 95 dX5_indexAmong_23 (by decide) (fun q => ?_) (fun q => ?_)
    · have h := xif_t q h
      refine x_weak (pl2 := [none, none, none, none, none, none, none]) trivial ?_
      exact hK l2_17 l3_17 l5_17 h
    · have h := xif_f q h
      refine x_iload dX5_indexAmong_26 rfl ?_
      refine x_aload_n dX5_indexAmong_28 rfl ?_
      refine x_slen (k := 4) (s := xsy 4) rfl rfl (Nat.le_of_ble_eq_true rfl) kX5_93 dX5_indexAmong_29 (Nat.le_of_ble_eq_true rfl) ?_
      refine x_icmp_ge 44 dX5_indexAmong_32 (by decide) (fun q => ?_) (fun q => ?_)
      · have h := xif_t q h
        refine x_bipush (32 : Int32) dX5_indexAmong_44 (by decide) ?_
        refine x_istore (pl' := [some (.ref 17), some (.ref 1004), some (.int l2_17), some (.long l3_17), none, some (.int l5_17), some (.int (32 : Int32))]) dX5_indexAmong_46 (by decide) rfl ?_
        refine x_iload dX5_indexAmong_48 rfl ?_
        refine x_bipush (32 : Int32) dX5_indexAmong_50 (by decide) ?_
        refine x_icmp_eq 73 dX5_indexAmong_52 (by decide) (fun q => ?_) (fun q => ?_)
        · have h := xif_t q h
          refine x_lload_n dX5_indexAmong_73 rfl ?_
          refine x_aload_n dX5_indexAmong_74 rfl ?_
          refine x_get fX5_34 dX5_indexAmong_75 rfl rfl rfl ?_
          refine x_lcmp dX5_indexAmong_78 ?_
          refine x_if_ne 84 dX5_indexAmong_79 (by decide) (fun q => ?_) (fun q => ?_)
          · have h := xif_f q h
            refine x_iincK (1 : Int32) (pl' := [some (.ref 17), some (.ref 1004), some (.int (l2_17 + (1 : Int32))), some (.long l3_17), none, some (.int l5_17), some (.int (32 : Int32))]) dX5_indexAmong_84 rfl (by decide) (by decide) rfl ?_
            refine x_lconst (0 : Int64) dX5_indexAmong_87 (by decide) ?_
            refine x_lstore_n (pl' := [some (.ref 17), some (.ref 1004), some (.int (l2_17 + (1 : Int32))), some (.long (0 : Int64)), none, some (.int l5_17), some (.int (32 : Int32))]) dX5_indexAmong_88 (by decide) rfl ?_
            refine x_iincK (1 : Int32) (pl' := [some (.ref 17), some (.ref 1004), some (.int (l2_17 + (1 : Int32))), some (.long (0 : Int64)), none, some (.int (l5_17 + (1 : Int32))), some (.int (32 : Int32))]) dX5_indexAmong_89 rfl (by decide) (by decide) rfl ?_
            refine x_goto 17 dX5_indexAmong_92 (by decide) ?_
            refine x_weak (pl2 := [some (.ref 17), some (.ref 1004), some (.int (l2_17 + (1 : Int32))), some (.long (0 : Int64)), none, some (.int (l5_17 + (1 : Int32))), none]) ⟨rfl, rfl, rfl, rfl, rfl, trivial⟩ ?_
            exact ih17 (l2_17 + (1 : Int32)) (0 : Int64) (l5_17 + (1 : Int32)) h
          · have h := xif_t q h
            refine x_iload_n dX5_indexAmong_82 rfl ?_
            cases h
            exact x_iret2 dX5_indexAmong_83 rfl rfl
        · have h := xif_f q h
          refine x_lload_n dX5_indexAmong_55 rfl ?_
          refine x_ldc2 iX5_102 dX5_indexAmong_56 ?_
          refine x_lmul dX5_indexAmong_59 ?_
          refine x_iload dX5_indexAmong_60 rfl ?_
          refine x_bipush (97 : Int32) dX5_indexAmong_62 (by decide) ?_
          refine x_isub dX5_indexAmong_64 ?_
          refine x_iconst (1 : Int32) dX5_indexAmong_65 (by decide) ?_
          refine x_iadd dX5_indexAmong_66 ?_
          refine x_i2l dX5_indexAmong_67 ?_
          refine x_ladd dX5_indexAmong_68 ?_
          refine x_lstore_n (pl' := [some (.ref 17), some (.ref 1004), some (.int l2_17), some (.long ((l3_17 * (27 : Int64)) + (((32 : Int32) - (97 : Int32)) + (1 : Int32)).toInt64)), none, some (.int l5_17), some (.int (32 : Int32))]) dX5_indexAmong_69 (by decide) rfl ?_
          refine x_goto 89 dX5_indexAmong_70 (by decide) ?_
          refine x_iincK (1 : Int32) (pl' := [some (.ref 17), some (.ref 1004), some (.int l2_17), some (.long ((l3_17 * (27 : Int64)) + (((32 : Int32) - (97 : Int32)) + (1 : Int32)).toInt64)), none, some (.int (l5_17 + (1 : Int32))), some (.int (32 : Int32))]) dX5_indexAmong_89 rfl (by decide) (by decide) rfl ?_
          refine x_goto 17 dX5_indexAmong_92 (by decide) ?_
          refine x_weak (pl2 := [some (.ref 17), some (.ref 1004), some (.int l2_17), some (.long ((l3_17 * (27 : Int64)) + (((32 : Int32) - (97 : Int32)) + (1 : Int32)).toInt64)), none, some (.int (l5_17 + (1 : Int32))), none]) ⟨rfl, rfl, rfl, rfl, rfl, trivial⟩ ?_
          exact ih17 l2_17 ((l3_17 * (27 : Int64)) + (((32 : Int32) - (97 : Int32)) + (1 : Int32)).toInt64) (l5_17 + (1 : Int32)) h
      · have h := xif_f q h
        refine x_aload_n dX5_indexAmong_35 rfl ?_
        refine x_iload dX5_indexAmong_36 rfl ?_
        obtain ⟨q38, h⟩ := xix_of h
        refine x_schar (k := 4) (s := xsy 4) rfl rfl q38 (Nat.le_of_ble_eq_true rfl) kX5_98 dX5_indexAmong_38 (Nat.le_of_ble_eq_true rfl) ?_
        refine x_goto 46 dX5_indexAmong_41 (by decide) ?_
        refine x_istore (pl' := [some (.ref 17), some (.ref 1004), some (.int l2_17), some (.long l3_17), none, some (.int l5_17), some (.int (xch (xsy 4) l5_17))]) dX5_indexAmong_46 (by decide) rfl ?_
        refine x_iload dX5_indexAmong_48 rfl ?_
        refine x_bipush (32 : Int32) dX5_indexAmong_50 (by decide) ?_
        refine x_icmp_eq 73 dX5_indexAmong_52 (by decide) (fun q => ?_) (fun q => ?_)
        · have h := xif_t q h
          refine x_lload_n dX5_indexAmong_73 rfl ?_
          refine x_aload_n dX5_indexAmong_74 rfl ?_
          refine x_get fX5_34 dX5_indexAmong_75 rfl rfl rfl ?_
          refine x_lcmp dX5_indexAmong_78 ?_
          refine x_if_ne 84 dX5_indexAmong_79 (by decide) (fun q => ?_) (fun q => ?_)
          · have h := xif_f q h
            refine x_iincK (1 : Int32) (pl' := [some (.ref 17), some (.ref 1004), some (.int (l2_17 + (1 : Int32))), some (.long l3_17), none, some (.int l5_17), some (.int (xch (xsy 4) l5_17))]) dX5_indexAmong_84 rfl (by decide) (by decide) rfl ?_
            refine x_lconst (0 : Int64) dX5_indexAmong_87 (by decide) ?_
            refine x_lstore_n (pl' := [some (.ref 17), some (.ref 1004), some (.int (l2_17 + (1 : Int32))), some (.long (0 : Int64)), none, some (.int l5_17), some (.int (xch (xsy 4) l5_17))]) dX5_indexAmong_88 (by decide) rfl ?_
            refine x_iincK (1 : Int32) (pl' := [some (.ref 17), some (.ref 1004), some (.int (l2_17 + (1 : Int32))), some (.long (0 : Int64)), none, some (.int (l5_17 + (1 : Int32))), some (.int (xch (xsy 4) l5_17))]) dX5_indexAmong_89 rfl (by decide) (by decide) rfl ?_
            refine x_goto 17 dX5_indexAmong_92 (by decide) ?_
            refine x_weak (pl2 := [some (.ref 17), some (.ref 1004), some (.int (l2_17 + (1 : Int32))), some (.long (0 : Int64)), none, some (.int (l5_17 + (1 : Int32))), none]) ⟨rfl, rfl, rfl, rfl, rfl, trivial⟩ ?_
            exact ih17 (l2_17 + (1 : Int32)) (0 : Int64) (l5_17 + (1 : Int32)) h
          · have h := xif_t q h
            refine x_iload_n dX5_indexAmong_82 rfl ?_
            cases h
            exact x_iret2 dX5_indexAmong_83 rfl rfl
        · have h := xif_f q h
          refine x_lload_n dX5_indexAmong_55 rfl ?_
          refine x_ldc2 iX5_102 dX5_indexAmong_56 ?_
          refine x_lmul dX5_indexAmong_59 ?_
          refine x_iload dX5_indexAmong_60 rfl ?_
          refine x_bipush (97 : Int32) dX5_indexAmong_62 (by decide) ?_
          refine x_isub dX5_indexAmong_64 ?_
          refine x_iconst (1 : Int32) dX5_indexAmong_65 (by decide) ?_
          refine x_iadd dX5_indexAmong_66 ?_
          refine x_i2l dX5_indexAmong_67 ?_
          refine x_ladd dX5_indexAmong_68 ?_
          refine x_lstore_n (pl' := [some (.ref 17), some (.ref 1004), some (.int l2_17), some (.long ((l3_17 * (27 : Int64)) + (((xch (xsy 4) l5_17) - (97 : Int32)) + (1 : Int32)).toInt64)), none, some (.int l5_17), some (.int (xch (xsy 4) l5_17))]) dX5_indexAmong_69 (by decide) rfl ?_
          refine x_goto 89 dX5_indexAmong_70 (by decide) ?_
          refine x_iincK (1 : Int32) (pl' := [some (.ref 17), some (.ref 1004), some (.int l2_17), some (.long ((l3_17 * (27 : Int64)) + (((xch (xsy 4) l5_17) - (97 : Int32)) + (1 : Int32)).toInt64)), none, some (.int (l5_17 + (1 : Int32))), some (.int (xch (xsy 4) l5_17))]) dX5_indexAmong_89 rfl (by decide) (by decide) rfl ?_
          refine x_goto 17 dX5_indexAmong_92 (by decide) ?_
          refine x_weak (pl2 := [some (.ref 17), some (.ref 1004), some (.int l2_17), some (.long ((l3_17 * (27 : Int64)) + (((xch (xsy 4) l5_17) - (97 : Int32)) + (1 : Int32)).toInt64)), none, some (.int (l5_17 + (1 : Int32))), none]) ⟨rfl, rfl, rfl, rfl, rfl, trivial⟩ ?_
          exact ih17 l2_17 ((l3_17 * (27 : Int64)) + (((xch (xsy 4) l5_17) - (97 : Int32)) + (1 : Int32)).toInt64) (l5_17 + (1 : Int32)) h
set_option maxRecDepth 100000 in
set_option maxHeartbeats 4000000 in
theorem t_hA_X5_indexAmong_10 {g0 g1 g2 g3 g4 g5 g6 g7 g8 g9 g10 g11 g12 g13 g14 g15 g16 g17 g18 g19 g20 g21 g22 g23 g24 g25 g26 g27 g28 g29 g30 g31 g32 g33 g34 g35 g36 : Int32} {a0 a1 a2 a3 a4 a5 a6 a7 a8 a9 a10 a11 a12 a13 a14 a15 a16 a17 a18 a19 a20 a21 a22 a23 a24 a25 a26 a27 a28 a29 a30 a31 a32 a33 a34 a35 a36 a37 a38 a39 : (Nat → Int32)} {b0 b1 b2 b3 b4 : (Nat → Int64)} {w0 : Int64}  (res : Int32) (h : e_hA_X5_indexAmong g19 w0 (xsy 4)  = some res) (d : Nat) : xMet xks YX5_indexAmong (d + 5) 0 0 [.ref 17, .ref 1004] (hA g0 g1 g2 g3 g4 g5 g6 g7 g8 g9 g10 g11 g12 g13 g14 g15 g16 g17 g18 g19 g20 g21 g22 g23 g24 g25 g26 g27 g28 g29 g30 g31 g32 g33 g34 g35 g36 a0 a1 a2 a3 a4 a5 a6 a7 a8 a9 a10 a11 a12 a13 a14 a15 a16 a17 a18 a19 a20 a21 a22 a23 a24 a25 a26 a27 a28 a29 a30 a31 a32 a33 a34 a35 a36 a37 a38 a39 b0 b1 b2 b3 b4 w0 (.ref 19) (.ref 1)) (some (.int res)) (hA g0 g1 g2 g3 g4 g5 g6 g7 g8 g9 g10 g11 g12 g13 g14 g15 g16 g17 g18 g19 g20 g21 g22 g23 g24 g25 g26 g27 g28 g29 g30 g31 g32 g33 g34 g35 g36 a0 a1 a2 a3 a4 a5 a6 a7 a8 a9 a10 a11 a12 a13 a14 a15 a16 a17 a18 a19 a20 a21 a22 a23 a24 a25 a26 a27 a28 a29 a30 a31 a32 a33 a34 a35 a36 a37 a38 a39 b0 b1 b2 b3 b4 w0 (.ref 19) (.ref 1)) := by
  unfold e_hA_X5_indexAmong at h
  refine xMet_of (pl := [some (.ref 17), some (.ref 1004), none, none, none, none, none]) (by decide) (Nat.le_of_ble_eq_true rfl) rfl (Nat.le_of_ble_eq_true rfl) ?_
  refine x_aload_n dX5_indexAmong_0 rfl ?_
  refine x_get fX5_31 dX5_indexAmong_1 rfl rfl rfl ?_
  refine x_iconst (1 : Int32) dX5_indexAmong_4 (by decide) ?_
  refine x_icmp_eq 10 dX5_indexAmong_5 (by decide) (fun q => ?_) (fun q => ?_)
  · have h := xif_t q h
    refine x_iconst (0 : Int32) dX5_indexAmong_10 (by decide) ?_
    refine x_istore_n (pl' := [some (.ref 17), some (.ref 1004), some (.int (0 : Int32)), none, none, none, none]) dX5_indexAmong_11 (by decide) rfl ?_
    refine x_lconst (0 : Int64) dX5_indexAmong_12 (by decide) ?_
    refine x_lstore_n (pl' := [some (.ref 17), some (.ref 1004), some (.int (0 : Int32)), some (.long (0 : Int64)), none, none, none]) dX5_indexAmong_13 (by decide) rfl ?_
    refine x_iconst (0 : Int32) dX5_indexAmong_14 (by decide) ?_
    refine x_istore (pl' := [some (.ref 17), some (.ref 1004), some (.int (0 : Int32)), some (.long (0 : Int64)), none, some (.int (0 : Int32)), none]) dX5_indexAmong_15 (by decide) rfl ?_
    refine x_weak (pl2 := [some (.ref 17), some (.ref 1004), some (.int (0 : Int32)), some (.long (0 : Int64)), none, some (.int (0 : Int32)), none]) ⟨rfl, rfl, rfl, rfl, rfl, trivial⟩ ?_
    refine lp_hA_X5_indexAmong_10_17 d _  res _ (fun l2_17 l3_17 l5_17 h => ?_) 200000 (0 : Int32) (0 : Int64) (0 : Int32) h
    refine x_iconst (-1 : Int32) dX5_indexAmong_95 (by decide) ?_
    cases h
    exact x_iret2 dX5_indexAmong_96 rfl rfl
  · have h := xif_f q h
    refine x_iconst (-1 : Int32) dX5_indexAmong_8 (by decide) ?_
    cases h
    exact x_iret2 dX5_indexAmong_9 rfl rfl
set_option maxRecDepth 100000 in
set_option maxHeartbeats 4000000 in
theorem t_hA_X5_readNumber_6 {g0 g1 g2 g3 g4 g5 g6 g7 g8 g9 g10 g11 g12 g13 g14 g15 g16 g17 g18 g19 g20 g21 g22 g23 g24 g25 g26 g27 g28 g29 g30 g31 g32 g33 g34 g35 g36 : Int32} {a0 a1 a2 a3 a4 a5 a6 a7 a8 a9 a10 a11 a12 a13 a14 a15 a16 a17 a18 a19 a20 a21 a22 a23 a24 a25 a26 a27 a28 a29 a30 a31 a32 a33 a34 a35 a36 a37 a38 a39 : (Nat → Int32)} {b0 b1 b2 b3 b4 : (Nat → Int64)} {w0 : Int64} (x2 : Int32) (x3 : Int32) (res : Int32 × Int32 × Int64 × Int32 × Int32 × Int32 × Int32) (h : e_hA_X5_readNumber g19 w0 g18 g17 g15 a13 g14 g20 (xsy 4) x2 x3 = some res) (d : Nat) : xMet xks YX5_readNumber (d + 6) 0 0 [.ref 17, .ref 1004, .int x2, .int x3] (hA g0 g1 g2 g3 g4 g5 g6 g7 g8 g9 g10 g11 g12 g13 g14 g15 g16 g17 g18 g19 g20 g21 g22 g23 g24 g25 g26 g27 g28 g29 g30 g31 g32 g33 g34 g35 g36 a0 a1 a2 a3 a4 a5 a6 a7 a8 a9 a10 a11 a12 a13 a14 a15 a16 a17 a18 a19 a20 a21 a22 a23 a24 a25 a26 a27 a28 a29 a30 a31 a32 a33 a34 a35 a36 a37 a38 a39 b0 b1 b2 b3 b4 w0 (.ref 19) (.ref 1)) (some (.int res.1)) (hA g0 g1 g2 g3 g4 g5 g6 g7 g8 g9 g10 g11 g12 g13 res.2.2.2.2.2.1 res.2.1 g16 g17 res.2.2.2.2.1 res.2.2.2.1 res.2.2.2.2.2.2 g21 g22 g23 g24 g25 g26 g27 g28 g29 g30 g31 g32 g33 g34 g35 g36 a0 a1 a2 a3 a4 a5 a6 a7 a8 a9 a10 a11 a12 a13 a14 a15 a16 a17 a18 a19 a20 a21 a22 a23 a24 a25 a26 a27 a28 a29 a30 a31 a32 a33 a34 a35 a36 a37 a38 a39 b0 b1 b2 b3 b4 res.2.2.1 (.ref 19) (.ref 1)) := by
  unfold e_hA_X5_readNumber at h
  refine xMet_of (pl := [some (.ref 17), some (.ref 1004), some (.int x2), some (.int x3)]) (by decide) (Nat.le_of_ble_eq_true rfl) rfl (Nat.le_of_ble_eq_true rfl) ?_
  refine x_aload_n dX5_readNumber_0 rfl ?_
  refine x_aload_n dX5_readNumber_1 rfl ?_
  obtain ⟨z2, y2, h⟩ := xbind h
  refine x_callV (t_hA_X5_indexAmong_10  z2 y2 (d + 0)) kX5_104 dX5_readNumber_2 rfl rfl rfl rfl rfl (Nat.le_of_ble_eq_true rfl) (Nat.le_of_ble_eq_true rfl) rfl rfl (Or.inl rfl) ?_
  refine x_iconst (-1 : Int32) dX5_readNumber_5 (by decide) ?_
  refine x_icmp_ne 15 dX5_readNumber_6 (by decide) (fun q => ?_) (fun q => ?_)
  · have h := xif_f q h
    refine x_aload_n dX5_readNumber_15 rfl ?_
    obtain ⟨z16, y16, h⟩ := xbind h
    refine x_callV (t_hA_X5_readToken  z16 y16 (d + 2)) kX5_68 dX5_readNumber_16 rfl rfl rfl rfl rfl (Nat.le_of_ble_eq_true rfl) (Nat.le_of_ble_eq_true rfl) rfl rfl (Or.inl rfl) ?_
    refine x_aload_n dX5_readNumber_19 rfl ?_
    refine x_get fX5_31 dX5_readNumber_20 rfl rfl rfl ?_
    refine x_iconst (2 : Int32) dX5_readNumber_23 (by decide) ?_
    refine x_icmp_eq 33 dX5_readNumber_24 (by decide) (fun q => ?_) (fun q => ?_)
    · have h := xif_t q h
      refine x_aload_n dX5_readNumber_33 rfl ?_
      refine x_get fX5_34 dX5_readNumber_34 rfl rfl rfl ?_
      refine x_iload_n dX5_readNumber_37 rfl ?_
      refine x_i2l dX5_readNumber_38 ?_
      refine x_lcmp dX5_readNumber_39 ?_
      refine x_if_lt 53 dX5_readNumber_40 (by decide) (fun q => ?_) (fun q => ?_)
      · have h := xif_t q h
        refine x_aload_n dX5_readNumber_53 rfl ?_
        refine x_iconst (4 : Int32) dX5_readNumber_54 (by decide) ?_
        obtain ⟨z55, y55, h⟩ := xbind h
        refine x_callV (t_hA_X5_fail (4 : Int32) z55 y55 (d + 4)) kX5_75 dX5_readNumber_55 rfl rfl rfl rfl rfl (Nat.le_of_ble_eq_true rfl) (Nat.le_of_ble_eq_true rfl) rfl rfl (Or.inl rfl) ?_
        obtain ⟨-, q58, h⟩ := xbo_of h
        cases h
        exact x_zret2 dX5_readNumber_58 rfl q58 rfl
      · have h := xif_f q h
        refine x_aload_n dX5_readNumber_43 rfl ?_
        refine x_get fX5_34 dX5_readNumber_44 rfl rfl rfl ?_
        refine x_iload_n dX5_readNumber_47 rfl ?_
        refine x_i2l dX5_readNumber_48 ?_
        refine x_lcmp dX5_readNumber_49 ?_
        refine x_if_le 59 dX5_readNumber_50 (by decide) (fun q => ?_) (fun q => ?_)
        · have h := xif_t q h
          refine x_aload_n dX5_readNumber_59 rfl ?_
          refine x_aload_n dX5_readNumber_60 rfl ?_
          refine x_get fX5_34 dX5_readNumber_61 rfl rfl rfl ?_
          refine x_l2i dX5_readNumber_64 ?_
          refine x_put (h2 := (hA g0 g1 g2 g3 g4 g5 g6 g7 g8 g9 g10 g11 g12 g13 g14 z16.1 g16 g17 z16.2.2.2 z16.2.2.1 z16.2.1.toInt32 g21 g22 g23 g24 g25 g26 g27 g28 g29 g30 g31 g32 g33 g34 g35 g36 a0 a1 a2 a3 a4 a5 a6 a7 a8 a9 a10 a11 a12 a13 a14 a15 a16 a17 a18 a19 a20 a21 a22 a23 a24 a25 a26 a27 a28 a29 a30 a31 a32 a33 a34 a35 a36 a37 a38 a39 b0 b1 b2 b3 b4 z16.2.1 (.ref 19) (.ref 1))) fX5_38 dX5_readNumber_65 rfl rfl (Nat.le_of_ble_eq_true rfl : 8 + 1 ≤ _) (fun α => ⟨rfl, rfl⟩) rfl ?_
          refine x_aload_n dX5_readNumber_68 rfl ?_
          obtain ⟨z69, y69, h⟩ := xbind h
          refine x_callV (t_hA_X5_readToken  z69 y69 (d + 2)) kX5_68 dX5_readNumber_69 rfl rfl rfl rfl rfl (Nat.le_of_ble_eq_true rfl) (Nat.le_of_ble_eq_true rfl) rfl rfl (Or.inl rfl) ?_
          refine x_iconst (1 : Int32) dX5_readNumber_72 (by decide) ?_
          cases h
          exact x_zret2 dX5_readNumber_73 rfl rfl rfl
        · have h := xif_f q h
          refine x_aload_n dX5_readNumber_53 rfl ?_
          refine x_iconst (4 : Int32) dX5_readNumber_54 (by decide) ?_
          obtain ⟨z55, y55, h⟩ := xbind h
          refine x_callV (t_hA_X5_fail (4 : Int32) z55 y55 (d + 4)) kX5_75 dX5_readNumber_55 rfl rfl rfl rfl rfl (Nat.le_of_ble_eq_true rfl) (Nat.le_of_ble_eq_true rfl) rfl rfl (Or.inl rfl) ?_
          obtain ⟨-, q58, h⟩ := xbo_of h
          cases h
          exact x_zret2 dX5_readNumber_58 rfl q58 rfl
    · have h := xif_f q h
      refine x_aload_n dX5_readNumber_27 rfl ?_
      refine x_iconst (1 : Int32) dX5_readNumber_28 (by decide) ?_
      obtain ⟨z29, y29, h⟩ := xbind h
      refine x_callV (t_hA_X5_fail (1 : Int32) z29 y29 (d + 4)) kX5_75 dX5_readNumber_29 rfl rfl rfl rfl rfl (Nat.le_of_ble_eq_true rfl) (Nat.le_of_ble_eq_true rfl) rfl rfl (Or.inl rfl) ?_
      obtain ⟨-, q32, h⟩ := xbo_of h
      cases h
      exact x_zret2 dX5_readNumber_32 rfl q32 rfl
  · have h := xif_t q h
    refine x_aload_n dX5_readNumber_9 rfl ?_
    refine x_iconst (1 : Int32) dX5_readNumber_10 (by decide) ?_
    obtain ⟨z11, y11, h⟩ := xbind h
    refine x_callV (t_hA_X5_fail (1 : Int32) z11 y11 (d + 4)) kX5_75 dX5_readNumber_11 rfl rfl rfl rfl rfl (Nat.le_of_ble_eq_true rfl) (Nat.le_of_ble_eq_true rfl) rfl rfl (Or.inl rfl) ?_
    obtain ⟨-, q14, h⟩ := xbo_of h
    cases h
    exact x_zret2 dX5_readNumber_14 rfl q14 rfl
noncomputable def e_hA_X5_readCountyLine (p0 : Int32) (p1 : Int32) (p2 : Int32) (p3 : Int32) (p4 : Int64) (p5 : Int32) (p6 : (Nat → Int32)) (p7 : Int32) (p8 : Int32) (p9 : Int32) (p10 : Int32) (p11 : Int32)  : Option (Int32 × Int32 × Int32 × Int64 × Int32 × Int32 × Int32 × Int32 × Int32 × Int32 × Int32) :=
  if p0 = (0 : Int32) then ((e_hA_X5_readToken p1 p2 p3 p4 p5 p6).bind fun z19 => (e_hA_X5_readNumber z19.2.2.1 z19.2.1 z19.2.2.2 p2 z19.1 p6 p7 p8 (xsy 2) (1 : Int32) (30 : Int32)).bind fun z28 => if z28.1 = (0 : Int32) then some ((0 : Int32), (1 : Int32), z28.2.1, z28.2.2.1, z28.2.2.2.1, z28.2.2.2.2.1, z28.2.2.2.2.2.1, z28.2.2.2.2.2.2, p9, p10, p11) else ((e_hA_X5_readNumber z28.2.2.2.1 z28.2.2.1 z28.2.2.2.2.1 p2 z28.2.1 p6 z28.2.2.2.2.2.1 z28.2.2.2.2.2.2 (xsy 3) (0 : Int32) (99 : Int32)).bind fun z53 => if z53.1 = (0 : Int32) then some ((0 : Int32), (1 : Int32), z53.2.1, z53.2.2.1, z53.2.2.2.1, z53.2.2.2.2.1, z53.2.2.2.2.2.1, z53.2.2.2.2.2.2, z28.2.2.2.2.2.2, p10, p11) else ((e_hA_X5_readNumber z53.2.2.2.1 z53.2.2.1 z53.2.2.2.2.1 p2 z53.2.1 p6 z53.2.2.2.2.2.1 z53.2.2.2.2.2.2 (xsy 4) (0 : Int32) (99 : Int32)).bind fun z78 => if z78.1 = (0 : Int32) then some ((0 : Int32), (1 : Int32), z78.2.1, z78.2.2.1, z78.2.2.2.1, z78.2.2.2.2.1, z78.2.2.2.2.2.1, z78.2.2.2.2.2.2, z28.2.2.2.2.2.2, z53.2.2.2.2.2.2, p11) else some ((1 : Int32), (1 : Int32), z78.2.1, z78.2.2.1, z78.2.2.2.1, z78.2.2.2.2.1, z78.2.2.2.2.2.1, z78.2.2.2.2.2.2, z28.2.2.2.2.2.2, z53.2.2.2.2.2.2, z78.2.2.2.2.2.2)))) else ((e_hA_X5_fail p7 (3 : Int32)).bind fun z9 => xbo z9.1 (some (z9.1, p0, p3, p4, p5, p1, z9.2, p8, p9, p10, p11)))
set_option maxRecDepth 100000 in
set_option maxHeartbeats 4000000 in
theorem t_hA_X5_readCountyLine {g0 g1 g2 g3 g4 g5 g6 g7 g8 g9 g10 g11 g12 g13 g14 g15 g16 g17 g18 g19 g20 g21 g22 g23 g24 g25 g26 g27 g28 g29 g30 g31 g32 g33 g34 g35 g36 : Int32} {a0 a1 a2 a3 a4 a5 a6 a7 a8 a9 a10 a11 a12 a13 a14 a15 a16 a17 a18 a19 a20 a21 a22 a23 a24 a25 a26 a27 a28 a29 a30 a31 a32 a33 a34 a35 a36 a37 a38 a39 : (Nat → Int32)} {b0 b1 b2 b3 b4 : (Nat → Int64)} {w0 : Int64}  (res : Int32 × Int32 × Int32 × Int64 × Int32 × Int32 × Int32 × Int32 × Int32 × Int32 × Int32) (h : e_hA_X5_readCountyLine g21 g18 g17 g15 w0 g19 a13 g14 g20 g7 g8 g9  = some res) (d : Nat) : xMet xks YX5_readCountyLine (d + 7) 0 0 [.ref 17] (hA g0 g1 g2 g3 g4 g5 g6 g7 g8 g9 g10 g11 g12 g13 g14 g15 g16 g17 g18 g19 g20 g21 g22 g23 g24 g25 g26 g27 g28 g29 g30 g31 g32 g33 g34 g35 g36 a0 a1 a2 a3 a4 a5 a6 a7 a8 a9 a10 a11 a12 a13 a14 a15 a16 a17 a18 a19 a20 a21 a22 a23 a24 a25 a26 a27 a28 a29 a30 a31 a32 a33 a34 a35 a36 a37 a38 a39 b0 b1 b2 b3 b4 w0 (.ref 19) (.ref 1)) (some (.int res.1)) (hA g0 g1 g2 g3 g4 g5 g6 res.2.2.2.2.2.2.2.2.1 res.2.2.2.2.2.2.2.2.2.1 res.2.2.2.2.2.2.2.2.2.2 g10 g11 g12 g13 res.2.2.2.2.2.2.1 res.2.2.1 g16 g17 res.2.2.2.2.2.1 res.2.2.2.2.1 res.2.2.2.2.2.2.2.1 res.2.1 g22 g23 g24 g25 g26 g27 g28 g29 g30 g31 g32 g33 g34 g35 g36 a0 a1 a2 a3 a4 a5 a6 a7 a8 a9 a10 a11 a12 a13 a14 a15 a16 a17 a18 a19 a20 a21 a22 a23 a24 a25 a26 a27 a28 a29 a30 a31 a32 a33 a34 a35 a36 a37 a38 a39 b0 b1 b2 b3 b4 res.2.2.2.1 (.ref 19) (.ref 1)) := by
  unfold e_hA_X5_readCountyLine at h
  refine xMet_of (pl := [some (.ref 17)]) (by decide) (Nat.le_of_ble_eq_true rfl) rfl (Nat.le_of_ble_eq_true rfl) ?_
  refine x_aload_n dX5_readCountyLine_0 rfl ?_
  refine x_get fX5_41 dX5_readCountyLine_1 rfl rfl rfl ?_
  refine x_if_eq 13 dX5_readCountyLine_4 (by decide) (fun q => ?_) (fun q => ?_)
  · have h := xif_t q h
    refine x_aload_n dX5_readCountyLine_13 rfl ?_
    refine x_iconst (1 : Int32) dX5_readCountyLine_14 (by decide) ?_
    refine x_put (h2 := (hA g0 g1 g2 g3 g4 g5 g6 g7 g8 g9 g10 g11 g12 g13 g14 g15 g16 g17 g18 g19 g20 (1 : Int32) g22 g23 g24 g25 g26 g27 g28 g29 g30 g31 g32 g33 g34 g35 g36 a0 a1 a2 a3 a4 a5 a6 a7 a8 a9 a10 a11 a12 a13 a14 a15 a16 a17 a18 a19 a20 a21 a22 a23 a24 a25 a26 a27 a28 a29 a30 a31 a32 a33 a34 a35 a36 a37 a38 a39 b0 b1 b2 b3 b4 w0 (.ref 19) (.ref 1))) fX5_41 dX5_readCountyLine_15 rfl rfl (Nat.le_of_ble_eq_true rfl : 9 + 1 ≤ _) (fun α => ⟨rfl, rfl⟩) rfl ?_
    refine x_aload_n dX5_readCountyLine_18 rfl ?_
    obtain ⟨z19, y19, h⟩ := xbind h
    refine x_callV (t_hA_X5_readToken  z19 y19 (d + 3)) kX5_68 dX5_readCountyLine_19 rfl rfl rfl rfl rfl (Nat.le_of_ble_eq_true rfl) (Nat.le_of_ble_eq_true rfl) rfl rfl (Or.inl rfl) ?_
    refine x_aload_n dX5_readCountyLine_22 rfl ?_
    refine x_ldcS (k := 2) rfl rfl rfl dX5_readCountyLine_23 ?_
    refine x_iconst (1 : Int32) dX5_readCountyLine_25 (by decide) ?_
    refine x_bipush (30 : Int32) dX5_readCountyLine_26 (by decide) ?_
    obtain ⟨z28, y28, h⟩ := xbind h
    refine x_callV (t_hA_X5_readNumber_4 (1 : Int32) (30 : Int32) z28 y28 (d + 0)) kX5_136 dX5_readCountyLine_28 rfl rfl rfl rfl rfl (Nat.le_of_ble_eq_true rfl) (Nat.le_of_ble_eq_true rfl) rfl rfl (Or.inl rfl) ?_
    refine x_if_ne 36 dX5_readCountyLine_31 (by decide) (fun q => ?_) (fun q => ?_)
    · have h := xif_f q h
      refine x_aload_n dX5_readCountyLine_36 rfl ?_
      refine x_get fX5_48 dX5_readCountyLine_37 rfl rfl rfl ?_
      refine x_aload_n dX5_readCountyLine_40 rfl ?_
      refine x_get fX5_38 dX5_readCountyLine_41 rfl rfl rfl ?_
      refine x_put (h2 := (hA g0 g1 g2 g3 g4 g5 g6 z28.2.2.2.2.2.2 g8 g9 g10 g11 g12 g13 z28.2.2.2.2.2.1 z28.2.1 g16 g17 z28.2.2.2.2.1 z28.2.2.2.1 z28.2.2.2.2.2.2 (1 : Int32) g22 g23 g24 g25 g26 g27 g28 g29 g30 g31 g32 g33 g34 g35 g36 a0 a1 a2 a3 a4 a5 a6 a7 a8 a9 a10 a11 a12 a13 a14 a15 a16 a17 a18 a19 a20 a21 a22 a23 a24 a25 a26 a27 a28 a29 a30 a31 a32 a33 a34 a35 a36 a37 a38 a39 b0 b1 b2 b3 b4 z28.2.2.1 (.ref 19) (.ref 1))) fX5_140 dX5_readCountyLine_44 rfl rfl (Nat.le_of_ble_eq_true rfl : 0 + 1 ≤ _) (fun α => ⟨rfl, rfl⟩) rfl ?_
      refine x_aload_n dX5_readCountyLine_47 rfl ?_
      refine x_ldcS (k := 3) rfl rfl rfl dX5_readCountyLine_48 ?_
      refine x_iconst (0 : Int32) dX5_readCountyLine_50 (by decide) ?_
      refine x_bipush (99 : Int32) dX5_readCountyLine_51 (by decide) ?_
      obtain ⟨z53, y53, h⟩ := xbind h
      refine x_callV (t_hA_X5_readNumber_5 (0 : Int32) (99 : Int32) z53 y53 (d + 0)) kX5_136 dX5_readCountyLine_53 rfl rfl rfl rfl rfl (Nat.le_of_ble_eq_true rfl) (Nat.le_of_ble_eq_true rfl) rfl rfl (Or.inl rfl) ?_
      refine x_if_ne 61 dX5_readCountyLine_56 (by decide) (fun q => ?_) (fun q => ?_)
      · have h := xif_f q h
        refine x_aload_n dX5_readCountyLine_61 rfl ?_
        refine x_get fX5_48 dX5_readCountyLine_62 rfl rfl rfl ?_
        refine x_aload_n dX5_readCountyLine_65 rfl ?_
        refine x_get fX5_38 dX5_readCountyLine_66 rfl rfl rfl ?_
        refine x_put (h2 := (hA g0 g1 g2 g3 g4 g5 g6 z28.2.2.2.2.2.2 z53.2.2.2.2.2.2 g9 g10 g11 g12 g13 z53.2.2.2.2.2.1 z53.2.1 g16 g17 z53.2.2.2.2.1 z53.2.2.2.1 z53.2.2.2.2.2.2 (1 : Int32) g22 g23 g24 g25 g26 g27 g28 g29 g30 g31 g32 g33 g34 g35 g36 a0 a1 a2 a3 a4 a5 a6 a7 a8 a9 a10 a11 a12 a13 a14 a15 a16 a17 a18 a19 a20 a21 a22 a23 a24 a25 a26 a27 a28 a29 a30 a31 a32 a33 a34 a35 a36 a37 a38 a39 b0 b1 b2 b3 b4 z53.2.2.1 (.ref 19) (.ref 1))) fX5_144 dX5_readCountyLine_69 rfl rfl (Nat.le_of_ble_eq_true rfl : 1 + 1 ≤ _) (fun α => ⟨rfl, rfl⟩) rfl ?_
        refine x_aload_n dX5_readCountyLine_72 rfl ?_
        refine x_ldcS (k := 4) rfl rfl rfl dX5_readCountyLine_73 ?_
        refine x_iconst (0 : Int32) dX5_readCountyLine_75 (by decide) ?_
        refine x_bipush (99 : Int32) dX5_readCountyLine_76 (by decide) ?_
        obtain ⟨z78, y78, h⟩ := xbind h
        refine x_callV (t_hA_X5_readNumber_6 (0 : Int32) (99 : Int32) z78 y78 (d + 0)) kX5_136 dX5_readCountyLine_78 rfl rfl rfl rfl rfl (Nat.le_of_ble_eq_true rfl) (Nat.le_of_ble_eq_true rfl) rfl rfl (Or.inl rfl) ?_
        refine x_if_ne 86 dX5_readCountyLine_81 (by decide) (fun q => ?_) (fun q => ?_)
        · have h := xif_f q h
          refine x_aload_n dX5_readCountyLine_86 rfl ?_
          refine x_get fX5_48 dX5_readCountyLine_87 rfl rfl rfl ?_
          refine x_aload_n dX5_readCountyLine_90 rfl ?_
          refine x_get fX5_38 dX5_readCountyLine_91 rfl rfl rfl ?_
          refine x_put (h2 := (hA g0 g1 g2 g3 g4 g5 g6 z28.2.2.2.2.2.2 z53.2.2.2.2.2.2 z78.2.2.2.2.2.2 g10 g11 g12 g13 z78.2.2.2.2.2.1 z78.2.1 g16 g17 z78.2.2.2.2.1 z78.2.2.2.1 z78.2.2.2.2.2.2 (1 : Int32) g22 g23 g24 g25 g26 g27 g28 g29 g30 g31 g32 g33 g34 g35 g36 a0 a1 a2 a3 a4 a5 a6 a7 a8 a9 a10 a11 a12 a13 a14 a15 a16 a17 a18 a19 a20 a21 a22 a23 a24 a25 a26 a27 a28 a29 a30 a31 a32 a33 a34 a35 a36 a37 a38 a39 b0 b1 b2 b3 b4 z78.2.2.1 (.ref 19) (.ref 1))) fX5_148 dX5_readCountyLine_94 rfl rfl (Nat.le_of_ble_eq_true rfl : 2 + 1 ≤ _) (fun α => ⟨rfl, rfl⟩) rfl ?_
          refine x_iconst (1 : Int32) dX5_readCountyLine_97 (by decide) ?_
          cases h
          exact x_zret2 dX5_readCountyLine_98 rfl rfl rfl
        · have h := xif_t q h
          refine x_iconst (0 : Int32) dX5_readCountyLine_84 (by decide) ?_
          cases h
          exact x_zret2 dX5_readCountyLine_85 rfl rfl rfl
      · have h := xif_t q h
        refine x_iconst (0 : Int32) dX5_readCountyLine_59 (by decide) ?_
        cases h
        exact x_zret2 dX5_readCountyLine_60 rfl rfl rfl
    · have h := xif_t q h
      refine x_iconst (0 : Int32) dX5_readCountyLine_34 (by decide) ?_
      cases h
      exact x_zret2 dX5_readCountyLine_35 rfl rfl rfl
  · have h := xif_f q h
    refine x_aload_n dX5_readCountyLine_7 rfl ?_
    refine x_iconst (3 : Int32) dX5_readCountyLine_8 (by decide) ?_
    obtain ⟨z9, y9, h⟩ := xbind h
    refine x_callV (t_hA_X5_fail (3 : Int32) z9 y9 (d + 5)) kX5_75 dX5_readCountyLine_9 rfl rfl rfl rfl rfl (Nat.le_of_ble_eq_true rfl) (Nat.le_of_ble_eq_true rfl) rfl rfl (Or.inl rfl) ?_
    obtain ⟨-, q12, h⟩ := xbo_of h
    cases h
    exact x_zret2 dX5_readCountyLine_12 rfl q12 rfl
noncomputable def e_hA_X5_readLine (p0 : Int32) (p1 : Int64) (p2 : Int32) (p3 : Int32) (p4 : Int32) (p5 : Int32) (p6 : Int32) (p7 : (Nat → Int32)) (p8 : Int32) (p9 : (Nat → Int64)) (p10 : Int32) (p11 : Int32) (p12 : (Nat → Int32)) (p13 : (Nat → Int32)) (p14 : (Nat → Int32)) (p15 : (Nat → Int32)) (p16 : Int32) (p17 : (Nat → Int64)) (p18 : Int32) (p19 : (Nat → Int32)) (p20 : (Nat → Int32)) (p21 : (Nat → Int32)) (p22 : (Nat → Int32)) (p23 : (Nat → Int32)) (p24 : (Nat → Int32)) (p25 : (Nat → Int32)) (p26 : (Nat → Int32)) (p27 : (Nat → Int32)) (p28 : Int32) (p29 : Int32) (p30 : Int32)  : Option (Int32 × Int32 × Int64 × Int32 × Int32 × Int32 × Int32 × (Nat → Int32) × (Nat → Int32) × (Nat → Int32) × (Nat → Int32) × Int32 × (Nat → Int32) × (Nat → Int32) × (Nat → Int32) × (Nat → Int32) × Int32 × (Nat → Int64) × (Nat → Int32) × (Nat → Int32) × (Nat → Int32) × (Nat → Int32) × Int32 × (Nat → Int64) × (Nat → Int32) × Int32 × Int32 × Int32 × Int32 × Int32) :=
  ((e_hA_X5_indexAmong p0 p1 (xsy 1)).bind fun z3 => if z3 = (-1 : Int32) then ((e_hA_X5_fail p11 (1 : Int32)).bind fun z14 => xbo z14.1 (some (z14.1, p6, p1, p0, p4, p10, z14.2, p13, p14, p15, p12, p3, p19, p20, p21, p22, p18, p9, p23, p24, p25, p26, p8, p17, p27, p16, p2, p28, p29, p30))) else if z3 = (0 : Int32) then ((e_hA_X5_readCountyLine p2 p4 p5 p6 p1 p0 p7 p11 p10 p28 p29 p30).bind fun z23 => xbo z23.1 (some (z23.1, z23.2.2.1, z23.2.2.2.1, z23.2.2.2.2.1, z23.2.2.2.2.2.1, z23.2.2.2.2.2.2.2.1, z23.2.2.2.2.2.2.1, p13, p14, p15, p12, p3, p19, p20, p21, p22, p18, p9, p23, p24, p25, p26, p8, p17, p27, p16, z23.2.1, z23.2.2.2.2.2.2.2.2.1, z23.2.2.2.2.2.2.2.2.2.1, z23.2.2.2.2.2.2.2.2.2.2))) else if p2 = (0 : Int32) then ((e_hA_X5_fail p11 (6 : Int32)).bind fun z37 => xbo z37.1 (some (z37.1, p6, p1, p0, p4, p10, z37.2, p13, p14, p15, p12, p3, p19, p20, p21, p22, p18, p9, p23, p24, p25, p26, p8, p17, p27, p16, p2, p28, p29, p30))) else if z3 = (1 : Int32) then ((e_hA_X5_readPersonLine p16 p4 p5 p6 p1 p0 p7 p17 p11 p8 p9 p10 p27).bind fun z47 => xbo z47.1 (some (z47.1, z47.2.1, z47.2.2.1, z47.2.2.2.1, z47.2.2.2.2.1, z47.2.2.2.2.2.2.2.1, z47.2.2.2.2.2.2.1, p13, p14, p15, p12, p3, p19, p20, p21, p22, p18, p9, p23, p24, p25, p26, p8, z47.2.2.2.2.2.1, z47.2.2.2.2.2.2.2.2.1, z47.2.2.2.2.2.2.2.2.2, p2, p28, p29, p30))) else if z3 = (2 : Int32) then ((e_hA_X5_readUmbrellaLine p8 p4 p5 p6 p1 p0 p7 p9 p16 p17 p11 p10 p23 p24 p25 p26).bind fun z57 => xbo z57.1 (some (z57.1, z57.2.1, z57.2.2.1, z57.2.2.2.1, z57.2.2.2.2.1, z57.2.2.2.2.2.2.2.1, z57.2.2.2.2.2.2.1, p13, p14, p15, p12, p3, p19, p20, p21, p22, p18, z57.2.2.2.2.2.1, z57.2.2.2.2.2.2.2.2.1, z57.2.2.2.2.2.2.2.2.2.1, z57.2.2.2.2.2.2.2.2.2.2.1, z57.2.2.2.2.2.2.2.2.2.2.2.1, z57.2.2.2.2.2.2.2.2.2.2.2.2, p17, p27, p16, p2, p28, p29, p30))) else if z3 = (7 : Int32) then ((e_hA_X5_readClaimLine p18 p4 p5 p6 p1 p0 p7 p16 p17 p10 p11 p8 p9 p19 p20 p21 p22).bind fun z68 => xbo z68.1 (some (z68.1, z68.2.1, z68.2.2.1, z68.2.2.2.1, z68.2.2.2.2.1, z68.2.2.2.2.2.1, z68.2.2.2.2.2.2.1, p13, p14, p15, p12, p3, z68.2.2.2.2.2.2.2.1, z68.2.2.2.2.2.2.2.2.1, z68.2.2.2.2.2.2.2.2.2.1, z68.2.2.2.2.2.2.2.2.2.2.1, z68.2.2.2.2.2.2.2.2.2.2.2, p9, p23, p24, p25, p26, p8, p17, p27, p16, p2, p28, p29, p30))) else ((e_hA_X5_readLogLine p3 p4 p5 p6 p1 p0 p7 p8 p9 p10 p11 p12 p13 p14 p15 p16 p17 (z3 - (3 : Int32))).bind fun z78 => xbo z78.1 (some (z78.1, z78.2.1, z78.2.2.1, z78.2.2.2.1, z78.2.2.2.2.1, z78.2.2.2.2.2.1, z78.2.2.2.2.2.2.1, z78.2.2.2.2.2.2.2.1, z78.2.2.2.2.2.2.2.2.1, z78.2.2.2.2.2.2.2.2.2.1, z78.2.2.2.2.2.2.2.2.2.2.1, z78.2.2.2.2.2.2.2.2.2.2.2, p19, p20, p21, p22, p18, p9, p23, p24, p25, p26, p8, p17, p27, p16, p2, p28, p29, p30))))
set_option maxRecDepth 100000 in
set_option maxHeartbeats 4000000 in
theorem t_hA_X5_readLine {g0 g1 g2 g3 g4 g5 g6 g7 g8 g9 g10 g11 g12 g13 g14 g15 g16 g17 g18 g19 g20 g21 g22 g23 g24 g25 g26 g27 g28 g29 g30 g31 g32 g33 g34 g35 g36 : Int32} {a0 a1 a2 a3 a4 a5 a6 a7 a8 a9 a10 a11 a12 a13 a14 a15 a16 a17 a18 a19 a20 a21 a22 a23 a24 a25 a26 a27 a28 a29 a30 a31 a32 a33 a34 a35 a36 a37 a38 a39 : (Nat → Int32)} {b0 b1 b2 b3 b4 : (Nat → Int64)} {w0 : Int64}  (res : Int32 × Int32 × Int64 × Int32 × Int32 × Int32 × Int32 × (Nat → Int32) × (Nat → Int32) × (Nat → Int32) × (Nat → Int32) × Int32 × (Nat → Int32) × (Nat → Int32) × (Nat → Int32) × (Nat → Int32) × Int32 × (Nat → Int64) × (Nat → Int32) × (Nat → Int32) × (Nat → Int32) × (Nat → Int32) × Int32 × (Nat → Int64) × (Nat → Int32) × Int32 × Int32 × Int32 × Int32 × Int32) (h : e_hA_X5_readLine g19 w0 g21 g12 g18 g17 g15 a13 g11 b1 g20 g14 a22 a19 a20 a21 g10 b0 g13 a23 a24 a25 a26 a15 a16 a17 a18 a14 g7 g8 g9  = some res) (d : Nat) : xMet xks YX5_readLine (d + 9) 0 0 [.ref 17] (hA g0 g1 g2 g3 g4 g5 g6 g7 g8 g9 g10 g11 g12 g13 g14 g15 g16 g17 g18 g19 g20 g21 g22 g23 g24 g25 g26 g27 g28 g29 g30 g31 g32 g33 g34 g35 g36 a0 a1 a2 a3 a4 a5 a6 a7 a8 a9 a10 a11 a12 a13 a14 a15 a16 a17 a18 a19 a20 a21 a22 a23 a24 a25 a26 a27 a28 a29 a30 a31 a32 a33 a34 a35 a36 a37 a38 a39 b0 b1 b2 b3 b4 w0 (.ref 19) (.ref 1)) (some (.int res.1)) (hA g0 g1 g2 g3 g4 g5 g6 res.2.2.2.2.2.2.2.2.2.2.2.2.2.2.2.2.2.2.2.2.2.2.2.2.2.2.2.1 res.2.2.2.2.2.2.2.2.2.2.2.2.2.2.2.2.2.2.2.2.2.2.2.2.2.2.2.2.1 res.2.2.2.2.2.2.2.2.2.2.2.2.2.2.2.2.2.2.2.2.2.2.2.2.2.2.2.2.2 res.2.2.2.2.2.2.2.2.2.2.2.2.2.2.2.2.2.2.2.2.2.2.2.2.2.1 res.2.2.2.2.2.2.2.2.2.2.2.2.2.2.2.2.2.2.2.2.2.2.1 res.2.2.2.2.2.2.2.2.2.2.2.1 res.2.2.2.2.2.2.2.2.2.2.2.2.2.2.2.2.1 res.2.2.2.2.2.2.1 res.2.1 g16 g17 res.2.2.2.2.1 res.2.2.2.1 res.2.2.2.2.2.1 res.2.2.2.2.2.2.2.2.2.2.2.2.2.2.2.2.2.2.2.2.2.2.2.2.2.2.1 g22 g23 g24 g25 g26 g27 g28 g29 g30 g31 g32 g33 g34 g35 g36 a0 a1 a2 a3 a4 a5 a6 a7 a8 a9 a10 a11 a12 a13 res.2.2.2.2.2.2.2.2.2.2.2.2.2.2.2.2.2.2.2.2.2.2.2.2.1 res.2.2.2.2.2.2.2.2.2.2.2.2.2.2.2.2.2.2.1 res.2.2.2.2.2.2.2.2.2.2.2.2.2.2.2.2.2.2.2.1 res.2.2.2.2.2.2.2.2.2.2.2.2.2.2.2.2.2.2.2.2.1 res.2.2.2.2.2.2.2.2.2.2.2.2.2.2.2.2.2.2.2.2.2.1 res.2.2.2.2.2.2.2.1 res.2.2.2.2.2.2.2.2.1 res.2.2.2.2.2.2.2.2.2.1 res.2.2.2.2.2.2.2.2.2.2.1 res.2.2.2.2.2.2.2.2.2.2.2.2.1 res.2.2.2.2.2.2.2.2.2.2.2.2.2.1 res.2.2.2.2.2.2.2.2.2.2.2.2.2.2.1 res.2.2.2.2.2.2.2.2.2.2.2.2.2.2.2.1 a27 a28 a29 a30 a31 a32 a33 a34 a35 a36 a37 a38 a39 res.2.2.2.2.2.2.2.2.2.2.2.2.2.2.2.2.2.2.2.2.2.2.2.1 res.2.2.2.2.2.2.2.2.2.2.2.2.2.2.2.2.2.1 b2 b3 b4 res.2.2.1 (.ref 19) (.ref 1)) := by
  unfold e_hA_X5_readLine at h
  refine xMet_of (pl := [some (.ref 17), none]) (by decide) (Nat.le_of_ble_eq_true rfl) rfl (Nat.le_of_ble_eq_true rfl) ?_
  refine x_aload_n dX5_readLine_0 rfl ?_
  refine x_ldcS (k := 1) rfl rfl rfl dX5_readLine_1 ?_
  obtain ⟨z3, y3, h⟩ := xbind h
  refine x_callV (t_hA_X5_indexAmong  z3 y3 (d + 3)) kX5_104 dX5_readLine_3 rfl rfl rfl rfl rfl (Nat.le_of_ble_eq_true rfl) (Nat.le_of_ble_eq_true rfl) rfl rfl (Or.inl rfl) ?_
  refine x_istore_n (pl' := [some (.ref 17), some (.int z3)]) dX5_readLine_6 (by decide) rfl ?_
  refine x_iload_n dX5_readLine_7 rfl ?_
  refine x_iconst (-1 : Int32) dX5_readLine_8 (by decide) ?_
  refine x_icmp_ne 18 dX5_readLine_9 (by decide) (fun q => ?_) (fun q => ?_)
  · have h := xif_f q h
    refine x_iload_n dX5_readLine_18 rfl ?_
    refine x_if_ne 27 dX5_readLine_19 (by decide) (fun q => ?_) (fun q => ?_)
    · have h := xif_f q h
      refine x_aload_n dX5_readLine_27 rfl ?_
      refine x_get fX5_41 dX5_readLine_28 rfl rfl rfl ?_
      refine x_if_ne 41 dX5_readLine_31 (by decide) (fun q => ?_) (fun q => ?_)
      · have h := xif_f q h
        refine x_iload_n dX5_readLine_41 rfl ?_
        refine x_iconst (1 : Int32) dX5_readLine_42 (by decide) ?_
        refine x_icmp_ne 51 dX5_readLine_43 (by decide) (fun q => ?_) (fun q => ?_)
        · have h := xif_f q h
          refine x_iload_n dX5_readLine_51 rfl ?_
          refine x_iconst (2 : Int32) dX5_readLine_52 (by decide) ?_
          refine x_icmp_ne 61 dX5_readLine_53 (by decide) (fun q => ?_) (fun q => ?_)
          · have h := xif_f q h
            refine x_iload_n dX5_readLine_61 rfl ?_
            refine x_bipush (7 : Int32) dX5_readLine_62 (by decide) ?_
            refine x_icmp_ne 74 dX5_readLine_64 (by decide) (fun q => ?_) (fun q => ?_)
            · have h := xif_f q h
              refine x_aload_n dX5_readLine_74 rfl ?_
              refine x_iload_n dX5_readLine_75 rfl ?_
              refine x_iconst (3 : Int32) dX5_readLine_76 (by decide) ?_
              refine x_isub dX5_readLine_77 ?_
              obtain ⟨z78, y78, h⟩ := xbind h
              refine x_callV (t_hA_X5_readLogLine (z3 - (3 : Int32)) z78 y78 (d + 0)) kX5_131 dX5_readLine_78 rfl rfl rfl rfl rfl (Nat.le_of_ble_eq_true rfl) (Nat.le_of_ble_eq_true rfl) rfl rfl (Or.inl rfl) ?_
              obtain ⟨-, q81, h⟩ := xbo_of h
              cases h
              exact x_zret2 dX5_readLine_81 rfl q81 rfl
            · have h := xif_t q h
              refine x_aload_n dX5_readLine_67 rfl ?_
              obtain ⟨z68, y68, h⟩ := xbind h
              refine x_callV (t_hA_X5_readClaimLine  z68 y68 (d + 0)) kX5_128 dX5_readLine_68 rfl rfl rfl rfl rfl (Nat.le_of_ble_eq_true rfl) (Nat.le_of_ble_eq_true rfl) rfl rfl (Or.inl rfl) ?_
              refine x_goto 81 dX5_readLine_71 (by decide) ?_
              obtain ⟨-, q81, h⟩ := xbo_of h
              cases h
              exact x_zret2 dX5_readLine_81 rfl q81 rfl
          · have h := xif_t q h
            refine x_aload_n dX5_readLine_56 rfl ?_
            obtain ⟨z57, y57, h⟩ := xbind h
            refine x_callV (t_hA_X5_readUmbrellaLine  z57 y57 (d + 0)) kX5_125 dX5_readLine_57 rfl rfl rfl rfl rfl (Nat.le_of_ble_eq_true rfl) (Nat.le_of_ble_eq_true rfl) rfl rfl (Or.inl rfl) ?_
            obtain ⟨-, q60, h⟩ := xbo_of h
            cases h
            exact x_zret2 dX5_readLine_60 rfl q60 rfl
        · have h := xif_t q h
          refine x_aload_n dX5_readLine_46 rfl ?_
          obtain ⟨z47, y47, h⟩ := xbind h
          refine x_callV (t_hA_X5_readPersonLine  z47 y47 (d + 0)) kX5_122 dX5_readLine_47 rfl rfl rfl rfl rfl (Nat.le_of_ble_eq_true rfl) (Nat.le_of_ble_eq_true rfl) rfl rfl (Or.inl rfl) ?_
          obtain ⟨-, q50, h⟩ := xbo_of h
          cases h
          exact x_zret2 dX5_readLine_50 rfl q50 rfl
      · have h := xif_t q h
        refine x_aload_n dX5_readLine_34 rfl ?_
        refine x_bipush (6 : Int32) dX5_readLine_35 (by decide) ?_
        obtain ⟨z37, y37, h⟩ := xbind h
        refine x_callV (t_hA_X5_fail (6 : Int32) z37 y37 (d + 7)) kX5_75 dX5_readLine_37 rfl rfl rfl rfl rfl (Nat.le_of_ble_eq_true rfl) (Nat.le_of_ble_eq_true rfl) rfl rfl (Or.inl rfl) ?_
        obtain ⟨-, q40, h⟩ := xbo_of h
        cases h
        exact x_zret2 dX5_readLine_40 rfl q40 rfl
    · have h := xif_t q h
      refine x_aload_n dX5_readLine_22 rfl ?_
      obtain ⟨z23, y23, h⟩ := xbind h
      refine x_callV (t_hA_X5_readCountyLine  z23 y23 (d + 1)) kX5_119 dX5_readLine_23 rfl rfl rfl rfl rfl (Nat.le_of_ble_eq_true rfl) (Nat.le_of_ble_eq_true rfl) rfl rfl (Or.inl rfl) ?_
      obtain ⟨-, q26, h⟩ := xbo_of h
      cases h
      exact x_zret2 dX5_readLine_26 rfl q26 rfl
  · have h := xif_t q h
    refine x_aload_n dX5_readLine_12 rfl ?_
    refine x_iconst (1 : Int32) dX5_readLine_13 (by decide) ?_
    obtain ⟨z14, y14, h⟩ := xbind h
    refine x_callV (t_hA_X5_fail (1 : Int32) z14 y14 (d + 7)) kX5_75 dX5_readLine_14 rfl rfl rfl rfl rfl (Nat.le_of_ble_eq_true rfl) (Nat.le_of_ble_eq_true rfl) rfl rfl (Or.inl rfl) ?_
    obtain ⟨-, q17, h⟩ := xbo_of h
    cases h
    exact x_zret2 dX5_readLine_17 rfl q17 rfl
noncomputable def L_hA_X5_read_50 (p1 : Int32) (p2 : Int32) (p15 : (Nat → Int32))   (K : Int32 → Int32 → Int32 → Int64 → Int32 → Int32 → Int32 → Int32 → (Nat → Int32) → (Nat → Int32) → (Nat → Int32) → (Nat → Int32) → Int32 → (Nat → Int32) → (Nat → Int32) → (Nat → Int32) → (Nat → Int32) → Int32 → (Nat → Int64) → (Nat → Int32) → (Nat → Int32) → (Nat → Int32) → (Nat → Int32) → Int32 → (Nat → Int64) → (Nat → Int32) → Int32 → Int32 → Int32 → Int32 → Int32 → Option (Int32 × Int32 × Int32 × Int32 × Int32 × Int32 × Int32 × Int32 × Int32 × Int32 × Int32 × Int32 × Int32 × Int32 × Int64 × Int32 × Int32 × (Nat → Int32) × (Nat → Int32) × (Nat → Int32) × (Nat → Int32) × (Nat → Int32) × (Nat → Int32) × (Nat → Int32) × (Nat → Int32) × (Nat → Int64) × (Nat → Int32) × (Nat → Int32) × (Nat → Int32) × (Nat → Int32) × (Nat → Int64) × (Nat → Int32))) : Nat → Int32 → Int32 → Int32 → Int64 → Int32 → Int32 → Int32 → Int32 → (Nat → Int32) → (Nat → Int32) → (Nat → Int32) → (Nat → Int32) → Int32 → (Nat → Int32) → (Nat → Int32) → (Nat → Int32) → (Nat → Int32) → Int32 → (Nat → Int64) → (Nat → Int32) → (Nat → Int32) → (Nat → Int32) → (Nat → Int32) → Int32 → (Nat → Int64) → (Nat → Int32) → Int32 → Int32 → Int32 → Int32 → Int32 → Option (Int32 × Int32 × Int32 × Int32 × Int32 × Int32 × Int32 × Int32 × Int32 × Int32 × Int32 × Int32 × Int32 × Int32 × Int64 × Int32 × Int32 × (Nat → Int32) × (Nat → Int32) × (Nat → Int32) × (Nat → Int32) × (Nat → Int32) × (Nat → Int32) × (Nat → Int32) × (Nat → Int32) × (Nat → Int64) × (Nat → Int32) × (Nat → Int32) × (Nat → Int32) × (Nat → Int32) × (Nat → Int64) × (Nat → Int32))
  | 0, _, _, _, _, _, _, _, _, _, _, _, _, _, _, _, _, _, _, _, _, _, _, _, _, _, _, _, _, _, _, _ => none
  | n50 + 1, l2_50, l3_50, mg15_50, mw0_50, mg19_50, mg18_50, mg20_50, mg14_50, ma19_50, ma20_50, ma21_50, ma22_50, mg12_50, ma23_50, ma24_50, ma25_50, ma26_50, mg13_50, mb1_50, ma15_50, ma16_50, ma17_50, ma18_50, mg11_50, mb0_50, ma14_50, mg10_50, mg21_50, mg7_50, mg8_50, mg9_50 => if p2 ≤ l3_50 then K l2_50 l3_50 mg15_50 mw0_50 mg19_50 mg18_50 mg20_50 mg14_50 ma19_50 ma20_50 ma21_50 ma22_50 mg12_50 ma23_50 ma24_50 ma25_50 ma26_50 mg13_50 mb1_50 ma15_50 ma16_50 ma17_50 ma18_50 mg11_50 mb0_50 ma14_50 mg10_50 mg21_50 mg7_50 mg8_50 mg9_50 else if l2_50 = (0 : Int32) then K l2_50 l3_50 mg15_50 mw0_50 mg19_50 mg18_50 mg20_50 mg14_50 ma19_50 ma20_50 ma21_50 ma22_50 mg12_50 ma23_50 ma24_50 ma25_50 ma26_50 mg13_50 mb1_50 ma15_50 ma16_50 ma17_50 ma18_50 mg11_50 mb0_50 ma14_50 mg10_50 mg21_50 mg7_50 mg8_50 mg9_50 else if mg19_50 = (3 : Int32) then ((e_hA_X5_readToken mg18_50 p2 mg15_50 mw0_50 mg19_50 p15).bind fun z71 => (e_hA_X5_readLine z71.2.2.1 z71.2.1 mg21_50 mg12_50 z71.2.2.2 p2 z71.1 p15 mg11_50 mb1_50 mg20_50 mg14_50 ma22_50 ma19_50 ma20_50 ma21_50 mg10_50 mb0_50 mg13_50 ma23_50 ma24_50 ma25_50 ma26_50 ma15_50 ma16_50 ma17_50 ma18_50 ma14_50 mg7_50 mg8_50 mg9_50).bind fun z75 => L_hA_X5_read_50 p1 p2 p15  K n50 z75.1 (l3_50 + (1 : Int32)) z75.2.1 z75.2.2.1 z75.2.2.2.1 z75.2.2.2.2.1 z75.2.2.2.2.2.1 z75.2.2.2.2.2.2.1 z75.2.2.2.2.2.2.2.1 z75.2.2.2.2.2.2.2.2.1 z75.2.2.2.2.2.2.2.2.2.1 z75.2.2.2.2.2.2.2.2.2.2.1 z75.2.2.2.2.2.2.2.2.2.2.2.1 z75.2.2.2.2.2.2.2.2.2.2.2.2.1 z75.2.2.2.2.2.2.2.2.2.2.2.2.2.1 z75.2.2.2.2.2.2.2.2.2.2.2.2.2.2.1 z75.2.2.2.2.2.2.2.2.2.2.2.2.2.2.2.1 z75.2.2.2.2.2.2.2.2.2.2.2.2.2.2.2.2.1 z75.2.2.2.2.2.2.2.2.2.2.2.2.2.2.2.2.2.1 z75.2.2.2.2.2.2.2.2.2.2.2.2.2.2.2.2.2.2.1 z75.2.2.2.2.2.2.2.2.2.2.2.2.2.2.2.2.2.2.2.1 z75.2.2.2.2.2.2.2.2.2.2.2.2.2.2.2.2.2.2.2.2.1 z75.2.2.2.2.2.2.2.2.2.2.2.2.2.2.2.2.2.2.2.2.2.1 z75.2.2.2.2.2.2.2.2.2.2.2.2.2.2.2.2.2.2.2.2.2.2.1 z75.2.2.2.2.2.2.2.2.2.2.2.2.2.2.2.2.2.2.2.2.2.2.2.1 z75.2.2.2.2.2.2.2.2.2.2.2.2.2.2.2.2.2.2.2.2.2.2.2.2.1 z75.2.2.2.2.2.2.2.2.2.2.2.2.2.2.2.2.2.2.2.2.2.2.2.2.2.1 z75.2.2.2.2.2.2.2.2.2.2.2.2.2.2.2.2.2.2.2.2.2.2.2.2.2.2.1 z75.2.2.2.2.2.2.2.2.2.2.2.2.2.2.2.2.2.2.2.2.2.2.2.2.2.2.2.1 z75.2.2.2.2.2.2.2.2.2.2.2.2.2.2.2.2.2.2.2.2.2.2.2.2.2.2.2.2.1 z75.2.2.2.2.2.2.2.2.2.2.2.2.2.2.2.2.2.2.2.2.2.2.2.2.2.2.2.2.2) else K l2_50 l3_50 mg15_50 mw0_50 mg19_50 mg18_50 mg20_50 mg14_50 ma19_50 ma20_50 ma21_50 ma22_50 mg12_50 ma23_50 ma24_50 ma25_50 ma26_50 mg13_50 mb1_50 ma15_50 ma16_50 ma17_50 ma18_50 mg11_50 mb0_50 ma14_50 mg10_50 mg21_50 mg7_50 mg8_50 mg9_50
noncomputable def e_hA_X5_read (p0 : Int32) (p1 : Int32) (p2 : Int32) (p3 : Int32) (p4 : Int32) (p5 : Int32) (p6 : Int32) (p7 : Int32) (p8 : Int32) (p9 : Int32) (p10 : Int32) (p11 : Int32) (p12 : Int32) (p13 : Int64) (p14 : Int32) (p15 : (Nat → Int32)) (p16 : (Nat → Int64)) (p17 : Int32) (p18 : (Nat → Int32)) (p19 : (Nat → Int32)) (p20 : (Nat → Int32)) (p21 : (Nat → Int32)) (p22 : (Nat → Int64)) (p23 : (Nat → Int32)) (p24 : (Nat → Int32)) (p25 : (Nat → Int32)) (p26 : (Nat → Int32)) (p27 : (Nat → Int32)) (p28 : (Nat → Int32)) (p29 : (Nat → Int32)) (p30 : (Nat → Int32)) (p31 : (Nat → Int32)) (x1 : Int32) : Option (Int32 × Int32 × Int32 × Int32 × Int32 × Int32 × Int32 × Int32 × Int32 × Int32 × Int32 × Int32 × Int32 × Int32 × Int64 × Int32 × Int32 × (Nat → Int32) × (Nat → Int32) × (Nat → Int32) × (Nat → Int32) × (Nat → Int32) × (Nat → Int32) × (Nat → Int32) × (Nat → Int32) × (Nat → Int64) × (Nat → Int32) × (Nat → Int32) × (Nat → Int32) × (Nat → Int32) × (Nat → Int64) × (Nat → Int32)) :=
  ((e_hA_X1_clear p5 p6 p7 p8 p9 p10 p11).bind fun z36 => (e_hA_X5_readToken (0 : Int32) (if p1 < x1 then p1 else x1) p12 p13 p14 p15).bind fun z40 => (e_hA_X5_readLine z40.2.2.1 z40.2.1 (0 : Int32) z36.2.2.2.2.2.1 z40.2.2.2 (if p1 < x1 then p1 else x1) z40.1 p15 z36.2.2.2.2.1 p16 p17 (0 : Int32) p18 p19 p20 p21 z36.2.2.2.1 p22 z36.2.2.2.2.2.2 p23 p24 p25 p26 p27 p28 p29 p30 p31 z36.1 z36.2.1 z36.2.2.1).bind fun z44 => L_hA_X5_read_50 (0 : Int32) (if p1 < x1 then p1 else x1) p15  (fun l2_50 l3_50 mg15_50 mw0_50 mg19_50 mg18_50 mg20_50 mg14_50 ma19_50 ma20_50 ma21_50 ma22_50 mg12_50 ma23_50 ma24_50 ma25_50 ma26_50 mg13_50 mb1_50 ma15_50 ma16_50 ma17_50 ma18_50 mg11_50 mb0_50 ma14_50 mg10_50 mg21_50 mg7_50 mg8_50 mg9_50 => if l2_50 = (0 : Int32) then some ((0 : Int32), mg14_50, (if p1 < x1 then p1 else x1), (0 : Int32), mg18_50, mg21_50, mg7_50, mg8_50, mg9_50, mg10_50, mg11_50, mg12_50, mg13_50, mg15_50, mw0_50, mg19_50, mg20_50, ma19_50, ma20_50, ma21_50, ma22_50, ma23_50, ma24_50, ma25_50, ma26_50, mb1_50, ma15_50, ma16_50, ma17_50, ma18_50, mb0_50, ma14_50) else if mg19_50 = (0 : Int32) then if mg10_50 ≤ (0 : Int32) then ((e_hA_X5_fail mg14_50 (6 : Int32)).bind fun z127 => if z127.1 = (0 : Int32) then some ((0 : Int32), z127.2, (if p1 < x1 then p1 else x1), (0 : Int32), mg18_50, mg21_50, mg7_50, mg8_50, mg9_50, mg10_50, mg11_50, mg12_50, mg13_50, mg15_50, mw0_50, mg19_50, mg20_50, ma19_50, ma20_50, ma21_50, ma22_50, ma23_50, ma24_50, ma25_50, ma26_50, mb1_50, ma15_50, ma16_50, ma17_50, ma18_50, mb0_50, ma14_50) else some ((1 : Int32), z127.2, (if p1 < x1 then p1 else x1), (0 : Int32), mg18_50, mg21_50, mg7_50, mg8_50, mg9_50, mg10_50, mg11_50, mg12_50, mg13_50, mg15_50, mw0_50, mg19_50, mg20_50, ma19_50, ma20_50, ma21_50, ma22_50, ma23_50, ma24_50, ma25_50, ma26_50, mb1_50, ma15_50, ma16_50, ma17_50, ma18_50, mb0_50, ma14_50)) else if (0 : Int32) < mg11_50 then some ((1 : Int32), mg14_50, (if p1 < x1 then p1 else x1), (0 : Int32), mg18_50, mg21_50, mg7_50, mg8_50, mg9_50, mg10_50, mg11_50, mg12_50, mg13_50, mg15_50, mw0_50, mg19_50, mg20_50, ma19_50, ma20_50, ma21_50, ma22_50, ma23_50, ma24_50, ma25_50, ma26_50, mb1_50, ma15_50, ma16_50, ma17_50, ma18_50, mb0_50, ma14_50) else ((e_hA_X5_fail mg14_50 (6 : Int32)).bind fun z127 => if z127.1 = (0 : Int32) then some ((0 : Int32), z127.2, (if p1 < x1 then p1 else x1), (0 : Int32), mg18_50, mg21_50, mg7_50, mg8_50, mg9_50, mg10_50, mg11_50, mg12_50, mg13_50, mg15_50, mw0_50, mg19_50, mg20_50, ma19_50, ma20_50, ma21_50, ma22_50, ma23_50, ma24_50, ma25_50, ma26_50, mb1_50, ma15_50, ma16_50, ma17_50, ma18_50, mb0_50, ma14_50) else some ((1 : Int32), z127.2, (if p1 < x1 then p1 else x1), (0 : Int32), mg18_50, mg21_50, mg7_50, mg8_50, mg9_50, mg10_50, mg11_50, mg12_50, mg13_50, mg15_50, mw0_50, mg19_50, mg20_50, ma19_50, ma20_50, ma21_50, ma22_50, ma23_50, ma24_50, ma25_50, ma26_50, mb1_50, ma15_50, ma16_50, ma17_50, ma18_50, mb0_50, ma14_50)) else ((e_hA_X5_fail mg14_50 (1 : Int32)).bind fun z100 => xbo z100.1 (some (z100.1, z100.2, (if p1 < x1 then p1 else x1), (0 : Int32), mg18_50, mg21_50, mg7_50, mg8_50, mg9_50, mg10_50, mg11_50, mg12_50, mg13_50, mg15_50, mw0_50, mg19_50, mg20_50, ma19_50, ma20_50, ma21_50, ma22_50, ma23_50, ma24_50, ma25_50, ma26_50, mb1_50, ma15_50, ma16_50, ma17_50, ma18_50, mb0_50, ma14_50)))) 200000 z44.1 (0 : Int32) z44.2.1 z44.2.2.1 z44.2.2.2.1 z44.2.2.2.2.1 z44.2.2.2.2.2.1 z44.2.2.2.2.2.2.1 z44.2.2.2.2.2.2.2.1 z44.2.2.2.2.2.2.2.2.1 z44.2.2.2.2.2.2.2.2.2.1 z44.2.2.2.2.2.2.2.2.2.2.1 z44.2.2.2.2.2.2.2.2.2.2.2.1 z44.2.2.2.2.2.2.2.2.2.2.2.2.1 z44.2.2.2.2.2.2.2.2.2.2.2.2.2.1 z44.2.2.2.2.2.2.2.2.2.2.2.2.2.2.1 z44.2.2.2.2.2.2.2.2.2.2.2.2.2.2.2.1 z44.2.2.2.2.2.2.2.2.2.2.2.2.2.2.2.2.1 z44.2.2.2.2.2.2.2.2.2.2.2.2.2.2.2.2.2.1 z44.2.2.2.2.2.2.2.2.2.2.2.2.2.2.2.2.2.2.1 z44.2.2.2.2.2.2.2.2.2.2.2.2.2.2.2.2.2.2.2.1 z44.2.2.2.2.2.2.2.2.2.2.2.2.2.2.2.2.2.2.2.2.1 z44.2.2.2.2.2.2.2.2.2.2.2.2.2.2.2.2.2.2.2.2.2.1 z44.2.2.2.2.2.2.2.2.2.2.2.2.2.2.2.2.2.2.2.2.2.2.1 z44.2.2.2.2.2.2.2.2.2.2.2.2.2.2.2.2.2.2.2.2.2.2.2.1 z44.2.2.2.2.2.2.2.2.2.2.2.2.2.2.2.2.2.2.2.2.2.2.2.2.1 z44.2.2.2.2.2.2.2.2.2.2.2.2.2.2.2.2.2.2.2.2.2.2.2.2.2.1 z44.2.2.2.2.2.2.2.2.2.2.2.2.2.2.2.2.2.2.2.2.2.2.2.2.2.2.1 z44.2.2.2.2.2.2.2.2.2.2.2.2.2.2.2.2.2.2.2.2.2.2.2.2.2.2.2.1 z44.2.2.2.2.2.2.2.2.2.2.2.2.2.2.2.2.2.2.2.2.2.2.2.2.2.2.2.2.1 z44.2.2.2.2.2.2.2.2.2.2.2.2.2.2.2.2.2.2.2.2.2.2.2.2.2.2.2.2.2)
set_option maxRecDepth 100000 in
set_option maxHeartbeats 4000000 in
theorem lp_hA_X5_read_50 {g0 g1 g2 g3 g4 g5 g6 g16 g17 g22 g23 g24 g25 g26 g27 g28 g29 g30 g31 g32 g33 g34 g35 g36 : Int32} {a0 a1 a2 a3 a4 a5 a6 a7 a8 a9 a10 a11 a12 a13 a27 a28 a29 a30 a31 a32 a33 a34 a35 a36 a37 a38 a39 : (Nat → Int32)} {b2 b3 b4 : (Nat → Int64)} (d n0 : Nat)  (res : Int32 × Int32 × Int32 × Int32 × Int32 × Int32 × Int32 × Int32 × Int32 × Int32 × Int32 × Int32 × Int32 × Int32 × Int64 × Int32 × Int32 × (Nat → Int32) × (Nat → Int32) × (Nat → Int32) × (Nat → Int32) × (Nat → Int32) × (Nat → Int32) × (Nat → Int32) × (Nat → Int32) × (Nat → Int64) × (Nat → Int32) × (Nat → Int32) × (Nat → Int32) × (Nat → Int32) × (Nat → Int64) × (Nat → Int32)) (K : Int32 → Int32 → Int32 → Int64 → Int32 → Int32 → Int32 → Int32 → (Nat → Int32) → (Nat → Int32) → (Nat → Int32) → (Nat → Int32) → Int32 → (Nat → Int32) → (Nat → Int32) → (Nat → Int32) → (Nat → Int32) → Int32 → (Nat → Int64) → (Nat → Int32) → (Nat → Int32) → (Nat → Int32) → (Nat → Int32) → Int32 → (Nat → Int64) → (Nat → Int32) → Int32 → Int32 → Int32 → Int32 → Int32 → Option (Int32 × Int32 × Int32 × Int32 × Int32 × Int32 × Int32 × Int32 × Int32 × Int32 × Int32 × Int32 × Int32 × Int32 × Int64 × Int32 × Int32 × (Nat → Int32) × (Nat → Int32) × (Nat → Int32) × (Nat → Int32) × (Nat → Int32) × (Nat → Int32) × (Nat → Int32) × (Nat → Int32) × (Nat → Int64) × (Nat → Int32) × (Nat → Int32) × (Nat → Int32) × (Nat → Int32) × (Nat → Int64) × (Nat → Int32))) (hK : ∀ (l2_50 : Int32) (l3_50 : Int32) (mg15_50 : Int32) (mw0_50 : Int64) (mg19_50 : Int32) (mg18_50 : Int32) (mg20_50 : Int32) (mg14_50 : Int32) (ma19_50 : (Nat → Int32)) (ma20_50 : (Nat → Int32)) (ma21_50 : (Nat → Int32)) (ma22_50 : (Nat → Int32)) (mg12_50 : Int32) (ma23_50 : (Nat → Int32)) (ma24_50 : (Nat → Int32)) (ma25_50 : (Nat → Int32)) (ma26_50 : (Nat → Int32)) (mg13_50 : Int32) (mb1_50 : (Nat → Int64)) (ma15_50 : (Nat → Int32)) (ma16_50 : (Nat → Int32)) (ma17_50 : (Nat → Int32)) (ma18_50 : (Nat → Int32)) (mg11_50 : Int32) (mb0_50 : (Nat → Int64)) (ma14_50 : (Nat → Int32)) (mg10_50 : Int32) (mg21_50 : Int32) (mg7_50 : Int32) (mg8_50 : Int32) (mg9_50 : Int32), K l2_50 l3_50 mg15_50 mw0_50 mg19_50 mg18_50 mg20_50 mg14_50 ma19_50 ma20_50 ma21_50 ma22_50 mg12_50 ma23_50 ma24_50 ma25_50 ma26_50 mg13_50 mb1_50 ma15_50 ma16_50 ma17_50 ma18_50 mg11_50 mb0_50 ma14_50 mg10_50 mg21_50 mg7_50 mg8_50 mg9_50 = some res → xW xks YX5_read (d + 10) 0 0 n0 (xZ 0 0 n0 (some (.int res.1)) (hA g0 g1 g2 g3 g4 g5 g6 res.2.2.2.2.2.2.1 res.2.2.2.2.2.2.2.1 res.2.2.2.2.2.2.2.2.1 res.2.2.2.2.2.2.2.2.2.1 res.2.2.2.2.2.2.2.2.2.2.1 res.2.2.2.2.2.2.2.2.2.2.2.1 res.2.2.2.2.2.2.2.2.2.2.2.2.1 res.2.1 res.2.2.2.2.2.2.2.2.2.2.2.2.2.1 res.2.2.2.1 res.2.2.1 res.2.2.2.2.1 res.2.2.2.2.2.2.2.2.2.2.2.2.2.2.2.1 res.2.2.2.2.2.2.2.2.2.2.2.2.2.2.2.2.1 res.2.2.2.2.2.1 g22 g23 g24 g25 g26 g27 g28 g29 g30 g31 g32 g33 g34 g35 g36 a0 a1 a2 a3 a4 a5 a6 a7 a8 a9 a10 a11 a12 a13 res.2.2.2.2.2.2.2.2.2.2.2.2.2.2.2.2.2.2.2.2.2.2.2.2.2.2.2.2.2.2.2 res.2.2.2.2.2.2.2.2.2.2.2.2.2.2.2.2.2.2.2.2.2.2.2.2.2.2.1 res.2.2.2.2.2.2.2.2.2.2.2.2.2.2.2.2.2.2.2.2.2.2.2.2.2.2.2.1 res.2.2.2.2.2.2.2.2.2.2.2.2.2.2.2.2.2.2.2.2.2.2.2.2.2.2.2.2.1 res.2.2.2.2.2.2.2.2.2.2.2.2.2.2.2.2.2.2.2.2.2.2.2.2.2.2.2.2.2.1 res.2.2.2.2.2.2.2.2.2.2.2.2.2.2.2.2.2.1 res.2.2.2.2.2.2.2.2.2.2.2.2.2.2.2.2.2.2.1 res.2.2.2.2.2.2.2.2.2.2.2.2.2.2.2.2.2.2.2.1 res.2.2.2.2.2.2.2.2.2.2.2.2.2.2.2.2.2.2.2.2.1 res.2.2.2.2.2.2.2.2.2.2.2.2.2.2.2.2.2.2.2.2.2.1 res.2.2.2.2.2.2.2.2.2.2.2.2.2.2.2.2.2.2.2.2.2.2.1 res.2.2.2.2.2.2.2.2.2.2.2.2.2.2.2.2.2.2.2.2.2.2.2.1 res.2.2.2.2.2.2.2.2.2.2.2.2.2.2.2.2.2.2.2.2.2.2.2.2.1 a27 a28 a29 a30 a31 a32 a33 a34 a35 a36 a37 a38 a39 res.2.2.2.2.2.2.2.2.2.2.2.2.2.2.2.2.2.2.2.2.2.2.2.2.2.2.2.2.2.2.1 res.2.2.2.2.2.2.2.2.2.2.2.2.2.2.2.2.2.2.2.2.2.2.2.2.2.1 b2 b3 b4 res.2.2.2.2.2.2.2.2.2.2.2.2.2.2.1 (.ref 19) (.ref 1))) 0 0 85 [some (.ref 17), none, some (.int l2_50), none] [] (hA g0 g1 g2 g3 g4 g5 g6 mg7_50 mg8_50 mg9_50 mg10_50 mg11_50 mg12_50 mg13_50 mg14_50 mg15_50 g16 g17 mg18_50 mg19_50 mg20_50 mg21_50 g22 g23 g24 g25 g26 g27 g28 g29 g30 g31 g32 g33 g34 g35 g36 a0 a1 a2 a3 a4 a5 a6 a7 a8 a9 a10 a11 a12 a13 ma14_50 ma15_50 ma16_50 ma17_50 ma18_50 ma19_50 ma20_50 ma21_50 ma22_50 ma23_50 ma24_50 ma25_50 ma26_50 a27 a28 a29 a30 a31 a32 a33 a34 a35 a36 a37 a38 a39 mb0_50 mb1_50 b2 b3 b4 mw0_50 (.ref 19) (.ref 1))) : ∀ (n : Nat) (l2_50 : Int32) (l3_50 : Int32) (mg15_50 : Int32) (mw0_50 : Int64) (mg19_50 : Int32) (mg18_50 : Int32) (mg20_50 : Int32) (mg14_50 : Int32) (ma19_50 : (Nat → Int32)) (ma20_50 : (Nat → Int32)) (ma21_50 : (Nat → Int32)) (ma22_50 : (Nat → Int32)) (mg12_50 : Int32) (ma23_50 : (Nat → Int32)) (ma24_50 : (Nat → Int32)) (ma25_50 : (Nat → Int32)) (ma26_50 : (Nat → Int32)) (mg13_50 : Int32) (mb1_50 : (Nat → Int64)) (ma15_50 : (Nat → Int32)) (ma16_50 : (Nat → Int32)) (ma17_50 : (Nat → Int32)) (ma18_50 : (Nat → Int32)) (mg11_50 : Int32) (mb0_50 : (Nat → Int64)) (ma14_50 : (Nat → Int32)) (mg10_50 : Int32) (mg21_50 : Int32) (mg7_50 : Int32) (mg8_50 : Int32) (mg9_50 : Int32), L_hA_X5_read_50 g16 g17 a13  K n l2_50 l3_50 mg15_50 mw0_50 mg19_50 mg18_50 mg20_50 mg14_50 ma19_50 ma20_50 ma21_50 ma22_50 mg12_50 ma23_50 ma24_50 ma25_50 ma26_50 mg13_50 mb1_50 ma15_50 ma16_50 ma17_50 ma18_50 mg11_50 mb0_50 ma14_50 mg10_50 mg21_50 mg7_50 mg8_50 mg9_50 = some res → xW xks YX5_read (d + 10) 0 0 n0 (xZ 0 0 n0 (some (.int res.1)) (hA g0 g1 g2 g3 g4 g5 g6 res.2.2.2.2.2.2.1 res.2.2.2.2.2.2.2.1 res.2.2.2.2.2.2.2.2.1 res.2.2.2.2.2.2.2.2.2.1 res.2.2.2.2.2.2.2.2.2.2.1 res.2.2.2.2.2.2.2.2.2.2.2.1 res.2.2.2.2.2.2.2.2.2.2.2.2.1 res.2.1 res.2.2.2.2.2.2.2.2.2.2.2.2.2.1 res.2.2.2.1 res.2.2.1 res.2.2.2.2.1 res.2.2.2.2.2.2.2.2.2.2.2.2.2.2.2.1 res.2.2.2.2.2.2.2.2.2.2.2.2.2.2.2.2.1 res.2.2.2.2.2.1 g22 g23 g24 g25 g26 g27 g28 g29 g30 g31 g32 g33 g34 g35 g36 a0 a1 a2 a3 a4 a5 a6 a7 a8 a9 a10 a11 a12 a13 res.2.2.2.2.2.2.2.2.2.2.2.2.2.2.2.2.2.2.2.2.2.2.2.2.2.2.2.2.2.2.2 res.2.2.2.2.2.2.2.2.2.2.2.2.2.2.2.2.2.2.2.2.2.2.2.2.2.2.1 res.2.2.2.2.2.2.2.2.2.2.2.2.2.2.2.2.2.2.2.2.2.2.2.2.2.2.2.1 res.2.2.2.2.2.2.2.2.2.2.2.2.2.2.2.2.2.2.2.2.2.2.2.2.2.2.2.2.1 res.2.2.2.2.2.2.2.2.2.2.2.2.2.2.2.2.2.2.2.2.2.2.2.2.2.2.2.2.2.1 res.2.2.2.2.2.2.2.2.2.2.2.2.2.2.2.2.2.1 res.2.2.2.2.2.2.2.2.2.2.2.2.2.2.2.2.2.2.1 res.2.2.2.2.2.2.2.2.2.2.2.2.2.2.2.2.2.2.2.1 res.2.2.2.2.2.2.2.2.2.2.2.2.2.2.2.2.2.2.2.2.1 res.2.2.2.2.2.2.2.2.2.2.2.2.2.2.2.2.2.2.2.2.2.1 res.2.2.2.2.2.2.2.2.2.2.2.2.2.2.2.2.2.2.2.2.2.2.1 res.2.2.2.2.2.2.2.2.2.2.2.2.2.2.2.2.2.2.2.2.2.2.2.1 res.2.2.2.2.2.2.2.2.2.2.2.2.2.2.2.2.2.2.2.2.2.2.2.2.1 a27 a28 a29 a30 a31 a32 a33 a34 a35 a36 a37 a38 a39 res.2.2.2.2.2.2.2.2.2.2.2.2.2.2.2.2.2.2.2.2.2.2.2.2.2.2.2.2.2.2.1 res.2.2.2.2.2.2.2.2.2.2.2.2.2.2.2.2.2.2.2.2.2.2.2.2.2.1 b2 b3 b4 res.2.2.2.2.2.2.2.2.2.2.2.2.2.2.1 (.ref 19) (.ref 1))) 0 0 50 [some (.ref 17), none, some (.int l2_50), some (.int l3_50)] [] (hA g0 g1 g2 g3 g4 g5 g6 mg7_50 mg8_50 mg9_50 mg10_50 mg11_50 mg12_50 mg13_50 mg14_50 mg15_50 g16 g17 mg18_50 mg19_50 mg20_50 mg21_50 g22 g23 g24 g25 g26 g27 g28 g29 g30 g31 g32 g33 g34 g35 g36 a0 a1 a2 a3 a4 a5 a6 a7 a8 a9 a10 a11 a12 a13 ma14_50 ma15_50 ma16_50 ma17_50 ma18_50 ma19_50 ma20_50 ma21_50 ma22_50 ma23_50 ma24_50 ma25_50 ma26_50 a27 a28 a29 a30 a31 a32 a33 a34 a35 a36 a37 a38 a39 mb0_50 mb1_50 b2 b3 b4 mw0_50 (.ref 19) (.ref 1)) := by
  intro n
  induction n with
  | zero =>
    intro l2_50 l3_50 mg15_50 mw0_50 mg19_50 mg18_50 mg20_50 mg14_50 ma19_50 ma20_50 ma21_50 ma22_50 mg12_50 ma23_50 ma24_50 ma25_50 ma26_50 mg13_50 mb1_50 ma15_50 ma16_50 ma17_50 ma18_50 mg11_50 mb0_50 ma14_50 mg10_50 mg21_50 mg7_50 mg8_50 mg9_50 h
    cases (show (none : Option (Int32 × Int32 × Int32 × Int32 × Int32 × Int32 × Int32 × Int32 × Int32 × Int32 × Int32 × Int32 × Int32 × Int32 × Int64 × Int32 × Int32 × (Nat → Int32) × (Nat → Int32) × (Nat → Int32) × (Nat → Int32) × (Nat → Int32) × (Nat → Int32) × (Nat → Int32) × (Nat → Int32) × (Nat → Int64) × (Nat → Int32) × (Nat → Int32) × (Nat → Int32) × (Nat → Int32) × (Nat → Int64) × (Nat → Int32))) = some res from h)
  | succ n50 ih50 =>
    intro l2_50 l3_50 mg15_50 mw0_50 mg19_50 mg18_50 mg20_50 mg14_50 ma19_50 ma20_50 ma21_50 ma22_50 mg12_50 ma23_50 ma24_50 ma25_50 ma26_50 mg13_50 mb1_50 ma15_50 ma16_50 ma17_50 ma18_50 mg11_50 mb0_50 ma14_50 mg10_50 mg21_50 mg7_50 mg8_50 mg9_50 h
    unfold L_hA_X5_read_50 at h
    refine x_iload_n dX5_read_50 rfl ?_
    refine x_aload_n dX5_read_51 rfl ?_
    refine x_get fX5_25 dX5_read_52 rfl rfl rfl ?_
    refine x_icmp_ge 85 dX5_read_55 (by decide) (fun q => ?_) (fun q => ?_)
    · have h := xif_t q h
      refine x_weak (pl2 := [some (.ref 17), none, some (.int l2_50), none]) ⟨rfl, rfl, trivial⟩ ?_
      exact hK l2_50 l3_50 mg15_50 mw0_50 mg19_50 mg18_50 mg20_50 mg14_50 ma19_50 ma20_50 ma21_50 ma22_50 mg12_50 ma23_50 ma24_50 ma25_50 ma26_50 mg13_50 mb1_50 ma15_50 ma16_50 ma17_50 ma18_50 mg11_50 mb0_50 ma14_50 mg10_50 mg21_50 mg7_50 mg8_50 mg9_50 h
    · have h := xif_f q h
      refine x_iload_n dX5_read_58 rfl ?_
      refine x_if_eq 85 dX5_read_59 (by decide) (fun q => ?_) (fun q => ?_)
      · have h := xif_t q h
        refine x_weak (pl2 := [some (.ref 17), none, some (.int l2_50), none]) ⟨rfl, rfl, trivial⟩ ?_
        exact hK l2_50 l3_50 mg15_50 mw0_50 mg19_50 mg18_50 mg20_50 mg14_50 ma19_50 ma20_50 ma21_50 ma22_50 mg12_50 ma23_50 ma24_50 ma25_50 ma26_50 mg13_50 mb1_50 ma15_50 ma16_50 ma17_50 ma18_50 mg11_50 mb0_50 ma14_50 mg10_50 mg21_50 mg7_50 mg8_50 mg9_50 h
      · have h := xif_f q h
        refine x_aload_n dX5_read_62 rfl ?_
        refine x_get fX5_31 dX5_read_63 rfl rfl rfl ?_
        refine x_iconst (3 : Int32) dX5_read_66 (by decide) ?_
        refine x_icmp_ne 85 dX5_read_67 (by decide) (fun q => ?_) (fun q => ?_)
        · have h := xif_f q h
          refine x_weak (pl2 := [some (.ref 17), none, some (.int l2_50), none]) ⟨rfl, rfl, trivial⟩ ?_
          exact hK l2_50 l3_50 mg15_50 mw0_50 mg19_50 mg18_50 mg20_50 mg14_50 ma19_50 ma20_50 ma21_50 ma22_50 mg12_50 ma23_50 ma24_50 ma25_50 ma26_50 mg13_50 mb1_50 ma15_50 ma16_50 ma17_50 ma18_50 mg11_50 mb0_50 ma14_50 mg10_50 mg21_50 mg7_50 mg8_50 mg9_50 h
        · have h := xif_t q h
          refine x_aload_n dX5_read_70 rfl ?_
          obtain ⟨z71, y71, h⟩ := xbind h
          refine x_callV (t_hA_X5_readToken  z71 y71 (d + 6)) kX5_68 dX5_read_71 rfl rfl rfl rfl rfl (Nat.le_of_ble_eq_true rfl) (Nat.le_of_ble_eq_true rfl) rfl rfl (Or.inl rfl) ?_
          refine x_aload_n dX5_read_74 rfl ?_
          obtain ⟨z75, y75, h⟩ := xbind h
          refine x_callV (t_hA_X5_readLine  z75 y75 (d + 0)) kX5_71 dX5_read_75 rfl rfl rfl rfl rfl (Nat.le_of_ble_eq_true rfl) (Nat.le_of_ble_eq_true rfl) rfl rfl (Or.inl rfl) ?_
          refine x_istore_n (pl' := [some (.ref 17), none, some (.int z75.1), some (.int l3_50)]) dX5_read_78 (by decide) rfl ?_
          refine x_iincK (1 : Int32) (pl' := [some (.ref 17), none, some (.int z75.1), some (.int (l3_50 + (1 : Int32)))]) dX5_read_79 rfl (by decide) (by decide) rfl ?_
          refine x_goto 50 dX5_read_82 (by decide) ?_
          refine x_weak (pl2 := [some (.ref 17), none, some (.int z75.1), some (.int (l3_50 + (1 : Int32)))]) ⟨rfl, rfl, rfl, trivial⟩ ?_
          exact ih50 z75.1 (l3_50 + (1 : Int32)) z75.2.1 z75.2.2.1 z75.2.2.2.1 z75.2.2.2.2.1 z75.2.2.2.2.2.1 z75.2.2.2.2.2.2.1 z75.2.2.2.2.2.2.2.1 z75.2.2.2.2.2.2.2.2.1 z75.2.2.2.2.2.2.2.2.2.1 z75.2.2.2.2.2.2.2.2.2.2.1 z75.2.2.2.2.2.2.2.2.2.2.2.1 z75.2.2.2.2.2.2.2.2.2.2.2.2.1 z75.2.2.2.2.2.2.2.2.2.2.2.2.2.1 z75.2.2.2.2.2.2.2.2.2.2.2.2.2.2.1 z75.2.2.2.2.2.2.2.2.2.2.2.2.2.2.2.1 z75.2.2.2.2.2.2.2.2.2.2.2.2.2.2.2.2.1 z75.2.2.2.2.2.2.2.2.2.2.2.2.2.2.2.2.2.1 z75.2.2.2.2.2.2.2.2.2.2.2.2.2.2.2.2.2.2.1 z75.2.2.2.2.2.2.2.2.2.2.2.2.2.2.2.2.2.2.2.1 z75.2.2.2.2.2.2.2.2.2.2.2.2.2.2.2.2.2.2.2.2.1 z75.2.2.2.2.2.2.2.2.2.2.2.2.2.2.2.2.2.2.2.2.2.1 z75.2.2.2.2.2.2.2.2.2.2.2.2.2.2.2.2.2.2.2.2.2.2.1 z75.2.2.2.2.2.2.2.2.2.2.2.2.2.2.2.2.2.2.2.2.2.2.2.1 z75.2.2.2.2.2.2.2.2.2.2.2.2.2.2.2.2.2.2.2.2.2.2.2.2.1 z75.2.2.2.2.2.2.2.2.2.2.2.2.2.2.2.2.2.2.2.2.2.2.2.2.2.1 z75.2.2.2.2.2.2.2.2.2.2.2.2.2.2.2.2.2.2.2.2.2.2.2.2.2.2.1 z75.2.2.2.2.2.2.2.2.2.2.2.2.2.2.2.2.2.2.2.2.2.2.2.2.2.2.2.1 z75.2.2.2.2.2.2.2.2.2.2.2.2.2.2.2.2.2.2.2.2.2.2.2.2.2.2.2.2.1 z75.2.2.2.2.2.2.2.2.2.2.2.2.2.2.2.2.2.2.2.2.2.2.2.2.2.2.2.2.2 h
set_option maxRecDepth 100000 in
set_option maxHeartbeats 4000000 in
theorem t_hA_X5_read {g0 g1 g2 g3 g4 g5 g6 g7 g8 g9 g10 g11 g12 g13 g14 g15 g16 g17 g18 g19 g20 g21 g22 g23 g24 g25 g26 g27 g28 g29 g30 g31 g32 g33 g34 g35 g36 : Int32} {a0 a1 a2 a3 a4 a5 a6 a7 a8 a9 a10 a11 a12 a13 a14 a15 a16 a17 a18 a19 a20 a21 a22 a23 a24 a25 a26 a27 a28 a29 a30 a31 a32 a33 a34 a35 a36 a37 a38 a39 : (Nat → Int32)} {b0 b1 b2 b3 b4 : (Nat → Int64)} {w0 : Int64} (x1 : Int32) (res : Int32 × Int32 × Int32 × Int32 × Int32 × Int32 × Int32 × Int32 × Int32 × Int32 × Int32 × Int32 × Int32 × Int32 × Int64 × Int32 × Int32 × (Nat → Int32) × (Nat → Int32) × (Nat → Int32) × (Nat → Int32) × (Nat → Int32) × (Nat → Int32) × (Nat → Int32) × (Nat → Int32) × (Nat → Int64) × (Nat → Int32) × (Nat → Int32) × (Nat → Int32) × (Nat → Int32) × (Nat → Int64) × (Nat → Int32)) (h : e_hA_X5_read g14 g16 g17 g18 g21 g7 g8 g9 g10 g11 g12 g13 g15 w0 g19 a13 b1 g20 a22 a19 a20 a21 b0 a23 a24 a25 a26 a15 a16 a17 a18 a14 x1 = some res) (d : Nat) : xMet xks YX5_read (d + 10) 0 0 [.ref 17, .int x1] (hA g0 g1 g2 g3 g4 g5 g6 g7 g8 g9 g10 g11 g12 g13 g14 g15 g16 g17 g18 g19 g20 g21 g22 g23 g24 g25 g26 g27 g28 g29 g30 g31 g32 g33 g34 g35 g36 a0 a1 a2 a3 a4 a5 a6 a7 a8 a9 a10 a11 a12 a13 a14 a15 a16 a17 a18 a19 a20 a21 a22 a23 a24 a25 a26 a27 a28 a29 a30 a31 a32 a33 a34 a35 a36 a37 a38 a39 b0 b1 b2 b3 b4 w0 (.ref 19) (.ref 1)) (some (.int res.1)) (hA g0 g1 g2 g3 g4 g5 g6 res.2.2.2.2.2.2.1 res.2.2.2.2.2.2.2.1 res.2.2.2.2.2.2.2.2.1 res.2.2.2.2.2.2.2.2.2.1 res.2.2.2.2.2.2.2.2.2.2.1 res.2.2.2.2.2.2.2.2.2.2.2.1 res.2.2.2.2.2.2.2.2.2.2.2.2.1 res.2.1 res.2.2.2.2.2.2.2.2.2.2.2.2.2.1 res.2.2.2.1 res.2.2.1 res.2.2.2.2.1 res.2.2.2.2.2.2.2.2.2.2.2.2.2.2.2.1 res.2.2.2.2.2.2.2.2.2.2.2.2.2.2.2.2.1 res.2.2.2.2.2.1 g22 g23 g24 g25 g26 g27 g28 g29 g30 g31 g32 g33 g34 g35 g36 a0 a1 a2 a3 a4 a5 a6 a7 a8 a9 a10 a11 a12 a13 res.2.2.2.2.2.2.2.2.2.2.2.2.2.2.2.2.2.2.2.2.2.2.2.2.2.2.2.2.2.2.2 res.2.2.2.2.2.2.2.2.2.2.2.2.2.2.2.2.2.2.2.2.2.2.2.2.2.2.1 res.2.2.2.2.2.2.2.2.2.2.2.2.2.2.2.2.2.2.2.2.2.2.2.2.2.2.2.1 res.2.2.2.2.2.2.2.2.2.2.2.2.2.2.2.2.2.2.2.2.2.2.2.2.2.2.2.2.1 res.2.2.2.2.2.2.2.2.2.2.2.2.2.2.2.2.2.2.2.2.2.2.2.2.2.2.2.2.2.1 res.2.2.2.2.2.2.2.2.2.2.2.2.2.2.2.2.2.1 res.2.2.2.2.2.2.2.2.2.2.2.2.2.2.2.2.2.2.1 res.2.2.2.2.2.2.2.2.2.2.2.2.2.2.2.2.2.2.2.1 res.2.2.2.2.2.2.2.2.2.2.2.2.2.2.2.2.2.2.2.2.1 res.2.2.2.2.2.2.2.2.2.2.2.2.2.2.2.2.2.2.2.2.2.1 res.2.2.2.2.2.2.2.2.2.2.2.2.2.2.2.2.2.2.2.2.2.2.1 res.2.2.2.2.2.2.2.2.2.2.2.2.2.2.2.2.2.2.2.2.2.2.2.1 res.2.2.2.2.2.2.2.2.2.2.2.2.2.2.2.2.2.2.2.2.2.2.2.2.1 a27 a28 a29 a30 a31 a32 a33 a34 a35 a36 a37 a38 a39 res.2.2.2.2.2.2.2.2.2.2.2.2.2.2.2.2.2.2.2.2.2.2.2.2.2.2.2.2.2.2.1 res.2.2.2.2.2.2.2.2.2.2.2.2.2.2.2.2.2.2.2.2.2.2.2.2.2.1 b2 b3 b4 res.2.2.2.2.2.2.2.2.2.2.2.2.2.2.1 (.ref 19) (.ref 1)) := by
  unfold e_hA_X5_read at h
  refine xMet_of (pl := [some (.ref 17), some (.int x1), none, none]) (by decide) (Nat.le_of_ble_eq_true rfl) rfl (Nat.le_of_ble_eq_true rfl) ?_
  refine x_aload_n dX5_read_0 rfl ?_
  refine x_iconst (0 : Int32) dX5_read_1 (by decide) ?_
  refine x_put (h2 := (hA g0 g1 g2 g3 g4 g5 g6 g7 g8 g9 g10 g11 g12 g13 (0 : Int32) g15 g16 g17 g18 g19 g20 g21 g22 g23 g24 g25 g26 g27 g28 g29 g30 g31 g32 g33 g34 g35 g36 a0 a1 a2 a3 a4 a5 a6 a7 a8 a9 a10 a11 a12 a13 a14 a15 a16 a17 a18 a19 a20 a21 a22 a23 a24 a25 a26 a27 a28 a29 a30 a31 a32 a33 a34 a35 a36 a37 a38 a39 b0 b1 b2 b3 b4 w0 (.ref 19) (.ref 1))) fX5_9 dX5_read_2 rfl rfl (Nat.le_of_ble_eq_true rfl : 0 + 1 ≤ _) (fun α => ⟨rfl, rfl⟩) rfl ?_
  refine x_aload_n dX5_read_5 rfl ?_
  refine x_iload_n dX5_read_6 rfl ?_
  refine x_aload_n dX5_read_7 rfl ?_
  refine x_get fX5_18 dX5_read_8 rfl rfl rfl ?_
  refine x_min dX5_read_11 kX5_59 kM_mins kM_i kM_minc (by omega) (Nat.le_of_ble_eq_true rfl) ?_
  refine x_put (h2 := (hA g0 g1 g2 g3 g4 g5 g6 g7 g8 g9 g10 g11 g12 g13 (0 : Int32) g15 g16 (if g16 < x1 then g16 else x1) g18 g19 g20 g21 g22 g23 g24 g25 g26 g27 g28 g29 g30 g31 g32 g33 g34 g35 g36 a0 a1 a2 a3 a4 a5 a6 a7 a8 a9 a10 a11 a12 a13 a14 a15 a16 a17 a18 a19 a20 a21 a22 a23 a24 a25 a26 a27 a28 a29 a30 a31 a32 a33 a34 a35 a36 a37 a38 a39 b0 b1 b2 b3 b4 w0 (.ref 19) (.ref 1))) fX5_25 dX5_read_14 rfl rfl (Nat.le_of_ble_eq_true rfl : 4 + 1 ≤ _) (fun α => ⟨rfl, rfl⟩) rfl ?_
  refine x_aload_n dX5_read_17 rfl ?_
  refine x_iconst (0 : Int32) dX5_read_18 (by decide) ?_
  refine x_put (h2 := (hA g0 g1 g2 g3 g4 g5 g6 g7 g8 g9 g10 g11 g12 g13 (0 : Int32) g15 (0 : Int32) (if g16 < x1 then g16 else x1) g18 g19 g20 g21 g22 g23 g24 g25 g26 g27 g28 g29 g30 g31 g32 g33 g34 g35 g36 a0 a1 a2 a3 a4 a5 a6 a7 a8 a9 a10 a11 a12 a13 a14 a15 a16 a17 a18 a19 a20 a21 a22 a23 a24 a25 a26 a27 a28 a29 a30 a31 a32 a33 a34 a35 a36 a37 a38 a39 b0 b1 b2 b3 b4 w0 (.ref 19) (.ref 1))) fX5_18 dX5_read_19 rfl rfl (Nat.le_of_ble_eq_true rfl : 2 + 1 ≤ _) (fun α => ⟨rfl, rfl⟩) rfl ?_
  refine x_aload_n dX5_read_22 rfl ?_
  refine x_iconst (0 : Int32) dX5_read_23 (by decide) ?_
  refine x_put (h2 := (hA g0 g1 g2 g3 g4 g5 g6 g7 g8 g9 g10 g11 g12 g13 (0 : Int32) g15 (0 : Int32) (if g16 < x1 then g16 else x1) (0 : Int32) g19 g20 g21 g22 g23 g24 g25 g26 g27 g28 g29 g30 g31 g32 g33 g34 g35 g36 a0 a1 a2 a3 a4 a5 a6 a7 a8 a9 a10 a11 a12 a13 a14 a15 a16 a17 a18 a19 a20 a21 a22 a23 a24 a25 a26 a27 a28 a29 a30 a31 a32 a33 a34 a35 a36 a37 a38 a39 b0 b1 b2 b3 b4 w0 (.ref 19) (.ref 1))) fX5_28 dX5_read_24 rfl rfl (Nat.le_of_ble_eq_true rfl : 5 + 1 ≤ _) (fun α => ⟨rfl, rfl⟩) rfl ?_
  refine x_aload_n dX5_read_27 rfl ?_
  refine x_iconst (0 : Int32) dX5_read_28 (by decide) ?_
  refine x_put (h2 := (hA g0 g1 g2 g3 g4 g5 g6 g7 g8 g9 g10 g11 g12 g13 (0 : Int32) g15 (0 : Int32) (if g16 < x1 then g16 else x1) (0 : Int32) g19 g20 (0 : Int32) g22 g23 g24 g25 g26 g27 g28 g29 g30 g31 g32 g33 g34 g35 g36 a0 a1 a2 a3 a4 a5 a6 a7 a8 a9 a10 a11 a12 a13 a14 a15 a16 a17 a18 a19 a20 a21 a22 a23 a24 a25 a26 a27 a28 a29 a30 a31 a32 a33 a34 a35 a36 a37 a38 a39 b0 b1 b2 b3 b4 w0 (.ref 19) (.ref 1))) fX5_41 dX5_read_29 rfl rfl (Nat.le_of_ble_eq_true rfl : 9 + 1 ≤ _) (fun α => ⟨rfl, rfl⟩) rfl ?_
  refine x_aload_n dX5_read_32 rfl ?_
  refine x_get fX5_48 dX5_read_33 rfl rfl rfl ?_
  obtain ⟨z36, y36, h⟩ := xbind h
  refine x_callV (t_hA_X1_clear  z36 y36 (d + 8)) kX5_65 dX5_read_36 rfl rfl rfl rfl rfl (Nat.le_of_ble_eq_true rfl) (Nat.le_of_ble_eq_true rfl) rfl rfl (Or.inl rfl) ?_
  refine x_aload_n dX5_read_39 rfl ?_
  obtain ⟨z40, y40, h⟩ := xbind h
  refine x_callV (t_hA_X5_readToken  z40 y40 (d + 6)) kX5_68 dX5_read_40 rfl rfl rfl rfl rfl (Nat.le_of_ble_eq_true rfl) (Nat.le_of_ble_eq_true rfl) rfl rfl (Or.inl rfl) ?_
  refine x_aload_n dX5_read_43 rfl ?_
  obtain ⟨z44, y44, h⟩ := xbind h
  refine x_callV (t_hA_X5_readLine  z44 y44 (d + 0)) kX5_71 dX5_read_44 rfl rfl rfl rfl rfl (Nat.le_of_ble_eq_true rfl) (Nat.le_of_ble_eq_true rfl) rfl rfl (Or.inl rfl) ?_
  refine x_istore_n (pl' := [some (.ref 17), some (.int x1), some (.int z44.1), none]) dX5_read_47 (by decide) rfl ?_
  refine x_iconst (0 : Int32) dX5_read_48 (by decide) ?_
  refine x_istore_n (pl' := [some (.ref 17), some (.int x1), some (.int z44.1), some (.int (0 : Int32))]) dX5_read_49 (by decide) rfl ?_
  refine x_weak (pl2 := [some (.ref 17), none, some (.int z44.1), some (.int (0 : Int32))]) ⟨rfl, rfl, rfl, trivial⟩ ?_
  refine lp_hA_X5_read_50 d _  res _ (fun l2_50 l3_50 mg15_50 mw0_50 mg19_50 mg18_50 mg20_50 mg14_50 ma19_50 ma20_50 ma21_50 ma22_50 mg12_50 ma23_50 ma24_50 ma25_50 ma26_50 mg13_50 mb1_50 ma15_50 ma16_50 ma17_50 ma18_50 mg11_50 mb0_50 ma14_50 mg10_50 mg21_50 mg7_50 mg8_50 mg9_50 h => ?_) 200000 z44.1 (0 : Int32) z44.2.1 z44.2.2.1 z44.2.2.2.1 z44.2.2.2.2.1 z44.2.2.2.2.2.1 z44.2.2.2.2.2.2.1 z44.2.2.2.2.2.2.2.1 z44.2.2.2.2.2.2.2.2.1 z44.2.2.2.2.2.2.2.2.2.1 z44.2.2.2.2.2.2.2.2.2.2.1 z44.2.2.2.2.2.2.2.2.2.2.2.1 z44.2.2.2.2.2.2.2.2.2.2.2.2.1 z44.2.2.2.2.2.2.2.2.2.2.2.2.2.1 z44.2.2.2.2.2.2.2.2.2.2.2.2.2.2.1 z44.2.2.2.2.2.2.2.2.2.2.2.2.2.2.2.1 z44.2.2.2.2.2.2.2.2.2.2.2.2.2.2.2.2.1 z44.2.2.2.2.2.2.2.2.2.2.2.2.2.2.2.2.2.1 z44.2.2.2.2.2.2.2.2.2.2.2.2.2.2.2.2.2.2.1 z44.2.2.2.2.2.2.2.2.2.2.2.2.2.2.2.2.2.2.2.1 z44.2.2.2.2.2.2.2.2.2.2.2.2.2.2.2.2.2.2.2.2.1 z44.2.2.2.2.2.2.2.2.2.2.2.2.2.2.2.2.2.2.2.2.2.1 z44.2.2.2.2.2.2.2.2.2.2.2.2.2.2.2.2.2.2.2.2.2.2.1 z44.2.2.2.2.2.2.2.2.2.2.2.2.2.2.2.2.2.2.2.2.2.2.2.1 z44.2.2.2.2.2.2.2.2.2.2.2.2.2.2.2.2.2.2.2.2.2.2.2.2.1 z44.2.2.2.2.2.2.2.2.2.2.2.2.2.2.2.2.2.2.2.2.2.2.2.2.2.1 z44.2.2.2.2.2.2.2.2.2.2.2.2.2.2.2.2.2.2.2.2.2.2.2.2.2.2.1 z44.2.2.2.2.2.2.2.2.2.2.2.2.2.2.2.2.2.2.2.2.2.2.2.2.2.2.2.1 z44.2.2.2.2.2.2.2.2.2.2.2.2.2.2.2.2.2.2.2.2.2.2.2.2.2.2.2.2.1 z44.2.2.2.2.2.2.2.2.2.2.2.2.2.2.2.2.2.2.2.2.2.2.2.2.2.2.2.2.2 h
  refine x_iload_n dX5_read_85 rfl ?_
  refine x_if_ne 91 dX5_read_86 (by decide) (fun q => ?_) (fun q => ?_)
  · have h := xif_f q h
    refine x_aload_n dX5_read_91 rfl ?_
    refine x_get fX5_31 dX5_read_92 rfl rfl rfl ?_
    refine x_if_eq 104 dX5_read_95 (by decide) (fun q => ?_) (fun q => ?_)
    · have h := xif_t q h
      refine x_aload_n dX5_read_104 rfl ?_
      refine x_get fX5_48 dX5_read_105 rfl rfl rfl ?_
      refine x_get fX5_79 dX5_read_108 rfl rfl rfl ?_
      refine x_if_le 124 dX5_read_111 (by decide) (fun q => ?_) (fun q => ?_)
      · have h := xif_t q h
        refine x_aload_n dX5_read_124 rfl ?_
        refine x_bipush (6 : Int32) dX5_read_125 (by decide) ?_
        obtain ⟨z127, y127, h⟩ := xbind h
        refine x_callV (t_hA_X5_fail (6 : Int32) z127 y127 (d + 8)) kX5_75 dX5_read_127 rfl rfl rfl rfl rfl (Nat.le_of_ble_eq_true rfl) (Nat.le_of_ble_eq_true rfl) rfl rfl (Or.inl rfl) ?_
        refine x_if_eq 137 dX5_read_130 (by decide) (fun q => ?_) (fun q => ?_)
        · have h := xif_t q h
          refine x_iconst (0 : Int32) dX5_read_137 (by decide) ?_
          cases h
          exact x_zret2 dX5_read_138 rfl rfl rfl
        · have h := xif_f q h
          refine x_iconst (1 : Int32) dX5_read_133 (by decide) ?_
          refine x_goto 138 dX5_read_134 (by decide) ?_
          cases h
          exact x_zret2 dX5_read_138 rfl rfl rfl
      · have h := xif_f q h
        refine x_aload_n dX5_read_114 rfl ?_
        refine x_get fX5_48 dX5_read_115 rfl rfl rfl ?_
        refine x_get fX5_82 dX5_read_118 rfl rfl rfl ?_
        refine x_if_gt 133 dX5_read_121 (by decide) (fun q => ?_) (fun q => ?_)
        · have h := xif_t q h
          refine x_iconst (1 : Int32) dX5_read_133 (by decide) ?_
          refine x_goto 138 dX5_read_134 (by decide) ?_
          cases h
          exact x_zret2 dX5_read_138 rfl rfl rfl
        · have h := xif_f q h
          refine x_aload_n dX5_read_124 rfl ?_
          refine x_bipush (6 : Int32) dX5_read_125 (by decide) ?_
          obtain ⟨z127, y127, h⟩ := xbind h
          refine x_callV (t_hA_X5_fail (6 : Int32) z127 y127 (d + 8)) kX5_75 dX5_read_127 rfl rfl rfl rfl rfl (Nat.le_of_ble_eq_true rfl) (Nat.le_of_ble_eq_true rfl) rfl rfl (Or.inl rfl) ?_
          refine x_if_eq 137 dX5_read_130 (by decide) (fun q => ?_) (fun q => ?_)
          · have h := xif_t q h
            refine x_iconst (0 : Int32) dX5_read_137 (by decide) ?_
            cases h
            exact x_zret2 dX5_read_138 rfl rfl rfl
          · have h := xif_f q h
            refine x_iconst (1 : Int32) dX5_read_133 (by decide) ?_
            refine x_goto 138 dX5_read_134 (by decide) ?_
            cases h
            exact x_zret2 dX5_read_138 rfl rfl rfl
    · have h := xif_f q h
      refine x_aload_n dX5_read_98 rfl ?_
      refine x_iconst (1 : Int32) dX5_read_99 (by decide) ?_
      obtain ⟨z100, y100, h⟩ := xbind h
      refine x_callV (t_hA_X5_fail (1 : Int32) z100 y100 (d + 8)) kX5_75 dX5_read_100 rfl rfl rfl rfl rfl (Nat.le_of_ble_eq_true rfl) (Nat.le_of_ble_eq_true rfl) rfl rfl (Or.inl rfl) ?_
      obtain ⟨-, q103, h⟩ := xbo_of h
      cases h
      exact x_zret2 dX5_read_103 rfl q103 rfl
  · have h := xif_t q h
    refine x_iconst (0 : Int32) dX5_read_89 (by decide) ?_
    cases h
    exact x_zret2 dX5_read_90 rfl rfl rfl
noncomputable def e_hA_X5_exchangeFor   : Option (Unit) :=
  some ()
set_option maxRecDepth 100000 in
set_option maxHeartbeats 4000000 in
theorem t_hA_X5_exchangeFor {g0 g1 g2 g3 g4 g5 g6 g7 g8 g9 g10 g11 g12 g13 g14 g15 g16 g17 g18 g19 g20 g21 g22 g23 g24 g25 g26 g27 g28 g29 g30 g31 g32 g33 g34 g35 g36 : Int32} {a0 a1 a2 a3 a4 a5 a6 a7 a8 a9 a10 a11 a12 a13 a14 a15 a16 a17 a18 a19 a20 a21 a22 a23 a24 a25 a26 a27 a28 a29 a30 a31 a32 a33 a34 a35 a36 a37 a38 a39 : (Nat → Int32)} {b0 b1 b2 b3 b4 : (Nat → Int64)} {w0 : Int64}  (res : Unit) (h : e_hA_X5_exchangeFor   = some res) (d : Nat) : xMet xks YX5_exchangeFor (d + 1) 0 0 [.ref 17, .ref 1] (hA g0 g1 g2 g3 g4 g5 g6 g7 g8 g9 g10 g11 g12 g13 g14 g15 g16 g17 g18 g19 g20 g21 g22 g23 g24 g25 g26 g27 g28 g29 g30 g31 g32 g33 g34 g35 g36 a0 a1 a2 a3 a4 a5 a6 a7 a8 a9 a10 a11 a12 a13 a14 a15 a16 a17 a18 a19 a20 a21 a22 a23 a24 a25 a26 a27 a28 a29 a30 a31 a32 a33 a34 a35 a36 a37 a38 a39 b0 b1 b2 b3 b4 w0 (.ref 19) (.ref 1)) (some (.ref 19)) (hA g0 g1 g2 g3 g4 g5 g6 g7 g8 g9 g10 g11 g12 g13 g14 g15 g16 g17 g18 g19 g20 g21 g22 g23 g24 g25 g26 g27 g28 g29 g30 g31 g32 g33 g34 g35 g36 a0 a1 a2 a3 a4 a5 a6 a7 a8 a9 a10 a11 a12 a13 a14 a15 a16 a17 a18 a19 a20 a21 a22 a23 a24 a25 a26 a27 a28 a29 a30 a31 a32 a33 a34 a35 a36 a37 a38 a39 b0 b1 b2 b3 b4 w0 (.ref 1) (.ref 1)) := by
  unfold e_hA_X5_exchangeFor at h
  refine xMet_of (pl := [some (.ref 17), some (.ref 1), none]) (by decide) (Nat.le_of_ble_eq_true rfl) rfl (Nat.le_of_ble_eq_true rfl) ?_
  refine x_aload_n dX5_exchangeFor_0 rfl ?_
  refine x_get fX5_48 dX5_exchangeFor_1 rfl rfl rfl ?_
  refine x_astore_n (pl' := [some (.ref 17), some (.ref 1), some (.ref 19)]) dX5_exchangeFor_4 (by decide) rfl ?_
  refine x_aload_n dX5_exchangeFor_5 rfl ?_
  refine x_aload_n dX5_exchangeFor_6 rfl ?_
  refine x_put (h2 := (hA g0 g1 g2 g3 g4 g5 g6 g7 g8 g9 g10 g11 g12 g13 g14 g15 g16 g17 g18 g19 g20 g21 g22 g23 g24 g25 g26 g27 g28 g29 g30 g31 g32 g33 g34 g35 g36 a0 a1 a2 a3 a4 a5 a6 a7 a8 a9 a10 a11 a12 a13 a14 a15 a16 a17 a18 a19 a20 a21 a22 a23 a24 a25 a26 a27 a28 a29 a30 a31 a32 a33 a34 a35 a36 a37 a38 a39 b0 b1 b2 b3 b4 w0 (.ref 1) (.ref 1))) fX5_48 dX5_exchangeFor_7 rfl rfl (Nat.le_of_ble_eq_true rfl : 10 + 1 ≤ _) (fun α => ⟨rfl, rfl⟩) rfl ?_
  refine x_aload_n dX5_exchangeFor_10 rfl ?_
  cases h
  exact x_aret2 dX5_exchangeFor_11 rfl rfl
noncomputable def e_hA_X3_takeTitle (p0 : (Nat → Int32)) (p1 : (Nat → Int32)) (p2 : (Nat → Int32)) (x2 : Int32) : Option ((Nat → Int32)) :=
  (xix x2 5 (if (p0 x2.toNatClampNeg) < (0 : Int32) then some p2 else (xix (p0 x2.toNatClampNeg) 6 (if (p1 (p0 x2.toNatClampNeg).toNatClampNeg) = (1 : Int32) then some p2 else (xix x2 5 (some (upd p2 x2.toNatClampNeg (p0 x2.toNatClampNeg))))))))
set_option maxRecDepth 100000 in
set_option maxHeartbeats 4000000 in
theorem t_hA_X3_takeTitle {g0 g1 g2 g3 g4 g5 g6 g7 g8 g9 g10 g11 g12 g13 g14 g15 g16 g17 g18 g19 g20 g21 g22 g23 g24 g25 g26 g27 g28 g29 g30 g31 g32 g33 g34 g35 g36 : Int32} {a0 a1 a2 a3 a4 a5 a6 a7 a8 a9 a10 a11 a12 a13 a14 a15 a16 a17 a18 a19 a20 a21 a22 a23 a24 a25 a26 a27 a28 a29 a30 a31 a32 a33 a34 a35 a36 a37 a38 a39 : (Nat → Int32)} {b0 b1 b2 b3 b4 : (Nat → Int64)} {w0 : Int64} (x2 : Int32) (res : (Nat → Int32)) (h : e_hA_X3_takeTitle a27 a14 a28 x2 = some res) (d : Nat) : xMet xks YX3_takeTitle (d + 1) 0 0 [.ref 37, .ref 19, .int x2] (hA g0 g1 g2 g3 g4 g5 g6 g7 g8 g9 g10 g11 g12 g13 g14 g15 g16 g17 g18 g19 g20 g21 g22 g23 g24 g25 g26 g27 g28 g29 g30 g31 g32 g33 g34 g35 g36 a0 a1 a2 a3 a4 a5 a6 a7 a8 a9 a10 a11 a12 a13 a14 a15 a16 a17 a18 a19 a20 a21 a22 a23 a24 a25 a26 a27 a28 a29 a30 a31 a32 a33 a34 a35 a36 a37 a38 a39 b0 b1 b2 b3 b4 w0 (.ref 1) (.ref 19)) none (hA g0 g1 g2 g3 g4 g5 g6 g7 g8 g9 g10 g11 g12 g13 g14 g15 g16 g17 g18 g19 g20 g21 g22 g23 g24 g25 g26 g27 g28 g29 g30 g31 g32 g33 g34 g35 g36 a0 a1 a2 a3 a4 a5 a6 a7 a8 a9 a10 a11 a12 a13 a14 a15 a16 a17 a18 a19 a20 a21 a22 a23 a24 a25 a26 a27 res a29 a30 a31 a32 a33 a34 a35 a36 a37 a38 a39 b0 b1 b2 b3 b4 w0 (.ref 1) (.ref 19)) := by
  unfold e_hA_X3_takeTitle at h
  refine xMet_of (pl := [some (.ref 37), some (.ref 19), some (.int x2), none]) (by decide) (Nat.le_of_ble_eq_true rfl) rfl (Nat.le_of_ble_eq_true rfl) ?_
  refine x_aload_n dX3_takeTitle_0 rfl ?_
  refine x_get fX3_9 dX3_takeTitle_1 rfl rfl rfl ?_
  refine x_iload_n dX3_takeTitle_4 rfl ?_
  obtain ⟨q5, h⟩ := xix_of h
  refine x_iald dX3_takeTitle_5 rfl q5 ?_
  refine x_istore_n (pl' := [some (.ref 37), some (.ref 19), some (.int x2), some (.int (a27 x2.toNatClampNeg))]) dX3_takeTitle_6 (by decide) rfl ?_
  refine x_iload_n dX3_takeTitle_7 rfl ?_
  refine x_if_lt 28 dX3_takeTitle_8 (by decide) (fun q => ?_) (fun q => ?_)
  · have h := xif_t q h
    cases h
    exact x_vret2 dX3_takeTitle_28 rfl rfl
  · have h := xif_f q h
    refine x_aload_n dX3_takeTitle_11 rfl ?_
    refine x_get fX3_58 dX3_takeTitle_12 rfl rfl rfl ?_
    refine x_iload_n dX3_takeTitle_15 rfl ?_
    obtain ⟨q16, h⟩ := xix_of h
    refine x_iald dX3_takeTitle_16 rfl q16 ?_
    refine x_iconst (1 : Int32) dX3_takeTitle_17 (by decide) ?_
    refine x_icmp_eq 28 dX3_takeTitle_18 (by decide) (fun q => ?_) (fun q => ?_)
    · have h := xif_t q h
      cases h
      exact x_vret2 dX3_takeTitle_28 rfl rfl
    · have h := xif_f q h
      refine x_aload_n dX3_takeTitle_21 rfl ?_
      refine x_get fX3_15 dX3_takeTitle_22 rfl rfl rfl ?_
      refine x_iload_n dX3_takeTitle_25 rfl ?_
      refine x_iload_n dX3_takeTitle_26 rfl ?_
      obtain ⟨q27, h⟩ := xix_of h
      refine x_iast (h2 := (hA g0 g1 g2 g3 g4 g5 g6 g7 g8 g9 g10 g11 g12 g13 g14 g15 g16 g17 g18 g19 g20 g21 g22 g23 g24 g25 g26 g27 g28 g29 g30 g31 g32 g33 g34 g35 g36 a0 a1 a2 a3 a4 a5 a6 a7 a8 a9 a10 a11 a12 a13 a14 a15 a16 a17 a18 a19 a20 a21 a22 a23 a24 a25 a26 a27 (upd a28 x2.toNatClampNeg (a27 x2.toNatClampNeg)) a29 a30 a31 a32 a33 a34 a35 a36 a37 a38 a39 b0 b1 b2 b3 b4 w0 (.ref 1) (.ref 19))) dX3_takeTitle_27 rfl q27 rfl ?_
      cases h
      exact x_vret2 dX3_takeTitle_28 rfl rfl
noncomputable def L_hA_X3_begin_7 (p0 : Int32) (p1 : Int32) (p4 : (Nat → Int32)) (p5 : (Nat → Int32)) (p6 : (Nat → Int32))   (K : Int32 → (Nat → Int32) → (Nat → Int32) → Option (Int32 × (Nat → Int32) × (Nat → Int32))) : Nat → Int32 → (Nat → Int32) → (Nat → Int32) → Option (Int32 × (Nat → Int32) × (Nat → Int32))
  | 0, _, _, _ => none
  | n7 + 1, l2_7, ma27_7, ma28_7 => if (5 : Int32) ≤ l2_7 then K l2_7 ma27_7 ma28_7 else if p1 ≤ l2_7 then (xix l2_7 5 (xix l2_7 5 (if p1 ≤ l2_7 then L_hA_X3_begin_7 p0 p1 p4 p5 p6  K n7 (l2_7 + (1 : Int32)) (upd ma27_7 l2_7.toNatClampNeg (-2 : Int32)) (upd ma28_7 l2_7.toNatClampNeg (-2 : Int32)) else (xix l2_7 5 (if (p4 l2_7.toNatClampNeg) = (2 : Int32) then L_hA_X3_begin_7 p0 p1 p4 p5 p6  K n7 (l2_7 + (1 : Int32)) (upd ma27_7 l2_7.toNatClampNeg (-2 : Int32)) (upd ma28_7 l2_7.toNatClampNeg (-2 : Int32)) else ((e_hA_X3_takeTitle (upd ma27_7 l2_7.toNatClampNeg (-2 : Int32)) p5 (upd ma28_7 l2_7.toNatClampNeg (-2 : Int32)) l2_7).bind fun z66 => L_hA_X3_begin_7 p0 p1 p4 p5 p6  K n7 (l2_7 + (1 : Int32)) (upd ma27_7 l2_7.toNatClampNeg (-2 : Int32)) z66)))))) else (xix l2_7 5 ((xix l2_7 5 (xix l2_7 5 (if p1 ≤ l2_7 then L_hA_X3_begin_7 p0 p1 p4 p5 p6  K n7 (l2_7 + (1 : Int32)) (upd ma27_7 l2_7.toNatClampNeg (p6 l2_7.toNatClampNeg)) (upd ma28_7 l2_7.toNatClampNeg (-2 : Int32)) else (xix l2_7 5 (if (p4 l2_7.toNatClampNeg) = (2 : Int32) then L_hA_X3_begin_7 p0 p1 p4 p5 p6  K n7 (l2_7 + (1 : Int32)) (upd ma27_7 l2_7.toNatClampNeg (p6 l2_7.toNatClampNeg)) (upd ma28_7 l2_7.toNatClampNeg (-2 : Int32)) else ((e_hA_X3_takeTitle (upd ma27_7 l2_7.toNatClampNeg (p6 l2_7.toNatClampNeg)) p5 (upd ma28_7 l2_7.toNatClampNeg (-2 : Int32)) l2_7).bind fun z66 => L_hA_X3_begin_7 p0 p1 p4 p5 p6  K n7 (l2_7 + (1 : Int32)) (upd ma27_7 l2_7.toNatClampNeg (p6 l2_7.toNatClampNeg)) z66))))))))
noncomputable def e_hA_X3_begin (p0 : Int32) (p1 : Int32) (p2 : (Nat → Int32)) (p3 : (Nat → Int32)) (p4 : (Nat → Int32)) (p5 : (Nat → Int32)) (p6 : (Nat → Int32))  : Option (Int32 × (Nat → Int32) × (Nat → Int32)) :=
  L_hA_X3_begin_7 (0 : Int32) p1 p4 p5 p6  (fun l2_7 ma27_7 ma28_7 => some ((0 : Int32), ma27_7, ma28_7)) 200000 (0 : Int32) p2 p3
set_option maxRecDepth 100000 in
set_option maxHeartbeats 4000000 in
theorem lp_hA_X3_begin_7 {g0 g1 g2 g3 g4 g5 g6 g7 g8 g9 g10 g11 g12 g13 g14 g15 g16 g17 g18 g19 g20 g21 g22 g23 g24 g25 g26 g27 g28 g29 g30 g31 g32 g33 g34 g35 g36 : Int32} {a0 a1 a2 a3 a4 a5 a6 a7 a8 a9 a10 a11 a12 a13 a14 a15 a16 a17 a18 a19 a20 a21 a22 a23 a24 a25 a26 a29 a30 a31 a32 a33 a34 a35 a36 a37 a38 a39 : (Nat → Int32)} {b0 b1 b2 b3 b4 : (Nat → Int64)} {w0 : Int64} (d n0 : Nat)  (res : Int32 × (Nat → Int32) × (Nat → Int32)) (K : Int32 → (Nat → Int32) → (Nat → Int32) → Option (Int32 × (Nat → Int32) × (Nat → Int32))) (hK : ∀ (l2_7 : Int32) (ma27_7 : (Nat → Int32)) (ma28_7 : (Nat → Int32)), K l2_7 ma27_7 ma28_7 = some res → xW xks YX3_begin (d + 2) 0 0 n0 (xZ 0 0 n0 none (hA g0 g1 g2 g3 g4 g5 g6 g7 g8 g9 g10 g11 g12 g13 g14 g15 g16 g17 g18 g19 g20 g21 res.1 g23 g24 g25 g26 g27 g28 g29 g30 g31 g32 g33 g34 g35 g36 a0 a1 a2 a3 a4 a5 a6 a7 a8 a9 a10 a11 a12 a13 a14 a15 a16 a17 a18 a19 a20 a21 a22 a23 a24 a25 a26 res.2.1 res.2.2 a29 a30 a31 a32 a33 a34 a35 a36 a37 a38 a39 b0 b1 b2 b3 b4 w0 (.ref 1) (.ref 19))) 0 0 75 [none, none, none] [] (hA g0 g1 g2 g3 g4 g5 g6 g7 g8 g9 g10 g11 g12 g13 g14 g15 g16 g17 g18 g19 g20 g21 g22 g23 g24 g25 g26 g27 g28 g29 g30 g31 g32 g33 g34 g35 g36 a0 a1 a2 a3 a4 a5 a6 a7 a8 a9 a10 a11 a12 a13 a14 a15 a16 a17 a18 a19 a20 a21 a22 a23 a24 a25 a26 ma27_7 ma28_7 a29 a30 a31 a32 a33 a34 a35 a36 a37 a38 a39 b0 b1 b2 b3 b4 w0 (.ref 1) (.ref 19))) : ∀ (n : Nat) (l2_7 : Int32) (ma27_7 : (Nat → Int32)) (ma28_7 : (Nat → Int32)), L_hA_X3_begin_7 g22 g11 a15 a14 a18  K n l2_7 ma27_7 ma28_7 = some res → xW xks YX3_begin (d + 2) 0 0 n0 (xZ 0 0 n0 none (hA g0 g1 g2 g3 g4 g5 g6 g7 g8 g9 g10 g11 g12 g13 g14 g15 g16 g17 g18 g19 g20 g21 res.1 g23 g24 g25 g26 g27 g28 g29 g30 g31 g32 g33 g34 g35 g36 a0 a1 a2 a3 a4 a5 a6 a7 a8 a9 a10 a11 a12 a13 a14 a15 a16 a17 a18 a19 a20 a21 a22 a23 a24 a25 a26 res.2.1 res.2.2 a29 a30 a31 a32 a33 a34 a35 a36 a37 a38 a39 b0 b1 b2 b3 b4 w0 (.ref 1) (.ref 19))) 0 0 7 [some (.ref 37), some (.ref 19), some (.int l2_7)] [] (hA g0 g1 g2 g3 g4 g5 g6 g7 g8 g9 g10 g11 g12 g13 g14 g15 g16 g17 g18 g19 g20 g21 g22 g23 g24 g25 g26 g27 g28 g29 g30 g31 g32 g33 g34 g35 g36 a0 a1 a2 a3 a4 a5 a6 a7 a8 a9 a10 a11 a12 a13 a14 a15 a16 a17 a18 a19 a20 a21 a22 a23 a24 a25 a26 ma27_7 ma28_7 a29 a30 a31 a32 a33 a34 a35 a36 a37 a38 a39 b0 b1 b2 b3 b4 w0 (.ref 1) (.ref 19)) := by
  intro n
  induction n with
  | zero =>
    intro l2_7 ma27_7 ma28_7 h
    cases (show (none : Option (Int32 × (Nat → Int32) × (Nat → Int32))) = some res from h)
  | succ n7 ih7 =>
    intro l2_7 ma27_7 ma28_7 h
    unfold L_hA_X3_begin_7 at h
    refine x_iload_n dX3_begin_7 rfl ?_
    refine x_iconst (5 : Int32) dX3_begin_8 (by decide) ?_
    refine x_icmp_ge 75 dX3_begin_9 (by decide) (fun q => ?_) (fun q => ?_)
    · have h := xif_t q h
      refine x_weak (pl2 := [none, none, none]) trivial ?_
      exact hK l2_7 ma27_7 ma28_7 h
    · have h := xif_f q h
      refine x_aload_n dX3_begin_12 rfl ?_
      refine x_get fX3_9 dX3_begin_13 rfl rfl rfl ?_
      refine x_iload_n dX3_begin_16 rfl ?_
      refine x_iload_n dX3_begin_17 rfl ?_
      refine x_aload_n dX3_begin_18 rfl ?_
      refine x_get fX3_22 dX3_begin_19 rfl rfl rfl ?_
      refine x_icmp_ge 34 dX3_begin_22 (by decide) (fun q => ?_) (fun q => ?_)
      · have h := xif_t q h
        refine x_bipush (-2 : Int32) dX3_begin_34 (by decide) ?_
        obtain ⟨q36, h⟩ := xix_of h
        refine x_iast (h2 := (hA g0 g1 g2 g3 g4 g5 g6 g7 g8 g9 g10 g11 g12 g13 g14 g15 g16 g17 g18 g19 g20 g21 g22 g23 g24 g25 g26 g27 g28 g29 g30 g31 g32 g33 g34 g35 g36 a0 a1 a2 a3 a4 a5 a6 a7 a8 a9 a10 a11 a12 a13 a14 a15 a16 a17 a18 a19 a20 a21 a22 a23 a24 a25 a26 (upd ma27_7 l2_7.toNatClampNeg (-2 : Int32)) ma28_7 a29 a30 a31 a32 a33 a34 a35 a36 a37 a38 a39 b0 b1 b2 b3 b4 w0 (.ref 1) (.ref 19))) dX3_begin_36 rfl q36 rfl ?_
        refine x_aload_n dX3_begin_37 rfl ?_
        refine x_get fX3_15 dX3_begin_38 rfl rfl rfl ?_
        refine x_iload_n dX3_begin_41 rfl ?_
        refine x_bipush (-2 : Int32) dX3_begin_42 (by decide) ?_
        obtain ⟨q44, h⟩ := xix_of h
        refine x_iast (h2 := (hA g0 g1 g2 g3 g4 g5 g6 g7 g8 g9 g10 g11 g12 g13 g14 g15 g16 g17 g18 g19 g20 g21 g22 g23 g24 g25 g26 g27 g28 g29 g30 g31 g32 g33 g34 g35 g36 a0 a1 a2 a3 a4 a5 a6 a7 a8 a9 a10 a11 a12 a13 a14 a15 a16 a17 a18 a19 a20 a21 a22 a23 a24 a25 a26 (upd ma27_7 l2_7.toNatClampNeg (-2 : Int32)) (upd ma28_7 l2_7.toNatClampNeg (-2 : Int32)) a29 a30 a31 a32 a33 a34 a35 a36 a37 a38 a39 b0 b1 b2 b3 b4 w0 (.ref 1) (.ref 19))) dX3_begin_44 rfl q44 rfl ?_
        refine x_iload_n dX3_begin_45 rfl ?_
        refine x_aload_n dX3_begin_46 rfl ?_
        refine x_get fX3_22 dX3_begin_47 rfl rfl rfl ?_
        refine x_icmp_ge 69 dX3_begin_50 (by decide) (fun q => ?_) (fun q => ?_)
        · have h := xif_t q h
          refine x_iincK (1 : Int32) (pl' := [some (.ref 37), some (.ref 19), some (.int (l2_7 + (1 : Int32)))]) dX3_begin_69 rfl (by decide) (by decide) rfl ?_
          refine x_goto 7 dX3_begin_72 (by decide) ?_
          refine x_weak (pl2 := [some (.ref 37), some (.ref 19), some (.int (l2_7 + (1 : Int32)))]) ⟨rfl, rfl, rfl, trivial⟩ ?_
          exact ih7 (l2_7 + (1 : Int32)) (upd ma27_7 l2_7.toNatClampNeg (-2 : Int32)) (upd ma28_7 l2_7.toNatClampNeg (-2 : Int32)) h
        · have h := xif_f q h
          refine x_aload_n dX3_begin_53 rfl ?_
          refine x_get fX3_30 dX3_begin_54 rfl rfl rfl ?_
          refine x_iload_n dX3_begin_57 rfl ?_
          obtain ⟨q58, h⟩ := xix_of h
          refine x_iald dX3_begin_58 rfl q58 ?_
          refine x_iconst (2 : Int32) dX3_begin_59 (by decide) ?_
          refine x_icmp_eq 69 dX3_begin_60 (by decide) (fun q => ?_) (fun q => ?_)
          · have h := xif_t q h
            refine x_iincK (1 : Int32) (pl' := [some (.ref 37), some (.ref 19), some (.int (l2_7 + (1 : Int32)))]) dX3_begin_69 rfl (by decide) (by decide) rfl ?_
            refine x_goto 7 dX3_begin_72 (by decide) ?_
            refine x_weak (pl2 := [some (.ref 37), some (.ref 19), some (.int (l2_7 + (1 : Int32)))]) ⟨rfl, rfl, rfl, trivial⟩ ?_
            exact ih7 (l2_7 + (1 : Int32)) (upd ma27_7 l2_7.toNatClampNeg (-2 : Int32)) (upd ma28_7 l2_7.toNatClampNeg (-2 : Int32)) h
          · have h := xif_f q h
            refine x_aload_n dX3_begin_63 rfl ?_
            refine x_aload_n dX3_begin_64 rfl ?_
            refine x_iload_n dX3_begin_65 rfl ?_
            obtain ⟨z66, y66, h⟩ := xbind h
            refine x_callV (t_hA_X3_takeTitle l2_7 z66 y66 (d + 0)) kX3_33 dX3_begin_66 rfl rfl rfl rfl rfl (Nat.le_of_ble_eq_true rfl) (Nat.le_of_ble_eq_true rfl) rfl rfl (Or.inl rfl) ?_
            refine x_iincK (1 : Int32) (pl' := [some (.ref 37), some (.ref 19), some (.int (l2_7 + (1 : Int32)))]) dX3_begin_69 rfl (by decide) (by decide) rfl ?_
            refine x_goto 7 dX3_begin_72 (by decide) ?_
            refine x_weak (pl2 := [some (.ref 37), some (.ref 19), some (.int (l2_7 + (1 : Int32)))]) ⟨rfl, rfl, rfl, trivial⟩ ?_
            exact ih7 (l2_7 + (1 : Int32)) (upd ma27_7 l2_7.toNatClampNeg (-2 : Int32)) z66 h
      · have h := xif_f q h
        refine x_aload_n dX3_begin_25 rfl ?_
        refine x_get fX3_27 dX3_begin_26 rfl rfl rfl ?_
        refine x_iload_n dX3_begin_29 rfl ?_
        obtain ⟨q30, h⟩ := xix_of h
        refine x_iald dX3_begin_30 rfl q30 ?_
        refine x_goto 36 dX3_begin_31 (by decide) ?_
        obtain ⟨q36, h⟩ := xix_of h
        refine x_iast (h2 := (hA g0 g1 g2 g3 g4 g5 g6 g7 g8 g9 g10 g11 g12 g13 g14 g15 g16 g17 g18 g19 g20 g21 g22 g23 g24 g25 g26 g27 g28 g29 g30 g31 g32 g33 g34 g35 g36 a0 a1 a2 a3 a4 a5 a6 a7 a8 a9 a10 a11 a12 a13 a14 a15 a16 a17 a18 a19 a20 a21 a22 a23 a24 a25 a26 (upd ma27_7 l2_7.toNatClampNeg (a18 l2_7.toNatClampNeg)) ma28_7 a29 a30 a31 a32 a33 a34 a35 a36 a37 a38 a39 b0 b1 b2 b3 b4 w0 (.ref 1) (.ref 19))) dX3_begin_36 rfl q36 rfl ?_
        refine x_aload_n dX3_begin_37 rfl ?_
        refine x_get fX3_15 dX3_begin_38 rfl rfl rfl ?_
        refine x_iload_n dX3_begin_41 rfl ?_
        refine x_bipush (-2 : Int32) dX3_begin_42 (by decide) ?_
        obtain ⟨q44, h⟩ := xix_of h
        refine x_iast (h2 := (hA g0 g1 g2 g3 g4 g5 g6 g7 g8 g9 g10 g11 g12 g13 g14 g15 g16 g17 g18 g19 g20 g21 g22 g23 g24 g25 g26 g27 g28 g29 g30 g31 g32 g33 g34 g35 g36 a0 a1 a2 a3 a4 a5 a6 a7 a8 a9 a10 a11 a12 a13 a14 a15 a16 a17 a18 a19 a20 a21 a22 a23 a24 a25 a26 (upd ma27_7 l2_7.toNatClampNeg (a18 l2_7.toNatClampNeg)) (upd ma28_7 l2_7.toNatClampNeg (-2 : Int32)) a29 a30 a31 a32 a33 a34 a35 a36 a37 a38 a39 b0 b1 b2 b3 b4 w0 (.ref 1) (.ref 19))) dX3_begin_44 rfl q44 rfl ?_
        refine x_iload_n dX3_begin_45 rfl ?_
        refine x_aload_n dX3_begin_46 rfl ?_
        refine x_get fX3_22 dX3_begin_47 rfl rfl rfl ?_
        refine x_icmp_ge 69 dX3_begin_50 (by decide) (fun q => ?_) (fun q => ?_)
        · have h := xif_t q h
          refine x_iincK (1 : Int32) (pl' := [some (.ref 37), some (.ref 19), some (.int (l2_7 + (1 : Int32)))]) dX3_begin_69 rfl (by decide) (by decide) rfl ?_
          refine x_goto 7 dX3_begin_72 (by decide) ?_
          refine x_weak (pl2 := [some (.ref 37), some (.ref 19), some (.int (l2_7 + (1 : Int32)))]) ⟨rfl, rfl, rfl, trivial⟩ ?_
          exact ih7 (l2_7 + (1 : Int32)) (upd ma27_7 l2_7.toNatClampNeg (a18 l2_7.toNatClampNeg)) (upd ma28_7 l2_7.toNatClampNeg (-2 : Int32)) h
        · have h := xif_f q h
          refine x_aload_n dX3_begin_53 rfl ?_
          refine x_get fX3_30 dX3_begin_54 rfl rfl rfl ?_
          refine x_iload_n dX3_begin_57 rfl ?_
          obtain ⟨q58, h⟩ := xix_of h
          refine x_iald dX3_begin_58 rfl q58 ?_
          refine x_iconst (2 : Int32) dX3_begin_59 (by decide) ?_
          refine x_icmp_eq 69 dX3_begin_60 (by decide) (fun q => ?_) (fun q => ?_)
          · have h := xif_t q h
            refine x_iincK (1 : Int32) (pl' := [some (.ref 37), some (.ref 19), some (.int (l2_7 + (1 : Int32)))]) dX3_begin_69 rfl (by decide) (by decide) rfl ?_
            refine x_goto 7 dX3_begin_72 (by decide) ?_
            refine x_weak (pl2 := [some (.ref 37), some (.ref 19), some (.int (l2_7 + (1 : Int32)))]) ⟨rfl, rfl, rfl, trivial⟩ ?_
            exact ih7 (l2_7 + (1 : Int32)) (upd ma27_7 l2_7.toNatClampNeg (a18 l2_7.toNatClampNeg)) (upd ma28_7 l2_7.toNatClampNeg (-2 : Int32)) h
          · have h := xif_f q h
            refine x_aload_n dX3_begin_63 rfl ?_
            refine x_aload_n dX3_begin_64 rfl ?_
            refine x_iload_n dX3_begin_65 rfl ?_
            obtain ⟨z66, y66, h⟩ := xbind h
            refine x_callV (t_hA_X3_takeTitle l2_7 z66 y66 (d + 0)) kX3_33 dX3_begin_66 rfl rfl rfl rfl rfl (Nat.le_of_ble_eq_true rfl) (Nat.le_of_ble_eq_true rfl) rfl rfl (Or.inl rfl) ?_
            refine x_iincK (1 : Int32) (pl' := [some (.ref 37), some (.ref 19), some (.int (l2_7 + (1 : Int32)))]) dX3_begin_69 rfl (by decide) (by decide) rfl ?_
            refine x_goto 7 dX3_begin_72 (by decide) ?_
            refine x_weak (pl2 := [some (.ref 37), some (.ref 19), some (.int (l2_7 + (1 : Int32)))]) ⟨rfl, rfl, rfl, trivial⟩ ?_
            exact ih7 (l2_7 + (1 : Int32)) (upd ma27_7 l2_7.toNatClampNeg (a18 l2_7.toNatClampNeg)) z66 h
set_option maxRecDepth 100000 in
set_option maxHeartbeats 4000000 in
theorem t_hA_X3_begin {g0 g1 g2 g3 g4 g5 g6 g7 g8 g9 g10 g11 g12 g13 g14 g15 g16 g17 g18 g19 g20 g21 g22 g23 g24 g25 g26 g27 g28 g29 g30 g31 g32 g33 g34 g35 g36 : Int32} {a0 a1 a2 a3 a4 a5 a6 a7 a8 a9 a10 a11 a12 a13 a14 a15 a16 a17 a18 a19 a20 a21 a22 a23 a24 a25 a26 a27 a28 a29 a30 a31 a32 a33 a34 a35 a36 a37 a38 a39 : (Nat → Int32)} {b0 b1 b2 b3 b4 : (Nat → Int64)} {w0 : Int64}  (res : Int32 × (Nat → Int32) × (Nat → Int32)) (h : e_hA_X3_begin g22 g11 a27 a28 a15 a14 a18  = some res) (d : Nat) : xMet xks YX3_begin (d + 2) 0 0 [.ref 37, .ref 19] (hA g0 g1 g2 g3 g4 g5 g6 g7 g8 g9 g10 g11 g12 g13 g14 g15 g16 g17 g18 g19 g20 g21 g22 g23 g24 g25 g26 g27 g28 g29 g30 g31 g32 g33 g34 g35 g36 a0 a1 a2 a3 a4 a5 a6 a7 a8 a9 a10 a11 a12 a13 a14 a15 a16 a17 a18 a19 a20 a21 a22 a23 a24 a25 a26 a27 a28 a29 a30 a31 a32 a33 a34 a35 a36 a37 a38 a39 b0 b1 b2 b3 b4 w0 (.ref 1) (.ref 19)) none (hA g0 g1 g2 g3 g4 g5 g6 g7 g8 g9 g10 g11 g12 g13 g14 g15 g16 g17 g18 g19 g20 g21 res.1 g23 g24 g25 g26 g27 g28 g29 g30 g31 g32 g33 g34 g35 g36 a0 a1 a2 a3 a4 a5 a6 a7 a8 a9 a10 a11 a12 a13 a14 a15 a16 a17 a18 a19 a20 a21 a22 a23 a24 a25 a26 res.2.1 res.2.2 a29 a30 a31 a32 a33 a34 a35 a36 a37 a38 a39 b0 b1 b2 b3 b4 w0 (.ref 1) (.ref 19)) := by
  unfold e_hA_X3_begin at h
  refine xMet_of (pl := [some (.ref 37), some (.ref 19), none]) (by decide) (Nat.le_of_ble_eq_true rfl) rfl (Nat.le_of_ble_eq_true rfl) ?_
  refine x_aload_n dX3_begin_0 rfl ?_
  refine x_iconst (0 : Int32) dX3_begin_1 (by decide) ?_
  refine x_put (h2 := (hA g0 g1 g2 g3 g4 g5 g6 g7 g8 g9 g10 g11 g12 g13 g14 g15 g16 g17 g18 g19 g20 g21 (0 : Int32) g23 g24 g25 g26 g27 g28 g29 g30 g31 g32 g33 g34 g35 g36 a0 a1 a2 a3 a4 a5 a6 a7 a8 a9 a10 a11 a12 a13 a14 a15 a16 a17 a18 a19 a20 a21 a22 a23 a24 a25 a26 a27 a28 a29 a30 a31 a32 a33 a34 a35 a36 a37 a38 a39 b0 b1 b2 b3 b4 w0 (.ref 1) (.ref 19))) fX3_18 dX3_begin_2 rfl rfl (Nat.le_of_ble_eq_true rfl : 2 + 1 ≤ _) (fun α => ⟨rfl, rfl⟩) rfl ?_
  refine x_iconst (0 : Int32) dX3_begin_5 (by decide) ?_
  refine x_istore_n (pl' := [some (.ref 37), some (.ref 19), some (.int (0 : Int32))]) dX3_begin_6 (by decide) rfl ?_
  refine x_weak (pl2 := [some (.ref 37), some (.ref 19), some (.int (0 : Int32))]) ⟨rfl, rfl, rfl, trivial⟩ ?_
  refine lp_hA_X3_begin_7 d _  res _ (fun l2_7 ma27_7 ma28_7 h => ?_) 200000 (0 : Int32) a27 a28 h
  cases h
  exact x_vret2 dX3_begin_75 rfl rfl
set_option maxRecDepth 100000 in
set_option maxHeartbeats 4000000 in
theorem t_hA_X3_takeTitle_2 {g0 g1 g2 g3 g4 g5 g6 g7 g8 g9 g10 g11 g12 g13 g14 g15 g16 g17 g18 g19 g20 g21 g22 g23 g24 g25 g26 g27 g28 g29 g30 g31 g32 g33 g34 g35 g36 : Int32} {a0 a1 a2 a3 a4 a5 a6 a7 a8 a9 a10 a11 a12 a13 a14 a15 a16 a17 a18 a19 a20 a21 a22 a23 a24 a25 a26 a27 a28 a29 a30 a31 a32 a33 a34 a35 a36 a37 a38 a39 : (Nat → Int32)} {b0 b1 b2 b3 b4 : (Nat → Int64)} {w0 : Int64} (x2 : Int32) (res : (Nat → Int32)) (h : e_hA_X3_takeTitle a32 a14 a33 x2 = some res) (d : Nat) : xMet xks YX3_takeTitle (d + 1) 0 0 [.ref 46, .ref 19, .int x2] (hA g0 g1 g2 g3 g4 g5 g6 g7 g8 g9 g10 g11 g12 g13 g14 g15 g16 g17 g18 g19 g20 g21 g22 g23 g24 g25 g26 g27 g28 g29 g30 g31 g32 g33 g34 g35 g36 a0 a1 a2 a3 a4 a5 a6 a7 a8 a9 a10 a11 a12 a13 a14 a15 a16 a17 a18 a19 a20 a21 a22 a23 a24 a25 a26 a27 a28 a29 a30 a31 a32 a33 a34 a35 a36 a37 a38 a39 b0 b1 b2 b3 b4 w0 (.ref 1) (.ref 19)) none (hA g0 g1 g2 g3 g4 g5 g6 g7 g8 g9 g10 g11 g12 g13 g14 g15 g16 g17 g18 g19 g20 g21 g22 g23 g24 g25 g26 g27 g28 g29 g30 g31 g32 g33 g34 g35 g36 a0 a1 a2 a3 a4 a5 a6 a7 a8 a9 a10 a11 a12 a13 a14 a15 a16 a17 a18 a19 a20 a21 a22 a23 a24 a25 a26 a27 a28 a29 a30 a31 a32 res a34 a35 a36 a37 a38 a39 b0 b1 b2 b3 b4 w0 (.ref 1) (.ref 19)) := by
  unfold e_hA_X3_takeTitle at h
  refine xMet_of (pl := [some (.ref 46), some (.ref 19), some (.int x2), none]) (by decide) (Nat.le_of_ble_eq_true rfl) rfl (Nat.le_of_ble_eq_true rfl) ?_
  refine x_aload_n dX3_takeTitle_0 rfl ?_
  refine x_get fX3_9 dX3_takeTitle_1 rfl rfl rfl ?_
  refine x_iload_n dX3_takeTitle_4 rfl ?_
  obtain ⟨q5, h⟩ := xix_of h
  refine x_iald dX3_takeTitle_5 rfl q5 ?_
  refine x_istore_n (pl' := [some (.ref 46), some (.ref 19), some (.int x2), some (.int (a32 x2.toNatClampNeg))]) dX3_takeTitle_6 (by decide) rfl ?_
  refine x_iload_n dX3_takeTitle_7 rfl ?_
  refine x_if_lt 28 dX3_takeTitle_8 (by decide) (fun q => ?_) (fun q => ?_)
  · have h := xif_t q h
    cases h
    exact x_vret2 dX3_takeTitle_28 rfl rfl
  · have h := xif_f q h
    refine x_aload_n dX3_takeTitle_11 rfl ?_
    refine x_get fX3_58 dX3_takeTitle_12 rfl rfl rfl ?_
    refine x_iload_n dX3_takeTitle_15 rfl ?_
    obtain ⟨q16, h⟩ := xix_of h
    refine x_iald dX3_takeTitle_16 rfl q16 ?_
    refine x_iconst (1 : Int32) dX3_takeTitle_17 (by decide) ?_
    refine x_icmp_eq 28 dX3_takeTitle_18 (by decide) (fun q => ?_) (fun q => ?_)
    · have h := xif_t q h
      cases h
      exact x_vret2 dX3_takeTitle_28 rfl rfl
    · have h := xif_f q h
      refine x_aload_n dX3_takeTitle_21 rfl ?_
      refine x_get fX3_15 dX3_takeTitle_22 rfl rfl rfl ?_
      refine x_iload_n dX3_takeTitle_25 rfl ?_
      refine x_iload_n dX3_takeTitle_26 rfl ?_
      obtain ⟨q27, h⟩ := xix_of h
      refine x_iast (h2 := (hA g0 g1 g2 g3 g4 g5 g6 g7 g8 g9 g10 g11 g12 g13 g14 g15 g16 g17 g18 g19 g20 g21 g22 g23 g24 g25 g26 g27 g28 g29 g30 g31 g32 g33 g34 g35 g36 a0 a1 a2 a3 a4 a5 a6 a7 a8 a9 a10 a11 a12 a13 a14 a15 a16 a17 a18 a19 a20 a21 a22 a23 a24 a25 a26 a27 a28 a29 a30 a31 a32 (upd a33 x2.toNatClampNeg (a32 x2.toNatClampNeg)) a34 a35 a36 a37 a38 a39 b0 b1 b2 b3 b4 w0 (.ref 1) (.ref 19))) dX3_takeTitle_27 rfl q27 rfl ?_
      cases h
      exact x_vret2 dX3_takeTitle_28 rfl rfl
noncomputable def L_hA_X3_begin_2_7 (p0 : Int32) (p1 : Int32) (p4 : (Nat → Int32)) (p5 : (Nat → Int32)) (p6 : (Nat → Int32))   (K : Int32 → (Nat → Int32) → (Nat → Int32) → Option (Int32 × (Nat → Int32) × (Nat → Int32))) : Nat → Int32 → (Nat → Int32) → (Nat → Int32) → Option (Int32 × (Nat → Int32) × (Nat → Int32))
  | 0, _, _, _ => none
  | n7 + 1, l2_7, ma32_7, ma33_7 => if (5 : Int32) ≤ l2_7 then K l2_7 ma32_7 ma33_7 else if p1 ≤ l2_7 then (xix l2_7 5 (xix l2_7 5 (if p1 ≤ l2_7 then L_hA_X3_begin_2_7 p0 p1 p4 p5 p6  K n7 (l2_7 + (1 : Int32)) (upd ma32_7 l2_7.toNatClampNeg (-2 : Int32)) (upd ma33_7 l2_7.toNatClampNeg (-2 : Int32)) else (xix l2_7 5 (if (p4 l2_7.toNatClampNeg) = (2 : Int32) then L_hA_X3_begin_2_7 p0 p1 p4 p5 p6  K n7 (l2_7 + (1 : Int32)) (upd ma32_7 l2_7.toNatClampNeg (-2 : Int32)) (upd ma33_7 l2_7.toNatClampNeg (-2 : Int32)) else ((e_hA_X3_takeTitle (upd ma32_7 l2_7.toNatClampNeg (-2 : Int32)) p5 (upd ma33_7 l2_7.toNatClampNeg (-2 : Int32)) l2_7).bind fun z66 => L_hA_X3_begin_2_7 p0 p1 p4 p5 p6  K n7 (l2_7 + (1 : Int32)) (upd ma32_7 l2_7.toNatClampNeg (-2 : Int32)) z66)))))) else (xix l2_7 5 ((xix l2_7 5 (xix l2_7 5 (if p1 ≤ l2_7 then L_hA_X3_begin_2_7 p0 p1 p4 p5 p6  K n7 (l2_7 + (1 : Int32)) (upd ma32_7 l2_7.toNatClampNeg (p6 l2_7.toNatClampNeg)) (upd ma33_7 l2_7.toNatClampNeg (-2 : Int32)) else (xix l2_7 5 (if (p4 l2_7.toNatClampNeg) = (2 : Int32) then L_hA_X3_begin_2_7 p0 p1 p4 p5 p6  K n7 (l2_7 + (1 : Int32)) (upd ma32_7 l2_7.toNatClampNeg (p6 l2_7.toNatClampNeg)) (upd ma33_7 l2_7.toNatClampNeg (-2 : Int32)) else ((e_hA_X3_takeTitle (upd ma32_7 l2_7.toNatClampNeg (p6 l2_7.toNatClampNeg)) p5 (upd ma33_7 l2_7.toNatClampNeg (-2 : Int32)) l2_7).bind fun z66 => L_hA_X3_begin_2_7 p0 p1 p4 p5 p6  K n7 (l2_7 + (1 : Int32)) (upd ma32_7 l2_7.toNatClampNeg (p6 l2_7.toNatClampNeg)) z66))))))))
noncomputable def e_hA_X3_begin_2 (p0 : Int32) (p1 : Int32) (p2 : (Nat → Int32)) (p3 : (Nat → Int32)) (p4 : (Nat → Int32)) (p5 : (Nat → Int32)) (p6 : (Nat → Int32))  : Option (Int32 × (Nat → Int32) × (Nat → Int32)) :=
  L_hA_X3_begin_2_7 (0 : Int32) p1 p4 p5 p6  (fun l2_7 ma32_7 ma33_7 => some ((0 : Int32), ma32_7, ma33_7)) 200000 (0 : Int32) p2 p3
set_option maxRecDepth 100000 in
set_option maxHeartbeats 4000000 in
theorem lp_hA_X3_begin_2_7 {g0 g1 g2 g3 g4 g5 g6 g7 g8 g9 g10 g11 g12 g13 g14 g15 g16 g17 g18 g19 g20 g21 g22 g23 g24 g25 g26 g27 g28 g29 g30 g31 g32 g33 g34 g35 g36 : Int32} {a0 a1 a2 a3 a4 a5 a6 a7 a8 a9 a10 a11 a12 a13 a14 a15 a16 a17 a18 a19 a20 a21 a22 a23 a24 a25 a26 a27 a28 a29 a30 a31 a34 a35 a36 a37 a38 a39 : (Nat → Int32)} {b0 b1 b2 b3 b4 : (Nat → Int64)} {w0 : Int64} (d n0 : Nat)  (res : Int32 × (Nat → Int32) × (Nat → Int32)) (K : Int32 → (Nat → Int32) → (Nat → Int32) → Option (Int32 × (Nat → Int32) × (Nat → Int32))) (hK : ∀ (l2_7 : Int32) (ma32_7 : (Nat → Int32)) (ma33_7 : (Nat → Int32)), K l2_7 ma32_7 ma33_7 = some res → xW xks YX3_begin (d + 2) 0 0 n0 (xZ 0 0 n0 none (hA g0 g1 g2 g3 g4 g5 g6 g7 g8 g9 g10 g11 g12 g13 g14 g15 g16 g17 g18 g19 g20 g21 g22 g23 res.1 g25 g26 g27 g28 g29 g30 g31 g32 g33 g34 g35 g36 a0 a1 a2 a3 a4 a5 a6 a7 a8 a9 a10 a11 a12 a13 a14 a15 a16 a17 a18 a19 a20 a21 a22 a23 a24 a25 a26 a27 a28 a29 a30 a31 res.2.1 res.2.2 a34 a35 a36 a37 a38 a39 b0 b1 b2 b3 b4 w0 (.ref 1) (.ref 19))) 0 0 75 [none, none, none] [] (hA g0 g1 g2 g3 g4 g5 g6 g7 g8 g9 g10 g11 g12 g13 g14 g15 g16 g17 g18 g19 g20 g21 g22 g23 g24 g25 g26 g27 g28 g29 g30 g31 g32 g33 g34 g35 g36 a0 a1 a2 a3 a4 a5 a6 a7 a8 a9 a10 a11 a12 a13 a14 a15 a16 a17 a18 a19 a20 a21 a22 a23 a24 a25 a26 a27 a28 a29 a30 a31 ma32_7 ma33_7 a34 a35 a36 a37 a38 a39 b0 b1 b2 b3 b4 w0 (.ref 1) (.ref 19))) : ∀ (n : Nat) (l2_7 : Int32) (ma32_7 : (Nat → Int32)) (ma33_7 : (Nat → Int32)), L_hA_X3_begin_2_7 g24 g11 a15 a14 a18  K n l2_7 ma32_7 ma33_7 = some res → xW xks YX3_begin (d + 2) 0 0 n0 (xZ 0 0 n0 none (hA g0 g1 g2 g3 g4 g5 g6 g7 g8 g9 g10 g11 g12 g13 g14 g15 g16 g17 g18 g19 g20 g21 g22 g23 res.1 g25 g26 g27 g28 g29 g30 g31 g32 g33 g34 g35 g36 a0 a1 a2 a3 a4 a5 a6 a7 a8 a9 a10 a11 a12 a13 a14 a15 a16 a17 a18 a19 a20 a21 a22 a23 a24 a25 a26 a27 a28 a29 a30 a31 res.2.1 res.2.2 a34 a35 a36 a37 a38 a39 b0 b1 b2 b3 b4 w0 (.ref 1) (.ref 19))) 0 0 7 [some (.ref 46), some (.ref 19), some (.int l2_7)] [] (hA g0 g1 g2 g3 g4 g5 g6 g7 g8 g9 g10 g11 g12 g13 g14 g15 g16 g17 g18 g19 g20 g21 g22 g23 g24 g25 g26 g27 g28 g29 g30 g31 g32 g33 g34 g35 g36 a0 a1 a2 a3 a4 a5 a6 a7 a8 a9 a10 a11 a12 a13 a14 a15 a16 a17 a18 a19 a20 a21 a22 a23 a24 a25 a26 a27 a28 a29 a30 a31 ma32_7 ma33_7 a34 a35 a36 a37 a38 a39 b0 b1 b2 b3 b4 w0 (.ref 1) (.ref 19)) := by
  intro n
  induction n with
  | zero =>
    intro l2_7 ma32_7 ma33_7 h
    cases (show (none : Option (Int32 × (Nat → Int32) × (Nat → Int32))) = some res from h)
  | succ n7 ih7 =>
    intro l2_7 ma32_7 ma33_7 h
    unfold L_hA_X3_begin_2_7 at h
    refine x_iload_n dX3_begin_7 rfl ?_
    refine x_iconst (5 : Int32) dX3_begin_8 (by decide) ?_
    refine x_icmp_ge 75 dX3_begin_9 (by decide) (fun q => ?_) (fun q => ?_)
    · have h := xif_t q h
      refine x_weak (pl2 := [none, none, none]) trivial ?_
      exact hK l2_7 ma32_7 ma33_7 h
    · have h := xif_f q h
      refine x_aload_n dX3_begin_12 rfl ?_
      refine x_get fX3_9 dX3_begin_13 rfl rfl rfl ?_
      refine x_iload_n dX3_begin_16 rfl ?_
      refine x_iload_n dX3_begin_17 rfl ?_
      refine x_aload_n dX3_begin_18 rfl ?_
      refine x_get fX3_22 dX3_begin_19 rfl rfl rfl ?_
      refine x_icmp_ge 34 dX3_begin_22 (by decide) (fun q => ?_) (fun q => ?_)
      · have h := xif_t q h
        refine x_bipush (-2 : Int32) dX3_begin_34 (by decide) ?_
        obtain ⟨q36, h⟩ := xix_of h
        refine x_iast (h2 := (hA g0 g1 g2 g3 g4 g5 g6 g7 g8 g9 g10 g11 g12 g13 g14 g15 g16 g17 g18 g19 g20 g21 g22 g23 g24 g25 g26 g27 g28 g29 g30 g31 g32 g33 g34 g35 g36 a0 a1 a2 a3 a4 a5 a6 a7 a8 a9 a10 a11 a12 a13 a14 a15 a16 a17 a18 a19 a20 a21 a22 a23 a24 a25 a26 a27 a28 a29 a30 a31 (upd ma32_7 l2_7.toNatClampNeg (-2 : Int32)) ma33_7 a34 a35 a36 a37 a38 a39 b0 b1 b2 b3 b4 w0 (.ref 1) (.ref 19))) dX3_begin_36 rfl q36 rfl ?_
        refine x_aload_n dX3_begin_37 rfl ?_
        refine x_get fX3_15 dX3_begin_38 rfl rfl rfl ?_
        refine x_iload_n dX3_begin_41 rfl ?_
        refine x_bipush (-2 : Int32) dX3_begin_42 (by decide) ?_
        obtain ⟨q44, h⟩ := xix_of h
        refine x_iast (h2 := (hA g0 g1 g2 g3 g4 g5 g6 g7 g8 g9 g10 g11 g12 g13 g14 g15 g16 g17 g18 g19 g20 g21 g22 g23 g24 g25 g26 g27 g28 g29 g30 g31 g32 g33 g34 g35 g36 a0 a1 a2 a3 a4 a5 a6 a7 a8 a9 a10 a11 a12 a13 a14 a15 a16 a17 a18 a19 a20 a21 a22 a23 a24 a25 a26 a27 a28 a29 a30 a31 (upd ma32_7 l2_7.toNatClampNeg (-2 : Int32)) (upd ma33_7 l2_7.toNatClampNeg (-2 : Int32)) a34 a35 a36 a37 a38 a39 b0 b1 b2 b3 b4 w0 (.ref 1) (.ref 19))) dX3_begin_44 rfl q44 rfl ?_
        refine x_iload_n dX3_begin_45 rfl ?_
        refine x_aload_n dX3_begin_46 rfl ?_
        refine x_get fX3_22 dX3_begin_47 rfl rfl rfl ?_
        refine x_icmp_ge 69 dX3_begin_50 (by decide) (fun q => ?_) (fun q => ?_)
        · have h := xif_t q h
          refine x_iincK (1 : Int32) (pl' := [some (.ref 46), some (.ref 19), some (.int (l2_7 + (1 : Int32)))]) dX3_begin_69 rfl (by decide) (by decide) rfl ?_
          refine x_goto 7 dX3_begin_72 (by decide) ?_
          refine x_weak (pl2 := [some (.ref 46), some (.ref 19), some (.int (l2_7 + (1 : Int32)))]) ⟨rfl, rfl, rfl, trivial⟩ ?_
          exact ih7 (l2_7 + (1 : Int32)) (upd ma32_7 l2_7.toNatClampNeg (-2 : Int32)) (upd ma33_7 l2_7.toNatClampNeg (-2 : Int32)) h
        · have h := xif_f q h
          refine x_aload_n dX3_begin_53 rfl ?_
          refine x_get fX3_30 dX3_begin_54 rfl rfl rfl ?_
          refine x_iload_n dX3_begin_57 rfl ?_
          obtain ⟨q58, h⟩ := xix_of h
          refine x_iald dX3_begin_58 rfl q58 ?_
          refine x_iconst (2 : Int32) dX3_begin_59 (by decide) ?_
          refine x_icmp_eq 69 dX3_begin_60 (by decide) (fun q => ?_) (fun q => ?_)
          · have h := xif_t q h
            refine x_iincK (1 : Int32) (pl' := [some (.ref 46), some (.ref 19), some (.int (l2_7 + (1 : Int32)))]) dX3_begin_69 rfl (by decide) (by decide) rfl ?_
            refine x_goto 7 dX3_begin_72 (by decide) ?_
            refine x_weak (pl2 := [some (.ref 46), some (.ref 19), some (.int (l2_7 + (1 : Int32)))]) ⟨rfl, rfl, rfl, trivial⟩ ?_
            exact ih7 (l2_7 + (1 : Int32)) (upd ma32_7 l2_7.toNatClampNeg (-2 : Int32)) (upd ma33_7 l2_7.toNatClampNeg (-2 : Int32)) h
          · have h := xif_f q h
            refine x_aload_n dX3_begin_63 rfl ?_
            refine x_aload_n dX3_begin_64 rfl ?_
            refine x_iload_n dX3_begin_65 rfl ?_
            obtain ⟨z66, y66, h⟩ := xbind h
            refine x_callV (t_hA_X3_takeTitle_2 l2_7 z66 y66 (d + 0)) kX3_33 dX3_begin_66 rfl rfl rfl rfl rfl (Nat.le_of_ble_eq_true rfl) (Nat.le_of_ble_eq_true rfl) rfl rfl (Or.inl rfl) ?_
            refine x_iincK (1 : Int32) (pl' := [some (.ref 46), some (.ref 19), some (.int (l2_7 + (1 : Int32)))]) dX3_begin_69 rfl (by decide) (by decide) rfl ?_
            refine x_goto 7 dX3_begin_72 (by decide) ?_
            refine x_weak (pl2 := [some (.ref 46), some (.ref 19), some (.int (l2_7 + (1 : Int32)))]) ⟨rfl, rfl, rfl, trivial⟩ ?_
            exact ih7 (l2_7 + (1 : Int32)) (upd ma32_7 l2_7.toNatClampNeg (-2 : Int32)) z66 h
      · have h := xif_f q h
        refine x_aload_n dX3_begin_25 rfl ?_
        refine x_get fX3_27 dX3_begin_26 rfl rfl rfl ?_
        refine x_iload_n dX3_begin_29 rfl ?_
        obtain ⟨q30, h⟩ := xix_of h
        refine x_iald dX3_begin_30 rfl q30 ?_
        refine x_goto 36 dX3_begin_31 (by decide) ?_
        obtain ⟨q36, h⟩ := xix_of h
        refine x_iast (h2 := (hA g0 g1 g2 g3 g4 g5 g6 g7 g8 g9 g10 g11 g12 g13 g14 g15 g16 g17 g18 g19 g20 g21 g22 g23 g24 g25 g26 g27 g28 g29 g30 g31 g32 g33 g34 g35 g36 a0 a1 a2 a3 a4 a5 a6 a7 a8 a9 a10 a11 a12 a13 a14 a15 a16 a17 a18 a19 a20 a21 a22 a23 a24 a25 a26 a27 a28 a29 a30 a31 (upd ma32_7 l2_7.toNatClampNeg (a18 l2_7.toNatClampNeg)) ma33_7 a34 a35 a36 a37 a38 a39 b0 b1 b2 b3 b4 w0 (.ref 1) (.ref 19))) dX3_begin_36 rfl q36 rfl ?_
        refine x_aload_n dX3_begin_37 rfl ?_
        refine x_get fX3_15 dX3_begin_38 rfl rfl rfl ?_
        refine x_iload_n dX3_begin_41 rfl ?_
        refine x_bipush (-2 : Int32) dX3_begin_42 (by decide) ?_
        obtain ⟨q44, h⟩ := xix_of h
        refine x_iast (h2 := (hA g0 g1 g2 g3 g4 g5 g6 g7 g8 g9 g10 g11 g12 g13 g14 g15 g16 g17 g18 g19 g20 g21 g22 g23 g24 g25 g26 g27 g28 g29 g30 g31 g32 g33 g34 g35 g36 a0 a1 a2 a3 a4 a5 a6 a7 a8 a9 a10 a11 a12 a13 a14 a15 a16 a17 a18 a19 a20 a21 a22 a23 a24 a25 a26 a27 a28 a29 a30 a31 (upd ma32_7 l2_7.toNatClampNeg (a18 l2_7.toNatClampNeg)) (upd ma33_7 l2_7.toNatClampNeg (-2 : Int32)) a34 a35 a36 a37 a38 a39 b0 b1 b2 b3 b4 w0 (.ref 1) (.ref 19))) dX3_begin_44 rfl q44 rfl ?_
        refine x_iload_n dX3_begin_45 rfl ?_
        refine x_aload_n dX3_begin_46 rfl ?_
        refine x_get fX3_22 dX3_begin_47 rfl rfl rfl ?_
        refine x_icmp_ge 69 dX3_begin_50 (by decide) (fun q => ?_) (fun q => ?_)
        · have h := xif_t q h
          refine x_iincK (1 : Int32) (pl' := [some (.ref 46), some (.ref 19), some (.int (l2_7 + (1 : Int32)))]) dX3_begin_69 rfl (by decide) (by decide) rfl ?_
          refine x_goto 7 dX3_begin_72 (by decide) ?_
          refine x_weak (pl2 := [some (.ref 46), some (.ref 19), some (.int (l2_7 + (1 : Int32)))]) ⟨rfl, rfl, rfl, trivial⟩ ?_
          exact ih7 (l2_7 + (1 : Int32)) (upd ma32_7 l2_7.toNatClampNeg (a18 l2_7.toNatClampNeg)) (upd ma33_7 l2_7.toNatClampNeg (-2 : Int32)) h
        · have h := xif_f q h
          refine x_aload_n dX3_begin_53 rfl ?_
          refine x_get fX3_30 dX3_begin_54 rfl rfl rfl ?_
          refine x_iload_n dX3_begin_57 rfl ?_
          obtain ⟨q58, h⟩ := xix_of h
          refine x_iald dX3_begin_58 rfl q58 ?_
          refine x_iconst (2 : Int32) dX3_begin_59 (by decide) ?_
          refine x_icmp_eq 69 dX3_begin_60 (by decide) (fun q => ?_) (fun q => ?_)
          · have h := xif_t q h
            refine x_iincK (1 : Int32) (pl' := [some (.ref 46), some (.ref 19), some (.int (l2_7 + (1 : Int32)))]) dX3_begin_69 rfl (by decide) (by decide) rfl ?_
            refine x_goto 7 dX3_begin_72 (by decide) ?_
            refine x_weak (pl2 := [some (.ref 46), some (.ref 19), some (.int (l2_7 + (1 : Int32)))]) ⟨rfl, rfl, rfl, trivial⟩ ?_
            exact ih7 (l2_7 + (1 : Int32)) (upd ma32_7 l2_7.toNatClampNeg (a18 l2_7.toNatClampNeg)) (upd ma33_7 l2_7.toNatClampNeg (-2 : Int32)) h
          · have h := xif_f q h
            refine x_aload_n dX3_begin_63 rfl ?_
            refine x_aload_n dX3_begin_64 rfl ?_
            refine x_iload_n dX3_begin_65 rfl ?_
            obtain ⟨z66, y66, h⟩ := xbind h
            refine x_callV (t_hA_X3_takeTitle_2 l2_7 z66 y66 (d + 0)) kX3_33 dX3_begin_66 rfl rfl rfl rfl rfl (Nat.le_of_ble_eq_true rfl) (Nat.le_of_ble_eq_true rfl) rfl rfl (Or.inl rfl) ?_
            refine x_iincK (1 : Int32) (pl' := [some (.ref 46), some (.ref 19), some (.int (l2_7 + (1 : Int32)))]) dX3_begin_69 rfl (by decide) (by decide) rfl ?_
            refine x_goto 7 dX3_begin_72 (by decide) ?_
            refine x_weak (pl2 := [some (.ref 46), some (.ref 19), some (.int (l2_7 + (1 : Int32)))]) ⟨rfl, rfl, rfl, trivial⟩ ?_
            exact ih7 (l2_7 + (1 : Int32)) (upd ma32_7 l2_7.toNatClampNeg (a18 l2_7.toNatClampNeg)) z66 h
set_option maxRecDepth 100000 in
set_option maxHeartbeats 4000000 in
theorem t_hA_X3_begin_2 {g0 g1 g2 g3 g4 g5 g6 g7 g8 g9 g10 g11 g12 g13 g14 g15 g16 g17 g18 g19 g20 g21 g22 g23 g24 g25 g26 g27 g28 g29 g30 g31 g32 g33 g34 g35 g36 : Int32} {a0 a1 a2 a3 a4 a5 a6 a7 a8 a9 a10 a11 a12 a13 a14 a15 a16 a17 a18 a19 a20 a21 a22 a23 a24 a25 a26 a27 a28 a29 a30 a31 a32 a33 a34 a35 a36 a37 a38 a39 : (Nat → Int32)} {b0 b1 b2 b3 b4 : (Nat → Int64)} {w0 : Int64}  (res : Int32 × (Nat → Int32) × (Nat → Int32)) (h : e_hA_X3_begin_2 g24 g11 a32 a33 a15 a14 a18  = some res) (d : Nat) : xMet xks YX3_begin (d + 2) 0 0 [.ref 46, .ref 19] (hA g0 g1 g2 g3 g4 g5 g6 g7 g8 g9 g10 g11 g12 g13 g14 g15 g16 g17 g18 g19 g20 g21 g22 g23 g24 g25 g26 g27 g28 g29 g30 g31 g32 g33 g34 g35 g36 a0 a1 a2 a3 a4 a5 a6 a7 a8 a9 a10 a11 a12 a13 a14 a15 a16 a17 a18 a19 a20 a21 a22 a23 a24 a25 a26 a27 a28 a29 a30 a31 a32 a33 a34 a35 a36 a37 a38 a39 b0 b1 b2 b3 b4 w0 (.ref 1) (.ref 19)) none (hA g0 g1 g2 g3 g4 g5 g6 g7 g8 g9 g10 g11 g12 g13 g14 g15 g16 g17 g18 g19 g20 g21 g22 g23 res.1 g25 g26 g27 g28 g29 g30 g31 g32 g33 g34 g35 g36 a0 a1 a2 a3 a4 a5 a6 a7 a8 a9 a10 a11 a12 a13 a14 a15 a16 a17 a18 a19 a20 a21 a22 a23 a24 a25 a26 a27 a28 a29 a30 a31 res.2.1 res.2.2 a34 a35 a36 a37 a38 a39 b0 b1 b2 b3 b4 w0 (.ref 1) (.ref 19)) := by
  unfold e_hA_X3_begin_2 at h
  refine xMet_of (pl := [some (.ref 46), some (.ref 19), none]) (by decide) (Nat.le_of_ble_eq_true rfl) rfl (Nat.le_of_ble_eq_true rfl) ?_
  refine x_aload_n dX3_begin_0 rfl ?_
  refine x_iconst (0 : Int32) dX3_begin_1 (by decide) ?_
  refine x_put (h2 := (hA g0 g1 g2 g3 g4 g5 g6 g7 g8 g9 g10 g11 g12 g13 g14 g15 g16 g17 g18 g19 g20 g21 g22 g23 (0 : Int32) g25 g26 g27 g28 g29 g30 g31 g32 g33 g34 g35 g36 a0 a1 a2 a3 a4 a5 a6 a7 a8 a9 a10 a11 a12 a13 a14 a15 a16 a17 a18 a19 a20 a21 a22 a23 a24 a25 a26 a27 a28 a29 a30 a31 a32 a33 a34 a35 a36 a37 a38 a39 b0 b1 b2 b3 b4 w0 (.ref 1) (.ref 19))) fX3_18 dX3_begin_2 rfl rfl (Nat.le_of_ble_eq_true rfl : 2 + 1 ≤ _) (fun α => ⟨rfl, rfl⟩) rfl ?_
  refine x_iconst (0 : Int32) dX3_begin_5 (by decide) ?_
  refine x_istore_n (pl' := [some (.ref 46), some (.ref 19), some (.int (0 : Int32))]) dX3_begin_6 (by decide) rfl ?_
  refine x_weak (pl2 := [some (.ref 46), some (.ref 19), some (.int (0 : Int32))]) ⟨rfl, rfl, rfl, trivial⟩ ?_
  refine lp_hA_X3_begin_2_7 d _  res _ (fun l2_7 ma32_7 ma33_7 h => ?_) 200000 (0 : Int32) a32 a33 h
  cases h
  exact x_vret2 dX3_begin_75 rfl rfl
noncomputable def L_hA_X3_packed_8 (p0 : Int32) (p1 : (Nat → Int32)) (p2 : (Nat → Int32))   (K : Int64 → Int32 → Option (Int64)) : Nat → Int64 → Int32 → Option (Int64)
  | 0, _, _ => none
  | n8 + 1, l1_8, l3_8 => if (5 : Int32) ≤ l3_8 then K l1_8 l3_8 else (xix l3_8 5 (xix l3_8 5 (L_hA_X3_packed_8 p0 p1 p2  K n8 (((l1_8 <<< ((6 : Int32).toInt64 &&& 63)) ||| (((p1 l3_8.toNatClampNeg) - (-2 : Int32)) <<< ((3 : Int32) &&& 31)).toInt64) ||| ((p2 l3_8.toNatClampNeg) - (-2 : Int32)).toInt64) (l3_8 + (1 : Int32)))))
noncomputable def e_hA_X3_packed (p0 : Int32) (p1 : (Nat → Int32)) (p2 : (Nat → Int32))  : Option (Int64) :=
  L_hA_X3_packed_8 p0 p1 p2  (fun l1_8 l3_8 => some l1_8) 200000 p0.toInt64 (0 : Int32)
set_option maxRecDepth 100000 in
set_option maxHeartbeats 4000000 in
theorem lp_hA_X3_packed_8 {g0 g1 g2 g3 g4 g5 g6 g7 g8 g9 g10 g11 g12 g13 g14 g15 g16 g17 g18 g19 g20 g21 g22 g23 g24 g25 g26 g27 g28 g29 g30 g31 g32 g33 g34 g35 g36 : Int32} {a0 a1 a2 a3 a4 a5 a6 a7 a8 a9 a10 a11 a12 a13 a14 a15 a16 a17 a18 a19 a20 a21 a22 a23 a24 a25 a26 a27 a28 a29 a30 a31 a32 a33 a34 a35 a36 a37 a38 a39 : (Nat → Int32)} {b0 b1 b2 b3 b4 : (Nat → Int64)} {w0 : Int64} (d n0 : Nat)  (res : Int64) (K : Int64 → Int32 → Option (Int64)) (hK : ∀ (l1_8 : Int64) (l3_8 : Int32), K l1_8 l3_8 = some res → xW xks YX3_packed (d + 1) 0 0 n0 (xZ 0 0 n0 (some (.long res)) (hA g0 g1 g2 g3 g4 g5 g6 g7 g8 g9 g10 g11 g12 g13 g14 g15 g16 g17 g18 g19 g20 g21 g22 g23 g24 g25 g26 g27 g28 g29 g30 g31 g32 g33 g34 g35 g36 a0 a1 a2 a3 a4 a5 a6 a7 a8 a9 a10 a11 a12 a13 a14 a15 a16 a17 a18 a19 a20 a21 a22 a23 a24 a25 a26 a27 a28 a29 a30 a31 a32 a33 a34 a35 a36 a37 a38 a39 b0 b1 b2 b3 b4 w0 (.ref 1) (.ref 19))) 0 0 48 [none, some (.long l1_8), none, none] [] (hA g0 g1 g2 g3 g4 g5 g6 g7 g8 g9 g10 g11 g12 g13 g14 g15 g16 g17 g18 g19 g20 g21 g22 g23 g24 g25 g26 g27 g28 g29 g30 g31 g32 g33 g34 g35 g36 a0 a1 a2 a3 a4 a5 a6 a7 a8 a9 a10 a11 a12 a13 a14 a15 a16 a17 a18 a19 a20 a21 a22 a23 a24 a25 a26 a27 a28 a29 a30 a31 a32 a33 a34 a35 a36 a37 a38 a39 b0 b1 b2 b3 b4 w0 (.ref 1) (.ref 19))) : ∀ (n : Nat) (l1_8 : Int64) (l3_8 : Int32), L_hA_X3_packed_8 g24 a32 a33  K n l1_8 l3_8 = some res → xW xks YX3_packed (d + 1) 0 0 n0 (xZ 0 0 n0 (some (.long res)) (hA g0 g1 g2 g3 g4 g5 g6 g7 g8 g9 g10 g11 g12 g13 g14 g15 g16 g17 g18 g19 g20 g21 g22 g23 g24 g25 g26 g27 g28 g29 g30 g31 g32 g33 g34 g35 g36 a0 a1 a2 a3 a4 a5 a6 a7 a8 a9 a10 a11 a12 a13 a14 a15 a16 a17 a18 a19 a20 a21 a22 a23 a24 a25 a26 a27 a28 a29 a30 a31 a32 a33 a34 a35 a36 a37 a38 a39 b0 b1 b2 b3 b4 w0 (.ref 1) (.ref 19))) 0 0 8 [some (.ref 46), some (.long l1_8), none, some (.int l3_8)] [] (hA g0 g1 g2 g3 g4 g5 g6 g7 g8 g9 g10 g11 g12 g13 g14 g15 g16 g17 g18 g19 g20 g21 g22 g23 g24 g25 g26 g27 g28 g29 g30 g31 g32 g33 g34 g35 g36 a0 a1 a2 a3 a4 a5 a6 a7 a8 a9 a10 a11 a12 a13 a14 a15 a16 a17 a18 a19 a20 a21 a22 a23 a24 a25 a26 a27 a28 a29 a30 a31 a32 a33 a34 a35 a36 a37 a38 a39 b0 b1 b2 b3 b4 w0 (.ref 1) (.ref 19)) := by
  intro n
  induction n with
  | zero =>
    intro l1_8 l3_8 h
    cases (show (none : Option (Int64)) = some res from h)
  | succ n8 ih8 =>
    intro l1_8 l3_8 h
    unfold L_hA_X3_packed_8 at h
    refine x_iload_n dX3_packed_8 rfl ?_
    refine x_iconst (5 : Int32) dX3_packed_9 (by decide) ?_
    refine x_icmp_ge 48 dX3_packed_10 (by decide) (fun q => ?_) (fun q => ?_)
    · have h := xif_t q h
      refine x_weak (pl2 := [none, some (.long l1_8), none, none]) ⟨rfl, trivial⟩ ?_
      exact hK l1_8 l3_8 h
    · have h := xif_f q h
      refine x_lload_n dX3_packed_13 rfl ?_
      refine x_bipush (6 : Int32) dX3_packed_14 (by decide) ?_
      refine x_lshl dX3_packed_16 ?_
      refine x_aload_n dX3_packed_17 rfl ?_
      refine x_get fX3_9 dX3_packed_18 rfl rfl rfl ?_
      refine x_iload_n dX3_packed_21 rfl ?_
      obtain ⟨q22, h⟩ := xix_of h
      refine x_iald dX3_packed_22 rfl q22 ?_
      refine x_bipush (-2 : Int32) dX3_packed_23 (by decide) ?_
      refine x_isub dX3_packed_25 ?_
      refine x_iconst (3 : Int32) dX3_packed_26 (by decide) ?_
      refine x_ishl dX3_packed_27 ?_
      refine x_i2l dX3_packed_28 ?_
      refine x_lor dX3_packed_29 ?_
      refine x_aload_n dX3_packed_30 rfl ?_
      refine x_get fX3_15 dX3_packed_31 rfl rfl rfl ?_
      refine x_iload_n dX3_packed_34 rfl ?_
      obtain ⟨q35, h⟩ := xix_of h
      refine x_iald dX3_packed_35 rfl q35 ?_
      refine x_bipush (-2 : Int32) dX3_packed_36 (by decide) ?_
      refine x_isub dX3_packed_38 ?_
      refine x_i2l dX3_packed_39 ?_
      refine x_lor dX3_packed_40 ?_
      refine x_lstore_n (pl' := [some (.ref 46), some (.long (((l1_8 <<< ((6 : Int32).toInt64 &&& 63)) ||| (((a32 l3_8.toNatClampNeg) - (-2 : Int32)) <<< ((3 : Int32) &&& 31)).toInt64) ||| ((a33 l3_8.toNatClampNeg) - (-2 : Int32)).toInt64)), none, some (.int l3_8)]) dX3_packed_41 (by decide) rfl ?_
      refine x_iincK (1 : Int32) (pl' := [some (.ref 46), some (.long (((l1_8 <<< ((6 : Int32).toInt64 &&& 63)) ||| (((a32 l3_8.toNatClampNeg) - (-2 : Int32)) <<< ((3 : Int32) &&& 31)).toInt64) ||| ((a33 l3_8.toNatClampNeg) - (-2 : Int32)).toInt64)), none, some (.int (l3_8 + (1 : Int32)))]) dX3_packed_42 rfl (by decide) (by decide) rfl ?_
      refine x_goto 8 dX3_packed_45 (by decide) ?_
      refine x_weak (pl2 := [some (.ref 46), some (.long (((l1_8 <<< ((6 : Int32).toInt64 &&& 63)) ||| (((a32 l3_8.toNatClampNeg) - (-2 : Int32)) <<< ((3 : Int32) &&& 31)).toInt64) ||| ((a33 l3_8.toNatClampNeg) - (-2 : Int32)).toInt64)), none, some (.int (l3_8 + (1 : Int32)))]) ⟨rfl, rfl, rfl, trivial⟩ ?_
      exact ih8 (((l1_8 <<< ((6 : Int32).toInt64 &&& 63)) ||| (((a32 l3_8.toNatClampNeg) - (-2 : Int32)) <<< ((3 : Int32) &&& 31)).toInt64) ||| ((a33 l3_8.toNatClampNeg) - (-2 : Int32)).toInt64) (l3_8 + (1 : Int32)) h
set_option maxRecDepth 100000 in
set_option maxHeartbeats 4000000 in
theorem t_hA_X3_packed {g0 g1 g2 g3 g4 g5 g6 g7 g8 g9 g10 g11 g12 g13 g14 g15 g16 g17 g18 g19 g20 g21 g22 g23 g24 g25 g26 g27 g28 g29 g30 g31 g32 g33 g34 g35 g36 : Int32} {a0 a1 a2 a3 a4 a5 a6 a7 a8 a9 a10 a11 a12 a13 a14 a15 a16 a17 a18 a19 a20 a21 a22 a23 a24 a25 a26 a27 a28 a29 a30 a31 a32 a33 a34 a35 a36 a37 a38 a39 : (Nat → Int32)} {b0 b1 b2 b3 b4 : (Nat → Int64)} {w0 : Int64}  (res : Int64) (h : e_hA_X3_packed g24 a32 a33  = some res) (d : Nat) : xMet xks YX3_packed (d + 1) 0 0 [.ref 46] (hA g0 g1 g2 g3 g4 g5 g6 g7 g8 g9 g10 g11 g12 g13 g14 g15 g16 g17 g18 g19 g20 g21 g22 g23 g24 g25 g26 g27 g28 g29 g30 g31 g32 g33 g34 g35 g36 a0 a1 a2 a3 a4 a5 a6 a7 a8 a9 a10 a11 a12 a13 a14 a15 a16 a17 a18 a19 a20 a21 a22 a23 a24 a25 a26 a27 a28 a29 a30 a31 a32 a33 a34 a35 a36 a37 a38 a39 b0 b1 b2 b3 b4 w0 (.ref 1) (.ref 19)) (some (.long res)) (hA g0 g1 g2 g3 g4 g5 g6 g7 g8 g9 g10 g11 g12 g13 g14 g15 g16 g17 g18 g19 g20 g21 g22 g23 g24 g25 g26 g27 g28 g29 g30 g31 g32 g33 g34 g35 g36 a0 a1 a2 a3 a4 a5 a6 a7 a8 a9 a10 a11 a12 a13 a14 a15 a16 a17 a18 a19 a20 a21 a22 a23 a24 a25 a26 a27 a28 a29 a30 a31 a32 a33 a34 a35 a36 a37 a38 a39 b0 b1 b2 b3 b4 w0 (.ref 1) (.ref 19)) := by
  unfold e_hA_X3_packed at h
  refine xMet_of (pl := [some (.ref 46), none, none, none]) (by decide) (Nat.le_of_ble_eq_true rfl) rfl (Nat.le_of_ble_eq_true rfl) ?_
  refine x_aload_n dX3_packed_0 rfl ?_
  refine x_get fX3_18 dX3_packed_1 rfl rfl rfl ?_
  refine x_i2l dX3_packed_4 ?_
  refine x_lstore_n (pl' := [some (.ref 46), some (.long g24.toInt64), none, none]) dX3_packed_5 (by decide) rfl ?_
  refine x_iconst (0 : Int32) dX3_packed_6 (by decide) ?_
  refine x_istore_n (pl' := [some (.ref 46), some (.long g24.toInt64), none, some (.int (0 : Int32))]) dX3_packed_7 (by decide) rfl ?_
  refine x_weak (pl2 := [some (.ref 46), some (.long g24.toInt64), none, some (.int (0 : Int32))]) ⟨rfl, rfl, rfl, trivial⟩ ?_
  refine lp_hA_X3_packed_8 d _  res _ (fun l1_8 l3_8 h => ?_) 200000 g24.toInt64 (0 : Int32) h
  refine x_lload_n dX3_packed_48 rfl ?_
  cases h
  exact x_lret2 dX3_packed_49 rfl rfl
