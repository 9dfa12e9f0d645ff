set_option maxRecDepth 100000 in
set_option maxHeartbeats 4000000 in
theorem lp_hP_X9_packed_17_4 {g0 g1 g2 g3 g4 g5 g6 g7 g8 g9 g10 g11 g12 g13 g14 g15 g16 g17 g18 g19 g20 g21 g22 g23 g24 g25 g26 : Int32} {a0 a1 a2 a3 a4 a5 a6 a7 a8 a9 a10 a11 a12 a13 a14 a15 a16 a17 a18 a19 a20 a21 a22 a23 : (Nat → Int32)} {b0 : (Nat → Int64)} {w0 : Int64} {k0 k1 k2 k3 k4 k5 k6 k7 k8 k9 k10 k11 k12 k13 k14 k15 : xC} {cv : Value} (d n0 : Nat)  (res : Int64) (K : Int64 → Int32 → Option (Int64)) (hK : ∀ (l1_4 : Int64) (l3_4 : Int32), K l1_4 l3_4 = some res → xW xks YX9_packed (d + 5) 0 0 n0 (xZ 0 0 n0 (some (.long res)) (hP g0 g1 g2 g3 g4 g5 g6 g7 g8 g9 g10 g11 g12 g13 g14 g15 g16 g17 g18 g19 g20 g21 g22 g23 g24 g25 g26 a0 a1 a2 a3 a4 a5 a6 a7 a8 a9 a10 a11 a12 a13 a14 a15 a16 a17 a18 a19 a20 a21 a22 a23 b0 w0 k0 k1 k2 k3 k4 k5 k6 k7 k8 k9 k10 k11 k12 k13 k14 k15 cv (.ref 27))) 0 0 36 [none, some (.long l1_4), none, none] [] (hP g0 g1 g2 g3 g4 g5 g6 g7 g8 g9 g10 g11 g12 g13 g14 g15 g16 g17 g18 g19 g20 g21 g22 g23 g24 g25 g26 a0 a1 a2 a3 a4 a5 a6 a7 a8 a9 a10 a11 a12 a13 a14 a15 a16 a17 a18 a19 a20 a21 a22 a23 b0 w0 k0 k1 k2 k3 k4 k5 k6 k7 k8 k9 k10 k11 k12 k13 k14 k15 cv (.ref 27))) : ∀ (n : Nat) (l1_4 : Int64) (l3_4 : Int32), L_hP_X9_packed_4 (xsy 22)  K n l1_4 l3_4 = some res → xW xks YX9_packed (d + 5) 0 0 n0 (xZ 0 0 n0 (some (.long res)) (hP g0 g1 g2 g3 g4 g5 g6 g7 g8 g9 g10 g11 g12 g13 g14 g15 g16 g17 g18 g19 g20 g21 g22 g23 g24 g25 g26 a0 a1 a2 a3 a4 a5 a6 a7 a8 a9 a10 a11 a12 a13 a14 a15 a16 a17 a18 a19 a20 a21 a22 a23 b0 w0 k0 k1 k2 k3 k4 k5 k6 k7 k8 k9 k10 k11 k12 k13 k14 k15 cv (.ref 27))) 0 0 4 [some (.ref 1022), some (.long l1_4), none, some (.int l3_4)] [] (hP g0 g1 g2 g3 g4 g5 g6 g7 g8 g9 g10 g11 g12 g13 g14 g15 g16 g17 g18 g19 g20 g21 g22 g23 g24 g25 g26 a0 a1 a2 a3 a4 a5 a6 a7 a8 a9 a10 a11 a12 a13 a14 a15 a16 a17 a18 a19 a20 a21 a22 a23 b0 w0 k0 k1 k2 k3 k4 k5 k6 k7 k8 k9 k10 k11 k12 k13 k14 k15 cv (.ref 27)) := by
  intro n
  induction n with
  | zero =>
    intro l1_4 l3_4 h
    cases (show (none : Option (Int64)) = some res from h)
  | succ n4 ih4 =>
    intro l1_4 l3_4 h
    unfold L_hP_X9_packed_4 at h
    refine x_iload_n dX9_packed_4 rfl ?_
    refine x_aload_n dX9_packed_5 rfl ?_
    refine x_slen (k := 22) (s := xsy 22) rfl rfl (Nat.le_of_ble_eq_true rfl) kX9_65 dX9_packed_6 (Nat.le_of_ble_eq_true rfl) ?_
    refine x_icmp_ge 36 dX9_packed_9 (by decide) (fun q => ?_) (fun q => ?_)
    · have h := xif_t q h
      refine x_weak (pl2 := [none, some (.long l1_4), none, none]) ⟨rfl, trivial⟩ ?_
      exact hK l1_4 l3_4 h
    · have h := xif_f q h
      refine x_ldc2 iX9_71 dX9_packed_12 ?_
      refine x_lload_n dX9_packed_15 rfl ?_
      refine x_lmul dX9_packed_16 ?_
      refine x_aload_n dX9_packed_17 rfl ?_
      refine x_iload_n dX9_packed_18 rfl ?_
      obtain ⟨q19, h⟩ := xix_of h
      refine x_schar (k := 22) (s := xsy 22) rfl rfl q19 (Nat.le_of_ble_eq_true rfl) kX9_73 dX9_packed_19 (Nat.le_of_ble_eq_true rfl) ?_
      refine x_bipush (97 : Int32) dX9_packed_22 (by decide) ?_
      refine x_isub dX9_packed_24 ?_
      refine x_iconst (1 : Int32) dX9_packed_25 (by decide) ?_
      refine x_iadd dX9_packed_26 ?_
      refine x_i2l dX9_packed_27 ?_
      refine x_ladd dX9_packed_28 ?_
      refine x_lstore_n (pl' := [some (.ref 1022), some (.long (((32 : Int64) * l1_4) + (((xch (xsy 22) l3_4) - (97 : Int32)) + (1 : Int32)).toInt64)), none, some (.int l3_4)]) dX9_packed_29 (by decide) rfl ?_
      refine x_iincK (1 : Int32) (pl' := [some (.ref 1022), some (.long (((32 : Int64) * l1_4) + (((xch (xsy 22) l3_4) - (97 : Int32)) + (1 : Int32)).toInt64)), none, some (.int (l3_4 + (1 : Int32)))]) dX9_packed_30 rfl (by decide) (by decide) rfl ?_
      refine x_goto 4 dX9_packed_33 (by decide) ?_
      refine x_weak (pl2 := [some (.ref 1022), some (.long (((32 : Int64) * l1_4) + (((xch (xsy 22) l3_4) - (97 : Int32)) + (1 : Int32)).toInt64)), none, some (.int (l3_4 + (1 : Int32)))]) ⟨rfl, rfl, rfl, trivial⟩ ?_
      exact ih4 (((32 : Int64) * l1_4) + (((xch (xsy 22) l3_4) - (97 : Int32)) + (1 : Int32)).toInt64) (l3_4 + (1 : Int32)) h
set_option maxRecDepth 100000 in
set_option maxHeartbeats 4000000 in
theorem t_hP_X9_packed_17 {g0 g1 g2 g3 g4 g5 g6 g7 g8 g9 g10 g11 g12 g13 g14 g15 g16 g17 g18 g19 g20 g21 g22 g23 g24 g25 g26 : Int32} {a0 a1 a2 a3 a4 a5 a6 a7 a8 a9 a10 a11 a12 a13 a14 a15 a16 a17 a18 a19 a20 a21 a22 a23 : (Nat → Int32)} {b0 : (Nat → Int64)} {w0 : Int64} {k0 k1 k2 k3 k4 k5 k6 k7 k8 k9 k10 k11 k12 k13 k14 k15 : xC} {cv : Value}  (res : Int64) (h : e_hP_X9_packed (xsy 22)  = some res) (d : Nat) : xMet xks YX9_packed (d + 5) 0 0 [.ref 1022] (hP g0 g1 g2 g3 g4 g5 g6 g7 g8 g9 g10 g11 g12 g13 g14 g15 g16 g17 g18 g19 g20 g21 g22 g23 g24 g25 g26 a0 a1 a2 a3 a4 a5 a6 a7 a8 a9 a10 a11 a12 a13 a14 a15 a16 a17 a18 a19 a20 a21 a22 a23 b0 w0 k0 k1 k2 k3 k4 k5 k6 k7 k8 k9 k10 k11 k12 k13 k14 k15 cv (.ref 27)) (some (.long res)) (hP g0 g1 g2 g3 g4 g5 g6 g7 g8 g9 g10 g11 g12 g13 g14 g15 g16 g17 g18 g19 g20 g21 g22 g23 g24 g25 g26 a0 a1 a2 a3 a4 a5 a6 a7 a8 a9 a10 a11 a12 a13 a14 a15 a16 a17 a18 a19 a20 a21 a22 a23 b0 w0 k0 k1 k2 k3 k4 k5 k6 k7 k8 k9 k10 k11 k12 k13 k14 k15 cv (.ref 27)) := by
  unfold e_hP_X9_packed at h
  refine xMet_of (pl := [some (.ref 1022), none, none, none]) (by decide) (Nat.le_of_ble_eq_true rfl) rfl (Nat.le_of_ble_eq_true rfl) ?_
  refine x_lconst (0 : Int64) dX9_packed_0 (by decide) ?_
  refine x_lstore_n (pl' := [some (.ref 1022), some (.long (0 : Int64)), none, none]) dX9_packed_1 (by decide) rfl ?_
  refine x_iconst (0 : Int32) dX9_packed_2 (by decide) ?_
  refine x_istore_n (pl' := [some (.ref 1022), some (.long (0 : Int64)), none, some (.int (0 : Int32))]) dX9_packed_3 (by decide) rfl ?_
  refine x_weak (pl2 := [some (.ref 1022), some (.long (0 : Int64)), none, some (.int (0 : Int32))]) ⟨rfl, rfl, rfl, trivial⟩ ?_
  refine lp_hP_X9_packed_17_4 d _  res _ (fun l1_4 l3_4 h => ?_) 200000 (0 : Int64) (0 : Int32) h
  refine x_lload_n dX9_packed_36 rfl ?_
  cases h
  exact x_lret2 dX9_packed_37 rfl rfl
set_option maxRecDepth 100000 in
set_option maxHeartbeats 4000000 in
theorem t_hP_X9_isWord_17 {g0 g1 g2 g3 g4 g5 g6 g7 g8 g9 g10 g11 g12 g13 g14 g15 g16 g17 g18 g19 g20 g21 g22 g23 g24 g25 g26 : Int32} {a0 a1 a2 a3 a4 a5 a6 a7 a8 a9 a10 a11 a12 a13 a14 a15 a16 a17 a18 a19 a20 a21 a22 a23 : (Nat → Int32)} {b0 : (Nat → Int64)} {w0 : Int64} {k0 k1 k2 k3 k4 k5 k6 k7 k8 k9 k10 k11 k12 k13 k14 k15 : xC} {cv : Value}  (res : Int32) (h : e_hP_X9_isWord g6 w0 (xsy 22)  = some res) (d : Nat) : xMet xks YX9_isWord (d + 6) 0 0 [.ref 0, .ref 1022] (hP g0 g1 g2 g3 g4 g5 g6 g7 g8 g9 g10 g11 g12 g13 g14 g15 g16 g17 g18 g19 g20 g21 g22 g23 g24 g25 g26 a0 a1 a2 a3 a4 a5 a6 a7 a8 a9 a10 a11 a12 a13 a14 a15 a16 a17 a18 a19 a20 a21 a22 a23 b0 w0 k0 k1 k2 k3 k4 k5 k6 k7 k8 k9 k10 k11 k12 k13 k14 k15 cv (.ref 27)) (some (.int res)) (hP g0 g1 g2 g3 g4 g5 g6 g7 g8 g9 g10 g11 g12 g13 g14 g15 g16 g17 g18 g19 g20 g21 g22 g23 g24 g25 g26 a0 a1 a2 a3 a4 a5 a6 a7 a8 a9 a10 a11 a12 a13 a14 a15 a16 a17 a18 a19 a20 a21 a22 a23 b0 w0 k0 k1 k2 k3 k4 k5 k6 k7 k8 k9 k10 k11 k12 k13 k14 k15 cv (.ref 27)) := by
  unfold e_hP_X9_isWord at h
  refine xMet_of (pl := [some (.ref 0), some (.ref 1022)]) (by decide) (Nat.le_of_ble_eq_true rfl) rfl (Nat.le_of_ble_eq_true rfl) ?_
  refine x_aload_n dX9_isWord_0 rfl ?_
  refine x_get fX9_77 dX9_isWord_1 rfl rfl rfl ?_
  refine x_iconst (2 : Int32) dX9_isWord_4 (by decide) ?_
  refine x_icmp_ne 24 dX9_isWord_5 (by decide) (fun q => ?_) (fun q => ?_)
  · have h := xif_f q h
    refine x_iconst (0 : Int32) dX9_isWord_24 (by decide) ?_
    cases h
    exact x_zret2 dX9_isWord_25 rfl rfl rfl
  · have h := xif_t q h
    refine x_aload_n dX9_isWord_8 rfl ?_
    refine x_get fX9_93 dX9_isWord_9 rfl rfl rfl ?_
    refine x_aload_n dX9_isWord_12 rfl ?_
    obtain ⟨z13, y13, h⟩ := xbind h
    refine x_callS (t_hP_X9_packed_17  z13 y13 (d + 0)) kX9_109 dX9_isWord_13 rfl rfl (Nat.le_of_ble_eq_true rfl) (Nat.le_of_ble_eq_true rfl) rfl rfl (Or.inl rfl) ?_
    refine x_lcmp dX9_isWord_16 ?_
    refine x_if_ne 24 dX9_isWord_17 (by decide) (fun q => ?_) (fun q => ?_)
    · have h := xif_f q h
      refine x_iconst (0 : Int32) dX9_isWord_24 (by decide) ?_
      cases h
      exact x_zret2 dX9_isWord_25 rfl rfl rfl
    · have h := xif_t q h
      refine x_iconst (1 : Int32) dX9_isWord_20 (by decide) ?_
      refine x_goto 25 dX9_isWord_21 (by decide) ?_
      cases h
      exact x_zret2 dX9_isWord_25 rfl rfl rfl
set_option maxRecDepth 100000 in
set_option maxHeartbeats 4000000 in
theorem lp_hP_X9_packed_18_4 {g0 g1 g2 g3 g4 g5 g6 g7 g8 g9 g10 g11 g12 g13 g14 g15 g16 g17 g18 g19 g20 g21 g22 g23 g24 g25 g26 : Int32} {a0 a1 a2 a3 a4 a5 a6 a7 a8 a9 a10 a11 a12 a13 a14 a15 a16 a17 a18 a19 a20 a21 a22 a23 : (Nat → Int32)} {b0 : (Nat → Int64)} {w0 : Int64} {k0 k1 k2 k3 k4 k5 k6 k7 k8 k9 k10 k11 k12 k13 k14 k15 : xC} {cv : Value} (d n0 : Nat)  (res : Int64) (K : Int64 → Int32 → Option (Int64)) (hK : ∀ (l1_4 : Int64) (l3_4 : Int32), K l1_4 l3_4 = some res → xW xks YX9_packed (d + 5) 0 0 n0 (xZ 0 0 n0 (some (.long res)) (hP g0 g1 g2 g3 g4 g5 g6 g7 g8 g9 g10 g11 g12 g13 g14 g15 g16 g17 g18 g19 g20 g21 g22 g23 g24 g25 g26 a0 a1 a2 a3 a4 a5 a6 a7 a8 a9 a10 a11 a12 a13 a14 a15 a16 a17 a18 a19 a20 a21 a22 a23 b0 w0 k0 k1 k2 k3 k4 k5 k6 k7 k8 k9 k10 k11 k12 k13 k14 k15 cv (.ref 27))) 0 0 36 [none, some (.long l1_4), none, none] [] (hP g0 g1 g2 g3 g4 g5 g6 g7 g8 g9 g10 g11 g12 g13 g14 g15 g16 g17 g18 g19 g20 g21 g22 g23 g24 g25 g26 a0 a1 a2 a3 a4 a5 a6 a7 a8 a9 a10 a11 a12 a13 a14 a15 a16 a17 a18 a19 a20 a21 a22 a23 b0 w0 k0 k1 k2 k3 k4 k5 k6 k7 k8 k9 k10 k11 k12 k13 k14 k15 cv (.ref 27))) : ∀ (n : Nat) (l1_4 : Int64) (l3_4 : Int32), L_hP_X9_packed_4 (xsy 23)  K n l1_4 l3_4 = some res → xW xks YX9_packed (d + 5) 0 0 n0 (xZ 0 0 n0 (some (.long res)) (hP g0 g1 g2 g3 g4 g5 g6 g7 g8 g9 g10 g11 g12 g13 g14 g15 g16 g17 g18 g19 g20 g21 g22 g23 g24 g25 g26 a0 a1 a2 a3 a4 a5 a6 a7 a8 a9 a10 a11 a12 a13 a14 a15 a16 a17 a18 a19 a20 a21 a22 a23 b0 w0 k0 k1 k2 k3 k4 k5 k6 k7 k8 k9 k10 k11 k12 k13 k14 k15 cv (.ref 27))) 0 0 4 [some (.ref 1023), some (.long l1_4), none, some (.int l3_4)] [] (hP g0 g1 g2 g3 g4 g5 g6 g7 g8 g9 g10 g11 g12 g13 g14 g15 g16 g17 g18 g19 g20 g21 g22 g23 g24 g25 g26 a0 a1 a2 a3 a4 a5 a6 a7 a8 a9 a10 a11 a12 a13 a14 a15 a16 a17 a18 a19 a20 a21 a22 a23 b0 w0 k0 k1 k2 k3 k4 k5 k6 k7 k8 k9 k10 k11 k12 k13 k14 k15 cv (.ref 27)) := by
  intro n
  induction n with
  | zero =>
    intro l1_4 l3_4 h
    cases (show (none : Option (Int64)) = some res from h)
  | succ n4 ih4 =>
    intro l1_4 l3_4 h
    unfold L_hP_X9_packed_4 at h
    refine x_iload_n dX9_packed_4 rfl ?_
    refine x_aload_n dX9_packed_5 rfl ?_
    refine x_slen (k := 23) (s := xsy 23) rfl rfl (Nat.le_of_ble_eq_true rfl) kX9_65 dX9_packed_6 (Nat.le_of_ble_eq_true rfl) ?_
    refine x_icmp_ge 36 dX9_packed_9 (by decide) (fun q => ?_) (fun q => ?_)
    · have h := xif_t q h
      refine x_weak (pl2 := [none, some (.long l1_4), none, none]) ⟨rfl, trivial⟩ ?_
      exact hK l1_4 l3_4 h
    · have h := xif_f q h
      refine x_ldc2 iX9_71 dX9_packed_12 ?_
      refine x_lload_n dX9_packed_15 rfl ?_
      refine x_lmul dX9_packed_16 ?_
      refine x_aload_n dX9_packed_17 rfl ?_
      refine x_iload_n dX9_packed_18 rfl ?_
      obtain ⟨q19, h⟩ := xix_of h
      refine x_schar (k := 23) (s := xsy 23) rfl rfl q19 (Nat.le_of_ble_eq_true rfl) kX9_73 dX9_packed_19 (Nat.le_of_ble_eq_true rfl) ?_
      refine x_bipush (97 : Int32) dX9_packed_22 (by decide) ?_
      refine x_isub dX9_packed_24 ?_
      refine x_iconst (1 : Int32) dX9_packed_25 (by decide) ?_
      refine x_iadd dX9_packed_26 ?_
      refine x_i2l dX9_packed_27 ?_
      refine x_ladd dX9_packed_28 ?_
      refine x_lstore_n (pl' := [some (.ref 1023), some (.long (((32 : Int64) * l1_4) + (((xch (xsy 23) l3_4) - (97 : Int32)) + (1 : Int32)).toInt64)), none, some (.int l3_4)]) dX9_packed_29 (by decide) rfl ?_
      refine x_iincK (1 : Int32) (pl' := [some (.ref 1023), some (.long (((32 : Int64) * l1_4) + (((xch (xsy 23) l3_4) - (97 : Int32)) + (1 : Int32)).toInt64)), none, some (.int (l3_4 + (1 : Int32)))]) dX9_packed_30 rfl (by decide) (by decide) rfl ?_
      refine x_goto 4 dX9_packed_33 (by decide) ?_
      refine x_weak (pl2 := [some (.ref 1023), some (.long (((32 : Int64) * l1_4) + (((xch (xsy 23) l3_4) - (97 : Int32)) + (1 : Int32)).toInt64)), none, some (.int (l3_4 + (1 : Int32)))]) ⟨rfl, rfl, rfl, trivial⟩ ?_
      exact ih4 (((32 : Int64) * l1_4) + (((xch (xsy 23) l3_4) - (97 : Int32)) + (1 : Int32)).toInt64) (l3_4 + (1 : Int32)) h
set_option maxRecDepth 100000 in
set_option maxHeartbeats 4000000 in
theorem t_hP_X9_packed_18 {g0 g1 g2 g3 g4 g5 g6 g7 g8 g9 g10 g11 g12 g13 g14 g15 g16 g17 g18 g19 g20 g21 g22 g23 g24 g25 g26 : Int32} {a0 a1 a2 a3 a4 a5 a6 a7 a8 a9 a10 a11 a12 a13 a14 a15 a16 a17 a18 a19 a20 a21 a22 a23 : (Nat → Int32)} {b0 : (Nat → Int64)} {w0 : Int64} {k0 k1 k2 k3 k4 k5 k6 k7 k8 k9 k10 k11 k12 k13 k14 k15 : xC} {cv : Value}  (res : Int64) (h : e_hP_X9_packed (xsy 23)  = some res) (d : Nat) : xMet xks YX9_packed (d + 5) 0 0 [.ref 1023] (hP g0 g1 g2 g3 g4 g5 g6 g7 g8 g9 g10 g11 g12 g13 g14 g15 g16 g17 g18 g19 g20 g21 g22 g23 g24 g25 g26 a0 a1 a2 a3 a4 a5 a6 a7 a8 a9 a10 a11 a12 a13 a14 a15 a16 a17 a18 a19 a20 a21 a22 a23 b0 w0 k0 k1 k2 k3 k4 k5 k6 k7 k8 k9 k10 k11 k12 k13 k14 k15 cv (.ref 27)) (some (.long res)) (hP g0 g1 g2 g3 g4 g5 g6 g7 g8 g9 g10 g11 g12 g13 g14 g15 g16 g17 g18 g19 g20 g21 g22 g23 g24 g25 g26 a0 a1 a2 a3 a4 a5 a6 a7 a8 a9 a10 a11 a12 a13 a14 a15 a16 a17 a18 a19 a20 a21 a22 a23 b0 w0 k0 k1 k2 k3 k4 k5 k6 k7 k8 k9 k10 k11 k12 k13 k14 k15 cv (.ref 27)) := by
  unfold e_hP_X9_packed at h
  refine xMet_of (pl := [some (.ref 1023), none, none, none]) (by decide) (Nat.le_of_ble_eq_true rfl) rfl (Nat.le_of_ble_eq_true rfl) ?_
  refine x_lconst (0 : Int64) dX9_packed_0 (by decide) ?_
  refine x_lstore_n (pl' := [some (.ref 1023), some (.long (0 : Int64)), none, none]) dX9_packed_1 (by decide) rfl ?_
  refine x_iconst (0 : Int32) dX9_packed_2 (by decide) ?_
  refine x_istore_n (pl' := [some (.ref 1023), some (.long (0 : Int64)), none, some (.int (0 : Int32))]) dX9_packed_3 (by decide) rfl ?_
  refine x_weak (pl2 := [some (.ref 1023), some (.long (0 : Int64)), none, some (.int (0 : Int32))]) ⟨rfl, rfl, rfl, trivial⟩ ?_
  refine lp_hP_X9_packed_18_4 d _  res _ (fun l1_4 l3_4 h => ?_) 200000 (0 : Int64) (0 : Int32) h
  refine x_lload_n dX9_packed_36 rfl ?_
  cases h
  exact x_lret2 dX9_packed_37 rfl rfl
set_option maxRecDepth 100000 in
set_option maxHeartbeats 4000000 in
theorem t_hP_X9_isWord_18 {g0 g1 g2 g3 g4 g5 g6 g7 g8 g9 g10 g11 g12 g13 g14 g15 g16 g17 g18 g19 g20 g21 g22 g23 g24 g25 g26 : Int32} {a0 a1 a2 a3 a4 a5 a6 a7 a8 a9 a10 a11 a12 a13 a14 a15 a16 a17 a18 a19 a20 a21 a22 a23 : (Nat → Int32)} {b0 : (Nat → Int64)} {w0 : Int64} {k0 k1 k2 k3 k4 k5 k6 k7 k8 k9 k10 k11 k12 k13 k14 k15 : xC} {cv : Value}  (res : Int32) (h : e_hP_X9_isWord g6 w0 (xsy 23)  = some res) (d : Nat) : xMet xks YX9_isWord (d + 6) 0 0 [.ref 0, .ref 1023] (hP g0 g1 g2 g3 g4 g5 g6 g7 g8 g9 g10 g11 g12 g13 g14 g15 g16 g17 g18 g19 g20 g21 g22 g23 g24 g25 g26 a0 a1 a2 a3 a4 a5 a6 a7 a8 a9 a10 a11 a12 a13 a14 a15 a16 a17 a18 a19 a20 a21 a22 a23 b0 w0 k0 k1 k2 k3 k4 k5 k6 k7 k8 k9 k10 k11 k12 k13 k14 k15 cv (.ref 27)) (some (.int res)) (hP g0 g1 g2 g3 g4 g5 g6 g7 g8 g9 g10 g11 g12 g13 g14 g15 g16 g17 g18 g19 g20 g21 g22 g23 g24 g25 g26 a0 a1 a2 a3 a4 a5 a6 a7 a8 a9 a10 a11 a12 a13 a14 a15 a16 a17 a18 a19 a20 a21 a22 a23 b0 w0 k0 k1 k2 k3 k4 k5 k6 k7 k8 k9 k10 k11 k12 k13 k14 k15 cv (.ref 27)) := by
  unfold e_hP_X9_isWord at h
  refine xMet_of (pl := [some (.ref 0), some (.ref 1023)]) (by decide) (Nat.le_of_ble_eq_true rfl) rfl (Nat.le_of_ble_eq_true rfl) ?_
  refine x_aload_n dX9_isWord_0 rfl ?_
  refine x_get fX9_77 dX9_isWord_1 rfl rfl rfl ?_
  refine x_iconst (2 : Int32) dX9_isWord_4 (by decide) ?_
  refine x_icmp_ne 24 dX9_isWord_5 (by decide) (fun q => ?_) (fun q => ?_)
  · have h := xif_f q h
    refine x_iconst (0 : Int32) dX9_isWord_24 (by decide) ?_
    cases h
    exact x_zret2 dX9_isWord_25 rfl rfl rfl
  · have h := xif_t q h
    refine x_aload_n dX9_isWord_8 rfl ?_
    refine x_get fX9_93 dX9_isWord_9 rfl rfl rfl ?_
    refine x_aload_n dX9_isWord_12 rfl ?_
    obtain ⟨z13, y13, h⟩ := xbind h
    refine x_callS (t_hP_X9_packed_18  z13 y13 (d + 0)) kX9_109 dX9_isWord_13 rfl rfl (Nat.le_of_ble_eq_true rfl) (Nat.le_of_ble_eq_true rfl) rfl rfl (Or.inl rfl) ?_
    refine x_lcmp dX9_isWord_16 ?_
    refine x_if_ne 24 dX9_isWord_17 (by decide) (fun q => ?_) (fun q => ?_)
    · have h := xif_f q h
      refine x_iconst (0 : Int32) dX9_isWord_24 (by decide) ?_
      cases h
      exact x_zret2 dX9_isWord_25 rfl rfl rfl
    · have h := xif_t q h
      refine x_iconst (1 : Int32) dX9_isWord_20 (by decide) ?_
      refine x_goto 25 dX9_isWord_21 (by decide) ?_
      cases h
      exact x_zret2 dX9_isWord_25 rfl rfl rfl
set_option maxRecDepth 100000 in
set_option maxHeartbeats 4000000 in
theorem lp_hP_X9_packed_19_4 {g0 g1 g2 g3 g4 g5 g6 g7 g8 g9 g10 g11 g12 g13 g14 g15 g16 g17 g18 g19 g20 g21 g22 g23 g24 g25 g26 : Int32} {a0 a1 a2 a3 a4 a5 a6 a7 a8 a9 a10 a11 a12 a13 a14 a15 a16 a17 a18 a19 a20 a21 a22 a23 : (Nat → Int32)} {b0 : (Nat → Int64)} {w0 : Int64} {k0 k1 k2 k3 k4 k5 k6 k7 k8 k9 k10 k11 k12 k13 k14 k15 : xC} {cv : Value} (d n0 : Nat)  (res : Int64) (K : Int64 → Int32 → Option (Int64)) (hK : ∀ (l1_4 : Int64) (l3_4 : Int32), K l1_4 l3_4 = some res → xW xks YX9_packed (d + 5) 0 0 n0 (xZ 0 0 n0 (some (.long res)) (hP g0 g1 g2 g3 g4 g5 g6 g7 g8 g9 g10 g11 g12 g13 g14 g15 g16 g17 g18 g19 g20 g21 g22 g23 g24 g25 g26 a0 a1 a2 a3 a4 a5 a6 a7 a8 a9 a10 a11 a12 a13 a14 a15 a16 a17 a18 a19 a20 a21 a22 a23 b0 w0 k0 k1 k2 k3 k4 k5 k6 k7 k8 k9 k10 k11 k12 k13 k14 k15 cv (.ref 27))) 0 0 36 [none, some (.long l1_4), none, none] [] (hP g0 g1 g2 g3 g4 g5 g6 g7 g8 g9 g10 g11 g12 g13 g14 g15 g16 g17 g18 g19 g20 g21 g22 g23 g24 g25 g26 a0 a1 a2 a3 a4 a5 a6 a7 a8 a9 a10 a11 a12 a13 a14 a15 a16 a17 a18 a19 a20 a21 a22 a23 b0 w0 k0 k1 k2 k3 k4 k5 k6 k7 k8 k9 k10 k11 k12 k13 k14 k15 cv (.ref 27))) : ∀ (n : Nat) (l1_4 : Int64) (l3_4 : Int32), L_hP_X9_packed_4 (xsy 24)  K n l1_4 l3_4 = some res → xW xks YX9_packed (d + 5) 0 0 n0 (xZ 0 0 n0 (some (.long res)) (hP g0 g1 g2 g3 g4 g5 g6 g7 g8 g9 g10 g11 g12 g13 g14 g15 g16 g17 g18 g19 g20 g21 g22 g23 g24 g25 g26 a0 a1 a2 a3 a4 a5 a6 a7 a8 a9 a10 a11 a12 a13 a14 a15 a16 a17 a18 a19 a20 a21 a22 a23 b0 w0 k0 k1 k2 k3 k4 k5 k6 k7 k8 k9 k10 k11 k12 k13 k14 k15 cv (.ref 27))) 0 0 4 [some (.ref 1024), some (.long l1_4), none, some (.int l3_4)] [] (hP g0 g1 g2 g3 g4 g5 g6 g7 g8 g9 g10 g11 g12 g13 g14 g15 g16 g17 g18 g19 g20 g21 g22 g23 g24 g25 g26 a0 a1 a2 a3 a4 a5 a6 a7 a8 a9 a10 a11 a12 a13 a14 a15 a16 a17 a18 a19 a20 a21 a22 a23 b0 w0 k0 k1 k2 k3 k4 k5 k6 k7 k8 k9 k10 k11 k12 k13 k14 k15 cv (.ref 27)) := by
  intro n
  induction n with
  | zero =>
    intro l1_4 l3_4 h
    cases (show (none : Option (Int64)) = some res from h)
  | succ n4 ih4 =>
    intro l1_4 l3_4 h
    unfold L_hP_X9_packed_4 at h
    refine x_iload_n dX9_packed_4 rfl ?_
    refine x_aload_n dX9_packed_5 rfl ?_
    refine x_slen (k := 24) (s := xsy 24) rfl rfl (Nat.le_of_ble_eq_true rfl) kX9_65 dX9_packed_6 (Nat.le_of_ble_eq_true rfl) ?_
    refine x_icmp_ge 36 dX9_packed_9 (by decide) (fun q => ?_) (fun q => ?_)
    · have h := xif_t q h
      refine x_weak (pl2 := [none, some (.long l1_4), none, none]) ⟨rfl, trivial⟩ ?_
      exact hK l1_4 l3_4 h
    · have h := xif_f q h
      refine x_ldc2 iX9_71 dX9_packed_12 ?_
      refine x_lload_n dX9_packed_15 rfl ?_
      refine x_lmul dX9_packed_16 ?_
      refine x_aload_n dX9_packed_17 rfl ?_
      refine x_iload_n dX9_packed_18 rfl ?_
      obtain ⟨q19, h⟩ := xix_of h
      refine x_schar (k := 24) (s := xsy 24) rfl rfl q19 (Nat.le_of_ble_eq_true rfl) kX9_73 dX9_packed_19 (Nat.le_of_ble_eq_true rfl) ?_
      refine x_bipush (97 : Int32) dX9_packed_22 (by decide) ?_
      refine x_isub dX9_packed_24 ?_
      refine x_iconst (1 : Int32) dX9_packed_25 (by decide) ?_
      refine x_iadd dX9_packed_26 ?_
      refine x_i2l dX9_packed_27 ?_
      refine x_ladd dX9_packed_28 ?_
      refine x_lstore_n (pl' := [some (.ref 1024), some (.long (((32 : Int64) * l1_4) + (((xch (xsy 24) l3_4) - (97 : Int32)) + (1 : Int32)).toInt64)), none, some (.int l3_4)]) dX9_packed_29 (by decide) rfl ?_
      refine x_iincK (1 : Int32) (pl' := [some (.ref 1024), some (.long (((32 : Int64) * l1_4) + (((xch (xsy 24) l3_4) - (97 : Int32)) + (1 : Int32)).toInt64)), none, some (.int (l3_4 + (1 : Int32)))]) dX9_packed_30 rfl (by decide) (by decide) rfl ?_
      refine x_goto 4 dX9_packed_33 (by decide) ?_
      refine x_weak (pl2 := [some (.ref 1024), some (.long (((32 : Int64) * l1_4) + (((xch (xsy 24) l3_4) - (97 : Int32)) + (1 : Int32)).toInt64)), none, some (.int (l3_4 + (1 : Int32)))]) ⟨rfl, rfl, rfl, trivial⟩ ?_
      exact ih4 (((32 : Int64) * l1_4) + (((xch (xsy 24) l3_4) - (97 : Int32)) + (1 : Int32)).toInt64) (l3_4 + (1 : Int32)) h
set_option maxRecDepth 100000 in
set_option maxHeartbeats 4000000 in
theorem t_hP_X9_packed_19 {g0 g1 g2 g3 g4 g5 g6 g7 g8 g9 g10 g11 g12 g13 g14 g15 g16 g17 g18 g19 g20 g21 g22 g23 g24 g25 g26 : Int32} {a0 a1 a2 a3 a4 a5 a6 a7 a8 a9 a10 a11 a12 a13 a14 a15 a16 a17 a18 a19 a20 a21 a22 a23 : (Nat → Int32)} {b0 : (Nat → Int64)} {w0 : Int64} {k0 k1 k2 k3 k4 k5 k6 k7 k8 k9 k10 k11 k12 k13 k14 k15 : xC} {cv : Value}  (res : Int64) (h : e_hP_X9_packed (xsy 24)  = some res) (d : Nat) : xMet xks YX9_packed (d + 5) 0 0 [.ref 1024] (hP g0 g1 g2 g3 g4 g5 g6 g7 g8 g9 g10 g11 g12 g13 g14 g15 g16 g17 g18 g19 g20 g21 g22 g23 g24 g25 g26 a0 a1 a2 a3 a4 a5 a6 a7 a8 a9 a10 a11 a12 a13 a14 a15 a16 a17 a18 a19 a20 a21 a22 a23 b0 w0 k0 k1 k2 k3 k4 k5 k6 k7 k8 k9 k10 k11 k12 k13 k14 k15 cv (.ref 27)) (some (.long res)) (hP g0 g1 g2 g3 g4 g5 g6 g7 g8 g9 g10 g11 g12 g13 g14 g15 g16 g17 g18 g19 g20 g21 g22 g23 g24 g25 g26 a0 a1 a2 a3 a4 a5 a6 a7 a8 a9 a10 a11 a12 a13 a14 a15 a16 a17 a18 a19 a20 a21 a22 a23 b0 w0 k0 k1 k2 k3 k4 k5 k6 k7 k8 k9 k10 k11 k12 k13 k14 k15 cv (.ref 27)) := by
  unfold e_hP_X9_packed at h
  refine xMet_of (pl := [some (.ref 1024), none, none, none]) (by decide) (Nat.le_of_ble_eq_true rfl) rfl (Nat.le_of_ble_eq_true rfl) ?_
  refine x_lconst (0 : Int64) dX9_packed_0 (by decide) ?_
  refine x_lstore_n (pl' := [some (.ref 1024), some (.long (0 : Int64)), none, none]) dX9_packed_1 (by decide) rfl ?_
  refine x_iconst (0 : Int32) dX9_packed_2 (by decide) ?_
  refine x_istore_n (pl' := [some (.ref 1024), some (.long (0 : Int64)), none, some (.int (0 : Int32))]) dX9_packed_3 (by decide) rfl ?_
  refine x_weak (pl2 := [some (.ref 1024), some (.long (0 : Int64)), none, some (.int (0 : Int32))]) ⟨rfl, rfl, rfl, trivial⟩ ?_
  refine lp_hP_X9_packed_19_4 d _  res _ (fun l1_4 l3_4 h => ?_) 200000 (0 : Int64) (0 : Int32) h
  refine x_lload_n dX9_packed_36 rfl ?_
  cases h
  exact x_lret2 dX9_packed_37 rfl rfl
set_option maxRecDepth 100000 in
set_option maxHeartbeats 4000000 in
theorem t_hP_X9_isWord_19 {g0 g1 g2 g3 g4 g5 g6 g7 g8 g9 g10 g11 g12 g13 g14 g15 g16 g17 g18 g19 g20 g21 g22 g23 g24 g25 g26 : Int32} {a0 a1 a2 a3 a4 a5 a6 a7 a8 a9 a10 a11 a12 a13 a14 a15 a16 a17 a18 a19 a20 a21 a22 a23 : (Nat → Int32)} {b0 : (Nat → Int64)} {w0 : Int64} {k0 k1 k2 k3 k4 k5 k6 k7 k8 k9 k10 k11 k12 k13 k14 k15 : xC} {cv : Value}  (res : Int32) (h : e_hP_X9_isWord g6 w0 (xsy 24)  = some res) (d : Nat) : xMet xks YX9_isWord (d + 6) 0 0 [.ref 0, .ref 1024] (hP g0 g1 g2 g3 g4 g5 g6 g7 g8 g9 g10 g11 g12 g13 g14 g15 g16 g17 g18 g19 g20 g21 g22 g23 g24 g25 g26 a0 a1 a2 a3 a4 a5 a6 a7 a8 a9 a10 a11 a12 a13 a14 a15 a16 a17 a18 a19 a20 a21 a22 a23 b0 w0 k0 k1 k2 k3 k4 k5 k6 k7 k8 k9 k10 k11 k12 k13 k14 k15 cv (.ref 27)) (some (.int res)) (hP g0 g1 g2 g3 g4 g5 g6 g7 g8 g9 g10 g11 g12 g13 g14 g15 g16 g17 g18 g19 g20 g21 g22 g23 g24 g25 g26 a0 a1 a2 a3 a4 a5 a6 a7 a8 a9 a10 a11 a12 a13 a14 a15 a16 a17 a18 a19 a20 a21 a22 a23 b0 w0 k0 k1 k2 k3 k4 k5 k6 k7 k8 k9 k10 k11 k12 k13 k14 k15 cv (.ref 27)) := by
  unfold e_hP_X9_isWord at h
  refine xMet_of (pl := [some (.ref 0), some (.ref 1024)]) (by decide) (Nat.le_of_ble_eq_true rfl) rfl (Nat.le_of_ble_eq_true rfl) ?_
  refine x_aload_n dX9_isWord_0 rfl ?_
  refine x_get fX9_77 dX9_isWord_1 rfl rfl rfl ?_
  refine x_iconst (2 : Int32) dX9_isWord_4 (by decide) ?_
  refine x_icmp_ne 24 dX9_isWord_5 (by decide) (fun q => ?_) (fun q => ?_)
  · have h := xif_f q h
    refine x_iconst (0 : Int32) dX9_isWord_24 (by decide) ?_
    cases h
    exact x_zret2 dX9_isWord_25 rfl rfl rfl
  · have h := xif_t q h
    refine x_aload_n dX9_isWord_8 rfl ?_
    refine x_get fX9_93 dX9_isWord_9 rfl rfl rfl ?_
    refine x_aload_n dX9_isWord_12 rfl ?_
    obtain ⟨z13, y13, h⟩ := xbind h
    refine x_callS (t_hP_X9_packed_19  z13 y13 (d + 0)) kX9_109 dX9_isWord_13 rfl rfl (Nat.le_of_ble_eq_true rfl) (Nat.le_of_ble_eq_true rfl) rfl rfl (Or.inl rfl) ?_
    refine x_lcmp dX9_isWord_16 ?_
    refine x_if_ne 24 dX9_isWord_17 (by decide) (fun q => ?_) (fun q => ?_)
    · have h := xif_f q h
      refine x_iconst (0 : Int32) dX9_isWord_24 (by decide) ?_
      cases h
      exact x_zret2 dX9_isWord_25 rfl rfl rfl
    · have h := xif_t q h
      refine x_iconst (1 : Int32) dX9_isWord_20 (by decide) ?_
      refine x_goto 25 dX9_isWord_21 (by decide) ?_
      cases h
      exact x_zret2 dX9_isWord_25 rfl rfl rfl
noncomputable def J_hP_X9_readPerson_69 (p0 : Int32) (p1 : Int32) (p2 : Int32) (p3 : Int32) (p4 : Int32) (p5 : (Nat → Int32)) (p6 : Int32) (p7 : Int32) (p8 : Int64) (p9 : Int32) (p10 : Int32) (p11 : Int32) (p12 : (Nat → Int64)) (p13 : (Nat → Int32)) (p14 : (Nat → Int32)) (p15 : (Nat → Int32)) (f1 : Int64) (f3 : Int32) : Option (Int32 × Int32 × Int32 × Int32 × Int64 × Int32 × Int32 × (Nat → Int64) × (Nat → Int32) × (Nat → Int32) × Int32 × (Nat → Int32) × Int32) :=
  ((e_hP_X9_goesOn p2 p3 p4 p5 p6 p7 p8).bind fun z70 => if z70.2.1 = (5 : Int32) then some (z70.1, z70.2.1, z70.2.2.1, z70.2.2.2.1, z70.2.2.2.2, p9, p10, p12, p13, p14, p11, p15, p0) else ((e_hP_X9_names p11 p12 p13 p14 f1 (0 : Int32) p0).bind fun z92 => xix p0 6 (some (z70.1, z70.2.1, z70.2.2.1, z70.2.2.2.1, z70.2.2.2.2, p9, p10, z92.1, z92.2.1, z92.2.2.1, z92.2.2.2, (upd p15 p0.toNatClampNeg f3), (p0 + (1 : Int32))))))
noncomputable def J_hP_X9_readPerson_58 (p0 : Int32) (p1 : Int32) (p2 : Int32) (p3 : Int32) (p4 : Int32) (p5 : (Nat → Int32)) (p6 : Int32) (p7 : Int32) (p8 : Int64) (p9 : Int32) (p10 : Int32) (p11 : Int32) (p12 : (Nat → Int64)) (p13 : (Nat → Int32)) (p14 : (Nat → Int32)) (p15 : (Nat → Int32)) (f1 : Int64) (u0 : Int32) : Option (Int32 × Int32 × Int32 × Int32 × Int64 × Int32 × Int32 × (Nat → Int64) × (Nat → Int32) × (Nat → Int32) × Int32 × (Nat → Int32) × Int32) :=
  if u0 = (-1 : Int32) then ((e_hP_X9_flaw p2 p9 p6 p10 (1 : Int32)).bind fun z66 => J_hP_X9_readPerson_69 p0 p1 z66.2.2 p3 p4 p5 p6 p7 p8 z66.1 z66.2.1 p11 p12 p13 p14 p15 f1 u0) else J_hP_X9_readPerson_69 p0 p1 p2 p3 p4 p5 p6 p7 p8 p9 p10 p11 p12 p13 p14 p15 f1 u0
noncomputable def e_hP_X9_readPerson (p0 : Int32) (p1 : Int32) (p2 : Int32) (p3 : Int32) (p4 : Int32) (p5 : (Nat → Int32)) (p6 : Int32) (p7 : Int32) (p8 : Int64) (p9 : Int32) (p10 : Int32) (p11 : Int32) (p12 : (Nat → Int64)) (p13 : (Nat → Int32)) (p14 : (Nat → Int32)) (p15 : (Nat → Int32))  : Option (Int32 × Int32 × Int32 × Int32 × Int64 × Int32 × Int32 × (Nat → Int64) × (Nat → Int32) × (Nat → Int32) × Int32 × (Nat → Int32) × Int32) :=
  ((e_hP_X9_lineBegins p1 p2 p3 p4 p5 p6 p7 p8 p9 p10 p0 (6 : Int32)).bind fun z10 => (e_hP_X9_readFresh z10.2.1 z10.2.2.2.2.1 p11 p12 z10.2.2.1 p4 p5 z10.1 z10.2.2.2.1 z10.2.2.2.2.2.1 z10.2.2.2.2.2.2).bind fun z14 => (e_hP_X9_isWord z14.2.2.1 z14.2.2.2.2.2.1 (xsy 22)).bind fun z21 => if z21 = (0 : Int32) then ((e_hP_X9_isWord z14.2.2.1 z14.2.2.2.2.2.1 (xsy 23)).bind fun z34 => if z34 = (0 : Int32) then ((e_hP_X9_isWord z14.2.2.1 z14.2.2.2.2.2.1 (xsy 24)).bind fun z47 => if z47 = (0 : Int32) then J_hP_X9_readPerson_58 p0 p1 z14.2.2.1 z14.2.2.2.1 p4 p5 z14.2.1 z14.2.2.2.2.1 z14.2.2.2.2.2.1 z14.2.2.2.2.2.2.1 z14.2.2.2.2.2.2.2 p11 p12 p13 p14 p15 z14.1 (-1 : Int32) else J_hP_X9_readPerson_58 p0 p1 z14.2.2.1 z14.2.2.2.1 p4 p5 z14.2.1 z14.2.2.2.2.1 z14.2.2.2.2.2.1 z14.2.2.2.2.2.2.1 z14.2.2.2.2.2.2.2 p11 p12 p13 p14 p15 z14.1 (2 : Int32)) else J_hP_X9_readPerson_58 p0 p1 z14.2.2.1 z14.2.2.2.1 p4 p5 z14.2.1 z14.2.2.2.2.1 z14.2.2.2.2.2.1 z14.2.2.2.2.2.2.1 z14.2.2.2.2.2.2.2 p11 p12 p13 p14 p15 z14.1 (1 : Int32)) else J_hP_X9_readPerson_58 p0 p1 z14.2.2.1 z14.2.2.2.1 p4 p5 z14.2.1 z14.2.2.2.2.1 z14.2.2.2.2.2.1 z14.2.2.2.2.2.2.1 z14.2.2.2.2.2.2.2 p11 p12 p13 p14 p15 z14.1 (0 : Int32))
set_option maxRecDepth 100000 in
set_option maxHeartbeats 4000000 in
theorem jn_hP_X9_readPerson_69 {g0 g1 g2 g3 g4 g5 g6 g7 g8 g9 g10 g11 g12 g13 g14 g15 g16 g17 g18 g19 g20 g21 g22 g23 g24 g25 g26 : Int32} {a0 a1 a2 a3 a4 a5 a6 a7 a8 a9 a10 a11 a12 a13 a14 a15 a16 a17 a18 a19 a20 a21 a22 a23 : (Nat → Int32)} {b0 : (Nat → Int64)} {w0 : Int64} {k0 k1 k2 k3 k4 k5 k6 k7 k8 k9 k10 k11 k12 k13 k14 k15 : xC} {cv : Value} (d n0 : Nat) (f1 : Int64) (f3 : Int32) (res : Int32 × Int32 × Int32 × Int32 × Int64 × Int32 × Int32 × (Nat → Int64) × (Nat → Int32) × (Nat → Int32) × Int32 × (Nat → Int32) × Int32) (h : J_hP_X9_readPerson_69 g22 g19 g6 g5 g4 a0 g7 g8 w0 g9 g10 g26 b0 a22 a23 a10 f1 f3 = some res) : xW xks YX9_readPerson (d + 9) 0 0 n0 (xZ 0 0 n0 none (hP g0 g1 g2 g3 g4 res.2.2.1 res.2.1 res.1 res.2.2.2.1 res.2.2.2.2.2.1 res.2.2.2.2.2.2.1 g11 g12 g13 g14 g15 g16 g17 g18 g19 g20 g21 res.2.2.2.2.2.2.2.2.2.2.2.2 g23 g24 g25 res.2.2.2.2.2.2.2.2.2.2.1 a0 a1 a2 a3 a4 a5 a6 a7 a8 a9 res.2.2.2.2.2.2.2.2.2.2.2.1 a11 a12 a13 a14 a15 a16 a17 a18 a19 a20 a21 res.2.2.2.2.2.2.2.2.1 res.2.2.2.2.2.2.2.2.2.1 res.2.2.2.2.2.2.2.1 res.2.2.2.2.1 k0 k1 k2 k3 k4 k5 k6 k7 k8 k9 k10 k11 k12 k13 k14 k15 cv (.ref 27))) 0 0 69 [some (.ref 0), some (.long f1), none, some (.int f3)] [] (hP g0 g1 g2 g3 g4 g5 g6 g7 g8 g9 g10 g11 g12 g13 g14 g15 g16 g17 g18 g19 g20 g21 g22 g23 g24 g25 g26 a0 a1 a2 a3 a4 a5 a6 a7 a8 a9 a10 a11 a12 a13 a14 a15 a16 a17 a18 a19 a20 a21 a22 a23 b0 w0 k0 k1 k2 k3 k4 k5 k6 k7 k8 k9 k10 k11 k12 k13 k14 k15 cv (.ref 27)) := by
  unfold J_hP_X9_readPerson_69 at h
  refine x_aload_n dX9_readPerson_69 rfl ?_
  obtain ⟨z70, y70, h⟩ := xbind h
  refine x_callV (t_hP_X9_goesOn  z70 y70 (d + 6)) kX9_113 dX9_readPerson_70 rfl rfl rfl rfl rfl (Nat.le_of_ble_eq_true rfl) (Nat.le_of_ble_eq_true rfl) rfl rfl (Or.inl rfl) ?_
  refine x_aload_n dX9_readPerson_73 rfl ?_
  refine x_get fX9_77 dX9_readPerson_74 rfl rfl rfl ?_
  refine x_iconst (5 : Int32) dX9_readPerson_77 (by decide) ?_
  refine x_icmp_ne 82 dX9_readPerson_78 (by decide) (fun q => ?_) (fun q => ?_)
  · have h := xif_f q h
    refine x_aload_n dX9_readPerson_82 rfl ?_
    refine x_lload_n dX9_readPerson_83 rfl ?_
    refine x_iconst (0 : Int32) dX9_readPerson_84 (by decide) ?_
    refine x_aload_n dX9_readPerson_85 rfl ?_
    refine x_get fX9_152 dX9_readPerson_86 rfl rfl rfl ?_
    refine x_get fX9_191 dX9_readPerson_89 rfl rfl rfl ?_
    obtain ⟨z92, y92, h⟩ := xbind h
    refine x_callV (t_hP_X9_names f1 (0 : Int32) g22 z92 y92 (d + 7)) kX9_248 dX9_readPerson_92 rfl rfl rfl rfl rfl (Nat.le_of_ble_eq_true rfl) (Nat.le_of_ble_eq_true rfl) rfl rfl (Or.inl rfl) ?_
    refine x_aload_n dX9_readPerson_95 rfl ?_
    refine x_get fX9_152 dX9_readPerson_96 rfl rfl rfl ?_
    refine x_get fX9_251 dX9_readPerson_99 rfl rfl rfl ?_
    refine x_aload_n dX9_readPerson_102 rfl ?_
    refine x_get fX9_152 dX9_readPerson_103 rfl rfl rfl ?_
    refine x_get fX9_191 dX9_readPerson_106 rfl rfl rfl ?_
    refine x_iload_n dX9_readPerson_109 rfl ?_
    obtain ⟨q110, h⟩ := xix_of h
    refine x_iast (h2 := (hP g0 g1 g2 g3 g4 z70.2.2.1 z70.2.1 z70.1 z70.2.2.2.1 g9 g10 g11 g12 g13 g14 g15 g16 g17 g18 g19 g20 g21 g22 g23 g24 g25 z92.2.2.2 a0 a1 a2 a3 a4 a5 a6 a7 a8 a9 (upd a10 g22.toNatClampNeg f3) a11 a12 a13 a14 a15 a16 a17 a18 a19 a20 a21 z92.2.1 z92.2.2.1 z92.1 z70.2.2.2.2 k0 k1 k2 k3 k4 k5 k6 k7 k8 k9 k10 k11 k12 k13 k14 k15 cv (.ref 27))) dX9_readPerson_110 rfl q110 rfl ?_
    refine x_aload_n dX9_readPerson_111 rfl ?_
    refine x_get fX9_152 dX9_readPerson_112 rfl rfl rfl ?_
    refine x_dup dX9_readPerson_115 rfl ?_
    refine x_get fX9_191 dX9_readPerson_116 rfl rfl rfl ?_
    refine x_iconst (1 : Int32) dX9_readPerson_119 (by decide) ?_
    refine x_iadd dX9_readPerson_120 ?_
    refine x_put (h2 := (hP g0 g1 g2 g3 g4 z70.2.2.1 z70.2.1 z70.1 z70.2.2.2.1 g9 g10 g11 g12 g13 g14 g15 g16 g17 g18 g19 g20 g21 (g22 + (1 : Int32)) g23 g24 g25 z92.2.2.2 a0 a1 a2 a3 a4 a5 a6 a7 a8 a9 (upd a10 g22.toNatClampNeg f3) a11 a12 a13 a14 a15 a16 a17 a18 a19 a20 a21 z92.2.1 z92.2.2.1 z92.1 z70.2.2.2.2 k0 k1 k2 k3 k4 k5 k6 k7 k8 k9 k10 k11 k12 k13 k14 k15 cv (.ref 27))) fX9_191 dX9_readPerson_121 rfl rfl (Nat.le_of_ble_eq_true rfl : 3 + 1 ≤ _) (fun α => ⟨rfl, rfl⟩) rfl ?_
    cases h
    exact x_vret2 dX9_readPerson_124 rfl rfl
  · have h := xif_t q h
    cases h
    exact x_vret2 dX9_readPerson_81 rfl rfl
set_option maxRecDepth 100000 in
set_option maxHeartbeats 4000000 in
theorem jn_hP_X9_readPerson_58 {g0 g1 g2 g3 g4 g5 g6 g7 g8 g9 g10 g11 g12 g13 g14 g15 g16 g17 g18 g19 g20 g21 g22 g23 g24 g25 g26 : Int32} {a0 a1 a2 a3 a4 a5 a6 a7 a8 a9 a10 a11 a12 a13 a14 a15 a16 a17 a18 a19 a20 a21 a22 a23 : (Nat → Int32)} {b0 : (Nat → Int64)} {w0 : Int64} {k0 k1 k2 k3 k4 k5 k6 k7 k8 k9 k10 k11 k12 k13 k14 k15 : xC} {cv : Value} (d n0 : Nat) (f1 : Int64) (u0 : Int32) (res : Int32 × Int32 × Int32 × Int32 × Int64 × Int32 × Int32 × (Nat → Int64) × (Nat → Int32) × (Nat → Int32) × Int32 × (Nat → Int32) × Int32) (h : J_hP_X9_readPerson_58 g22 g19 g6 g5 g4 a0 g7 g8 w0 g9 g10 g26 b0 a22 a23 a10 f1 u0 = some res) : xW xks YX9_readPerson (d + 9) 0 0 n0 (xZ 0 0 n0 none (hP g0 g1 g2 g3 g4 res.2.2.1 res.2.1 res.1 res.2.2.2.1 res.2.2.2.2.2.1 res.2.2.2.2.2.2.1 g11 g12 g13 g14 g15 g16 g17 g18 g19 g20 g21 res.2.2.2.2.2.2.2.2.2.2.2.2 g23 g24 g25 res.2.2.2.2.2.2.2.2.2.2.1 a0 a1 a2 a3 a4 a5 a6 a7 a8 a9 res.2.2.2.2.2.2.2.2.2.2.2.1 a11 a12 a13 a14 a15 a16 a17 a18 a19 a20 a21 res.2.2.2.2.2.2.2.2.1 res.2.2.2.2.2.2.2.2.2.1 res.2.2.2.2.2.2.2.1 res.2.2.2.2.1 k0 k1 k2 k3 k4 k5 k6 k7 k8 k9 k10 k11 k12 k13 k14 k15 cv (.ref 27))) 0 0 58 [some (.ref 0), some (.long f1), none, none] [.int u0] (hP g0 g1 g2 g3 g4 g5 g6 g7 g8 g9 g10 g11 g12 g13 g14 g15 g16 g17 g18 g19 g20 g21 g22 g23 g24 g25 g26 a0 a1 a2 a3 a4 a5 a6 a7 a8 a9 a10 a11 a12 a13 a14 a15 a16 a17 a18 a19 a20 a21 a22 a23 b0 w0 k0 k1 k2 k3 k4 k5 k6 k7 k8 k9 k10 k11 k12 k13 k14 k15 cv (.ref 27)) := by
  unfold J_hP_X9_readPerson_58 at h
  refine x_istore_n (pl' := [some (.ref 0), some (.long f1), none, some (.int u0)]) dX9_readPerson_58 (by decide) rfl ?_
  refine x_iload_n dX9_readPerson_59 rfl ?_
  refine x_iconst (-1 : Int32) dX9_readPerson_60 (by decide) ?_
  refine x_icmp_ne 69 dX9_readPerson_61 (by decide) (fun q => ?_) (fun q => ?_)
  · have h := xif_f q h
    refine x_weak (pl2 := [some (.ref 0), some (.long f1), none, some (.int u0)]) ⟨rfl, rfl, rfl, trivial⟩ ?_
    exact jn_hP_X9_readPerson_69 d _ f1 u0 res h
  · have h := xif_t q h
    refine x_aload_n dX9_readPerson_64 rfl ?_
    refine x_iconst (1 : Int32) dX9_readPerson_65 (by decide) ?_
    obtain ⟨z66, y66, h⟩ := xbind h
    refine x_callV (t_hP_X9_flaw (1 : Int32) z66 y66 (d + 7)) kX9_120 dX9_readPerson_66 rfl rfl rfl rfl rfl (Nat.le_of_ble_eq_true rfl) (Nat.le_of_ble_eq_true rfl) rfl rfl (Or.inl rfl) ?_
    refine x_weak (pl2 := [some (.ref 0), some (.long f1), none, some (.int u0)]) ⟨rfl, rfl, rfl, trivial⟩ ?_
    exact jn_hP_X9_readPerson_69 d _ f1 u0 res h
set_option maxRecDepth 100000 in
set_option maxHeartbeats 4000000 in
theorem t_hP_X9_readPerson {g0 g1 g2 g3 g4 g5 g6 g7 g8 g9 g10 g11 g12 g13 g14 g15 g16 g17 g18 g19 g20 g21 g22 g23 g24 g25 g26 : Int32} {a0 a1 a2 a3 a4 a5 a6 a7 a8 a9 a10 a11 a12 a13 a14 a15 a16 a17 a18 a19 a20 a21 a22 a23 : (Nat → Int32)} {b0 : (Nat → Int64)} {w0 : Int64} {k0 k1 k2 k3 k4 k5 k6 k7 k8 k9 k10 k11 k12 k13 k14 k15 : xC} {cv : Value}  (res : Int32 × Int32 × Int32 × Int32 × Int64 × Int32 × Int32 × (Nat → Int64) × (Nat → Int32) × (Nat → Int32) × Int32 × (Nat → Int32) × Int32) (h : e_hP_X9_readPerson g22 g19 g6 g5 g4 a0 g7 g8 w0 g9 g10 g26 b0 a22 a23 a10  = some res) (d : Nat) : xMet xks YX9_readPerson (d + 9) 0 0 [.ref 0] (hP g0 g1 g2 g3 g4 g5 g6 g7 g8 g9 g10 g11 g12 g13 g14 g15 g16 g17 g18 g19 g20 g21 g22 g23 g24 g25 g26 a0 a1 a2 a3 a4 a5 a6 a7 a8 a9 a10 a11 a12 a13 a14 a15 a16 a17 a18 a19 a20 a21 a22 a23 b0 w0 k0 k1 k2 k3 k4 k5 k6 k7 k8 k9 k10 k11 k12 k13 k14 k15 cv (.ref 27)) none (hP g0 g1 g2 g3 g4 res.2.2.1 res.2.1 res.1 res.2.2.2.1 res.2.2.2.2.2.1 res.2.2.2.2.2.2.1 g11 g12 g13 g14 g15 g16 g17 g18 g19 g20 g21 res.2.2.2.2.2.2.2.2.2.2.2.2 g23 g24 g25 res.2.2.2.2.2.2.2.2.2.2.1 a0 a1 a2 a3 a4 a5 a6 a7 a8 a9 res.2.2.2.2.2.2.2.2.2.2.2.1 a11 a12 a13 a14 a15 a16 a17 a18 a19 a20 a21 res.2.2.2.2.2.2.2.2.1 res.2.2.2.2.2.2.2.2.2.1 res.2.2.2.2.2.2.2.1 res.2.2.2.2.1 k0 k1 k2 k3 k4 k5 k6 k7 k8 k9 k10 k11 k12 k13 k14 k15 cv (.ref 27)) := by
  unfold e_hP_X9_readPerson at h
  refine xMet_of (pl := [some (.ref 0), none, none, none]) (by decide) (Nat.le_of_ble_eq_true rfl) rfl (Nat.le_of_ble_eq_true rfl) ?_
  refine x_aload_n dX9_readPerson_0 rfl ?_
  refine x_aload_n dX9_readPerson_1 rfl ?_
  refine x_get fX9_152 dX9_readPerson_2 rfl rfl rfl ?_
  refine x_get fX9_191 dX9_readPerson_5 rfl rfl rfl ?_
  refine x_bipush (6 : Int32) dX9_readPerson_8 (by decide) ?_
  obtain ⟨z10, y10, h⟩ := xbind h
  refine x_callV (t_hP_X9_lineBegins g22 (6 : Int32) z10 y10 (d + 5)) kX9_234 dX9_readPerson_10 rfl rfl rfl rfl rfl (Nat.le_of_ble_eq_true rfl) (Nat.le_of_ble_eq_true rfl) rfl rfl (Or.inl rfl) ?_
  refine x_aload_n dX9_readPerson_13 rfl ?_
  obtain ⟨z14, y14, h⟩ := xbind h
  refine x_callV (t_hP_X9_readFresh  z14 y14 (d + 0)) kX9_238 dX9_readPerson_14 rfl rfl rfl rfl rfl (Nat.le_of_ble_eq_true rfl) (Nat.le_of_ble_eq_true rfl) rfl rfl (Or.inl rfl) ?_
  refine x_lstore_n (pl' := [some (.ref 0), some (.long z14.1), none, none]) dX9_readPerson_17 (by decide) rfl ?_
  refine x_aload_n dX9_readPerson_18 rfl ?_
  refine x_ldcS (k := 22) rfl rfl rfl dX9_readPerson_19 ?_
  obtain ⟨z21, y21, h⟩ := xbind h
  refine x_callV (t_hP_X9_isWord_17  z21 y21 (d + 2)) kX9_116 dX9_readPerson_21 rfl rfl rfl rfl rfl (Nat.le_of_ble_eq_true rfl) (Nat.le_of_ble_eq_true rfl) rfl rfl (Or.inl rfl) ?_
  refine x_if_eq 31 dX9_readPerson_24 (by decide) (fun q => ?_) (fun q => ?_)
  · have h := xif_t q h
    refine x_aload_n dX9_readPerson_31 rfl ?_
    refine x_ldcS (k := 23) rfl rfl rfl dX9_readPerson_32 ?_
    obtain ⟨z34, y34, h⟩ := xbind h
    refine x_callV (t_hP_X9_isWord_18  z34 y34 (d + 2)) kX9_116 dX9_readPerson_34 rfl rfl rfl rfl rfl (Nat.le_of_ble_eq_true rfl) (Nat.le_of_ble_eq_true rfl) rfl rfl (Or.inl rfl) ?_
    refine x_if_eq 44 dX9_readPerson_37 (by decide) (fun q => ?_) (fun q => ?_)
    · have h := xif_t q h
      refine x_aload_n dX9_readPerson_44 rfl ?_
      refine x_ldcS (k := 24) rfl rfl rfl dX9_readPerson_45 ?_
      obtain ⟨z47, y47, h⟩ := xbind h
      refine x_callV (t_hP_X9_isWord_19  z47 y47 (d + 2)) kX9_116 dX9_readPerson_47 rfl rfl rfl rfl rfl (Nat.le_of_ble_eq_true rfl) (Nat.le_of_ble_eq_true rfl) rfl rfl (Or.inl rfl) ?_
      refine x_if_eq 57 dX9_readPerson_50 (by decide) (fun q => ?_) (fun q => ?_)
      · have h := xif_t q h
        refine x_iconst (-1 : Int32) dX9_readPerson_57 (by decide) ?_
        refine x_weak (pl2 := [some (.ref 0), some (.long z14.1), none, none]) ⟨rfl, rfl, trivial⟩ ?_
        exact jn_hP_X9_readPerson_58 d _ z14.1 (-1 : Int32) res h
      · have h := xif_f q h
        refine x_iconst (2 : Int32) dX9_readPerson_53 (by decide) ?_
        refine x_goto 58 dX9_readPerson_54 (by decide) ?_
        refine x_weak (pl2 := [some (.ref 0), some (.long z14.1), none, none]) ⟨rfl, rfl, trivial⟩ ?_
        exact jn_hP_X9_readPerson_58 d _ z14.1 (2 : Int32) res h
    · have h := xif_f q h
      refine x_iconst (1 : Int32) dX9_readPerson_40 (by decide) ?_
      refine x_goto 58 dX9_readPerson_41 (by decide) ?_
      refine x_weak (pl2 := [some (.ref 0), some (.long z14.1), none, none]) ⟨rfl, rfl, trivial⟩ ?_
      exact jn_hP_X9_readPerson_58 d _ z14.1 (1 : Int32) res h
  · have h := xif_f q h
    refine x_iconst (0 : Int32) dX9_readPerson_27 (by decide) ?_
    refine x_goto 58 dX9_readPerson_28 (by decide) ?_
    refine x_weak (pl2 := [some (.ref 0), some (.long z14.1), none, none]) ⟨rfl, rfl, trivial⟩ ?_
    exact jn_hP_X9_readPerson_58 d _ z14.1 (0 : Int32) res h
set_option maxRecDepth 100000 in
set_option maxHeartbeats 4000000 in
theorem lp_hP_X9_packed_20_4 {g0 g1 g2 g3 g4 g5 g6 g7 g8 g9 g10 g11 g12 g13 g14 g15 g16 g17 g18 g19 g20 g21 g22 g23 g24 g25 g26 : Int32} {a0 a1 a2 a3 a4 a5 a6 a7 a8 a9 a10 a11 a12 a13 a14 a15 a16 a17 a18 a19 a20 a21 a22 a23 : (Nat → Int32)} {b0 : (Nat → Int64)} {w0 : Int64} {k0 k1 k2 k3 k4 k5 k6 k7 k8 k9 k10 k11 k12 k13 k14 k15 : xC} {cv : Value} (d n0 : Nat)  (res : Int64) (K : Int64 → Int32 → Option (Int64)) (hK : ∀ (l1_4 : Int64) (l3_4 : Int32), K l1_4 l3_4 = some res → xW xks YX9_packed (d + 5) 0 0 n0 (xZ 0 0 n0 (some (.long res)) (hP g0 g1 g2 g3 g4 g5 g6 g7 g8 g9 g10 g11 g12 g13 g14 g15 g16 g17 g18 g19 g20 g21 g22 g23 g24 g25 g26 a0 a1 a2 a3 a4 a5 a6 a7 a8 a9 a10 a11 a12 a13 a14 a15 a16 a17 a18 a19 a20 a21 a22 a23 b0 w0 k0 k1 k2 k3 k4 k5 k6 k7 k8 k9 k10 k11 k12 k13 k14 k15 cv (.ref 27))) 0 0 36 [none, some (.long l1_4), none, none] [] (hP g0 g1 g2 g3 g4 g5 g6 g7 g8 g9 g10 g11 g12 g13 g14 g15 g16 g17 g18 g19 g20 g21 g22 g23 g24 g25 g26 a0 a1 a2 a3 a4 a5 a6 a7 a8 a9 a10 a11 a12 a13 a14 a15 a16 a17 a18 a19 a20 a21 a22 a23 b0 w0 k0 k1 k2 k3 k4 k5 k6 k7 k8 k9 k10 k11 k12 k13 k14 k15 cv (.ref 27))) : ∀ (n : Nat) (l1_4 : Int64) (l3_4 : Int32), L_hP_X9_packed_4 (xsy 19)  K n l1_4 l3_4 = some res → xW xks YX9_packed (d + 5) 0 0 n0 (xZ 0 0 n0 (some (.long res)) (hP g0 g1 g2 g3 g4 g5 g6 g7 g8 g9 g10 g11 g12 g13 g14 g15 g16 g17 g18 g19 g20 g21 g22 g23 g24 g25 g26 a0 a1 a2 a3 a4 a5 a6 a7 a8 a9 a10 a11 a12 a13 a14 a15 a16 a17 a18 a19 a20 a21 a22 a23 b0 w0 k0 k1 k2 k3 k4 k5 k6 k7 k8 k9 k10 k11 k12 k13 k14 k15 cv (.ref 27))) 0 0 4 [some (.ref 1019), some (.long l1_4), none, some (.int l3_4)] [] (hP g0 g1 g2 g3 g4 g5 g6 g7 g8 g9 g10 g11 g12 g13 g14 g15 g16 g17 g18 g19 g20 g21 g22 g23 g24 g25 g26 a0 a1 a2 a3 a4 a5 a6 a7 a8 a9 a10 a11 a12 a13 a14 a15 a16 a17 a18 a19 a20 a21 a22 a23 b0 w0 k0 k1 k2 k3 k4 k5 k6 k7 k8 k9 k10 k11 k12 k13 k14 k15 cv (.ref 27)) := by
  intro n
  induction n with
  | zero =>
    intro l1_4 l3_4 h
    cases (show (none : Option (Int64)) = some res from h)
  | succ n4 ih4 =>
    intro l1_4 l3_4 h
    unfold L_hP_X9_packed_4 at h
    refine x_iload_n dX9_packed_4 rfl ?_
    refine x_aload_n dX9_packed_5 rfl ?_
    refine x_slen (k := 19) (s := xsy 19) rfl rfl (Nat.le_of_ble_eq_true rfl) kX9_65 dX9_packed_6 (Nat.le_of_ble_eq_true rfl) ?_
    refine x_icmp_ge 36 dX9_packed_9 (by decide) (fun q => ?_) (fun q => ?_)
    · have h := xif_t q h
      refine x_weak (pl2 := [none, some (.long l1_4), none, none]) ⟨rfl, trivial⟩ ?_
      exact hK l1_4 l3_4 h
    · have h := xif_f q h
      refine x_ldc2 iX9_71 dX9_packed_12 ?_
      refine x_lload_n dX9_packed_15 rfl ?_
      refine x_lmul dX9_packed_16 ?_
      refine x_aload_n dX9_packed_17 rfl ?_
      refine x_iload_n dX9_packed_18 rfl ?_
      obtain ⟨q19, h⟩ := xix_of h
      refine x_schar (k := 19) (s := xsy 19) rfl rfl q19 (Nat.le_of_ble_eq_true rfl) kX9_73 dX9_packed_19 (Nat.le_of_ble_eq_true rfl) ?_
      refine x_bipush (97 : Int32) dX9_packed_22 (by decide) ?_
      refine x_isub dX9_packed_24 ?_
      refine x_iconst (1 : Int32) dX9_packed_25 (by decide) ?_
      refine x_iadd dX9_packed_26 ?_
      refine x_i2l dX9_packed_27 ?_
      refine x_ladd dX9_packed_28 ?_
      refine x_lstore_n (pl' := [some (.ref 1019), some (.long (((32 : Int64) * l1_4) + (((xch (xsy 19) l3_4) - (97 : Int32)) + (1 : Int32)).toInt64)), none, some (.int l3_4)]) dX9_packed_29 (by decide) rfl ?_
      refine x_iincK (1 : Int32) (pl' := [some (.ref 1019), some (.long (((32 : Int64) * l1_4) + (((xch (xsy 19) l3_4) - (97 : Int32)) + (1 : Int32)).toInt64)), none, some (.int (l3_4 + (1 : Int32)))]) dX9_packed_30 rfl (by decide) (by decide) rfl ?_
      refine x_goto 4 dX9_packed_33 (by decide) ?_
      refine x_weak (pl2 := [some (.ref 1019), some (.long (((32 : Int64) * l1_4) + (((xch (xsy 19) l3_4) - (97 : Int32)) + (1 : Int32)).toInt64)), none, some (.int (l3_4 + (1 : Int32)))]) ⟨rfl, rfl, rfl, trivial⟩ ?_
      exact ih4 (((32 : Int64) * l1_4) + (((xch (xsy 19) l3_4) - (97 : Int32)) + (1 : Int32)).toInt64) (l3_4 + (1 : Int32)) h
set_option maxRecDepth 100000 in
set_option maxHeartbeats 4000000 in
theorem t_hP_X9_packed_20 {g0 g1 g2 g3 g4 g5 g6 g7 g8 g9 g10 g11 g12 g13 g14 g15 g16 g17 g18 g19 g20 g21 g22 g23 g24 g25 g26 : Int32} {a0 a1 a2 a3 a4 a5 a6 a7 a8 a9 a10 a11 a12 a13 a14 a15 a16 a17 a18 a19 a20 a21 a22 a23 : (Nat → Int32)} {b0 : (Nat → Int64)} {w0 : Int64} {k0 k1 k2 k3 k4 k5 k6 k7 k8 k9 k10 k11 k12 k13 k14 k15 : xC} {cv : Value}  (res : Int64) (h : e_hP_X9_packed (xsy 19)  = some res) (d : Nat) : xMet xks YX9_packed (d + 5) 0 0 [.ref 1019] (hP g0 g1 g2 g3 g4 g5 g6 g7 g8 g9 g10 g11 g12 g13 g14 g15 g16 g17 g18 g19 g20 g21 g22 g23 g24 g25 g26 a0 a1 a2 a3 a4 a5 a6 a7 a8 a9 a10 a11 a12 a13 a14 a15 a16 a17 a18 a19 a20 a21 a22 a23 b0 w0 k0 k1 k2 k3 k4 k5 k6 k7 k8 k9 k10 k11 k12 k13 k14 k15 cv (.ref 27)) (some (.long res)) (hP g0 g1 g2 g3 g4 g5 g6 g7 g8 g9 g10 g11 g12 g13 g14 g15 g16 g17 g18 g19 g20 g21 g22 g23 g24 g25 g26 a0 a1 a2 a3 a4 a5 a6 a7 a8 a9 a10 a11 a12 a13 a14 a15 a16 a17 a18 a19 a20 a21 a22 a23 b0 w0 k0 k1 k2 k3 k4 k5 k6 k7 k8 k9 k10 k11 k12 k13 k14 k15 cv (.ref 27)) := by
  unfold e_hP_X9_packed at h
  refine xMet_of (pl := [some (.ref 1019), none, none, none]) (by decide) (Nat.le_of_ble_eq_true rfl) rfl (Nat.le_of_ble_eq_true rfl) ?_
  refine x_lconst (0 : Int64) dX9_packed_0 (by decide) ?_
  refine x_lstore_n (pl' := [some (.ref 1019), some (.long (0 : Int64)), none, none]) dX9_packed_1 (by decide) rfl ?_
  refine x_iconst (0 : Int32) dX9_packed_2 (by decide) ?_
  refine x_istore_n (pl' := [some (.ref 1019), some (.long (0 : Int64)), none, some (.int (0 : Int32))]) dX9_packed_3 (by decide) rfl ?_
  refine x_weak (pl2 := [some (.ref 1019), some (.long (0 : Int64)), none, some (.int (0 : Int32))]) ⟨rfl, rfl, rfl, trivial⟩ ?_
  refine lp_hP_X9_packed_20_4 d _  res _ (fun l1_4 l3_4 h => ?_) 200000 (0 : Int64) (0 : Int32) h
  refine x_lload_n dX9_packed_36 rfl ?_
  cases h
  exact x_lret2 dX9_packed_37 rfl rfl
set_option maxRecDepth 100000 in
set_option maxHeartbeats 4000000 in
theorem t_hP_X9_isWord_20 {g0 g1 g2 g3 g4 g5 g6 g7 g8 g9 g10 g11 g12 g13 g14 g15 g16 g17 g18 g19 g20 g21 g22 g23 g24 g25 g26 : Int32} {a0 a1 a2 a3 a4 a5 a6 a7 a8 a9 a10 a11 a12 a13 a14 a15 a16 a17 a18 a19 a20 a21 a22 a23 : (Nat → Int32)} {b0 : (Nat → Int64)} {w0 : Int64} {k0 k1 k2 k3 k4 k5 k6 k7 k8 k9 k10 k11 k12 k13 k14 k15 : xC} {cv : Value}  (res : Int32) (h : e_hP_X9_isWord g6 w0 (xsy 19)  = some res) (d : Nat) : xMet xks YX9_isWord (d + 6) 0 0 [.ref 0, .ref 1019] (hP g0 g1 g2 g3 g4 g5 g6 g7 g8 g9 g10 g11 g12 g13 g14 g15 g16 g17 g18 g19 g20 g21 g22 g23 g24 g25 g26 a0 a1 a2 a3 a4 a5 a6 a7 a8 a9 a10 a11 a12 a13 a14 a15 a16 a17 a18 a19 a20 a21 a22 a23 b0 w0 k0 k1 k2 k3 k4 k5 k6 k7 k8 k9 k10 k11 k12 k13 k14 k15 cv (.ref 27)) (some (.int res)) (hP g0 g1 g2 g3 g4 g5 g6 g7 g8 g9 g10 g11 g12 g13 g14 g15 g16 g17 g18 g19 g20 g21 g22 g23 g24 g25 g26 a0 a1 a2 a3 a4 a5 a6 a7 a8 a9 a10 a11 a12 a13 a14 a15 a16 a17 a18 a19 a20 a21 a22 a23 b0 w0 k0 k1 k2 k3 k4 k5 k6 k7 k8 k9 k10 k11 k12 k13 k14 k15 cv (.ref 27)) := by
  unfold e_hP_X9_isWord at h
  refine xMet_of (pl := [some (.ref 0), some (.ref 1019)]) (by decide) (Nat.le_of_ble_eq_true rfl) rfl (Nat.le_of_ble_eq_true rfl) ?_
  refine x_aload_n dX9_isWord_0 rfl ?_
  refine x_get fX9_77 dX9_isWord_1 rfl rfl rfl ?_
  refine x_iconst (2 : Int32) dX9_isWord_4 (by decide) ?_
  refine x_icmp_ne 24 dX9_isWord_5 (by decide) (fun q => ?_) (fun q => ?_)
  · have h := xif_f q h
    refine x_iconst (0 : Int32) dX9_isWord_24 (by decide) ?_
    cases h
    exact x_zret2 dX9_isWord_25 rfl rfl rfl
  · have h := xif_t q h
    refine x_aload_n dX9_isWord_8 rfl ?_
    refine x_get fX9_93 dX9_isWord_9 rfl rfl rfl ?_
    refine x_aload_n dX9_isWord_12 rfl ?_
    obtain ⟨z13, y13, h⟩ := xbind h
    refine x_callS (t_hP_X9_packed_20  z13 y13 (d + 0)) kX9_109 dX9_isWord_13 rfl rfl (Nat.le_of_ble_eq_true rfl) (Nat.le_of_ble_eq_true rfl) rfl rfl (Or.inl rfl) ?_
    refine x_lcmp dX9_isWord_16 ?_
    refine x_if_ne 24 dX9_isWord_17 (by decide) (fun q => ?_) (fun q => ?_)
    · have h := xif_f q h
      refine x_iconst (0 : Int32) dX9_isWord_24 (by decide) ?_
      cases h
      exact x_zret2 dX9_isWord_25 rfl rfl rfl
    · have h := xif_t q h
      refine x_iconst (1 : Int32) dX9_isWord_20 (by decide) ?_
      refine x_goto 25 dX9_isWord_21 (by decide) ?_
      cases h
      exact x_zret2 dX9_isWord_25 rfl rfl rfl
set_option maxRecDepth 100000 in
set_option maxHeartbeats 4000000 in
theorem t_hP_X9_needs_4 {g0 g1 g2 g3 g4 g5 g6 g7 g8 g9 g10 g11 g12 g13 g14 g15 g16 g17 g18 g19 g20 g21 g22 g23 g24 g25 g26 : Int32} {a0 a1 a2 a3 a4 a5 a6 a7 a8 a9 a10 a11 a12 a13 a14 a15 a16 a17 a18 a19 a20 a21 a22 a23 : (Nat → Int32)} {b0 : (Nat → Int64)} {w0 : Int64} {k0 k1 k2 k3 k4 k5 k6 k7 k8 k9 k10 k11 k12 k13 k14 k15 : xC} {cv : Value}  (res : Int32 × Int32 × Int32 × Int32 × Int64 × Int32 × Int32) (h : e_hP_X9_needs g6 w0 g5 g4 a0 g7 g8 g9 g10 (xsy 19)  = some res) (d : Nat) : xMet xks YX9_needs (d + 7) 0 0 [.ref 0, .ref 1019] (hP g0 g1 g2 g3 g4 g5 g6 g7 g8 g9 g10 g11 g12 g13 g14 g15 g16 g17 g18 g19 g20 g21 g22 g23 g24 g25 g26 a0 a1 a2 a3 a4 a5 a6 a7 a8 a9 a10 a11 a12 a13 a14 a15 a16 a17 a18 a19 a20 a21 a22 a23 b0 w0 k0 k1 k2 k3 k4 k5 k6 k7 k8 k9 k10 k11 k12 k13 k14 k15 cv (.ref 27)) none (hP g0 g1 g2 g3 g4 res.2.2.1 res.2.1 res.1 res.2.2.2.1 res.2.2.2.2.2.1 res.2.2.2.2.2.2 g11 g12 g13 g14 g15 g16 g17 g18 g19 g20 g21 g22 g23 g24 g25 g26 a0 a1 a2 a3 a4 a5 a6 a7 a8 a9 a10 a11 a12 a13 a14 a15 a16 a17 a18 a19 a20 a21 a22 a23 b0 res.2.2.2.2.1 k0 k1 k2 k3 k4 k5 k6 k7 k8 k9 k10 k11 k12 k13 k14 k15 cv (.ref 27)) := by
  unfold e_hP_X9_needs at h
  refine xMet_of (pl := [some (.ref 0), some (.ref 1019)]) (by decide) (Nat.le_of_ble_eq_true rfl) rfl (Nat.le_of_ble_eq_true rfl) ?_
  refine x_aload_n dX9_needs_0 rfl ?_
  refine x_aload_n dX9_needs_1 rfl ?_
  obtain ⟨z2, y2, h⟩ := xbind h
  refine x_callV (t_hP_X9_isWord_20  z2 y2 (d + 0)) kX9_116 dX9_needs_2 rfl rfl rfl rfl rfl (Nat.le_of_ble_eq_true rfl) (Nat.le_of_ble_eq_true rfl) rfl rfl (Or.inl rfl) ?_
  refine x_if_ne 13 dX9_needs_5 (by decide) (fun q => ?_) (fun q => ?_)
  · have h := xif_f q h
    refine x_aload_n dX9_needs_13 rfl ?_
    obtain ⟨z14, y14, h⟩ := xbind h
    refine x_callV (t_hP_X9_goesOn  z14 y14 (d + 4)) kX9_113 dX9_needs_14 rfl rfl rfl rfl rfl (Nat.le_of_ble_eq_true rfl) (Nat.le_of_ble_eq_true rfl) rfl rfl (Or.inl rfl) ?_
    cases h
    exact x_vret2 dX9_needs_17 rfl rfl
  · have h := xif_t q h
    refine x_aload_n dX9_needs_8 rfl ?_
    refine x_iconst (1 : Int32) dX9_needs_9 (by decide) ?_
    obtain ⟨z10, y10, h⟩ := xbind h
    refine x_callV (t_hP_X9_flaw (1 : Int32) z10 y10 (d + 5)) kX9_120 dX9_needs_10 rfl rfl rfl rfl rfl (Nat.le_of_ble_eq_true rfl) (Nat.le_of_ble_eq_true rfl) rfl rfl (Or.inl rfl) ?_
    refine x_aload_n dX9_needs_13 rfl ?_
    obtain ⟨z14, y14, h⟩ := xbind h
    refine x_callV (t_hP_X9_goesOn  z14 y14 (d + 4)) kX9_113 dX9_needs_14 rfl rfl rfl rfl rfl (Nat.le_of_ble_eq_true rfl) (Nat.le_of_ble_eq_true rfl) rfl rfl (Or.inl rfl) ?_
    cases h
    exact x_vret2 dX9_needs_17 rfl rfl
set_option maxRecDepth 100000 in
set_option maxHeartbeats 4000000 in
theorem t_hP_X9_readPart_4 {g0 g1 g2 g3 g4 g5 g6 g7 g8 g9 g10 g11 g12 g13 g14 g15 g16 g17 g18 g19 g20 g21 g22 g23 g24 g25 g26 : Int32} {a0 a1 a2 a3 a4 a5 a6 a7 a8 a9 a10 a11 a12 a13 a14 a15 a16 a17 a18 a19 a20 a21 a22 a23 : (Nat → Int32)} {b0 : (Nat → Int64)} {w0 : Int64} {k0 k1 k2 k3 k4 k5 k6 k7 k8 k9 k10 k11 k12 k13 k14 k15 : xC} {cv : Value} (x2 : Int32) (x3 : Int32) (res : Int32 × Int32 × Int32 × Int32 × Int32 × Int64 × Int32 × Int32) (h : e_hP_X9_readPart g6 w0 g5 g4 a0 g7 g8 g9 g10 (xsy 19) x2 x3 = some res) (d : Nat) : xMet xks YX9_readPart (d + 8) 0 0 [.ref 0, .ref 1019, .int x2, .int x3] (hP g0 g1 g2 g3 g4 g5 g6 g7 g8 g9 g10 g11 g12 g13 g14 g15 g16 g17 g18 g19 g20 g21 g22 g23 g24 g25 g26 a0 a1 a2 a3 a4 a5 a6 a7 a8 a9 a10 a11 a12 a13 a14 a15 a16 a17 a18 a19 a20 a21 a22 a23 b0 w0 k0 k1 k2 k3 k4 k5 k6 k7 k8 k9 k10 k11 k12 k13 k14 k15 cv (.ref 27)) (some (.int res.1)) (hP g0 g1 g2 g3 g4 res.2.2.2.1 res.2.2.1 res.2.1 res.2.2.2.2.1 res.2.2.2.2.2.2.1 res.2.2.2.2.2.2.2 g11 g12 g13 g14 g15 g16 g17 g18 g19 g20 g21 g22 g23 g24 g25 g26 a0 a1 a2 a3 a4 a5 a6 a7 a8 a9 a10 a11 a12 a13 a14 a15 a16 a17 a18 a19 a20 a21 a22 a23 b0 res.2.2.2.2.2.1 k0 k1 k2 k3 k4 k5 k6 k7 k8 k9 k10 k11 k12 k13 k14 k15 cv (.ref 27)) := by
  unfold e_hP_X9_readPart at h
  refine xMet_of (pl := [some (.ref 0), some (.ref 1019), some (.int x2), some (.int x3)]) (by decide) (Nat.le_of_ble_eq_true rfl) rfl (Nat.le_of_ble_eq_true rfl) ?_
  refine x_aload_n dX9_readPart_0 rfl ?_
  refine x_aload_n dX9_readPart_1 rfl ?_
  obtain ⟨z2, y2, h⟩ := xbind h
  refine x_callV (t_hP_X9_needs_4  z2 y2 (d + 0)) kX9_128 dX9_readPart_2 rfl rfl rfl rfl rfl (Nat.le_of_ble_eq_true rfl) (Nat.le_of_ble_eq_true rfl) rfl rfl (Or.inl rfl) ?_
  refine x_aload_n dX9_readPart_5 rfl ?_
  refine x_iload_n dX9_readPart_6 rfl ?_
  refine x_iload_n dX9_readPart_7 rfl ?_
  obtain ⟨z8, y8, h⟩ := xbind h
  refine x_callV (t_hP_X9_readWhole x2 x3 z8 y8 (d + 4)) kX9_132 dX9_readPart_8 rfl rfl rfl rfl rfl (Nat.le_of_ble_eq_true rfl) (Nat.le_of_ble_eq_true rfl) rfl rfl (Or.inl rfl) ?_
  cases h
  exact x_iret2 dX9_readPart_11 rfl rfl
set_option maxRecDepth 100000 in
set_option maxHeartbeats 4000000 in
theorem lp_hP_X9_packed_21_4 {g0 g1 g2 g3 g4 g5 g6 g7 g8 g9 g10 g11 g12 g13 g14 g15 g16 g17 g18 g19 g20 g21 g22 g23 g24 g25 g26 : Int32} {a0 a1 a2 a3 a4 a5 a6 a7 a8 a9 a10 a11 a12 a13 a14 a15 a16 a17 a18 a19 a20 a21 a22 a23 : (Nat → Int32)} {b0 : (Nat → Int64)} {w0 : Int64} {k0 k1 k2 k3 k4 k5 k6 k7 k8 k9 k10 k11 k12 k13 k14 k15 : xC} {cv : Value} (d n0 : Nat)  (res : Int64) (K : Int64 → Int32 → Option (Int64)) (hK : ∀ (l1_4 : Int64) (l3_4 : Int32), K l1_4 l3_4 = some res → xW xks YX9_packed (d + 5) 0 0 n0 (xZ 0 0 n0 (some (.long res)) (hP g0 g1 g2 g3 g4 g5 g6 g7 g8 g9 g10 g11 g12 g13 g14 g15 g16 g17 g18 g19 g20 g21 g22 g23 g24 g25 g26 a0 a1 a2 a3 a4 a5 a6 a7 a8 a9 a10 a11 a12 a13 a14 a15 a16 a17 a18 a19 a20 a21 a22 a23 b0 w0 k0 k1 k2 k3 k4 k5 k6 k7 k8 k9 k10 k11 k12 k13 k14 k15 cv (.ref 27))) 0 0 36 [none, some (.long l1_4), none, none] [] (hP g0 g1 g2 g3 g4 g5 g6 g7 g8 g9 g10 g11 g12 g13 g14 g15 g16 g17 g18 g19 g20 g21 g22 g23 g24 g25 g26 a0 a1 a2 a3 a4 a5 a6 a7 a8 a9 a10 a11 a12 a13 a14 a15 a16 a17 a18 a19 a20 a21 a22 a23 b0 w0 k0 k1 k2 k3 k4 k5 k6 k7 k8 k9 k10 k11 k12 k13 k14 k15 cv (.ref 27))) : ∀ (n : Nat) (l1_4 : Int64) (l3_4 : Int32), L_hP_X9_packed_4 (xsy 20)  K n l1_4 l3_4 = some res → xW xks YX9_packed (d + 5) 0 0 n0 (xZ 0 0 n0 (some (.long res)) (hP g0 g1 g2 g3 g4 g5 g6 g7 g8 g9 g10 g11 g12 g13 g14 g15 g16 g17 g18 g19 g20 g21 g22 g23 g24 g25 g26 a0 a1 a2 a3 a4 a5 a6 a7 a8 a9 a10 a11 a12 a13 a14 a15 a16 a17 a18 a19 a20 a21 a22 a23 b0 w0 k0 k1 k2 k3 k4 k5 k6 k7 k8 k9 k10 k11 k12 k13 k14 k15 cv (.ref 27))) 0 0 4 [some (.ref 1020), some (.long l1_4), none, some (.int l3_4)] [] (hP g0 g1 g2 g3 g4 g5 g6 g7 g8 g9 g10 g11 g12 g13 g14 g15 g16 g17 g18 g19 g20 g21 g22 g23 g24 g25 g26 a0 a1 a2 a3 a4 a5 a6 a7 a8 a9 a10 a11 a12 a13 a14 a15 a16 a17 a18 a19 a20 a21 a22 a23 b0 w0 k0 k1 k2 k3 k4 k5 k6 k7 k8 k9 k10 k11 k12 k13 k14 k15 cv (.ref 27)) := by
  intro n
  induction n with
  | zero =>
    intro l1_4 l3_4 h
    cases (show (none : Option (Int64)) = some res from h)
  | succ n4 ih4 =>
    intro l1_4 l3_4 h
    unfold L_hP_X9_packed_4 at h
    refine x_iload_n dX9_packed_4 rfl ?_
    refine x_aload_n dX9_packed_5 rfl ?_
    refine x_slen (k := 20) (s := xsy 20) rfl rfl (Nat.le_of_ble_eq_true rfl) kX9_65 dX9_packed_6 (Nat.le_of_ble_eq_true rfl) ?_
    refine x_icmp_ge 36 dX9_packed_9 (by decide) (fun q => ?_) (fun q => ?_)
    · have h := xif_t q h
      refine x_weak (pl2 := [none, some (.long l1_4), none, none]) ⟨rfl, trivial⟩ ?_
      exact hK l1_4 l3_4 h
    · have h := xif_f q h
      refine x_ldc2 iX9_71 dX9_packed_12 ?_
      refine x_lload_n dX9_packed_15 rfl ?_
      refine x_lmul dX9_packed_16 ?_
      refine x_aload_n dX9_packed_17 rfl ?_
      refine x_iload_n dX9_packed_18 rfl ?_
      obtain ⟨q19, h⟩ := xix_of h
      refine x_schar (k := 20) (s := xsy 20) rfl rfl q19 (Nat.le_of_ble_eq_true rfl) kX9_73 dX9_packed_19 (Nat.le_of_ble_eq_true rfl) ?_
      refine x_bipush (97 : Int32) dX9_packed_22 (by decide) ?_
      refine x_isub dX9_packed_24 ?_
      refine x_iconst (1 : Int32) dX9_packed_25 (by decide) ?_
      refine x_iadd dX9_packed_26 ?_
      refine x_i2l dX9_packed_27 ?_
      refine x_ladd dX9_packed_28 ?_
      refine x_lstore_n (pl' := [some (.ref 1020), some (.long (((32 : Int64) * l1_4) + (((xch (xsy 20) l3_4) - (97 : Int32)) + (1 : Int32)).toInt64)), none, some (.int l3_4)]) dX9_packed_29 (by decide) rfl ?_
      refine x_iincK (1 : Int32) (pl' := [some (.ref 1020), some (.long (((32 : Int64) * l1_4) + (((xch (xsy 20) l3_4) - (97 : Int32)) + (1 : Int32)).toInt64)), none, some (.int (l3_4 + (1 : Int32)))]) dX9_packed_30 rfl (by decide) (by decide) rfl ?_
      refine x_goto 4 dX9_packed_33 (by decide) ?_
      refine x_weak (pl2 := [some (.ref 1020), some (.long (((32 : Int64) * l1_4) + (((xch (xsy 20) l3_4) - (97 : Int32)) + (1 : Int32)).toInt64)), none, some (.int (l3_4 + (1 : Int32)))]) ⟨rfl, rfl, rfl, trivial⟩ ?_
      exact ih4 (((32 : Int64) * l1_4) + (((xch (xsy 20) l3_4) - (97 : Int32)) + (1 : Int32)).toInt64) (l3_4 + (1 : Int32)) h
set_option maxRecDepth 100000 in
set_option maxHeartbeats 4000000 in
theorem t_hP_X9_packed_21 {g0 g1 g2 g3 g4 g5 g6 g7 g8 g9 g10 g11 g12 g13 g14 g15 g16 g17 g18 g19 g20 g21 g22 g23 g24 g25 g26 : Int32} {a0 a1 a2 a3 a4 a5 a6 a7 a8 a9 a10 a11 a12 a13 a14 a15 a16 a17 a18 a19 a20 a21 a22 a23 : (Nat → Int32)} {b0 : (Nat → Int64)} {w0 : Int64} {k0 k1 k2 k3 k4 k5 k6 k7 k8 k9 k10 k11 k12 k13 k14 k15 : xC} {cv : Value}  (res : Int64) (h : e_hP_X9_packed (xsy 20)  = some res) (d : Nat) : xMet xks YX9_packed (d + 5) 0 0 [.ref 1020] (hP g0 g1 g2 g3 g4 g5 g6 g7 g8 g9 g10 g11 g12 g13 g14 g15 g16 g17 g18 g19 g20 g21 g22 g23 g24 g25 g26 a0 a1 a2 a3 a4 a5 a6 a7 a8 a9 a10 a11 a12 a13 a14 a15 a16 a17 a18 a19 a20 a21 a22 a23 b0 w0 k0 k1 k2 k3 k4 k5 k6 k7 k8 k9 k10 k11 k12 k13 k14 k15 cv (.ref 27)) (some (.long res)) (hP g0 g1 g2 g3 g4 g5 g6 g7 g8 g9 g10 g11 g12 g13 g14 g15 g16 g17 g18 g19 g20 g21 g22 g23 g24 g25 g26 a0 a1 a2 a3 a4 a5 a6 a7 a8 a9 a10 a11 a12 a13 a14 a15 a16 a17 a18 a19 a20 a21 a22 a23 b0 w0 k0 k1 k2 k3 k4 k5 k6 k7 k8 k9 k10 k11 k12 k13 k14 k15 cv (.ref 27)) := by
  unfold e_hP_X9_packed at h
  refine xMet_of (pl := [some (.ref 1020), none, none, none]) (by decide) (Nat.le_of_ble_eq_true rfl) rfl (Nat.le_of_ble_eq_true rfl) ?_
  refine x_lconst (0 : Int64) dX9_packed_0 (by decide) ?_
  refine x_lstore_n (pl' := [some (.ref 1020), some (.long (0 : Int64)), none, none]) dX9_packed_1 (by decide) rfl ?_
  refine x_iconst (0 : Int32) dX9_packed_2 (by decide) ?_
  refine x_istore_n (pl' := [some (.ref 1020), some (.long (0 : Int64)), none, some (.int (0 : Int32))]) dX9_packed_3 (by decide) rfl ?_
  refine x_weak (pl2 := [some (.ref 1020), some (.long (0 : Int64)), none, some (.int (0 : Int32))]) ⟨rfl, rfl, rfl, trivial⟩ ?_
  refine lp_hP_X9_packed_21_4 d _  res _ (fun l1_4 l3_4 h => ?_) 200000 (0 : Int64) (0 : Int32) h
  refine x_lload_n dX9_packed_36 rfl ?_
  cases h
  exact x_lret2 dX9_packed_37 rfl rfl
set_option maxRecDepth 100000 in
set_option maxHeartbeats 4000000 in
theorem t_hP_X9_isWord_21 {g0 g1 g2 g3 g4 g5 g6 g7 g8 g9 g10 g11 g12 g13 g14 g15 g16 g17 g18 g19 g20 g21 g22 g23 g24 g25 g26 : Int32} {a0 a1 a2 a3 a4 a5 a6 a7 a8 a9 a10 a11 a12 a13 a14 a15 a16 a17 a18 a19 a20 a21 a22 a23 : (Nat → Int32)} {b0 : (Nat → Int64)} {w0 : Int64} {k0 k1 k2 k3 k4 k5 k6 k7 k8 k9 k10 k11 k12 k13 k14 k15 : xC} {cv : Value}  (res : Int32) (h : e_hP_X9_isWord g6 w0 (xsy 20)  = some res) (d : Nat) : xMet xks YX9_isWord (d + 6) 0 0 [.ref 0, .ref 1020] (hP g0 g1 g2 g3 g4 g5 g6 g7 g8 g9 g10 g11 g12 g13 g14 g15 g16 g17 g18 g19 g20 g21 g22 g23 g24 g25 g26 a0 a1 a2 a3 a4 a5 a6 a7 a8 a9 a10 a11 a12 a13 a14 a15 a16 a17 a18 a19 a20 a21 a22 a23 b0 w0 k0 k1 k2 k3 k4 k5 k6 k7 k8 k9 k10 k11 k12 k13 k14 k15 cv (.ref 27)) (some (.int res)) (hP g0 g1 g2 g3 g4 g5 g6 g7 g8 g9 g10 g11 g12 g13 g14 g15 g16 g17 g18 g19 g20 g21 g22 g23 g24 g25 g26 a0 a1 a2 a3 a4 a5 a6 a7 a8 a9 a10 a11 a12 a13 a14 a15 a16 a17 a18 a19 a20 a21 a22 a23 b0 w0 k0 k1 k2 k3 k4 k5 k6 k7 k8 k9 k10 k11 k12 k13 k14 k15 cv (.ref 27)) := by
  unfold e_hP_X9_isWord at h
  refine xMet_of (pl := [some (.ref 0), some (.ref 1020)]) (by decide) (Nat.le_of_ble_eq_true rfl) rfl (Nat.le_of_ble_eq_true rfl) ?_
  refine x_aload_n dX9_isWord_0 rfl ?_
  refine x_get fX9_77 dX9_isWord_1 rfl rfl rfl ?_
  refine x_iconst (2 : Int32) dX9_isWord_4 (by decide) ?_
  refine x_icmp_ne 24 dX9_isWord_5 (by decide) (fun q => ?_) (fun q => ?_)
  · have h := xif_f q h
    refine x_iconst (0 : Int32) dX9_isWord_24 (by decide) ?_
    cases h
    exact x_zret2 dX9_isWord_25 rfl rfl rfl
  · have h := xif_t q h
    refine x_aload_n dX9_isWord_8 rfl ?_
    refine x_get fX9_93 dX9_isWord_9 rfl rfl rfl ?_
    refine x_aload_n dX9_isWord_12 rfl ?_
    obtain ⟨z13, y13, h⟩ := xbind h
    refine x_callS (t_hP_X9_packed_21  z13 y13 (d + 0)) kX9_109 dX9_isWord_13 rfl rfl (Nat.le_of_ble_eq_true rfl) (Nat.le_of_ble_eq_true rfl) rfl rfl (Or.inl rfl) ?_
    refine x_lcmp dX9_isWord_16 ?_
    refine x_if_ne 24 dX9_isWord_17 (by decide) (fun q => ?_) (fun q => ?_)
    · have h := xif_f q h
      refine x_iconst (0 : Int32) dX9_isWord_24 (by decide) ?_
      cases h
      exact x_zret2 dX9_isWord_25 rfl rfl rfl
    · have h := xif_t q h
      refine x_iconst (1 : Int32) dX9_isWord_20 (by decide) ?_
      refine x_goto 25 dX9_isWord_21 (by decide) ?_
      cases h
      exact x_zret2 dX9_isWord_25 rfl rfl rfl
set_option maxRecDepth 100000 in
set_option maxHeartbeats 4000000 in
theorem t_hP_X9_needs_5 {g0 g1 g2 g3 g4 g5 g6 g7 g8 g9 g10 g11 g12 g13 g14 g15 g16 g17 g18 g19 g20 g21 g22 g23 g24 g25 g26 : Int32} {a0 a1 a2 a3 a4 a5 a6 a7 a8 a9 a10 a11 a12 a13 a14 a15 a16 a17 a18 a19 a20 a21 a22 a23 : (Nat → Int32)} {b0 : (Nat → Int64)} {w0 : Int64} {k0 k1 k2 k3 k4 k5 k6 k7 k8 k9 k10 k11 k12 k13 k14 k15 : xC} {cv : Value}  (res : Int32 × Int32 × Int32 × Int32 × Int64 × Int32 × Int32) (h : e_hP_X9_needs g6 w0 g5 g4 a0 g7 g8 g9 g10 (xsy 20)  = some res) (d : Nat) : xMet xks YX9_needs (d + 7) 0 0 [.ref 0, .ref 1020] (hP g0 g1 g2 g3 g4 g5 g6 g7 g8 g9 g10 g11 g12 g13 g14 g15 g16 g17 g18 g19 g20 g21 g22 g23 g24 g25 g26 a0 a1 a2 a3 a4 a5 a6 a7 a8 a9 a10 a11 a12 a13 a14 a15 a16 a17 a18 a19 a20 a21 a22 a23 b0 w0 k0 k1 k2 k3 k4 k5 k6 k7 k8 k9 k10 k11 k12 k13 k14 k15 cv (.ref 27)) none (hP g0 g1 g2 g3 g4 res.2.2.1 res.2.1 res.1 res.2.2.2.1 res.2.2.2.2.2.1 res.2.2.2.2.2.2 g11 g12 g13 g14 g15 g16 g17 g18 g19 g20 g21 g22 g23 g24 g25 g26 a0 a1 a2 a3 a4 a5 a6 a7 a8 a9 a10 a11 a12 a13 a14 a15 a16 a17 a18 a19 a20 a21 a22 a23 b0 res.2.2.2.2.1 k0 k1 k2 k3 k4 k5 k6 k7 k8 k9 k10 k11 k12 k13 k14 k15 cv (.ref 27)) := by
  unfold e_hP_X9_needs at h
  refine xMet_of (pl := [some (.ref 0), some (.ref 1020)]) (by decide) (Nat.le_of_ble_eq_true rfl) rfl (Nat.le_of_ble_eq_true rfl) ?_
  refine x_aload_n dX9_needs_0 rfl ?_
  refine x_aload_n dX9_needs_1 rfl ?_
  obtain ⟨z2, y2, h⟩ := xbind h
  refine x_callV (t_hP_X9_isWord_21  z2 y2 (d + 0)) kX9_116 dX9_needs_2 rfl rfl rfl rfl rfl (Nat.le_of_ble_eq_true rfl) (Nat.le_of_ble_eq_true rfl) rfl rfl (Or.inl rfl) ?_
  refine x_if_ne 13 dX9_needs_5 (by decide) (fun q => ?_) (fun q => ?_)
  · have h := xif_f q h
    refine x_aload_n dX9_needs_13 rfl ?_
    obtain ⟨z14, y14, h⟩ := xbind h
    refine x_callV (t_hP_X9_goesOn  z14 y14 (d + 4)) kX9_113 dX9_needs_14 rfl rfl rfl rfl rfl (Nat.le_of_ble_eq_true rfl) (Nat.le_of_ble_eq_true rfl) rfl rfl (Or.inl rfl) ?_
    cases h
    exact x_vret2 dX9_needs_17 rfl rfl
  · have h := xif_t q h
    refine x_aload_n dX9_needs_8 rfl ?_
    refine x_iconst (1 : Int32) dX9_needs_9 (by decide) ?_
    obtain ⟨z10, y10, h⟩ := xbind h
    refine x_callV (t_hP_X9_flaw (1 : Int32) z10 y10 (d + 5)) kX9_120 dX9_needs_10 rfl rfl rfl rfl rfl (Nat.le_of_ble_eq_true rfl) (Nat.le_of_ble_eq_true rfl) rfl rfl (Or.inl rfl) ?_
    refine x_aload_n dX9_needs_13 rfl ?_
    obtain ⟨z14, y14, h⟩ := xbind h
    refine x_callV (t_hP_X9_goesOn  z14 y14 (d + 4)) kX9_113 dX9_needs_14 rfl rfl rfl rfl rfl (Nat.le_of_ble_eq_true rfl) (Nat.le_of_ble_eq_true rfl) rfl rfl (Or.inl rfl) ?_
    cases h
    exact x_vret2 dX9_needs_17 rfl rfl
set_option maxRecDepth 100000 in
set_option maxHeartbeats 4000000 in
theorem t_hP_X9_readPart_5 {g0 g1 g2 g3 g4 g5 g6 g7 g8 g9 g10 g11 g12 g13 g14 g15 g16 g17 g18 g19 g20 g21 g22 g23 g24 g25 g26 : Int32} {a0 a1 a2 a3 a4 a5 a6 a7 a8 a9 a10 a11 a12 a13 a14 a15 a16 a17 a18 a19 a20 a21 a22 a23 : (Nat → Int32)} {b0 : (Nat → Int64)} {w0 : Int64} {k0 k1 k2 k3 k4 k5 k6 k7 k8 k9 k10 k11 k12 k13 k14 k15 : xC} {cv : Value} (x2 : Int32) (x3 : Int32) (res : Int32 × Int32 × Int32 × Int32 × Int32 × Int64 × Int32 × Int32) (h : e_hP_X9_readPart g6 w0 g5 g4 a0 g7 g8 g9 g10 (xsy 20) x2 x3 = some res) (d : Nat) : xMet xks YX9_readPart (d + 8) 0 0 [.ref 0, .ref 1020, .int x2, .int x3] (hP g0 g1 g2 g3 g4 g5 g6 g7 g8 g9 g10 g11 g12 g13 g14 g15 g16 g17 g18 g19 g20 g21 g22 g23 g24 g25 g26 a0 a1 a2 a3 a4 a5 a6 a7 a8 a9 a10 a11 a12 a13 a14 a15 a16 a17 a18 a19 a20 a21 a22 a23 b0 w0 k0 k1 k2 k3 k4 k5 k6 k7 k8 k9 k10 k11 k12 k13 k14 k15 cv (.ref 27)) (some (.int res.1)) (hP g0 g1 g2 g3 g4 res.2.2.2.1 res.2.2.1 res.2.1 res.2.2.2.2.1 res.2.2.2.2.2.2.1 res.2.2.2.2.2.2.2 g11 g12 g13 g14 g15 g16 g17 g18 g19 g20 g21 g22 g23 g24 g25 g26 a0 a1 a2 a3 a4 a5 a6 a7 a8 a9 a10 a11 a12 a13 a14 a15 a16 a17 a18 a19 a20 a21 a22 a23 b0 res.2.2.2.2.2.1 k0 k1 k2 k3 k4 k5 k6 k7 k8 k9 k10 k11 k12 k13 k14 k15 cv (.ref 27)) := by
  unfold e_hP_X9_readPart at h
  refine xMet_of (pl := [some (.ref 0), some (.ref 1020), some (.int x2), some (.int x3)]) (by decide) (Nat.le_of_ble_eq_true rfl) rfl (Nat.le_of_ble_eq_true rfl) ?_
  refine x_aload_n dX9_readPart_0 rfl ?_
  refine x_aload_n dX9_readPart_1 rfl ?_
  obtain ⟨z2, y2, h⟩ := xbind h
  refine x_callV (t_hP_X9_needs_5  z2 y2 (d + 0)) kX9_128 dX9_readPart_2 rfl rfl rfl rfl rfl (Nat.le_of_ble_eq_true rfl) (Nat.le_of_ble_eq_true rfl) rfl rfl (Or.inl rfl) ?_
  refine x_aload_n dX9_readPart_5 rfl ?_
  refine x_iload_n dX9_readPart_6 rfl ?_
  refine x_iload_n dX9_readPart_7 rfl ?_
  obtain ⟨z8, y8, h⟩ := xbind h
  refine x_callV (t_hP_X9_readWhole x2 x3 z8 y8 (d + 4)) kX9_132 dX9_readPart_8 rfl rfl rfl rfl rfl (Nat.le_of_ble_eq_true rfl) (Nat.le_of_ble_eq_true rfl) rfl rfl (Or.inl rfl) ?_
  cases h
  exact x_iret2 dX9_readPart_11 rfl rfl
set_option maxRecDepth 100000 in
set_option maxHeartbeats 4000000 in
theorem lp_hP_X9_packed_22_4 {g0 g1 g2 g3 g4 g5 g6 g7 g8 g9 g10 g11 g12 g13 g14 g15 g16 g17 g18 g19 g20 g21 g22 g23 g24 g25 g26 : Int32} {a0 a1 a2 a3 a4 a5 a6 a7 a8 a9 a10 a11 a12 a13 a14 a15 a16 a17 a18 a19 a20 a21 a22 a23 : (Nat → Int32)} {b0 : (Nat → Int64)} {w0 : Int64} {k0 k1 k2 k3 k4 k5 k6 k7 k8 k9 k10 k11 k12 k13 k14 k15 : xC} {cv : Value} (d n0 : Nat)  (res : Int64) (K : Int64 → Int32 → Option (Int64)) (hK : ∀ (l1_4 : Int64) (l3_4 : Int32), K l1_4 l3_4 = some res → xW xks YX9_packed (d + 5) 0 0 n0 (xZ 0 0 n0 (some (.long res)) (hP g0 g1 g2 g3 g4 g5 g6 g7 g8 g9 g10 g11 g12 g13 g14 g15 g16 g17 g18 g19 g20 g21 g22 g23 g24 g25 g26 a0 a1 a2 a3 a4 a5 a6 a7 a8 a9 a10 a11 a12 a13 a14 a15 a16 a17 a18 a19 a20 a21 a22 a23 b0 w0 k0 k1 k2 k3 k4 k5 k6 k7 k8 k9 k10 k11 k12 k13 k14 k15 cv (.ref 27))) 0 0 36 [none, some (.long l1_4), none, none] [] (hP g0 g1 g2 g3 g4 g5 g6 g7 g8 g9 g10 g11 g12 g13 g14 g15 g16 g17 g18 g19 g20 g21 g22 g23 g24 g25 g26 a0 a1 a2 a3 a4 a5 a6 a7 a8 a9 a10 a11 a12 a13 a14 a15 a16 a17 a18 a19 a20 a21 a22 a23 b0 w0 k0 k1 k2 k3 k4 k5 k6 k7 k8 k9 k10 k11 k12 k13 k14 k15 cv (.ref 27))) : ∀ (n : Nat) (l1_4 : Int64) (l3_4 : Int32), L_hP_X9_packed_4 (xsy 21)  K n l1_4 l3_4 = some res → xW xks YX9_packed (d + 5) 0 0 n0 (xZ 0 0 n0 (some (.long res)) (hP g0 g1 g2 g3 g4 g5 g6 g7 g8 g9 g10 g11 g12 g13 g14 g15 g16 g17 g18 g19 g20 g21 g22 g23 g24 g25 g26 a0 a1 a2 a3 a4 a5 a6 a7 a8 a9 a10 a11 a12 a13 a14 a15 a16 a17 a18 a19 a20 a21 a22 a23 b0 w0 k0 k1 k2 k3 k4 k5 k6 k7 k8 k9 k10 k11 k12 k13 k14 k15 cv (.ref 27))) 0 0 4 [some (.ref 1021), some (.long l1_4), none, some (.int l3_4)] [] (hP g0 g1 g2 g3 g4 g5 g6 g7 g8 g9 g10 g11 g12 g13 g14 g15 g16 g17 g18 g19 g20 g21 g22 g23 g24 g25 g26 a0 a1 a2 a3 a4 a5 a6 a7 a8 a9 a10 a11 a12 a13 a14 a15 a16 a17 a18 a19 a20 a21 a22 a23 b0 w0 k0 k1 k2 k3 k4 k5 k6 k7 k8 k9 k10 k11 k12 k13 k14 k15 cv (.ref 27)) := by
  intro n
  induction n with
  | zero =>
    intro l1_4 l3_4 h
    cases (show (none : Option (Int64)) = some res from h)
  | succ n4 ih4 =>
    intro l1_4 l3_4 h
    unfold L_hP_X9_packed_4 at h
    refine x_iload_n dX9_packed_4 rfl ?_
    refine x_aload_n dX9_packed_5 rfl ?_
    refine x_slen (k := 21) (s := xsy 21) rfl rfl (Nat.le_of_ble_eq_true rfl) kX9_65 dX9_packed_6 (Nat.le_of_ble_eq_true rfl) ?_
    refine x_icmp_ge 36 dX9_packed_9 (by decide) (fun q => ?_) (fun q => ?_)
    · have h := xif_t q h
      refine x_weak (pl2 := [none, some (.long l1_4), none, none]) ⟨rfl, trivial⟩ ?_
      exact hK l1_4 l3_4 h
    · have h := xif_f q h
      refine x_ldc2 iX9_71 dX9_packed_12 ?_
      refine x_lload_n dX9_packed_15 rfl ?_
      refine x_lmul dX9_packed_16 ?_
      refine x_aload_n dX9_packed_17 rfl ?_
      refine x_iload_n dX9_packed_18 rfl ?_
      obtain ⟨q19, h⟩ := xix_of h
      refine x_schar (k := 21) (s := xsy 21) rfl rfl q19 (Nat.le_of_ble_eq_true rfl) kX9_73 dX9_packed_19 (Nat.le_of_ble_eq_true rfl) ?_
      refine x_bipush (97 : Int32) dX9_packed_22 (by decide) ?_
      refine x_isub dX9_packed_24 ?_
      refine x_iconst (1 : Int32) dX9_packed_25 (by decide) ?_
      refine x_iadd dX9_packed_26 ?_
      refine x_i2l dX9_packed_27 ?_
      refine x_ladd dX9_packed_28 ?_
      refine x_lstore_n (pl' := [some (.ref 1021), some (.long (((32 : Int64) * l1_4) + (((xch (xsy 21) l3_4) - (97 : Int32)) + (1 : Int32)).toInt64)), none, some (.int l3_4)]) dX9_packed_29 (by decide) rfl ?_
      refine x_iincK (1 : Int32) (pl' := [some (.ref 1021), some (.long (((32 : Int64) * l1_4) + (((xch (xsy 21) l3_4) - (97 : Int32)) + (1 : Int32)).toInt64)), none, some (.int (l3_4 + (1 : Int32)))]) dX9_packed_30 rfl (by decide) (by decide) rfl ?_
      refine x_goto 4 dX9_packed_33 (by decide) ?_
      refine x_weak (pl2 := [some (.ref 1021), some (.long (((32 : Int64) * l1_4) + (((xch (xsy 21) l3_4) - (97 : Int32)) + (1 : Int32)).toInt64)), none, some (.int (l3_4 + (1 : Int32)))]) ⟨rfl, rfl, rfl, trivial⟩ ?_
      exact ih4 (((32 : Int64) * l1_4) + (((xch (xsy 21) l3_4) - (97 : Int32)) + (1 : Int32)).toInt64) (l3_4 + (1 : Int32)) h
set_option maxRecDepth 100000 in
set_option maxHeartbeats 4000000 in
theorem t_hP_X9_packed_22 {g0 g1 g2 g3 g4 g5 g6 g7 g8 g9 g10 g11 g12 g13 g14 g15 g16 g17 g18 g19 g20 g21 g22 g23 g24 g25 g26 : Int32} {a0 a1 a2 a3 a4 a5 a6 a7 a8 a9 a10 a11 a12 a13 a14 a15 a16 a17 a18 a19 a20 a21 a22 a23 : (Nat → Int32)} {b0 : (Nat → Int64)} {w0 : Int64} {k0 k1 k2 k3 k4 k5 k6 k7 k8 k9 k10 k11 k12 k13 k14 k15 : xC} {cv : Value}  (res : Int64) (h : e_hP_X9_packed (xsy 21)  = some res) (d : Nat) : xMet xks YX9_packed (d + 5) 0 0 [.ref 1021] (hP g0 g1 g2 g3 g4 g5 g6 g7 g8 g9 g10 g11 g12 g13 g14 g15 g16 g17 g18 g19 g20 g21 g22 g23 g24 g25 g26 a0 a1 a2 a3 a4 a5 a6 a7 a8 a9 a10 a11 a12 a13 a14 a15 a16 a17 a18 a19 a20 a21 a22 a23 b0 w0 k0 k1 k2 k3 k4 k5 k6 k7 k8 k9 k10 k11 k12 k13 k14 k15 cv (.ref 27)) (some (.long res)) (hP g0 g1 g2 g3 g4 g5 g6 g7 g8 g9 g10 g11 g12 g13 g14 g15 g16 g17 g18 g19 g20 g21 g22 g23 g24 g25 g26 a0 a1 a2 a3 a4 a5 a6 a7 a8 a9 a10 a11 a12 a13 a14 a15 a16 a17 a18 a19 a20 a21 a22 a23 b0 w0 k0 k1 k2 k3 k4 k5 k6 k7 k8 k9 k10 k11 k12 k13 k14 k15 cv (.ref 27)) := by
  unfold e_hP_X9_packed at h
  refine xMet_of (pl := [some (.ref 1021), none, none, none]) (by decide) (Nat.le_of_ble_eq_true rfl) rfl (Nat.le_of_ble_eq_true rfl) ?_
  refine x_lconst (0 : Int64) dX9_packed_0 (by decide) ?_
  refine x_lstore_n (pl' := [some (.ref 1021), some (.long (0 : Int64)), none, none]) dX9_packed_1 (by decide) rfl ?_
  refine x_iconst (0 : Int32) dX9_packed_2 (by decide) ?_
  refine x_istore_n (pl' := [some (.ref 1021), some (.long (0 : Int64)), none, some (.int (0 : Int32))]) dX9_packed_3 (by decide) rfl ?_
  refine x_weak (pl2 := [some (.ref 1021), some (.long (0 : Int64)), none, some (.int (0 : Int32))]) ⟨rfl, rfl, rfl, trivial⟩ ?_
  refine lp_hP_X9_packed_22_4 d _  res _ (fun l1_4 l3_4 h => ?_) 200000 (0 : Int64) (0 : Int32) h
  refine x_lload_n dX9_packed_36 rfl ?_
  cases h
  exact x_lret2 dX9_packed_37 rfl rfl
set_option maxRecDepth 100000 in
set_option maxHeartbeats 4000000 in
theorem t_hP_X9_isWord_22 {g0 g1 g2 g3 g4 g5 g6 g7 g8 g9 g10 g11 g12 g13 g14 g15 g16 g17 g18 g19 g20 g21 g22 g23 g24 g25 g26 : Int32} {a0 a1 a2 a3 a4 a5 a6 a7 a8 a9 a10 a11 a12 a13 a14 a15 a16 a17 a18 a19 a20 a21 a22 a23 : (Nat → Int32)} {b0 : (Nat → Int64)} {w0 : Int64} {k0 k1 k2 k3 k4 k5 k6 k7 k8 k9 k10 k11 k12 k13 k14 k15 : xC} {cv : Value}  (res : Int32) (h : e_hP_X9_isWord g6 w0 (xsy 21)  = some res) (d : Nat) : xMet xks YX9_isWord (d + 6) 0 0 [.ref 0, .ref 1021] (hP g0 g1 g2 g3 g4 g5 g6 g7 g8 g9 g10 g11 g12 g13 g14 g15 g16 g17 g18 g19 g20 g21 g22 g23 g24 g25 g26 a0 a1 a2 a3 a4 a5 a6 a7 a8 a9 a10 a11 a12 a13 a14 a15 a16 a17 a18 a19 a20 a21 a22 a23 b0 w0 k0 k1 k2 k3 k4 k5 k6 k7 k8 k9 k10 k11 k12 k13 k14 k15 cv (.ref 27)) (some (.int res)) (hP g0 g1 g2 g3 g4 g5 g6 g7 g8 g9 g10 g11 g12 g13 g14 g15 g16 g17 g18 g19 g20 g21 g22 g23 g24 g25 g26 a0 a1 a2 a3 a4 a5 a6 a7 a8 a9 a10 a11 a12 a13 a14 a15 a16 a17 a18 a19 a20 a21 a22 a23 b0 w0 k0 k1 k2 k3 k4 k5 k6 k7 k8 k9 k10 k11 k12 k13 k14 k15 cv (.ref 27)) := by
  unfold e_hP_X9_isWord at h
  refine xMet_of (pl := [some (.ref 0), some (.ref 1021)]) (by decide) (Nat.le_of_ble_eq_true rfl) rfl (Nat.le_of_ble_eq_true rfl) ?_
  refine x_aload_n dX9_isWord_0 rfl ?_
  refine x_get fX9_77 dX9_isWord_1 rfl rfl rfl ?_
  refine x_iconst (2 : Int32) dX9_isWord_4 (by decide) ?_
  refine x_icmp_ne 24 dX9_isWord_5 (by decide) (fun q => ?_) (fun q => ?_)
  · have h := xif_f q h
    refine x_iconst (0 : Int32) dX9_isWord_24 (by decide) ?_
    cases h
    exact x_zret2 dX9_isWord_25 rfl rfl rfl
  · have h := xif_t q h
    refine x_aload_n dX9_isWord_8 rfl ?_
    refine x_get fX9_93 dX9_isWord_9 rfl rfl rfl ?_
    refine x_aload_n dX9_isWord_12 rfl ?_
    obtain ⟨z13, y13, h⟩ := xbind h
    refine x_callS (t_hP_X9_packed_22  z13 y13 (d + 0)) kX9_109 dX9_isWord_13 rfl rfl (Nat.le_of_ble_eq_true rfl) (Nat.le_of_ble_eq_true rfl) rfl rfl (Or.inl rfl) ?_
    refine x_lcmp dX9_isWord_16 ?_
    refine x_if_ne 24 dX9_isWord_17 (by decide) (fun q => ?_) (fun q => ?_)
    · have h := xif_f q h
      refine x_iconst (0 : Int32) dX9_isWord_24 (by decide) ?_
      cases h
      exact x_zret2 dX9_isWord_25 rfl rfl rfl
    · have h := xif_t q h
      refine x_iconst (1 : Int32) dX9_isWord_20 (by decide) ?_
      refine x_goto 25 dX9_isWord_21 (by decide) ?_
      cases h
      exact x_zret2 dX9_isWord_25 rfl rfl rfl
set_option maxRecDepth 100000 in
set_option maxHeartbeats 4000000 in
theorem t_hP_X9_needs_6 {g0 g1 g2 g3 g4 g5 g6 g7 g8 g9 g10 g11 g12 g13 g14 g15 g16 g17 g18 g19 g20 g21 g22 g23 g24 g25 g26 : Int32} {a0 a1 a2 a3 a4 a5 a6 a7 a8 a9 a10 a11 a12 a13 a14 a15 a16 a17 a18 a19 a20 a21 a22 a23 : (Nat → Int32)} {b0 : (Nat → Int64)} {w0 : Int64} {k0 k1 k2 k3 k4 k5 k6 k7 k8 k9 k10 k11 k12 k13 k14 k15 : xC} {cv : Value}  (res : Int32 × Int32 × Int32 × Int32 × Int64 × Int32 × Int32) (h : e_hP_X9_needs g6 w0 g5 g4 a0 g7 g8 g9 g10 (xsy 21)  = some res) (d : Nat) : xMet xks YX9_needs (d + 7) 0 0 [.ref 0, .ref 1021] (hP g0 g1 g2 g3 g4 g5 g6 g7 g8 g9 g10 g11 g12 g13 g14 g15 g16 g17 g18 g19 g20 g21 g22 g23 g24 g25 g26 a0 a1 a2 a3 a4 a5 a6 a7 a8 a9 a10 a11 a12 a13 a14 a15 a16 a17 a18 a19 a20 a21 a22 a23 b0 w0 k0 k1 k2 k3 k4 k5 k6 k7 k8 k9 k10 k11 k12 k13 k14 k15 cv (.ref 27)) none (hP g0 g1 g2 g3 g4 res.2.2.1 res.2.1 res.1 res.2.2.2.1 res.2.2.2.2.2.1 res.2.2.2.2.2.2 g11 g12 g13 g14 g15 g16 g17 g18 g19 g20 g21 g22 g23 g24 g25 g26 a0 a1 a2 a3 a4 a5 a6 a7 a8 a9 a10 a11 a12 a13 a14 a15 a16 a17 a18 a19 a20 a21 a22 a23 b0 res.2.2.2.2.1 k0 k1 k2 k3 k4 k5 k6 k7 k8 k9 k10 k11 k12 k13 k14 k15 cv (.ref 27)) := by
  unfold e_hP_X9_needs at h
  refine xMet_of (pl := [some (.ref 0), some (.ref 1021)]) (by decide) (Nat.le_of_ble_eq_true rfl) rfl (Nat.le_of_ble_eq_true rfl) ?_
  refine x_aload_n dX9_needs_0 rfl ?_
  refine x_aload_n dX9_needs_1 rfl ?_
  obtain ⟨z2, y2, h⟩ := xbind h
  refine x_callV (t_hP_X9_isWord_22  z2 y2 (d + 0)) kX9_116 dX9_needs_2 rfl rfl rfl rfl rfl (Nat.le_of_ble_eq_true rfl) (Nat.le_of_ble_eq_true rfl) rfl rfl (Or.inl rfl) ?_
  refine x_if_ne 13 dX9_needs_5 (by decide) (fun q => ?_) (fun q => ?_)
  · have h := xif_f q h
    refine x_aload_n dX9_needs_13 rfl ?_
    obtain ⟨z14, y14, h⟩ := xbind h
    refine x_callV (t_hP_X9_goesOn  z14 y14 (d + 4)) kX9_113 dX9_needs_14 rfl rfl rfl rfl rfl (Nat.le_of_ble_eq_true rfl) (Nat.le_of_ble_eq_true rfl) rfl rfl (Or.inl rfl) ?_
    cases h
    exact x_vret2 dX9_needs_17 rfl rfl
  · have h := xif_t q h
    refine x_aload_n dX9_needs_8 rfl ?_
    refine x_iconst (1 : Int32) dX9_needs_9 (by decide) ?_
    obtain ⟨z10, y10, h⟩ := xbind h
    refine x_callV (t_hP_X9_flaw (1 : Int32) z10 y10 (d + 5)) kX9_120 dX9_needs_10 rfl rfl rfl rfl rfl (Nat.le_of_ble_eq_true rfl) (Nat.le_of_ble_eq_true rfl) rfl rfl (Or.inl rfl) ?_
    refine x_aload_n dX9_needs_13 rfl ?_
    obtain ⟨z14, y14, h⟩ := xbind h
    refine x_callV (t_hP_X9_goesOn  z14 y14 (d + 4)) kX9_113 dX9_needs_14 rfl rfl rfl rfl rfl (Nat.le_of_ble_eq_true rfl) (Nat.le_of_ble_eq_true rfl) rfl rfl (Or.inl rfl) ?_
    cases h
    exact x_vret2 dX9_needs_17 rfl rfl
set_option maxRecDepth 100000 in
set_option maxHeartbeats 4000000 in
theorem t_hP_X9_readPart_6 {g0 g1 g2 g3 g4 g5 g6 g7 g8 g9 g10 g11 g12 g13 g14 g15 g16 g17 g18 g19 g20 g21 g22 g23 g24 g25 g26 : Int32} {a0 a1 a2 a3 a4 a5 a6 a7 a8 a9 a10 a11 a12 a13 a14 a15 a16 a17 a18 a19 a20 a21 a22 a23 : (Nat → Int32)} {b0 : (Nat → Int64)} {w0 : Int64} {k0 k1 k2 k3 k4 k5 k6 k7 k8 k9 k10 k11 k12 k13 k14 k15 : xC} {cv : Value} (x2 : Int32) (x3 : Int32) (res : Int32 × Int32 × Int32 × Int32 × Int32 × Int64 × Int32 × Int32) (h : e_hP_X9_readPart g6 w0 g5 g4 a0 g7 g8 g9 g10 (xsy 21) x2 x3 = some res) (d : Nat) : xMet xks YX9_readPart (d + 8) 0 0 [.ref 0, .ref 1021, .int x2, .int x3] (hP g0 g1 g2 g3 g4 g5 g6 g7 g8 g9 g10 g11 g12 g13 g14 g15 g16 g17 g18 g19 g20 g21 g22 g23 g24 g25 g26 a0 a1 a2 a3 a4 a5 a6 a7 a8 a9 a10 a11 a12 a13 a14 a15 a16 a17 a18 a19 a20 a21 a22 a23 b0 w0 k0 k1 k2 k3 k4 k5 k6 k7 k8 k9 k10 k11 k12 k13 k14 k15 cv (.ref 27)) (some (.int res.1)) (hP g0 g1 g2 g3 g4 res.2.2.2.1 res.2.2.1 res.2.1 res.2.2.2.2.1 res.2.2.2.2.2.2.1 res.2.2.2.2.2.2.2 g11 g12 g13 g14 g15 g16 g17 g18 g19 g20 g21 g22 g23 g24 g25 g26 a0 a1 a2 a3 a4 a5 a6 a7 a8 a9 a10 a11 a12 a13 a14 a15 a16 a17 a18 a19 a20 a21 a22 a23 b0 res.2.2.2.2.2.1 k0 k1 k2 k3 k4 k5 k6 k7 k8 k9 k10 k11 k12 k13 k14 k15 cv (.ref 27)) := by
  unfold e_hP_X9_readPart at h
  refine xMet_of (pl := [some (.ref 0), some (.ref 1021), some (.int x2), some (.int x3)]) (by decide) (Nat.le_of_ble_eq_true rfl) rfl (Nat.le_of_ble_eq_true rfl) ?_
  refine x_aload_n dX9_readPart_0 rfl ?_
  refine x_aload_n dX9_readPart_1 rfl ?_
  obtain ⟨z2, y2, h⟩ := xbind h
  refine x_callV (t_hP_X9_needs_6  z2 y2 (d + 0)) kX9_128 dX9_readPart_2 rfl rfl rfl rfl rfl (Nat.le_of_ble_eq_true rfl) (Nat.le_of_ble_eq_true rfl) rfl rfl (Or.inl rfl) ?_
  refine x_aload_n dX9_readPart_5 rfl ?_
  refine x_iload_n dX9_readPart_6 rfl ?_
  refine x_iload_n dX9_readPart_7 rfl ?_
  obtain ⟨z8, y8, h⟩ := xbind h
  refine x_callV (t_hP_X9_readWhole x2 x3 z8 y8 (d + 4)) kX9_132 dX9_readPart_8 rfl rfl rfl rfl rfl (Nat.le_of_ble_eq_true rfl) (Nat.le_of_ble_eq_true rfl) rfl rfl (Or.inl rfl) ?_
  cases h
  exact x_iret2 dX9_readPart_11 rfl rfl
noncomputable def e_hP_X9_readCounty (p0 : Int32) (p1 : Int32) (p2 : Int32) (p3 : Int32) (p4 : (Nat → Int32)) (p5 : Int32) (p6 : Int32) (p7 : Int64) (p8 : Int32) (p9 : Int32) (p10 : Int32) (p11 : Int32)  : Option (Int32 × Int32 × Int32 × Int32 × Int64 × Int32 × Int32 × Int32 × Int32 × Int32) :=
  if p0 ≤ (0 : Int32) then ((e_hP_X9_goesOn p1 p2 p3 p4 p5 p6 p7).bind fun z16 => (e_hP_X9_readPart z16.2.1 z16.2.2.2.2 z16.2.2.1 p3 p4 z16.1 z16.2.2.2.1 p8 p9 (xsy 19) (1 : Int32) (30 : Int32)).bind fun z25 => (e_hP_X9_readPart z25.2.2.1 z25.2.2.2.2.2.1 z25.2.2.2.1 p3 p4 z25.2.1 z25.2.2.2.2.1 z25.2.2.2.2.2.2.1 z25.2.2.2.2.2.2.2 (xsy 20) (0 : Int32) (99 : Int32)).bind fun z35 => (e_hP_X9_readPart z35.2.2.1 z35.2.2.2.2.2.1 z35.2.2.2.1 p3 p4 z35.2.1 z35.2.2.2.2.1 z35.2.2.2.2.2.2.1 z35.2.2.2.2.2.2.2 (xsy 21) (0 : Int32) (99 : Int32)).bind fun z45 => if z45.2.2.1 = (5 : Int32) then some (z45.2.1, z45.2.2.1, z45.2.2.2.1, z45.2.2.2.2.1, z45.2.2.2.2.2.1, z45.2.2.2.2.2.2.1, z45.2.2.2.2.2.2.2, p0, p10, p11) else some (z45.2.1, z45.2.2.1, z45.2.2.2.1, z45.2.2.2.2.1, z45.2.2.2.2.2.1, z45.2.2.2.2.2.2.1, z45.2.2.2.2.2.2.2, z25.1, z35.1, z45.1)) else ((e_hP_X9_flaw p1 p8 p5 p9 (3 : Int32)).bind fun z12 => (e_hP_X9_goesOn z12.2.2 p2 p3 p4 p5 p6 p7).bind fun z16 => (e_hP_X9_readPart z16.2.1 z16.2.2.2.2 z16.2.2.1 p3 p4 z16.1 z16.2.2.2.1 z12.1 z12.2.1 (xsy 19) (1 : Int32) (30 : Int32)).bind fun z25 => (e_hP_X9_readPart z25.2.2.1 z25.2.2.2.2.2.1 z25.2.2.2.1 p3 p4 z25.2.1 z25.2.2.2.2.1 z25.2.2.2.2.2.2.1 z25.2.2.2.2.2.2.2 (xsy 20) (0 : Int32) (99 : Int32)).bind fun z35 => (e_hP_X9_readPart z35.2.2.1 z35.2.2.2.2.2.1 z35.2.2.2.1 p3 p4 z35.2.1 z35.2.2.2.2.1 z35.2.2.2.2.2.2.1 z35.2.2.2.2.2.2.2 (xsy 21) (0 : Int32) (99 : Int32)).bind fun z45 => if z45.2.2.1 = (5 : Int32) then some (z45.2.1, z45.2.2.1, z45.2.2.2.1, z45.2.2.2.2.1, z45.2.2.2.2.2.1, z45.2.2.2.2.2.2.1, z45.2.2.2.2.2.2.2, p0, p10, p11) else some (z45.2.1, z45.2.2.1, z45.2.2.2.1, z45.2.2.2.2.1, z45.2.2.2.2.2.1, z45.2.2.2.2.2.2.1, z45.2.2.2.2.2.2.2, z25.1, z35.1, z45.1))
set_option maxRecDepth 100000 in
set_option maxHeartbeats 4000000 in
theorem t_hP_X9_readCounty {g0 g1 g2 g3 g4 g5 g6 g7 g8 g9 g10 g11 g12 g13 g14 g15 g16 g17 g18 g19 g20 g21 g22 g23 g24 g25 g26 : Int32} {a0 a1 a2 a3 a4 a5 a6 a7 a8 a9 a10 a11 a12 a13 a14 a15 a16 a17 a18 a19 a20 a21 a22 a23 : (Nat → Int32)} {b0 : (Nat → Int64)} {w0 : Int64} {k0 k1 k2 k3 k4 k5 k6 k7 k8 k9 k10 k11 k12 k13 k14 k15 : xC} {cv : Value}  (res : Int32 × Int32 × Int32 × Int32 × Int64 × Int32 × Int32 × Int32 × Int32 × Int32) (h : e_hP_X9_readCounty g19 g6 g5 g4 a0 g7 g8 w0 g9 g10 g20 g21  = some res) (d : Nat) : xMet xks YX9_readCounty (d + 9) 0 0 [.ref 0] (hP g0 g1 g2 g3 g4 g5 g6 g7 g8 g9 g10 g11 g12 g13 g14 g15 g16 g17 g18 g19 g20 g21 g22 g23 g24 g25 g26 a0 a1 a2 a3 a4 a5 a6 a7 a8 a9 a10 a11 a12 a13 a14 a15 a16 a17 a18 a19 a20 a21 a22 a23 b0 w0 k0 k1 k2 k3 k4 k5 k6 k7 k8 k9 k10 k11 k12 k13 k14 k15 cv (.ref 27)) none (hP g0 g1 g2 g3 g4 res.2.2.1 res.2.1 res.1 res.2.2.2.1 res.2.2.2.2.2.1 res.2.2.2.2.2.2.1 g11 g12 g13 g14 g15 g16 g17 g18 res.2.2.2.2.2.2.2.1 res.2.2.2.2.2.2.2.2.1 res.2.2.2.2.2.2.2.2.2 g22 g23 g24 g25 g26 a0 a1 a2 a3 a4 a5 a6 a7 a8 a9 a10 a11 a12 a13 a14 a15 a16 a17 a18 a19 a20 a21 a22 a23 b0 res.2.2.2.2.1 k0 k1 k2 k3 k4 k5 k6 k7 k8 k9 k10 k11 k12 k13 k14 k15 cv (.ref 27)) := by
  unfold e_hP_X9_readCounty at h
  refine xMet_of (pl := [some (.ref 0), none, none, none]) (by decide) (Nat.le_of_ble_eq_true rfl) rfl (Nat.le_of_ble_eq_true rfl) ?_
  refine x_aload_n dX9_readCounty_0 rfl ?_
  refine x_get fX9_152 dX9_readCounty_1 rfl rfl rfl ?_
  refine x_get fX9_156 dX9_readCounty_4 rfl rfl rfl ?_
  refine x_if_le 15 dX9_readCounty_7 (by decide) (fun q => ?_) (fun q => ?_)
  · have h := xif_t q h
    refine x_aload_n dX9_readCounty_15 rfl ?_
    obtain ⟨z16, y16, h⟩ := xbind h
    refine x_callV (t_hP_X9_goesOn  z16 y16 (d + 6)) kX9_113 dX9_readCounty_16 rfl rfl rfl rfl rfl (Nat.le_of_ble_eq_true rfl) (Nat.le_of_ble_eq_true rfl) rfl rfl (Or.inl rfl) ?_
    refine x_aload_n dX9_readCounty_19 rfl ?_
    refine x_ldcS (k := 19) rfl rfl rfl dX9_readCounty_20 ?_
    refine x_iconst (1 : Int32) dX9_readCounty_22 (by decide) ?_
    refine x_bipush (30 : Int32) dX9_readCounty_23 (by decide) ?_
    obtain ⟨z25, y25, h⟩ := xbind h
    refine x_callV (t_hP_X9_readPart_4 (1 : Int32) (30 : Int32) z25 y25 (d + 0)) kX9_222 dX9_readCounty_25 rfl rfl rfl rfl rfl (Nat.le_of_ble_eq_true rfl) (Nat.le_of_ble_eq_true rfl) rfl rfl (Or.inl rfl) ?_
    refine x_istore_n (pl' := [some (.ref 0), some (.int z25.1), none, none]) dX9_readCounty_28 (by decide) rfl ?_
    refine x_aload_n dX9_readCounty_29 rfl ?_
    refine x_ldcS (k := 20) rfl rfl rfl dX9_readCounty_30 ?_
    refine x_iconst (0 : Int32) dX9_readCounty_32 (by decide) ?_
    refine x_bipush (99 : Int32) dX9_readCounty_33 (by decide) ?_
    obtain ⟨z35, y35, h⟩ := xbind h
    refine x_callV (t_hP_X9_readPart_5 (0 : Int32) (99 : Int32) z35 y35 (d + 0)) kX9_222 dX9_readCounty_35 rfl rfl rfl rfl rfl (Nat.le_of_ble_eq_true rfl) (Nat.le_of_ble_eq_true rfl) rfl rfl (Or.inl rfl) ?_
    refine x_istore_n (pl' := [some (.ref 0), some (.int z25.1), some (.int z35.1), none]) dX9_readCounty_38 (by decide) rfl ?_
    refine x_aload_n dX9_readCounty_39 rfl ?_
    refine x_ldcS (k := 21) rfl rfl rfl dX9_readCounty_40 ?_
    refine x_iconst (0 : Int32) dX9_readCounty_42 (by decide) ?_
    refine x_bipush (99 : Int32) dX9_readCounty_43 (by decide) ?_
    obtain ⟨z45, y45, h⟩ := xbind h
    refine x_callV (t_hP_X9_readPart_6 (0 : Int32) (99 : Int32) z45 y45 (d + 0)) kX9_222 dX9_readCounty_45 rfl rfl rfl rfl rfl (Nat.le_of_ble_eq_true rfl) (Nat.le_of_ble_eq_true rfl) rfl rfl (Or.inl rfl) ?_
    refine x_istore_n (pl' := [some (.ref 0), some (.int z25.1), some (.int z35.1), some (.int z45.1)]) dX9_readCounty_48 (by decide) rfl ?_
    refine x_aload_n dX9_readCounty_49 rfl ?_
    refine x_get fX9_77 dX9_readCounty_50 rfl rfl rfl ?_
    refine x_iconst (5 : Int32) dX9_readCounty_53 (by decide) ?_
    refine x_icmp_ne 58 dX9_readCounty_54 (by decide) (fun q => ?_) (fun q => ?_)
    · have h := xif_f q h
      refine x_aload_n dX9_readCounty_58 rfl ?_
      refine x_get fX9_152 dX9_readCounty_59 rfl rfl rfl ?_
      refine x_iload_n dX9_readCounty_62 rfl ?_
      refine x_put (h2 := (hP g0 g1 g2 g3 g4 z45.2.2.2.1 z45.2.2.1 z45.2.1 z45.2.2.2.2.1 z45.2.2.2.2.2.2.1 z45.2.2.2.2.2.2.2 g11 g12 g13 g14 g15 g16 g17 g18 z25.1 g20 g21 g22 g23 g24 g25 g26 a0 a1 a2 a3 a4 a5 a6 a7 a8 a9 a10 a11 a12 a13 a14 a15 a16 a17 a18 a19 a20 a21 a22 a23 b0 z45.2.2.2.2.2.1 k0 k1 k2 k3 k4 k5 k6 k7 k8 k9 k10 k11 k12 k13 k14 k15 cv (.ref 27))) fX9_156 dX9_readCounty_63 rfl rfl (Nat.le_of_ble_eq_true rfl : 0 + 1 ≤ _) (fun α => ⟨rfl, rfl⟩) rfl ?_
      refine x_aload_n dX9_readCounty_66 rfl ?_
      refine x_get fX9_152 dX9_readCounty_67 rfl rfl rfl ?_
      refine x_iload_n dX9_readCounty_70 rfl ?_
      refine x_put (h2 := (hP g0 g1 g2 g3 g4 z45.2.2.2.1 z45.2.2.1 z45.2.1 z45.2.2.2.2.1 z45.2.2.2.2.2.2.1 z45.2.2.2.2.2.2.2 g11 g12 g13 g14 g15 g16 g17 g18 z25.1 z35.1 g21 g22 g23 g24 g25 g26 a0 a1 a2 a3 a4 a5 a6 a7 a8 a9 a10 a11 a12 a13 a14 a15 a16 a17 a18 a19 a20 a21 a22 a23 b0 z45.2.2.2.2.2.1 k0 k1 k2 k3 k4 k5 k6 k7 k8 k9 k10 k11 k12 k13 k14 k15 cv (.ref 27))) fX9_230 dX9_readCounty_71 rfl rfl (Nat.le_of_ble_eq_true rfl : 1 + 1 ≤ _) (fun α => ⟨rfl, rfl⟩) rfl ?_
      refine x_aload_n dX9_readCounty_74 rfl ?_
      refine x_get fX9_152 dX9_readCounty_75 rfl rfl rfl ?_
      refine x_iload_n dX9_readCounty_78 rfl ?_
      refine x_put (h2 := (hP g0 g1 g2 g3 g4 z45.2.2.2.1 z45.2.2.1 z45.2.1 z45.2.2.2.2.1 z45.2.2.2.2.2.2.1 z45.2.2.2.2.2.2.2 g11 g12 g13 g14 g15 g16 g17 g18 z25.1 z35.1 z45.1 g22 g23 g24 g25 g26 a0 a1 a2 a3 a4 a5 a6 a7 a8 a9 a10 a11 a12 a13 a14 a15 a16 a17 a18 a19 a20 a21 a22 a23 b0 z45.2.2.2.2.2.1 k0 k1 k2 k3 k4 k5 k6 k7 k8 k9 k10 k11 k12 k13 k14 k15 cv (.ref 27))) fX9_232 dX9_readCounty_79 rfl rfl (Nat.le_of_ble_eq_true rfl : 2 + 1 ≤ _) (fun α => ⟨rfl, rfl⟩) rfl ?_
      cases h
      exact x_vret2 dX9_readCounty_82 rfl rfl
    · have h := xif_t q h
      cases h
      exact x_vret2 dX9_readCounty_57 rfl rfl
  · have h := xif_f q h
    refine x_aload_n dX9_readCounty_10 rfl ?_
    refine x_iconst (3 : Int32) dX9_readCounty_11 (by decide) ?_
    obtain ⟨z12, y12, h⟩ := xbind h
    refine x_callV (t_hP_X9_flaw (3 : Int32) z12 y12 (d + 7)) kX9_120 dX9_readCounty_12 rfl rfl rfl rfl rfl (Nat.le_of_ble_eq_true rfl) (Nat.le_of_ble_eq_true rfl) rfl rfl (Or.inl rfl) ?_
    refine x_aload_n dX9_readCounty_15 rfl ?_
    obtain ⟨z16, y16, h⟩ := xbind h
    refine x_callV (t_hP_X9_goesOn  z16 y16 (d + 6)) kX9_113 dX9_readCounty_16 rfl rfl rfl rfl rfl (Nat.le_of_ble_eq_true rfl) (Nat.le_of_ble_eq_true rfl) rfl rfl (Or.inl rfl) ?_
    refine x_aload_n dX9_readCounty_19 rfl ?_
    refine x_ldcS (k := 19) rfl rfl rfl dX9_readCounty_20 ?_
    refine x_iconst (1 : Int32) dX9_readCounty_22 (by decide) ?_
    refine x_bipush (30 : Int32) dX9_readCounty_23 (by decide) ?_
    obtain ⟨z25, y25, h⟩ := xbind h
    refine x_callV (t_hP_X9_readPart_4 (1 : Int32) (30 : Int32) z25 y25 (d + 0)) kX9_222 dX9_readCounty_25 rfl rfl rfl rfl rfl (Nat.le_of_ble_eq_true rfl) (Nat.le_of_ble_eq_true rfl) rfl rfl (Or.inl rfl) ?_
    refine x_istore_n (pl' := [some (.ref 0), some (.int z25.1), none, none]) dX9_readCounty_28 (by decide) rfl ?_
    refine x_aload_n dX9_readCounty_29 rfl ?_
    refine x_ldcS (k := 20) rfl rfl rfl dX9_readCounty_30 ?_
    refine x_iconst (0 : Int32) dX9_readCounty_32 (by decide) ?_
    refine x_bipush (99 : Int32) dX9_readCounty_33 (by decide) ?_
    obtain ⟨z35, y35, h⟩ := xbind h
    refine x_callV (t_hP_X9_readPart_5 (0 : Int32) (99 : Int32) z35 y35 (d + 0)) kX9_222 dX9_readCounty_35 rfl rfl rfl rfl rfl (Nat.le_of_ble_eq_true rfl) (Nat.le_of_ble_eq_true rfl) rfl rfl (Or.inl rfl) ?_
    refine x_istore_n (pl' := [some (.ref 0), some (.int z25.1), some (.int z35.1), none]) dX9_readCounty_38 (by decide) rfl ?_
    refine x_aload_n dX9_readCounty_39 rfl ?_
    refine x_ldcS (k := 21) rfl rfl rfl dX9_readCounty_40 ?_
    refine x_iconst (0 : Int32) dX9_readCounty_42 (by decide) ?_
    refine x_bipush (99 : Int32) dX9_readCounty_43 (by decide) ?_
    obtain ⟨z45, y45, h⟩ := xbind h
    refine x_callV (t_hP_X9_readPart_6 (0 : Int32) (99 : Int32) z45 y45 (d + 0)) kX9_222 dX9_readCounty_45 rfl rfl rfl rfl rfl (Nat.le_of_ble_eq_true rfl) (Nat.le_of_ble_eq_true rfl) rfl rfl (Or.inl rfl) ?_
    refine x_istore_n (pl' := [some (.ref 0), some (.int z25.1), some (.int z35.1), some (.int z45.1)]) dX9_readCounty_48 (by decide) rfl ?_
    refine x_aload_n dX9_readCounty_49 rfl ?_
    refine x_get fX9_77 dX9_readCounty_50 rfl rfl rfl ?_
    refine x_iconst (5 : Int32) dX9_readCounty_53 (by decide) ?_
    refine x_icmp_ne 58 dX9_readCounty_54 (by decide) (fun q => ?_) (fun q => ?_)
    · have h := xif_f q h
      refine x_aload_n dX9_readCounty_58 rfl ?_
      refine x_get fX9_152 dX9_readCounty_59 rfl rfl rfl ?_
      refine x_iload_n dX9_readCounty_62 rfl ?_
      refine x_put (h2 := (hP g0 g1 g2 g3 g4 z45.2.2.2.1 z45.2.2.1 z45.2.1 z45.2.2.2.2.1 z45.2.2.2.2.2.2.1 z45.2.2.2.2.2.2.2 g11 g12 g13 g14 g15 g16 g17 g18 z25.1 g20 g21 g22 g23 g24 g25 g26 a0 a1 a2 a3 a4 a5 a6 a7 a8 a9 a10 a11 a12 a13 a14 a15 a16 a17 a18 a19 a20 a21 a22 a23 b0 z45.2.2.2.2.2.1 k0 k1 k2 k3 k4 k5 k6 k7 k8 k9 k10 k11 k12 k13 k14 k15 cv (.ref 27))) fX9_156 dX9_readCounty_63 rfl rfl (Nat.le_of_ble_eq_true rfl : 0 + 1 ≤ _) (fun α => ⟨rfl, rfl⟩) rfl ?_
      refine x_aload_n dX9_readCounty_66 rfl ?_
      refine x_get fX9_152 dX9_readCounty_67 rfl rfl rfl ?_
      refine x_iload_n dX9_readCounty_70 rfl ?_
      refine x_put (h2 := (hP g0 g1 g2 g3 g4 z45.2.2.2.1 z45.2.2.1 z45.2.1 z45.2.2.2.2.1 z45.2.2.2.2.2.2.1 z45.2.2.2.2.2.2.2 g11 g12 g13 g14 g15 g16 g17 g18 z25.1 z35.1 g21 g22 g23 g24 g25 g26 a0 a1 a2 a3 a4 a5 a6 a7 a8 a9 a10 a11 a12 a13 a14 a15 a16 a17 a18 a19 a20 a21 a22 a23 b0 z45.2.2.2.2.2.1 k0 k1 k2 k3 k4 k5 k6 k7 k8 k9 k10 k11 k12 k13 k14 k15 cv (.ref 27))) fX9_230 dX9_readCounty_71 rfl rfl (Nat.le_of_ble_eq_true rfl : 1 + 1 ≤ _) (fun α => ⟨rfl, rfl⟩) rfl ?_
      refine x_aload_n dX9_readCounty_74 rfl ?_
      refine x_get fX9_152 dX9_readCounty_75 rfl rfl rfl ?_
      refine x_iload_n dX9_readCounty_78 rfl ?_
      refine x_put (h2 := (hP g0 g1 g2 g3 g4 z45.2.2.2.1 z45.2.2.1 z45.2.1 z45.2.2.2.2.1 z45.2.2.2.2.2.2.1 z45.2.2.2.2.2.2.2 g11 g12 g13 g14 g15 g16 g17 g18 z25.1 z35.1 z45.1 g22 g23 g24 g25 g26 a0 a1 a2 a3 a4 a5 a6 a7 a8 a9 a10 a11 a12 a13 a14 a15 a16 a17 a18 a19 a20 a21 a22 a23 b0 z45.2.2.2.2.2.1 k0 k1 k2 k3 k4 k5 k6 k7 k8 k9 k10 k11 k12 k13 k14 k15 cv (.ref 27))) fX9_232 dX9_readCounty_79 rfl rfl (Nat.le_of_ble_eq_true rfl : 2 + 1 ≤ _) (fun α => ⟨rfl, rfl⟩) rfl ?_
      cases h
      exact x_vret2 dX9_readCounty_82 rfl rfl
    · have h := xif_t q h
      cases h
      exact x_vret2 dX9_readCounty_57 rfl rfl
noncomputable def e_hP_X9_readLine (p0 : Int32) (p1 : Int64) (p2 : Int32) (p3 : Int32) (p4 : Int32) (p5 : Int32) (p6 : Int32) (p7 : Int32) (p8 : Int32) (p9 : (Nat → Int32)) (p10 : Int32) (p11 : Int32) (p12 : (Nat → Int64)) (p13 : (Nat → Int32)) (p14 : (Nat → Int32)) (p15 : (Nat → Int32)) (p16 : (Nat → Int32)) (p17 : (Nat → Int32)) (p18 : Int32) (p19 : (Nat → Int32)) (p20 : (Nat → Int32)) (p21 : (Nat → Int32)) (p22 : (Nat → Int32)) (p23 : Int32) (p24 : (Nat → Int32)) (p25 : (Nat → Int32)) (p26 : (Nat → Int32)) (p27 : (Nat → Int32)) (p28 : Int32) (p29 : (Nat → Int32)) (p30 : Int32) (p31 : Int32)  : Option (Int32 × Int32 × Int32 × Int32 × Int32 × Int32 × Int64 × (Nat → Int32) × (Nat → Int32) × (Nat → Int32) × Int32 × (Nat → Int32) × (Nat → Int32) × (Nat → Int32) × (Nat → Int32) × Int32 × (Nat → Int64) × (Nat → Int32) × (Nat → Int32) × Int32 × (Nat → Int32) × (Nat → Int32) × (Nat → Int32) × (Nat → Int32) × Int32 × (Nat → Int32) × Int32 × Int32 × Int32 × Int32) :=
  ((e_hP_X9_isWord p0 p1 (xsy 11)).bind fun z3 => if z3 = (0 : Int32) then ((e_hP_X9_isWord p0 p1 (xsy 12)).bind fun z19 => if z19 = (0 : Int32) then ((e_hP_X9_isWord p0 p1 (xsy 13)).bind fun z35 => if z35 = (0 : Int32) then ((e_hP_X9_isWord p0 p1 (xsy 14)).bind fun z51 => if z51 = (0 : Int32) then ((e_hP_X9_isWord p0 p1 (xsy 15)).bind fun z67 => if z67 = (0 : Int32) then ((e_hP_X9_isWord p0 p1 (xsy 16)).bind fun z83 => if z83 = (0 : Int32) then ((e_hP_X9_isWord p0 p1 (xsy 17)).bind fun z99 => if z99 = (0 : Int32) then ((e_hP_X9_isWord p0 p1 (xsy 18)).bind fun z115 => if z115 = (0 : Int32) then ((e_hP_X9_flaw p0 p2 p3 p4 (1 : Int32)).bind fun z130 => some (z130.1, z130.2.1, z130.2.2, p3, p7, p10, p1, p15, p16, p17, p5, p20, p21, p22, p19, p18, p12, p14, p13, p11, p24, p25, p26, p27, p23, p29, p28, p6, p30, p31)) else ((e_hP_X9_readClaims p5 p6 p0 p7 p8 p9 p3 p10 p1 p2 p4 p11 p12 p13 p14 p15 p16 p17).bind fun z122 => some (z122.2.2.2.2.2.1, z122.2.2.2.2.2.2.1, z122.2.1, z122.1, z122.2.2.1, z122.2.2.2.1, z122.2.2.2.2.1, z122.2.2.2.2.2.2.2.1, z122.2.2.2.2.2.2.2.2.1, z122.2.2.2.2.2.2.2.2.2.1, z122.2.2.2.2.2.2.2.2.2.2, p20, p21, p22, p19, p18, p12, p14, p13, p11, p24, p25, p26, p27, p23, p29, p28, p6, p30, p31))) else ((e_hP_X9_readRain p18 p6 p0 p7 p8 p9 p3 p10 p1 p2 p4 p19 p20 p21 p22).bind fun z106 => some (z106.2.2.2.2.2.1, z106.2.2.2.2.2.2.1, z106.2.1, z106.1, z106.2.2.1, z106.2.2.2.1, z106.2.2.2.2.1, p15, p16, p17, p5, z106.2.2.2.2.2.2.2.1, z106.2.2.2.2.2.2.2.2.1, z106.2.2.2.2.2.2.2.2.2.1, z106.2.2.2.2.2.2.2.2.2.2.1, z106.2.2.2.2.2.2.2.2.2.2.2, p12, p14, p13, p11, p24, p25, p26, p27, p23, p29, p28, p6, p30, p31))) else ((e_hP_X9_readChanged p18 p6 p0 p7 p8 p9 p3 p10 p1 p2 p4 p11 p12 p13 p14 p19 p20 p21 p22).bind fun z90 => some (z90.2.2.2.2.2.1, z90.2.2.2.2.2.2.1, z90.2.1, z90.1, z90.2.2.1, z90.2.2.2.1, z90.2.2.2.2.1, p15, p16, p17, p5, z90.2.2.2.2.2.2.2.1, z90.2.2.2.2.2.2.2.2.1, z90.2.2.2.2.2.2.2.2.2.1, z90.2.2.2.2.2.2.2.2.2.2.1, z90.2.2.2.2.2.2.2.2.2.2.2, p12, p14, p13, p11, p24, p25, p26, p27, p23, p29, p28, p6, p30, p31))) else ((e_hP_X9_readLeft p18 p6 p0 p7 p8 p9 p3 p10 p1 p2 p4 p11 p12 p13 p14 p19 p20 p21 p22).bind fun z74 => some (z74.2.2.2.2.2.1, z74.2.2.2.2.2.2.1, z74.2.1, z74.1, z74.2.2.1, z74.2.2.2.1, z74.2.2.2.2.1, p15, p16, p17, p5, z74.2.2.2.2.2.2.2.1, z74.2.2.2.2.2.2.2.2.1, z74.2.2.2.2.2.2.2.2.2.1, z74.2.2.2.2.2.2.2.2.2.2.1, z74.2.2.2.2.2.2.2.2.2.2.2, p12, p14, p13, p11, p24, p25, p26, p27, p23, p29, p28, p6, p30, p31))) else ((e_hP_X9_readLent p18 p6 p0 p7 p8 p9 p3 p10 p1 p2 p4 p11 p12 p13 p14 p19 p20 p21 p22).bind fun z58 => some (z58.2.2.2.2.2.1, z58.2.2.2.2.2.2.1, z58.2.1, z58.1, z58.2.2.1, z58.2.2.2.1, z58.2.2.2.2.1, p15, p16, p17, p5, z58.2.2.2.2.2.2.2.1, z58.2.2.2.2.2.2.2.2.1, z58.2.2.2.2.2.2.2.2.2.1, z58.2.2.2.2.2.2.2.2.2.2.1, z58.2.2.2.2.2.2.2.2.2.2.2, p12, p14, p13, p11, p24, p25, p26, p27, p23, p29, p28, p6, p30, p31))) else ((e_hP_X9_readUmbrella p23 p6 p0 p7 p8 p9 p3 p10 p1 p2 p4 p11 p12 p14 p13 p24 p25 p26 p27).bind fun z42 => some (z42.2.2.2.2.2.1, z42.2.2.2.2.2.2.1, z42.2.1, z42.1, z42.2.2.1, z42.2.2.2.1, z42.2.2.2.2.1, p15, p16, p17, p5, p20, p21, p22, p19, p18, z42.2.2.2.2.2.2.2.1, z42.2.2.2.2.2.2.2.2.1, z42.2.2.2.2.2.2.2.2.2.1, z42.2.2.2.2.2.2.2.2.2.2.1, z42.2.2.2.2.2.2.2.2.2.2.2.1, z42.2.2.2.2.2.2.2.2.2.2.2.2.1, z42.2.2.2.2.2.2.2.2.2.2.2.2.2.1, z42.2.2.2.2.2.2.2.2.2.2.2.2.2.2.1, z42.2.2.2.2.2.2.2.2.2.2.2.2.2.2.2, p29, p28, p6, p30, p31))) else ((e_hP_X9_readPerson p28 p6 p0 p7 p8 p9 p3 p10 p1 p2 p4 p11 p12 p14 p13 p29).bind fun z26 => some (z26.2.2.2.2.2.1, z26.2.2.2.2.2.2.1, z26.2.1, z26.1, z26.2.2.1, z26.2.2.2.1, z26.2.2.2.2.1, p15, p16, p17, p5, p20, p21, p22, p19, p18, z26.2.2.2.2.2.2.2.1, z26.2.2.2.2.2.2.2.2.1, z26.2.2.2.2.2.2.2.2.2.1, z26.2.2.2.2.2.2.2.2.2.2.1, p24, p25, p26, p27, p23, z26.2.2.2.2.2.2.2.2.2.2.2.1, z26.2.2.2.2.2.2.2.2.2.2.2.2, p6, p30, p31))) else ((e_hP_X9_readCounty p6 p0 p7 p8 p9 p3 p10 p1 p2 p4 p30 p31).bind fun z10 => some (z10.2.2.2.2.2.1, z10.2.2.2.2.2.2.1, z10.2.1, z10.1, z10.2.2.1, z10.2.2.2.1, z10.2.2.2.2.1, p15, p16, p17, p5, p20, p21, p22, p19, p18, p12, p14, p13, p11, p24, p25, p26, p27, p23, p29, p28, z10.2.2.2.2.2.2.2.1, z10.2.2.2.2.2.2.2.2.1, z10.2.2.2.2.2.2.2.2.2)))
set_option maxRecDepth 100000 in
set_option maxHeartbeats 4000000 in
theorem t_hP_X9_readLine {g0 g1 g2 g3 g4 g5 g6 g7 g8 g9 g10 g11 g12 g13 g14 g15 g16 g17 g18 g19 g20 g21 g22 g23 g24 g25 g26 : Int32} {a0 a1 a2 a3 a4 a5 a6 a7 a8 a9 a10 a11 a12 a13 a14 a15 a16 a17 a18 a19 a20 a21 a22 a23 : (Nat → Int32)} {b0 : (Nat → Int64)} {w0 : Int64} {k0 k1 k2 k3 k4 k5 k6 k7 k8 k9 k10 k11 k12 k13 k14 k15 : xC} {cv : Value}  (res : Int32 × Int32 × Int32 × Int32 × Int32 × Int32 × Int64 × (Nat → Int32) × (Nat → Int32) × (Nat → Int32) × Int32 × (Nat → Int32) × (Nat → Int32) × (Nat → Int32) × (Nat → Int32) × Int32 × (Nat → Int64) × (Nat → Int32) × (Nat → Int32) × Int32 × (Nat → Int32) × (Nat → Int32) × (Nat → Int32) × (Nat → Int32) × Int32 × (Nat → Int32) × Int32 × Int32 × Int32 × Int32) (h : e_hP_X9_readLine g6 w0 g9 g7 g10 g25 g19 g5 g4 a0 g8 g26 b0 a23 a22 a19 a20 a21 g24 a18 a15 a16 a17 g23 a11 a12 a13 a14 g22 a10 g20 g21  = some res) (d : Nat) : xMet xks YX9_readLine (d + 11) 0 0 [.ref 0] (hP g0 g1 g2 g3 g4 g5 g6 g7 g8 g9 g10 g11 g12 g13 g14 g15 g16 g17 g18 g19 g20 g21 g22 g23 g24 g25 g26 a0 a1 a2 a3 a4 a5 a6 a7 a8 a9 a10 a11 a12 a13 a14 a15 a16 a17 a18 a19 a20 a21 a22 a23 b0 w0 k0 k1 k2 k3 k4 k5 k6 k7 k8 k9 k10 k11 k12 k13 k14 k15 cv (.ref 27)) none (hP g0 g1 g2 g3 g4 res.2.2.2.2.1 res.2.2.1 res.2.2.2.1 res.2.2.2.2.2.1 res.1 res.2.1 g11 g12 g13 g14 g15 g16 g17 g18 res.2.2.2.2.2.2.2.2.2.2.2.2.2.2.2.2.2.2.2.2.2.2.2.2.2.2.2.1 res.2.2.2.2.2.2.2.2.2.2.2.2.2.2.2.2.2.2.2.2.2.2.2.2.2.2.2.2.1 res.2.2.2.2.2.2.2.2.2.2.2.2.2.2.2.2.2.2.2.2.2.2.2.2.2.2.2.2.2 res.2.2.2.2.2.2.2.2.2.2.2.2.2.2.2.2.2.2.2.2.2.2.2.2.2.2.1 res.2.2.2.2.2.2.2.2.2.2.2.2.2.2.2.2.2.2.2.2.2.2.2.2.1 res.2.2.2.2.2.2.2.2.2.2.2.2.2.2.2.1 res.2.2.2.2.2.2.2.2.2.2.1 res.2.2.2.2.2.2.2.2.2.2.2.2.2.2.2.2.2.2.2.1 a0 a1 a2 a3 a4 a5 a6 a7 a8 a9 res.2.2.2.2.2.2.2.2.2.2.2.2.2.2.2.2.2.2.2.2.2.2.2.2.2.1 res.2.2.2.2.2.2.2.2.2.2.2.2.2.2.2.2.2.2.2.2.1 res.2.2.2.2.2.2.2.2.2.2.2.2.2.2.2.2.2.2.2.2.2.1 res.2.2.2.2.2.2.2.2.2.2.2.2.2.2.2.2.2.2.2.2.2.2.1 res.2.2.2.2.2.2.2.2.2.2.2.2.2.2.2.2.2.2.2.2.2.2.2.1 res.2.2.2.2.2.2.2.2.2.2.2.1 res.2.2.2.2.2.2.2.2.2.2.2.2.1 res.2.2.2.2.2.2.2.2.2.2.2.2.2.1 res.2.2.2.2.2.2.2.2.2.2.2.2.2.2.1 res.2.2.2.2.2.2.2.1 res.2.2.2.2.2.2.2.2.1 res.2.2.2.2.2.2.2.2.2.1 res.2.2.2.2.2.2.2.2.2.2.2.2.2.2.2.2.2.1 res.2.2.2.2.2.2.2.2.2.2.2.2.2.2.2.2.2.2.1 res.2.2.2.2.2.2.2.2.2.2.2.2.2.2.2.2.1 res.2.2.2.2.2.2.1 k0 k1 k2 k3 k4 k5 k6 k7 k8 k9 k10 k11 k12 k13 k14 k15 cv (.ref 27)) := by
  unfold e_hP_X9_readLine at h
  refine xMet_of (pl := [some (.ref 0)]) (by decide) (Nat.le_of_ble_eq_true rfl) rfl (Nat.le_of_ble_eq_true rfl) ?_
  refine x_aload_n dX9_readLine_0 rfl ?_
  refine x_ldcS (k := 11) rfl rfl rfl dX9_readLine_1 ?_
  obtain ⟨z3, y3, h⟩ := xbind h
  refine x_callV (t_hP_X9_isWord  z3 y3 (d + 4)) kX9_116 dX9_readLine_3 rfl rfl rfl rfl rfl (Nat.le_of_ble_eq_true rfl) (Nat.le_of_ble_eq_true rfl) rfl rfl (Or.inl rfl) ?_
  refine x_if_eq 16 dX9_readLine_6 (by decide) (fun q => ?_) (fun q => ?_)
  · have h := xif_t q h
    refine x_aload_n dX9_readLine_16 rfl ?_
    refine x_ldcS (k := 12) rfl rfl rfl dX9_readLine_17 ?_
    obtain ⟨z19, y19, h⟩ := xbind h
    refine x_callV (t_hP_X9_isWord_2  z19 y19 (d + 4)) kX9_116 dX9_readLine_19 rfl rfl rfl rfl rfl (Nat.le_of_ble_eq_true rfl) (Nat.le_of_ble_eq_true rfl) rfl rfl (Or.inl rfl) ?_
    refine x_if_eq 32 dX9_readLine_22 (by decide) (fun q => ?_) (fun q => ?_)
    · have h := xif_t q h
      refine x_aload_n dX9_readLine_32 rfl ?_
      refine x_ldcS (k := 13) rfl rfl rfl dX9_readLine_33 ?_
      obtain ⟨z35, y35, h⟩ := xbind h
      refine x_callV (t_hP_X9_isWord_3  z35 y35 (d + 4)) kX9_116 dX9_readLine_35 rfl rfl rfl rfl rfl (Nat.le_of_ble_eq_true rfl) (Nat.le_of_ble_eq_true rfl) rfl rfl (Or.inl rfl) ?_
      refine x_if_eq 48 dX9_readLine_38 (by decide) (fun q => ?_) (fun q => ?_)
      · have h := xif_t q h
        refine x_aload_n dX9_readLine_48 rfl ?_
        refine x_ldcS (k := 14) rfl rfl rfl dX9_readLine_49 ?_
        obtain ⟨z51, y51, h⟩ := xbind h
        refine x_callV (t_hP_X9_isWord_4  z51 y51 (d + 4)) kX9_116 dX9_readLine_51 rfl rfl rfl rfl rfl (Nat.le_of_ble_eq_true rfl) (Nat.le_of_ble_eq_true rfl) rfl rfl (Or.inl rfl) ?_
        refine x_if_eq 64 dX9_readLine_54 (by decide) (fun q => ?_) (fun q => ?_)
        · have h := xif_t q h
          refine x_aload_n dX9_readLine_64 rfl ?_
          refine x_ldcS (k := 15) rfl rfl rfl dX9_readLine_65 ?_
          obtain ⟨z67, y67, h⟩ := xbind h
          refine x_callV (t_hP_X9_isWord_5  z67 y67 (d + 4)) kX9_116 dX9_readLine_67 rfl rfl rfl rfl rfl (Nat.le_of_ble_eq_true rfl) (Nat.le_of_ble_eq_true rfl) rfl rfl (Or.inl rfl) ?_
          refine x_if_eq 80 dX9_readLine_70 (by decide) (fun q => ?_) (fun q => ?_)
          · have h := xif_t q h
            refine x_aload_n dX9_readLine_80 rfl ?_
            refine x_ldcS (k := 16) rfl rfl rfl dX9_readLine_81 ?_
            obtain ⟨z83, y83, h⟩ := xbind h
            refine x_callV (t_hP_X9_isWord_6  z83 y83 (d + 4)) kX9_116 dX9_readLine_83 rfl rfl rfl rfl rfl (Nat.le_of_ble_eq_true rfl) (Nat.le_of_ble_eq_true rfl) rfl rfl (Or.inl rfl) ?_
            refine x_if_eq 96 dX9_readLine_86 (by decide) (fun q => ?_) (fun q => ?_)
            · have h := xif_t q h
              refine x_aload_n dX9_readLine_96 rfl ?_
              refine x_ldcS (k := 17) rfl rfl rfl dX9_readLine_97 ?_
              obtain ⟨z99, y99, h⟩ := xbind h
              refine x_callV (t_hP_X9_isWord_7  z99 y99 (d + 4)) kX9_116 dX9_readLine_99 rfl rfl rfl rfl rfl (Nat.le_of_ble_eq_true rfl) (Nat.le_of_ble_eq_true rfl) rfl rfl (Or.inl rfl) ?_
              refine x_if_eq 112 dX9_readLine_102 (by decide) (fun q => ?_) (fun q => ?_)
              · have h := xif_t q h
                refine x_aload_n dX9_readLine_112 rfl ?_
                refine x_ldcS (k := 18) rfl rfl rfl dX9_readLine_113 ?_
                obtain ⟨z115, y115, h⟩ := xbind h
                refine x_callV (t_hP_X9_isWord_8  z115 y115 (d + 4)) kX9_116 dX9_readLine_115 rfl rfl rfl rfl rfl (Nat.le_of_ble_eq_true rfl) (Nat.le_of_ble_eq_true rfl) rfl rfl (Or.inl rfl) ?_
                refine x_if_eq 128 dX9_readLine_118 (by decide) (fun q => ?_) (fun q => ?_)
                · have h := xif_t q h
                  refine x_aload_n dX9_readLine_128 rfl ?_
                  refine x_iconst (1 : Int32) dX9_readLine_129 (by decide) ?_
                  obtain ⟨z130, y130, h⟩ := xbind h
                  refine x_callV (t_hP_X9_flaw (1 : Int32) z130 y130 (d + 9)) kX9_120 dX9_readLine_130 rfl rfl rfl rfl rfl (Nat.le_of_ble_eq_true rfl) (Nat.le_of_ble_eq_true rfl) rfl rfl (Or.inl rfl) ?_
                  cases h
                  exact x_vret2 dX9_readLine_133 rfl rfl
                · have h := xif_f q h
                  refine x_aload_n dX9_readLine_121 rfl ?_
                  obtain ⟨z122, y122, h⟩ := xbind h
                  refine x_callV (t_hP_X9_readClaims  z122 y122 (d + 0)) kX9_218 dX9_readLine_122 rfl rfl rfl rfl rfl (Nat.le_of_ble_eq_true rfl) (Nat.le_of_ble_eq_true rfl) rfl rfl (Or.inl rfl) ?_
                  refine x_goto 133 dX9_readLine_125 (by decide) ?_
                  cases h
                  exact x_vret2 dX9_readLine_133 rfl rfl
              · have h := xif_f q h
                refine x_aload_n dX9_readLine_105 rfl ?_
                obtain ⟨z106, y106, h⟩ := xbind h
                refine x_callV (t_hP_X9_readRain  z106 y106 (d + 0)) kX9_215 dX9_readLine_106 rfl rfl rfl rfl rfl (Nat.le_of_ble_eq_true rfl) (Nat.le_of_ble_eq_true rfl) rfl rfl (Or.inl rfl) ?_
                refine x_goto 133 dX9_readLine_109 (by decide) ?_
                cases h
                exact x_vret2 dX9_readLine_133 rfl rfl
            · have h := xif_f q h
              refine x_aload_n dX9_readLine_89 rfl ?_
              obtain ⟨z90, y90, h⟩ := xbind h
              refine x_callV (t_hP_X9_readChanged  z90 y90 (d + 0)) kX9_212 dX9_readLine_90 rfl rfl rfl rfl rfl (Nat.le_of_ble_eq_true rfl) (Nat.le_of_ble_eq_true rfl) rfl rfl (Or.inl rfl) ?_
              refine x_goto 133 dX9_readLine_93 (by decide) ?_
              cases h
              exact x_vret2 dX9_readLine_133 rfl rfl
          · have h := xif_f q h
            refine x_aload_n dX9_readLine_73 rfl ?_
            obtain ⟨z74, y74, h⟩ := xbind h
            refine x_callV (t_hP_X9_readLeft  z74 y74 (d + 0)) kX9_209 dX9_readLine_74 rfl rfl rfl rfl rfl (Nat.le_of_ble_eq_true rfl) (Nat.le_of_ble_eq_true rfl) rfl rfl (Or.inl rfl) ?_
            refine x_goto 133 dX9_readLine_77 (by decide) ?_
            cases h
            exact x_vret2 dX9_readLine_133 rfl rfl
        · have h := xif_f q h
          refine x_aload_n dX9_readLine_57 rfl ?_
          obtain ⟨z58, y58, h⟩ := xbind h
          refine x_callV (t_hP_X9_readLent  z58 y58 (d + 0)) kX9_206 dX9_readLine_58 rfl rfl rfl rfl rfl (Nat.le_of_ble_eq_true rfl) (Nat.le_of_ble_eq_true rfl) rfl rfl (Or.inl rfl) ?_
          refine x_goto 133 dX9_readLine_61 (by decide) ?_
          cases h
          exact x_vret2 dX9_readLine_133 rfl rfl
      · have h := xif_f q h
        refine x_aload_n dX9_readLine_41 rfl ?_
        obtain ⟨z42, y42, h⟩ := xbind h
        refine x_callV (t_hP_X9_readUmbrella  z42 y42 (d + 0)) kX9_203 dX9_readLine_42 rfl rfl rfl rfl rfl (Nat.le_of_ble_eq_true rfl) (Nat.le_of_ble_eq_true rfl) rfl rfl (Or.inl rfl) ?_
        refine x_goto 133 dX9_readLine_45 (by decide) ?_
        cases h
        exact x_vret2 dX9_readLine_133 rfl rfl
    · have h := xif_f q h
      refine x_aload_n dX9_readLine_25 rfl ?_
      obtain ⟨z26, y26, h⟩ := xbind h
      refine x_callV (t_hP_X9_readPerson  z26 y26 (d + 1)) kX9_200 dX9_readLine_26 rfl rfl rfl rfl rfl (Nat.le_of_ble_eq_true rfl) (Nat.le_of_ble_eq_true rfl) rfl rfl (Or.inl rfl) ?_
      refine x_goto 133 dX9_readLine_29 (by decide) ?_
      cases h
      exact x_vret2 dX9_readLine_133 rfl rfl
  · have h := xif_f q h
    refine x_aload_n dX9_readLine_9 rfl ?_
    obtain ⟨z10, y10, h⟩ := xbind h
    refine x_callV (t_hP_X9_readCounty  z10 y10 (d + 1)) kX9_197 dX9_readLine_10 rfl rfl rfl rfl rfl (Nat.le_of_ble_eq_true rfl) (Nat.le_of_ble_eq_true rfl) rfl rfl (Or.inl rfl) ?_
    refine x_goto 133 dX9_readLine_13 (by decide) ?_
    cases h
    exact x_vret2 dX9_readLine_133 rfl rfl
noncomputable def e_hP_X9_eatsSemicolon (p0 : Int32) (p1 : Int32) (p2 : Int32) (p3 : (Nat → Int32)) (p4 : Int32) (p5 : Int32) (p6 : Int64)  : Option (Int32 × Int32 × Int32 × Int32 × Int32 × Int64) :=
  if p0 = (4 : Int32) then if (1 : Int32) = (0 : Int32) then some ((1 : Int32), p4, p0, p1, p5, p6) else ((e_hP_X9_goesOn p0 p1 p2 p3 p4 p5 p6).bind fun z19 => some ((1 : Int32), z19.1, z19.2.1, z19.2.2.1, z19.2.2.2.1, z19.2.2.2.2)) else if (0 : Int32) = (0 : Int32) then some ((0 : Int32), p4, p0, p1, p5, p6) else ((e_hP_X9_goesOn p0 p1 p2 p3 p4 p5 p6).bind fun z19 => some ((0 : Int32), z19.1, z19.2.1, z19.2.2.1, z19.2.2.2.1, z19.2.2.2.2))
set_option maxRecDepth 100000 in
set_option maxHeartbeats 4000000 in
theorem t_hP_X9_eatsSemicolon {g0 g1 g2 g3 g4 g5 g6 g7 g8 g9 g10 g11 g12 g13 g14 g15 g16 g17 g18 g19 g20 g21 g22 g23 g24 g25 g26 : Int32} {a0 a1 a2 a3 a4 a5 a6 a7 a8 a9 a10 a11 a12 a13 a14 a15 a16 a17 a18 a19 a20 a21 a22 a23 : (Nat → Int32)} {b0 : (Nat → Int64)} {w0 : Int64} {k0 k1 k2 k3 k4 k5 k6 k7 k8 k9 k10 k11 k12 k13 k14 k15 : xC} {cv : Value}  (res : Int32 × Int32 × Int32 × Int32 × Int32 × Int64) (h : e_hP_X9_eatsSemicolon g6 g5 g4 a0 g7 g8 w0  = some res) (d : Nat) : xMet xks YX9_eatsSemicolon (d + 3) 0 0 [.ref 0] (hP g0 g1 g2 g3 g4 g5 g6 g7 g8 g9 g10 g11 g12 g13 g14 g15 g16 g17 g18 g19 g20 g21 g22 g23 g24 g25 g26 a0 a1 a2 a3 a4 a5 a6 a7 a8 a9 a10 a11 a12 a13 a14 a15 a16 a17 a18 a19 a20 a21 a22 a23 b0 w0 k0 k1 k2 k3 k4 k5 k6 k7 k8 k9 k10 k11 k12 k13 k14 k15 cv (.ref 27)) (some (.int res.1)) (hP g0 g1 g2 g3 g4 res.2.2.2.1 res.2.2.1 res.2.1 res.2.2.2.2.1 g9 g10 g11 g12 g13 g14 g15 g16 g17 g18 g19 g20 g21 g22 g23 g24 g25 g26 a0 a1 a2 a3 a4 a5 a6 a7 a8 a9 a10 a11 a12 a13 a14 a15 a16 a17 a18 a19 a20 a21 a22 a23 b0 res.2.2.2.2.2 k0 k1 k2 k3 k4 k5 k6 k7 k8 k9 k10 k11 k12 k13 k14 k15 cv (.ref 27)) := by
  unfold e_hP_X9_eatsSemicolon at h
  refine xMet_of (pl := [some (.ref 0), none]) (by decide) (Nat.le_of_ble_eq_true rfl) rfl (Nat.le_of_ble_eq_true rfl) ?_
  refine x_aload_n dX9_eatsSemicolon_0 rfl ?_
  refine x_get fX9_77 dX9_eatsSemicolon_1 rfl rfl rfl ?_
  refine x_iconst (4 : Int32) dX9_eatsSemicolon_4 (by decide) ?_
  refine x_icmp_ne 12 dX9_eatsSemicolon_5 (by decide) (fun q => ?_) (fun q => ?_)
  · have h := xif_f q h
    refine x_iconst (0 : Int32) dX9_eatsSemicolon_12 (by decide) ?_
    refine x_istore_n (pl' := [some (.ref 0), some (.int (0 : Int32))]) dX9_eatsSemicolon_13 (by decide) rfl ?_
    refine x_iload_n dX9_eatsSemicolon_14 rfl ?_
    refine x_if_eq 22 dX9_eatsSemicolon_15 (by decide) (fun q => ?_) (fun q => ?_)
    · have h := xif_t q h
      refine x_iload_n dX9_eatsSemicolon_22 rfl ?_
      cases h
      exact x_zret2 dX9_eatsSemicolon_23 rfl rfl rfl
    · have h := xif_f q h
      refine x_aload_n dX9_eatsSemicolon_18 rfl ?_
      obtain ⟨z19, y19, h⟩ := xbind h
      refine x_callV (t_hP_X9_goesOn  z19 y19 (d + 0)) kX9_113 dX9_eatsSemicolon_19 rfl rfl rfl rfl rfl (Nat.le_of_ble_eq_true rfl) (Nat.le_of_ble_eq_true rfl) rfl rfl (Or.inl rfl) ?_
      refine x_iload_n dX9_eatsSemicolon_22 rfl ?_
      cases h
      exact x_zret2 dX9_eatsSemicolon_23 rfl rfl rfl
  · have h := xif_t q h
    refine x_iconst (1 : Int32) dX9_eatsSemicolon_8 (by decide) ?_
    refine x_goto 13 dX9_eatsSemicolon_9 (by decide) ?_
    refine x_istore_n (pl' := [some (.ref 0), some (.int (1 : Int32))]) dX9_eatsSemicolon_13 (by decide) rfl ?_
    refine x_iload_n dX9_eatsSemicolon_14 rfl ?_
    refine x_if_eq 22 dX9_eatsSemicolon_15 (by decide) (fun q => ?_) (fun q => ?_)
    · have h := xif_t q h
      refine x_iload_n dX9_eatsSemicolon_22 rfl ?_
      cases h
      exact x_zret2 dX9_eatsSemicolon_23 rfl rfl rfl
    · have h := xif_f q h
      refine x_aload_n dX9_eatsSemicolon_18 rfl ?_
      obtain ⟨z19, y19, h⟩ := xbind h
      refine x_callV (t_hP_X9_goesOn  z19 y19 (d + 0)) kX9_113 dX9_eatsSemicolon_19 rfl rfl rfl rfl rfl (Nat.le_of_ble_eq_true rfl) (Nat.le_of_ble_eq_true rfl) rfl rfl (Or.inl rfl) ?_
      refine x_iload_n dX9_eatsSemicolon_22 rfl ?_
      cases h
      exact x_zret2 dX9_eatsSemicolon_23 rfl rfl rfl
noncomputable def L_hP_X9_readAll_2 (p10 : Int32) (p11 : (Nat → Int32))   (K : Int32 → Int32 → Int32 → Int32 → Int32 → Int32 → Int32 → Int64 → (Nat → Int32) → (Nat → Int32) → (Nat → Int32) → Int32 → (Nat → Int32) → (Nat → Int32) → (Nat → Int32) → (Nat → Int32) → Int32 → (Nat → Int64) → (Nat → Int32) → (Nat → Int32) → Int32 → (Nat → Int32) → (Nat → Int32) → (Nat → Int32) → (Nat → Int32) → Int32 → (Nat → Int32) → Int32 → Int32 → Int32 → Int32 → Option (Int32 × Int32 × Int32 × Int32 × Int32 × Int32 × Int64 × (Nat → Int32) × (Nat → Int32) × (Nat → Int32) × Int32 × (Nat → Int32) × (Nat → Int32) × (Nat → Int32) × (Nat → Int32) × Int32 × (Nat → Int64) × (Nat → Int32) × (Nat → Int32) × Int32 × (Nat → Int32) × (Nat → Int32) × (Nat → Int32) × (Nat → Int32) × Int32 × (Nat → Int32) × Int32 × Int32 × Int32 × Int32)) : Nat → Int32 → Int32 → Int32 → Int32 → Int32 → Int32 → Int32 → Int64 → (Nat → Int32) → (Nat → Int32) → (Nat → Int32) → Int32 → (Nat → Int32) → (Nat → Int32) → (Nat → Int32) → (Nat → Int32) → Int32 → (Nat → Int64) → (Nat → Int32) → (Nat → Int32) → Int32 → (Nat → Int32) → (Nat → Int32) → (Nat → Int32) → (Nat → Int32) → Int32 → (Nat → Int32) → Int32 → Int32 → Int32 → Int32 → Option (Int32 × Int32 × Int32 × Int32 × Int32 × Int32 × Int64 × (Nat → Int32) × (Nat → Int32) × (Nat → Int32) × Int32 × (Nat → Int32) × (Nat → Int32) × (Nat → Int32) × (Nat → Int32) × Int32 × (Nat → Int64) × (Nat → Int32) × (Nat → Int32) × Int32 × (Nat → Int32) × (Nat → Int32) × (Nat → Int32) × (Nat → Int32) × Int32 × (Nat → Int32) × Int32 × Int32 × Int32 × Int32)
  | 0, _, _, _, _, _, _, _, _, _, _, _, _, _, _, _, _, _, _, _, _, _, _, _, _, _, _, _, _, _, _, _ => none
  | n2 + 1, l1_2, mg9_2, mg10_2, mg6_2, mg7_2, mg5_2, mg8_2, mw0_2, ma19_2, ma20_2, ma21_2, mg25_2, ma15_2, ma16_2, ma17_2, ma18_2, mg24_2, mb0_2, ma22_2, ma23_2, mg26_2, ma11_2, ma12_2, ma13_2, ma14_2, mg23_2, ma10_2, mg22_2, mg19_2, mg20_2, mg21_2 => if l1_2 = (0 : Int32) then K l1_2 mg9_2 mg10_2 mg6_2 mg7_2 mg5_2 mg8_2 mw0_2 ma19_2 ma20_2 ma21_2 mg25_2 ma15_2 ma16_2 ma17_2 ma18_2 mg24_2 mb0_2 ma22_2 ma23_2 mg26_2 ma11_2 ma12_2 ma13_2 ma14_2 mg23_2 ma10_2 mg22_2 mg19_2 mg20_2 mg21_2 else ((e_hP_X9_readLine mg6_2 mw0_2 mg9_2 mg7_2 mg10_2 mg25_2 mg19_2 mg5_2 p10 p11 mg8_2 mg26_2 mb0_2 ma23_2 ma22_2 ma19_2 ma20_2 ma21_2 mg24_2 ma18_2 ma15_2 ma16_2 ma17_2 mg23_2 ma11_2 ma12_2 ma13_2 ma14_2 mg22_2 ma10_2 mg20_2 mg21_2).bind fun z7 => (e_hP_X9_eatsSemicolon z7.2.2.1 z7.2.2.2.2.1 p10 p11 z7.2.2.2.1 z7.2.2.2.2.2.1 z7.2.2.2.2.2.2.1).bind fun z11 => L_hP_X9_readAll_2 p10 p11  K n2 z11.1 z7.1 z7.2.1 z11.2.2.1 z11.2.1 z11.2.2.2.1 z11.2.2.2.2.1 z11.2.2.2.2.2 z7.2.2.2.2.2.2.2.1 z7.2.2.2.2.2.2.2.2.1 z7.2.2.2.2.2.2.2.2.2.1 z7.2.2.2.2.2.2.2.2.2.2.1 z7.2.2.2.2.2.2.2.2.2.2.2.1 z7.2.2.2.2.2.2.2.2.2.2.2.2.1 z7.2.2.2.2.2.2.2.2.2.2.2.2.2.1 z7.2.2.2.2.2.2.2.2.2.2.2.2.2.2.1 z7.2.2.2.2.2.2.2.2.2.2.2.2.2.2.2.1 z7.2.2.2.2.2.2.2.2.2.2.2.2.2.2.2.2.1 z7.2.2.2.2.2.2.2.2.2.2.2.2.2.2.2.2.2.1 z7.2.2.2.2.2.2.2.2.2.2.2.2.2.2.2.2.2.2.1 z7.2.2.2.2.2.2.2.2.2.2.2.2.2.2.2.2.2.2.2.1 z7.2.2.2.2.2.2.2.2.2.2.2.2.2.2.2.2.2.2.2.2.1 z7.2.2.2.2.2.2.2.2.2.2.2.2.2.2.2.2.2.2.2.2.2.1 z7.2.2.2.2.2.2.2.2.2.2.2.2.2.2.2.2.2.2.2.2.2.2.1 z7.2.2.2.2.2.2.2.2.2.2.2.2.2.2.2.2.2.2.2.2.2.2.2.1 z7.2.2.2.2.2.2.2.2.2.2.2.2.2.2.2.2.2.2.2.2.2.2.2.2.1 z7.2.2.2.2.2.2.2.2.2.2.2.2.2.2.2.2.2.2.2.2.2.2.2.2.2.1 z7.2.2.2.2.2.2.2.2.2.2.2.2.2.2.2.2.2.2.2.2.2.2.2.2.2.2.1 z7.2.2.2.2.2.2.2.2.2.2.2.2.2.2.2.2.2.2.2.2.2.2.2.2.2.2.2.1 z7.2.2.2.2.2.2.2.2.2.2.2.2.2.2.2.2.2.2.2.2.2.2.2.2.2.2.2.2.1 z7.2.2.2.2.2.2.2.2.2.2.2.2.2.2.2.2.2.2.2.2.2.2.2.2.2.2.2.2.2)
noncomputable def e_hP_X9_readAll (p0 : Int32) (p1 : Int32) (p2 : Int32) (p3 : Int32) (p4 : Int32) (p5 : Int32) (p6 : Int64) (p7 : Int32) (p8 : Int32) (p9 : Int32) (p10 : Int32) (p11 : (Nat → Int32)) (p12 : Int32) (p13 : Int32) (p14 : (Nat → Int64)) (p15 : (Nat → Int32)) (p16 : (Nat → Int32)) (p17 : (Nat → Int32)) (p18 : (Nat → Int32)) (p19 : (Nat → Int32)) (p20 : Int32) (p21 : (Nat → Int32)) (p22 : (Nat → Int32)) (p23 : (Nat → Int32)) (p24 : (Nat → Int32)) (p25 : (Nat → Int32)) (p26 : (Nat → Int32)) (p27 : (Nat → Int32)) (p28 : (Nat → Int32)) (p29 : (Nat → Int32)) (p30 : Int32) (p31 : Int32)  : Option (Int32 × Int32 × Int32 × Int32 × Int32 × Int32 × Int64 × (Nat → Int32) × (Nat → Int32) × (Nat → Int32) × Int32 × (Nat → Int32) × (Nat → Int32) × (Nat → Int32) × (Nat → Int32) × Int32 × (Nat → Int64) × (Nat → Int32) × (Nat → Int32) × Int32 × (Nat → Int32) × (Nat → Int32) × (Nat → Int32) × (Nat → Int32) × Int32 × (Nat → Int32) × Int32 × Int32 × Int32 × Int32) :=
  L_hP_X9_readAll_2 p10 p11  (fun l1_2 mg9_2 mg10_2 mg6_2 mg7_2 mg5_2 mg8_2 mw0_2 ma19_2 ma20_2 ma21_2 mg25_2 ma15_2 ma16_2 ma17_2 ma18_2 mg24_2 mb0_2 ma22_2 ma23_2 mg26_2 ma11_2 ma12_2 ma13_2 ma14_2 mg23_2 ma10_2 mg22_2 mg19_2 mg20_2 mg21_2 => if mg6_2 = (1 : Int32) then if mg22_2 = (0 : Int32) then ((e_hP_X9_flaw mg6_2 mg9_2 mg7_2 mg10_2 (6 : Int32)).bind fun z54 => some (z54.1, z54.2.1, z54.2.2, mg7_2, mg5_2, mg8_2, mw0_2, ma19_2, ma20_2, ma21_2, mg25_2, ma15_2, ma16_2, ma17_2, ma18_2, mg24_2, mb0_2, ma22_2, ma23_2, mg26_2, ma11_2, ma12_2, ma13_2, ma14_2, mg23_2, ma10_2, mg22_2, mg19_2, mg20_2, mg21_2)) else if mg23_2 = (0 : Int32) then ((e_hP_X9_flaw mg6_2 mg9_2 mg7_2 mg10_2 (6 : Int32)).bind fun z54 => some (z54.1, z54.2.1, z54.2.2, mg7_2, mg5_2, mg8_2, mw0_2, ma19_2, ma20_2, ma21_2, mg25_2, ma15_2, ma16_2, ma17_2, ma18_2, mg24_2, mb0_2, ma22_2, ma23_2, mg26_2, ma11_2, ma12_2, ma13_2, ma14_2, mg23_2, ma10_2, mg22_2, mg19_2, mg20_2, mg21_2)) else some (mg9_2, mg10_2, mg6_2, mg7_2, mg5_2, mg8_2, mw0_2, ma19_2, ma20_2, ma21_2, mg25_2, ma15_2, ma16_2, ma17_2, ma18_2, mg24_2, mb0_2, ma22_2, ma23_2, mg26_2, ma11_2, ma12_2, ma13_2, ma14_2, mg23_2, ma10_2, mg22_2, mg19_2, mg20_2, mg21_2) else ((e_hP_X9_flaw mg6_2 mg9_2 mg7_2 mg10_2 (1 : Int32)).bind fun z28 => if mg22_2 = (0 : Int32) then ((e_hP_X9_flaw z28.2.2 z28.1 mg7_2 z28.2.1 (6 : Int32)).bind fun z54 => some (z54.1, z54.2.1, z54.2.2, mg7_2, mg5_2, mg8_2, mw0_2, ma19_2, ma20_2, ma21_2, mg25_2, ma15_2, ma16_2, ma17_2, ma18_2, mg24_2, mb0_2, ma22_2, ma23_2, mg26_2, ma11_2, ma12_2, ma13_2, ma14_2, mg23_2, ma10_2, mg22_2, mg19_2, mg20_2, mg21_2)) else if mg23_2 = (0 : Int32) then ((e_hP_X9_flaw z28.2.2 z28.1 mg7_2 z28.2.1 (6 : Int32)).bind fun z54 => some (z54.1, z54.2.1, z54.2.2, mg7_2, mg5_2, mg8_2, mw0_2, ma19_2, ma20_2, ma21_2, mg25_2, ma15_2, ma16_2, ma17_2, ma18_2, mg24_2, mb0_2, ma22_2, ma23_2, mg26_2, ma11_2, ma12_2, ma13_2, ma14_2, mg23_2, ma10_2, mg22_2, mg19_2, mg20_2, mg21_2)) else some (z28.1, z28.2.1, z28.2.2, mg7_2, mg5_2, mg8_2, mw0_2, ma19_2, ma20_2, ma21_2, mg25_2, ma15_2, ma16_2, ma17_2, ma18_2, mg24_2, mb0_2, ma22_2, ma23_2, mg26_2, ma11_2, ma12_2, ma13_2, ma14_2, mg23_2, ma10_2, mg22_2, mg19_2, mg20_2, mg21_2))) 200000 (1 : Int32) p2 p4 p0 p3 p9 p12 p6 p17 p18 p19 p7 p22 p23 p24 p21 p20 p14 p16 p15 p13 p25 p26 p27 p28 p5 p29 p1 p8 p30 p31
set_option maxRecDepth 100000 in
set_option maxHeartbeats 4000000 in
theorem lp_hP_X9_readAll_2 {g0 g1 g2 g3 g4 g11 g12 g13 g14 g15 g16 g17 g18 : Int32} {a0 a1 a2 a3 a4 a5 a6 a7 a8 a9 : (Nat → Int32)} {k0 k1 k2 k3 k4 k5 k6 k7 k8 k9 k10 k11 k12 k13 k14 k15 : xC} {cv : Value} (d n0 : Nat)  (res : Int32 × Int32 × Int32 × Int32 × Int32 × Int32 × Int64 × (Nat → Int32) × (Nat → Int32) × (Nat → Int32) × Int32 × (Nat → Int32) × (Nat → Int32) × (Nat → Int32) × (Nat → Int32) × Int32 × (Nat → Int64) × (Nat → Int32) × (Nat → Int32) × Int32 × (Nat → Int32) × (Nat → Int32) × (Nat → Int32) × (Nat → Int32) × Int32 × (Nat → Int32) × Int32 × Int32 × Int32 × Int32) (K : Int32 → Int32 → Int32 → Int32 → Int32 → Int32 → Int32 → Int64 → (Nat → Int32) → (Nat → Int32) → (Nat → Int32) → Int32 → (Nat → Int32) → (Nat → Int32) → (Nat → Int32) → (Nat → Int32) → Int32 → (Nat → Int64) → (Nat → Int32) → (Nat → Int32) → Int32 → (Nat → Int32) → (Nat → Int32) → (Nat → Int32) → (Nat → Int32) → Int32 → (Nat → Int32) → Int32 → Int32 → Int32 → Int32 → Option (Int32 × Int32 × Int32 × Int32 × Int32 × Int32 × Int64 × (Nat → Int32) × (Nat → Int32) × (Nat → Int32) × Int32 × (Nat → Int32) × (Nat → Int32) × (Nat → Int32) × (Nat → Int32) × Int32 × (Nat → Int64) × (Nat → Int32) × (Nat → Int32) × Int32 × (Nat → Int32) × (Nat → Int32) × (Nat → Int32) × (Nat → Int32) × Int32 × (Nat → Int32) × Int32 × Int32 × Int32 × Int32)) (hK : ∀ (l1_2 : Int32) (mg9_2 : Int32) (mg10_2 : Int32) (mg6_2 : Int32) (mg7_2 : Int32) (mg5_2 : Int32) (mg8_2 : Int32) (mw0_2 : Int64) (ma19_2 : (Nat → Int32)) (ma20_2 : (Nat → Int32)) (ma21_2 : (Nat → Int32)) (mg25_2 : Int32) (ma15_2 : (Nat → Int32)) (ma16_2 : (Nat → Int32)) (ma17_2 : (Nat → Int32)) (ma18_2 : (Nat → Int32)) (mg24_2 : Int32) (mb0_2 : (Nat → Int64)) (ma22_2 : (Nat → Int32)) (ma23_2 : (Nat → Int32)) (mg26_2 : Int32) (ma11_2 : (Nat → Int32)) (ma12_2 : (Nat → Int32)) (ma13_2 : (Nat → Int32)) (ma14_2 : (Nat → Int32)) (mg23_2 : Int32) (ma10_2 : (Nat → Int32)) (mg22_2 : Int32) (mg19_2 : Int32) (mg20_2 : Int32) (mg21_2 : Int32), K l1_2 mg9_2 mg10_2 mg6_2 mg7_2 mg5_2 mg8_2 mw0_2 ma19_2 ma20_2 ma21_2 mg25_2 ma15_2 ma16_2 ma17_2 ma18_2 mg24_2 mb0_2 ma22_2 ma23_2 mg26_2 ma11_2 ma12_2 ma13_2 ma14_2 mg23_2 ma10_2 mg22_2 mg19_2 mg20_2 mg21_2 = some res → xW xks YX9_readAll (d + 12) 0 0 n0 (xZ 0 0 n0 none (hP g0 g1 g2 g3 g4 res.2.2.2.2.1 res.2.2.1 res.2.2.2.1 res.2.2.2.2.2.1 res.1 res.2.1 g11 g12 g13 g14 g15 g16 g17 g18 res.2.2.2.2.2.2.2.2.2.2.2.2.2.2.2.2.2.2.2.2.2.2.2.2.2.2.2.1 res.2.2.2.2.2.2.2.2.2.2.2.2.2.2.2.2.2.2.2.2.2.2.2.2.2.2.2.2.1 res.2.2.2.2.2.2.2.2.2.2.2.2.2.2.2.2.2.2.2.2.2.2.2.2.2.2.2.2.2 res.2.2.2.2.2.2.2.2.2.2.2.2.2.2.2.2.2.2.2.2.2.2.2.2.2.2.1 res.2.2.2.2.2.2.2.2.2.2.2.2.2.2.2.2.2.2.2.2.2.2.2.2.1 res.2.2.2.2.2.2.2.2.2.2.2.2.2.2.2.1 res.2.2.2.2.2.2.2.2.2.2.1 res.2.2.2.2.2.2.2.2.2.2.2.2.2.2.2.2.2.2.2.1 a0 a1 a2 a3 a4 a5 a6 a7 a8 a9 res.2.2.2.2.2.2.2.2.2.2.2.2.2.2.2.2.2.2.2.2.2.2.2.2.2.1 res.2.2.2.2.2.2.2.2.2.2.2.2.2.2.2.2.2.2.2.2.1 res.2.2.2.2.2.2.2.2.2.2.2.2.2.2.2.2.2.2.2.2.2.1 res.2.2.2.2.2.2.2.2.2.2.2.2.2.2.2.2.2.2.2.2.2.2.1 res.2.2.2.2.2.2.2.2.2.2.2.2.2.2.2.2.2.2.2.2.2.2.2.1 res.2.2.2.2.2.2.2.2.2.2.2.1 res.2.2.2.2.2.2.2.2.2.2.2.2.1 res.2.2.2.2.2.2.2.2.2.2.2.2.2.1 res.2.2.2.2.2.2.2.2.2.2.2.2.2.2.1 res.2.2.2.2.2.2.2.1 res.2.2.2.2.2.2.2.2.1 res.2.2.2.2.2.2.2.2.2.1 res.2.2.2.2.2.2.2.2.2.2.2.2.2.2.2.2.2.1 res.2.2.2.2.2.2.2.2.2.2.2.2.2.2.2.2.2.2.1 res.2.2.2.2.2.2.2.2.2.2.2.2.2.2.2.2.1 res.2.2.2.2.2.2.1 k0 k1 k2 k3 k4 k5 k6 k7 k8 k9 k10 k11 k12 k13 k14 k15 cv (.ref 27))) 0 0 18 [some (.ref 0), none] [] (hP g0 g1 g2 g3 g4 mg5_2 mg6_2 mg7_2 mg8_2 mg9_2 mg10_2 g11 g12 g13 g14 g15 g16 g17 g18 mg19_2 mg20_2 mg21_2 mg22_2 mg23_2 mg24_2 mg25_2 mg26_2 a0 a1 a2 a3 a4 a5 a6 a7 a8 a9 ma10_2 ma11_2 ma12_2 ma13_2 ma14_2 ma15_2 ma16_2 ma17_2 ma18_2 ma19_2 ma20_2 ma21_2 ma22_2 ma23_2 mb0_2 mw0_2 k0 k1 k2 k3 k4 k5 k6 k7 k8 k9 k10 k11 k12 k13 k14 k15 cv (.ref 27))) : ∀ (n : Nat) (l1_2 : Int32) (mg9_2 : Int32) (mg10_2 : Int32) (mg6_2 : Int32) (mg7_2 : Int32) (mg5_2 : Int32) (mg8_2 : Int32) (mw0_2 : Int64) (ma19_2 : (Nat → Int32)) (ma20_2 : (Nat → Int32)) (ma21_2 : (Nat → Int32)) (mg25_2 : Int32) (ma15_2 : (Nat → Int32)) (ma16_2 : (Nat → Int32)) (ma17_2 : (Nat → Int32)) (ma18_2 : (Nat → Int32)) (mg24_2 : Int32) (mb0_2 : (Nat → Int64)) (ma22_2 : (Nat → Int32)) (ma23_2 : (Nat → Int32)) (mg26_2 : Int32) (ma11_2 : (Nat → Int32)) (ma12_2 : (Nat → Int32)) (ma13_2 : (Nat → Int32)) (ma14_2 : (Nat → Int32)) (mg23_2 : Int32) (ma10_2 : (Nat → Int32)) (mg22_2 : Int32) (mg19_2 : Int32) (mg20_2 : Int32) (mg21_2 : Int32), L_hP_X9_readAll_2 g4 a0  K n l1_2 mg9_2 mg10_2 mg6_2 mg7_2 mg5_2 mg8_2 mw0_2 ma19_2 ma20_2 ma21_2 mg25_2 ma15_2 ma16_2 ma17_2 ma18_2 mg24_2 mb0_2 ma22_2 ma23_2 mg26_2 ma11_2 ma12_2 ma13_2 ma14_2 mg23_2 ma10_2 mg22_2 mg19_2 mg20_2 mg21_2 = some res → xW xks YX9_readAll (d + 12) 0 0 n0 (xZ 0 0 n0 none (hP g0 g1 g2 g3 g4 res.2.2.2.2.1 res.2.2.1 res.2.2.2.1 res.2.2.2.2.2.1 res.1 res.2.1 g11 g12 g13 g14 g15 g16 g17 g18 res.2.2.2.2.2.2.2.2.2.2.2.2.2.2.2.2.2.2.2.2.2.2.2.2.2.2.2.1 res.2.2.2.2.2.2.2.2.2.2.2.2.2.2.2.2.2.2.2.2.2.2.2.2.2.2.2.2.1 res.2.2.2.2.2.2.2.2.2.2.2.2.2.2.2.2.2.2.2.2.2.2.2.2.2.2.2.2.2 res.2.2.2.2.2.2.2.2.2.2.2.2.2.2.2.2.2.2.2.2.2.2.2.2.2.2.1 res.2.2.2.2.2.2.2.2.2.2.2.2.2.2.2.2.2.2.2.2.2.2.2.2.1 res.2.2.2.2.2.2.2.2.2.2.2.2.2.2.2.1 res.2.2.2.2.2.2.2.2.2.2.1 res.2.2.2.2.2.2.2.2.2.2.2.2.2.2.2.2.2.2.2.1 a0 a1 a2 a3 a4 a5 a6 a7 a8 a9 res.2.2.2.2.2.2.2.2.2.2.2.2.2.2.2.2.2.2.2.2.2.2.2.2.2.1 res.2.2.2.2.2.2.2.2.2.2.2.2.2.2.2.2.2.2.2.2.1 res.2.2.2.2.2.2.2.2.2.2.2.2.2.2.2.2.2.2.2.2.2.1 res.2.2.2.2.2.2.2.2.2.2.2.2.2.2.2.2.2.2.2.2.2.2.1 res.2.2.2.2.2.2.2.2.2.2.2.2.2.2.2.2.2.2.2.2.2.2.2.1 res.2.2.2.2.2.2.2.2.2.2.2.1 res.2.2.2.2.2.2.2.2.2.2.2.2.1 res.2.2.2.2.2.2.2.2.2.2.2.2.2.1 res.2.2.2.2.2.2.2.2.2.2.2.2.2.2.1 res.2.2.2.2.2.2.2.1 res.2.2.2.2.2.2.2.2.1 res.2.2.2.2.2.2.2.2.2.1 res.2.2.2.2.2.2.2.2.2.2.2.2.2.2.2.2.2.1 res.2.2.2.2.2.2.2.2.2.2.2.2.2.2.2.2.2.2.1 res.2.2.2.2.2.2.2.2.2.2.2.2.2.2.2.2.1 res.2.2.2.2.2.2.1 k0 k1 k2 k3 k4 k5 k6 k7 k8 k9 k10 k11 k12 k13 k14 k15 cv (.ref 27))) 0 0 2 [some (.ref 0), some (.int l1_2)] [] (hP g0 g1 g2 g3 g4 mg5_2 mg6_2 mg7_2 mg8_2 mg9_2 mg10_2 g11 g12 g13 g14 g15 g16 g17 g18 mg19_2 mg20_2 mg21_2 mg22_2 mg23_2 mg24_2 mg25_2 mg26_2 a0 a1 a2 a3 a4 a5 a6 a7 a8 a9 ma10_2 ma11_2 ma12_2 ma13_2 ma14_2 ma15_2 ma16_2 ma17_2 ma18_2 ma19_2 ma20_2 ma21_2 ma22_2 ma23_2 mb0_2 mw0_2 k0 k1 k2 k3 k4 k5 k6 k7 k8 k9 k10 k11 k12 k13 k14 k15 cv (.ref 27)) := by
  intro n
  induction n with
  | zero =>
    intro l1_2 mg9_2 mg10_2 mg6_2 mg7_2 mg5_2 mg8_2 mw0_2 ma19_2 ma20_2 ma21_2 mg25_2 ma15_2 ma16_2 ma17_2 ma18_2 mg24_2 mb0_2 ma22_2 ma23_2 mg26_2 ma11_2 ma12_2 ma13_2 ma14_2 mg23_2 ma10_2 mg22_2 mg19_2 mg20_2 mg21_2 h
    cases (show (none : Option (Int32 × Int32 × Int32 × Int32 × Int32 × Int32 × Int64 × (Nat → Int32) × (Nat → Int32) × (Nat → Int32) × Int32 × (Nat → Int32) × (Nat → Int32) × (Nat → Int32) × (Nat → Int32) × Int32 × (Nat → Int64) × (Nat → Int32) × (Nat → Int32) × Int32 × (Nat → Int32) × (Nat → Int32) × (Nat → Int32) × (Nat → Int32) × Int32 × (Nat → Int32) × Int32 × Int32 × Int32 × Int32)) = some res from h)
  | succ n2 ih2 =>
    intro l1_2 mg9_2 mg10_2 mg6_2 mg7_2 mg5_2 mg8_2 mw0_2 ma19_2 ma20_2 ma21_2 mg25_2 ma15_2 ma16_2 ma17_2 ma18_2 mg24_2 mb0_2 ma22_2 ma23_2 mg26_2 ma11_2 ma12_2 ma13_2 ma14_2 mg23_2 ma10_2 mg22_2 mg19_2 mg20_2 mg21_2 h
    unfold L_hP_X9_readAll_2 at h
    refine x_iload_n dX9_readAll_2 rfl ?_
    refine x_if_eq 18 dX9_readAll_3 (by decide) (fun q => ?_) (fun q => ?_)
    · have h := xif_t q h
      refine x_weak (pl2 := [some (.ref 0), none]) ⟨rfl, trivial⟩ ?_
      exact hK l1_2 mg9_2 mg10_2 mg6_2 mg7_2 mg5_2 mg8_2 mw0_2 ma19_2 ma20_2 ma21_2 mg25_2 ma15_2 ma16_2 ma17_2 ma18_2 mg24_2 mb0_2 ma22_2 ma23_2 mg26_2 ma11_2 ma12_2 ma13_2 ma14_2 mg23_2 ma10_2 mg22_2 mg19_2 mg20_2 mg21_2 h
    · have h := xif_f q h
      refine x_aload_n dX9_readAll_6 rfl ?_
      obtain ⟨z7, y7, h⟩ := xbind h
      refine x_callV (t_hP_X9_readLine  z7 y7 (d + 0)) kX9_185 dX9_readAll_7 rfl rfl rfl rfl rfl (Nat.le_of_ble_eq_true rfl) (Nat.le_of_ble_eq_true rfl) rfl rfl (Or.inl rfl) ?_
      refine x_aload_n dX9_readAll_10 rfl ?_
      obtain ⟨z11, y11, h⟩ := xbind h
      refine x_callV (t_hP_X9_eatsSemicolon  z11 y11 (d + 8)) kX9_188 dX9_readAll_11 rfl rfl rfl rfl rfl (Nat.le_of_ble_eq_true rfl) (Nat.le_of_ble_eq_true rfl) rfl rfl (Or.inl rfl) ?_
      refine x_istore_n (pl' := [some (.ref 0), some (.int z11.1)]) dX9_readAll_14 (by decide) rfl ?_
      refine x_goto 2 dX9_readAll_15 (by decide) ?_
      refine x_weak (pl2 := [some (.ref 0), some (.int z11.1)]) ⟨rfl, rfl, trivial⟩ ?_
      exact ih2 z11.1 z7.1 z7.2.1 z11.2.2.1 z11.2.1 z11.2.2.2.1 z11.2.2.2.2.1 z11.2.2.2.2.2 z7.2.2.2.2.2.2.2.1 z7.2.2.2.2.2.2.2.2.1 z7.2.2.2.2.2.2.2.2.2.1 z7.2.2.2.2.2.2.2.2.2.2.1 z7.2.2.2.2.2.2.2.2.2.2.2.1 z7.2.2.2.2.2.2.2.2.2.2.2.2.1 z7.2.2.2.2.2.2.2.2.2.2.2.2.2.1 z7.2.2.2.2.2.2.2.2.2.2.2.2.2.2.1 z7.2.2.2.2.2.2.2.2.2.2.2.2.2.2.2.1 z7.2.2.2.2.2.2.2.2.2.2.2.2.2.2.2.2.1 z7.2.2.2.2.2.2.2.2.2.2.2.2.2.2.2.2.2.1 z7.2.2.2.2.2.2.2.2.2.2.2.2.2.2.2.2.2.2.1 z7.2.2.2.2.2.2.2.2.2.2.2.2.2.2.2.2.2.2.2.1 z7.2.2.2.2.2.2.2.2.2.2.2.2.2.2.2.2.2.2.2.2.1 z7.2.2.2.2.2.2.2.2.2.2.2.2.2.2.2.2.2.2.2.2.2.1 z7.2.2.2.2.2.2.2.2.2.2.2.2.2.2.2.2.2.2.2.2.2.2.1 z7.2.2.2.2.2.2.2.2.2.2.2.2.2.2.2.2.2.2.2.2.2.2.2.1 z7.2.2.2.2.2.2.2.2.2.2.2.2.2.2.2.2.2.2.2.2.2.2.2.2.1 z7.2.2.2.2.2.2.2.2.2.2.2.2.2.2.2.2.2.2.2.2.2.2.2.2.2.1 z7.2.2.2.2.2.2.2.2.2.2.2.2.2.2.2.2.2.2.2.2.2.2.2.2.2.2.1 z7.2.2.2.2.2.2.2.2.2.2.2.2.2.2.2.2.2.2.2.2.2.2.2.2.2.2.2.1 z7.2.2.2.2.2.2.2.2.2.2.2.2.2.2.2.2.2.2.2.2.2.2.2.2.2.2.2.2.1 z7.2.2.2.2.2.2.2.2.2.2.2.2.2.2.2.2.2.2.2.2.2.2.2.2.2.2.2.2.2 h
set_option maxRecDepth 100000 in
set_option maxHeartbeats 4000000 in
theorem t_hP_X9_readAll {g0 g1 g2 g3 g4 g5 g6 g7 g8 g9 g10 g11 g12 g13 g14 g15 g16 g17 g18 g19 g20 g21 g22 g23 g24 g25 g26 : Int32} {a0 a1 a2 a3 a4 a5 a6 a7 a8 a9 a10 a11 a12 a13 a14 a15 a16 a17 a18 a19 a20 a21 a22 a23 : (Nat → Int32)} {b0 : (Nat → Int64)} {w0 : Int64} {k0 k1 k2 k3 k4 k5 k6 k7 k8 k9 k10 k11 k12 k13 k14 k15 : xC} {cv : Value}  (res : Int32 × Int32 × Int32 × Int32 × Int32 × Int32 × Int64 × (Nat → Int32) × (Nat → Int32) × (Nat → Int32) × Int32 × (Nat → Int32) × (Nat → Int32) × (Nat → Int32) × (Nat → Int32) × Int32 × (Nat → Int64) × (Nat → Int32) × (Nat → Int32) × Int32 × (Nat → Int32) × (Nat → Int32) × (Nat → Int32) × (Nat → Int32) × Int32 × (Nat → Int32) × Int32 × Int32 × Int32 × Int32) (h : e_hP_X9_readAll g6 g22 g9 g7 g10 g23 w0 g25 g19 g5 g4 a0 g8 g26 b0 a23 a22 a19 a20 a21 g24 a18 a15 a16 a17 a11 a12 a13 a14 a10 g20 g21  = some res) (d : Nat) : xMet xks YX9_readAll (d + 12) 0 0 [.ref 0] (hP g0 g1 g2 g3 g4 g5 g6 g7 g8 g9 g10 g11 g12 g13 g14 g15 g16 g17 g18 g19 g20 g21 g22 g23 g24 g25 g26 a0 a1 a2 a3 a4 a5 a6 a7 a8 a9 a10 a11 a12 a13 a14 a15 a16 a17 a18 a19 a20 a21 a22 a23 b0 w0 k0 k1 k2 k3 k4 k5 k6 k7 k8 k9 k10 k11 k12 k13 k14 k15 cv (.ref 27)) none (hP g0 g1 g2 g3 g4 res.2.2.2.2.1 res.2.2.1 res.2.2.2.1 res.2.2.2.2.2.1 res.1 res.2.1 g11 g12 g13 g14 g15 g16 g17 g18 res.2.2.2.2.2.2.2.2.2.2.2.2.2.2.2.2.2.2.2.2.2.2.2.2.2.2.2.1 res.2.2.2.2.2.2.2.2.2.2.2.2.2.2.2.2.2.2.2.2.2.2.2.2.2.2.2.2.1 res.2.2.2.2.2.2.2.2.2.2.2.2.2.2.2.2.2.2.2.2.2.2.2.2.2.2.2.2.2 res.2.2.2.2.2.2.2.2.2.2.2.2.2.2.2.2.2.2.2.2.2.2.2.2.2.2.1 res.2.2.2.2.2.2.2.2.2.2.2.2.2.2.2.2.2.2.2.2.2.2.2.2.1 res.2.2.2.2.2.2.2.2.2.2.2.2.2.2.2.1 res.2.2.2.2.2.2.2.2.2.2.1 res.2.2.2.2.2.2.2.2.2.2.2.2.2.2.2.2.2.2.2.1 a0 a1 a2 a3 a4 a5 a6 a7 a8 a9 res.2.2.2.2.2.2.2.2.2.2.2.2.2.2.2.2.2.2.2.2.2.2.2.2.2.1 res.2.2.2.2.2.2.2.2.2.2.2.2.2.2.2.2.2.2.2.2.1 res.2.2.2.2.2.2.2.2.2.2.2.2.2.2.2.2.2.2.2.2.2.1 res.2.2.2.2.2.2.2.2.2.2.2.2.2.2.2.2.2.2.2.2.2.2.1 res.2.2.2.2.2.2.2.2.2.2.2.2.2.2.2.2.2.2.2.2.2.2.2.1 res.2.2.2.2.2.2.2.2.2.2.2.1 res.2.2.2.2.2.2.2.2.2.2.2.2.1 res.2.2.2.2.2.2.2.2.2.2.2.2.2.1 res.2.2.2.2.2.2.2.2.2.2.2.2.2.2.1 res.2.2.2.2.2.2.2.1 res.2.2.2.2.2.2.2.2.1 res.2.2.2.2.2.2.2.2.2.1 res.2.2.2.2.2.2.2.2.2.2.2.2.2.2.2.2.2.1 res.2.2.2.2.2.2.2.2.2.2.2.2.2.2.2.2.2.2.1 res.2.2.2.2.2.2.2.2.2.2.2.2.2.2.2.2.1 res.2.2.2.2.2.2.1 k0 k1 k2 k3 k4 k5 k6 k7 k8 k9 k10 k11 k12 k13 k14 k15 cv (.ref 27)) := by
  unfold e_hP_X9_readAll at h
  refine xMet_of (pl := [some (.ref 0), none]) (by decide) (Nat.le_of_ble_eq_true rfl) rfl (Nat.le_of_ble_eq_true rfl) ?_
  refine x_iconst (1 : Int32) dX9_readAll_0 (by decide) ?_
  refine x_istore_n (pl' := [some (.ref 0), some (.int (1 : Int32))]) dX9_readAll_1 (by decide) rfl ?_
  refine x_weak (pl2 := [some (.ref 0), some (.int (1 : Int32))]) ⟨rfl, rfl, trivial⟩ ?_
  refine lp_hP_X9_readAll_2 d _  res _ (fun l1_2 mg9_2 mg10_2 mg6_2 mg7_2 mg5_2 mg8_2 mw0_2 ma19_2 ma20_2 ma21_2 mg25_2 ma15_2 ma16_2 ma17_2 ma18_2 mg24_2 mb0_2 ma22_2 ma23_2 mg26_2 ma11_2 ma12_2 ma13_2 ma14_2 mg23_2 ma10_2 mg22_2 mg19_2 mg20_2 mg21_2 h => ?_) 200000 (1 : Int32) g9 g10 g6 g7 g5 g8 w0 a19 a20 a21 g25 a15 a16 a17 a18 g24 b0 a22 a23 g26 a11 a12 a13 a14 g23 a10 g22 g19 g20 g21 h
  refine x_aload_n dX9_readAll_18 rfl ?_
  refine x_get fX9_77 dX9_readAll_19 rfl rfl rfl ?_
  refine x_iconst (1 : Int32) dX9_readAll_22 (by decide) ?_
  refine x_icmp_eq 31 dX9_readAll_23 (by decide) (fun q => ?_) (fun q => ?_)
  · have h := xif_t q h
    refine x_aload_n dX9_readAll_31 rfl ?_
    refine x_get fX9_152 dX9_readAll_32 rfl rfl rfl ?_
    refine x_get fX9_191 dX9_readAll_35 rfl rfl rfl ?_
    refine x_if_eq 51 dX9_readAll_38 (by decide) (fun q => ?_) (fun q => ?_)
    · have h := xif_t q h
      refine x_aload_n dX9_readAll_51 rfl ?_
      refine x_bipush (6 : Int32) dX9_readAll_52 (by decide) ?_
      obtain ⟨z54, y54, h⟩ := xbind h
      refine x_callV (t_hP_X9_flaw (6 : Int32) z54 y54 (d + 10)) kX9_120 dX9_readAll_54 rfl rfl rfl rfl rfl (Nat.le_of_ble_eq_true rfl) (Nat.le_of_ble_eq_true rfl) rfl rfl (Or.inl rfl) ?_
      cases h
      exact x_vret2 dX9_readAll_57 rfl rfl
    · have h := xif_f q h
      refine x_aload_n dX9_readAll_41 rfl ?_
      refine x_get fX9_152 dX9_readAll_42 rfl rfl rfl ?_
      refine x_get fX9_194 dX9_readAll_45 rfl rfl rfl ?_
      refine x_if_ne 57 dX9_readAll_48 (by decide) (fun q => ?_) (fun q => ?_)
      · have h := xif_f q h
        cases h
        exact x_vret2 dX9_readAll_57 rfl rfl
      · have h := xif_t q h
        refine x_aload_n dX9_readAll_51 rfl ?_
        refine x_bipush (6 : Int32) dX9_readAll_52 (by decide) ?_
        obtain ⟨z54, y54, h⟩ := xbind h
        refine x_callV (t_hP_X9_flaw (6 : Int32) z54 y54 (d + 10)) kX9_120 dX9_readAll_54 rfl rfl rfl rfl rfl (Nat.le_of_ble_eq_true rfl) (Nat.le_of_ble_eq_true rfl) rfl rfl (Or.inl rfl) ?_
        cases h
        exact x_vret2 dX9_readAll_57 rfl rfl
  · have h := xif_f q h
    refine x_aload_n dX9_readAll_26 rfl ?_
    refine x_iconst (1 : Int32) dX9_readAll_27 (by decide) ?_
    obtain ⟨z28, y28, h⟩ := xbind h
    refine x_callV (t_hP_X9_flaw (1 : Int32) z28 y28 (d + 10)) kX9_120 dX9_readAll_28 rfl rfl rfl rfl rfl (Nat.le_of_ble_eq_true rfl) (Nat.le_of_ble_eq_true rfl) rfl rfl (Or.inl rfl) ?_
    refine x_aload_n dX9_readAll_31 rfl ?_
    refine x_get fX9_152 dX9_readAll_32 rfl rfl rfl ?_
    refine x_get fX9_191 dX9_readAll_35 rfl rfl rfl ?_
    refine x_if_eq 51 dX9_readAll_38 (by decide) (fun q => ?_) (fun q => ?_)
    · have h := xif_t q h
      refine x_aload_n dX9_readAll_51 rfl ?_
      refine x_bipush (6 : Int32) dX9_readAll_52 (by decide) ?_
      obtain ⟨z54, y54, h⟩ := xbind h
      refine x_callV (t_hP_X9_flaw (6 : Int32) z54 y54 (d + 10)) kX9_120 dX9_readAll_54 rfl rfl rfl rfl rfl (Nat.le_of_ble_eq_true rfl) (Nat.le_of_ble_eq_true rfl) rfl rfl (Or.inl rfl) ?_
      cases h
      exact x_vret2 dX9_readAll_57 rfl rfl
    · have h := xif_f q h
      refine x_aload_n dX9_readAll_41 rfl ?_
      refine x_get fX9_152 dX9_readAll_42 rfl rfl rfl ?_
      refine x_get fX9_194 dX9_readAll_45 rfl rfl rfl ?_
      refine x_if_ne 57 dX9_readAll_48 (by decide) (fun q => ?_) (fun q => ?_)
      · have h := xif_f q h
        cases h
        exact x_vret2 dX9_readAll_57 rfl rfl
      · have h := xif_t q h
        refine x_aload_n dX9_readAll_51 rfl ?_
        refine x_bipush (6 : Int32) dX9_readAll_52 (by decide) ?_
        obtain ⟨z54, y54, h⟩ := xbind h
        refine x_callV (t_hP_X9_flaw (6 : Int32) z54 y54 (d + 10)) kX9_120 dX9_readAll_54 rfl rfl rfl rfl rfl (Nat.le_of_ble_eq_true rfl) (Nat.le_of_ble_eq_true rfl) rfl rfl (Or.inl rfl) ?_
        cases h
        exact x_vret2 dX9_readAll_57 rfl rfl
noncomputable def e_hP_X9_isChild (p0 : (Nat → Int32)) (x1 : Int32) : Option (Int32) :=
  (xix x1 6 (if (p0 x1.toNatClampNeg) = (1 : Int32) then some (1 : Int32) else some (0 : Int32)))
set_option maxRecDepth 100000 in
set_option maxHeartbeats 4000000 in
theorem t_hP_X9_isChild {g0 g1 g2 g3 g4 g5 g6 g7 g8 g9 g10 g11 g12 g13 g14 g15 g16 g17 g18 g19 g20 g21 g22 g23 g24 g25 g26 : Int32} {a0 a1 a2 a3 a4 a5 a6 a7 a8 a9 a10 a11 a12 a13 a14 a15 a16 a17 a18 a19 a20 a21 a22 a23 : (Nat → Int32)} {b0 : (Nat → Int64)} {w0 : Int64} {k0 k1 k2 k3 k4 k5 k6 k7 k8 k9 k10 k11 k12 k13 k14 k15 : xC} (x1 : Int32) (res : Int32) (h : e_hP_X9_isChild a10 x1 = some res) (d : Nat) : xMet xks YX9_isChild (d + 1) 0 0 [.ref 0, .int x1] (hP g0 g1 g2 g3 g4 g5 g6 g7 g8 g9 g10 g11 g12 g13 g14 g15 g16 g17 g18 g19 g20 g21 g22 g23 g24 g25 g26 a0 a1 a2 a3 a4 a5 a6 a7 a8 a9 a10 a11 a12 a13 a14 a15 a16 a17 a18 a19 a20 a21 a22 a23 b0 w0 k0 k1 k2 k3 k4 k5 k6 k7 k8 k9 k10 k11 k12 k13 k14 k15 (.ref 27) (.ref 27)) (some (.int res)) (hP g0 g1 g2 g3 g4 g5 g6 g7 g8 g9 g10 g11 g12 g13 g14 g15 g16 g17 g18 g19 g20 g21 g22 g23 g24 g25 g26 a0 a1 a2 a3 a4 a5 a6 a7 a8 a9 a10 a11 a12 a13 a14 a15 a16 a17 a18 a19 a20 a21 a22 a23 b0 w0 k0 k1 k2 k3 k4 k5 k6 k7 k8 k9 k10 k11 k12 k13 k14 k15 (.ref 27) (.ref 27)) := by
  unfold e_hP_X9_isChild at h
  refine xMet_of (pl := [some (.ref 0), some (.int x1)]) (by decide) (Nat.le_of_ble_eq_true rfl) rfl (Nat.le_of_ble_eq_true rfl) ?_
  refine x_aload_n dX9_isChild_0 rfl ?_
  refine x_get fX9_316 dX9_isChild_1 rfl rfl rfl ?_
  refine x_get fX9_251 dX9_isChild_4 rfl rfl rfl ?_
  refine x_iload_n dX9_isChild_7 rfl ?_
  obtain ⟨q8, h⟩ := xix_of h
  refine x_iald dX9_isChild_8 rfl q8 ?_
  refine x_iconst (1 : Int32) dX9_isChild_9 (by decide) ?_
  refine x_icmp_ne 17 dX9_isChild_10 (by decide) (fun q => ?_) (fun q => ?_)
  · have h := xif_f q h
    refine x_iconst (0 : Int32) dX9_isChild_17 (by decide) ?_
    cases h
    exact x_zret2 dX9_isChild_18 rfl rfl rfl
  · have h := xif_t q h
    refine x_iconst (1 : Int32) dX9_isChild_13 (by decide) ?_
    refine x_goto 18 dX9_isChild_14 (by decide) ?_
    cases h
    exact x_zret2 dX9_isChild_18 rfl rfl rfl
noncomputable def L_hP_X9_starts_7 (p1 : Int32) (p2 : (Nat → Int32)) (p3 : (Nat → Int32)) (p4 : (Nat → Int32))   (K : Int32 → (Nat → Int32) → Option ((Nat → Int32))) : Nat → Int32 → (Nat → Int32) → Option ((Nat → Int32))
  | 0, _, _ => none
  | n7 + 1, l2_7, ma1_7 => if (5 : Int32) ≤ l2_7 then K l2_7 ma1_7 else if p1 ≤ l2_7 then (xix ((0 : Int32) + l2_7) 11 (if (-2 : Int32) = (-2 : Int32) then (xix ((5 : Int32) + l2_7) 11 (L_hP_X9_starts_7 p1 p2 p3 p4  K n7 (l2_7 + (1 : Int32)) (upd (upd ma1_7 ((0 : Int32) + l2_7).toNatClampNeg (-2 : Int32)) ((5 : Int32) + l2_7).toNatClampNeg (-2 : Int32)))) else (xix l2_7 5 (if (p2 l2_7.toNatClampNeg) = (2 : Int32) then (xix ((5 : Int32) + l2_7) 11 (L_hP_X9_starts_7 p1 p2 p3 p4  K n7 (l2_7 + (1 : Int32)) (upd (upd ma1_7 ((0 : Int32) + l2_7).toNatClampNeg (-2 : Int32)) ((5 : Int32) + l2_7).toNatClampNeg (-2 : Int32)))) else ((e_hP_X9_isChild p3 (-2 : Int32)).bind fun z69 => if z69 = (0 : Int32) then (xix ((5 : Int32) + l2_7) 11 (L_hP_X9_starts_7 p1 p2 p3 p4  K n7 (l2_7 + (1 : Int32)) (upd (upd ma1_7 ((0 : Int32) + l2_7).toNatClampNeg (-2 : Int32)) ((5 : Int32) + l2_7).toNatClampNeg (-2 : Int32)))) else (xix ((5 : Int32) + l2_7) 11 (L_hP_X9_starts_7 p1 p2 p3 p4  K n7 (l2_7 + (1 : Int32)) (upd (upd ma1_7 ((0 : Int32) + l2_7).toNatClampNeg (-2 : Int32)) ((5 : Int32) + l2_7).toNatClampNeg (-2 : Int32))))))))) else (xix l2_7 5 ((xix ((0 : Int32) + l2_7) 11 (if (p4 l2_7.toNatClampNeg) = (-2 : Int32) then (xix ((5 : Int32) + l2_7) 11 (L_hP_X9_starts_7 p1 p2 p3 p4  K n7 (l2_7 + (1 : Int32)) (upd (upd ma1_7 ((0 : Int32) + l2_7).toNatClampNeg (p4 l2_7.toNatClampNeg)) ((5 : Int32) + l2_7).toNatClampNeg (-2 : Int32)))) else (xix l2_7 5 (if (p2 l2_7.toNatClampNeg) = (2 : Int32) then (xix ((5 : Int32) + l2_7) 11 (L_hP_X9_starts_7 p1 p2 p3 p4  K n7 (l2_7 + (1 : Int32)) (upd (upd ma1_7 ((0 : Int32) + l2_7).toNatClampNeg (p4 l2_7.toNatClampNeg)) ((5 : Int32) + l2_7).toNatClampNeg (-2 : Int32)))) else ((e_hP_X9_isChild p3 (p4 l2_7.toNatClampNeg)).bind fun z69 => if z69 = (0 : Int32) then (xix ((5 : Int32) + l2_7) 11 (L_hP_X9_starts_7 p1 p2 p3 p4  K n7 (l2_7 + (1 : Int32)) (upd (upd ma1_7 ((0 : Int32) + l2_7).toNatClampNeg (p4 l2_7.toNatClampNeg)) ((5 : Int32) + l2_7).toNatClampNeg (p4 l2_7.toNatClampNeg)))) else (xix ((5 : Int32) + l2_7) 11 (L_hP_X9_starts_7 p1 p2 p3 p4  K n7 (l2_7 + (1 : Int32)) (upd (upd ma1_7 ((0 : Int32) + l2_7).toNatClampNeg (p4 l2_7.toNatClampNeg)) ((5 : Int32) + l2_7).toNatClampNeg (-2 : Int32)))))))))))
noncomputable def e_hP_X9_starts (p0 : (Nat → Int32)) (p1 : Int32) (p2 : (Nat → Int32)) (p3 : (Nat → Int32)) (p4 : (Nat → Int32))  : Option ((Nat → Int32)) :=
  L_hP_X9_starts_7 p1 p2 p3 p4  (fun l2_7 ma1_7 => some ma1_7) 200000 (0 : Int32) (upd p0 (10 : Int32).toNatClampNeg (0 : Int32))
set_option maxRecDepth 100000 in
set_option maxHeartbeats 4000000 in
theorem lp_hP_X9_starts_7 {g0 g1 g2 g3 g4 g5 g6 g7 g8 g9 g10 g11 g12 g13 g14 g15 g16 g17 g18 g19 g20 g21 g22 g23 g24 g25 g26 : Int32} {a0 a2 a3 a4 a5 a6 a7 a8 a9 a10 a11 a12 a13 a14 a15 a16 a17 a18 a19 a20 a21 a22 a23 : (Nat → Int32)} {b0 : (Nat → Int64)} {w0 : Int64} {k0 k1 k2 k3 k4 k5 k6 k7 k8 k9 k10 k11 k12 k13 k14 k15 : xC} (d n0 : Nat)  (res : (Nat → Int32)) (K : Int32 → (Nat → Int32) → Option ((Nat → Int32))) (hK : ∀ (l2_7 : Int32) (ma1_7 : (Nat → Int32)), K l2_7 ma1_7 = some res → xW xks YX9_starts (d + 2) 0 0 n0 (xZ 0 0 n0 none (hP g0 g1 g2 g3 g4 g5 g6 g7 g8 g9 g10 g11 g12 g13 g14 g15 g16 g17 g18 g19 g20 g21 g22 g23 g24 g25 g26 a0 res a2 a3 a4 a5 a6 a7 a8 a9 a10 a11 a12 a13 a14 a15 a16 a17 a18 a19 a20 a21 a22 a23 b0 w0 k0 k1 k2 k3 k4 k5 k6 k7 k8 k9 k10 k11 k12 k13 k14 k15 (.ref 27) (.ref 27))) 0 0 88 [none, none, none, none] [] (hP g0 g1 g2 g3 g4 g5 g6 g7 g8 g9 g10 g11 g12 g13 g14 g15 g16 g17 g18 g19 g20 g21 g22 g23 g24 g25 g26 a0 ma1_7 a2 a3 a4 a5 a6 a7 a8 a9 a10 a11 a12 a13 a14 a15 a16 a17 a18 a19 a20 a21 a22 a23 b0 w0 k0 k1 k2 k3 k4 k5 k6 k7 k8 k9 k10 k11 k12 k13 k14 k15 (.ref 27) (.ref 27))) : ∀ (n : Nat) (l2_7 : Int32) (ma1_7 : (Nat → Int32)), L_hP_X9_starts_7 g23 a11 a10 a14  K n l2_7 ma1_7 = some res → xW xks YX9_starts (d + 2) 0 0 n0 (xZ 0 0 n0 none (hP g0 g1 g2 g3 g4 g5 g6 g7 g8 g9 g10 g11 g12 g13 g14 g15 g16 g17 g18 g19 g20 g21 g22 g23 g24 g25 g26 a0 res a2 a3 a4 a5 a6 a7 a8 a9 a10 a11 a12 a13 a14 a15 a16 a17 a18 a19 a20 a21 a22 a23 b0 w0 k0 k1 k2 k3 k4 k5 k6 k7 k8 k9 k10 k11 k12 k13 k14 k15 (.ref 27) (.ref 27))) 0 0 7 [some (.ref 0), some (.ref 2), some (.int l2_7), none] [] (hP g0 g1 g2 g3 g4 g5 g6 g7 g8 g9 g10 g11 g12 g13 g14 g15 g16 g17 g18 g19 g20 g21 g22 g23 g24 g25 g26 a0 ma1_7 a2 a3 a4 a5 a6 a7 a8 a9 a10 a11 a12 a13 a14 a15 a16 a17 a18 a19 a20 a21 a22 a23 b0 w0 k0 k1 k2 k3 k4 k5 k6 k7 k8 k9 k10 k11 k12 k13 k14 k15 (.ref 27) (.ref 27)) := by
  intro n
  induction n with
  | zero =>
    intro l2_7 ma1_7 h
    cases (show (none : Option ((Nat → Int32))) = some res from h)
  | succ n7 ih7 =>
    intro l2_7 ma1_7 h
    unfold L_hP_X9_starts_7 at h
    refine x_iload_n dX9_starts_7 rfl ?_
    refine x_iconst (5 : Int32) dX9_starts_8 (by decide) ?_
    refine x_icmp_ge 88 dX9_starts_9 (by decide) (fun q => ?_) (fun q => ?_)
    · have h := xif_t q h
      refine x_weak (pl2 := [none, none, none, none]) trivial ?_
      exact hK l2_7 ma1_7 h
    · have h := xif_f q h
      refine x_iload_n dX9_starts_12 rfl ?_
      refine x_aload_n dX9_starts_13 rfl ?_
      refine x_get fX9_316 dX9_starts_14 rfl rfl rfl ?_
      refine x_get fX9_194 dX9_starts_17 rfl rfl rfl ?_
      refine x_icmp_ge 35 dX9_starts_20 (by decide) (fun q => ?_) (fun q => ?_)
      · have h := xif_t q h
        refine x_bipush (-2 : Int32) dX9_starts_35 (by decide) ?_
        refine x_istore_n (pl' := [some (.ref 0), some (.ref 2), some (.int l2_7), some (.int (-2 : Int32))]) dX9_starts_37 (by decide) rfl ?_
        refine x_aload_n dX9_starts_38 rfl ?_
        refine x_iconst (0 : Int32) dX9_starts_39 (by decide) ?_
        refine x_iload_n dX9_starts_40 rfl ?_
        refine x_iadd dX9_starts_41 ?_
        refine x_iload_n dX9_starts_42 rfl ?_
        obtain ⟨q43, h⟩ := xix_of h
        refine x_iast (h2 := (hP g0 g1 g2 g3 g4 g5 g6 g7 g8 g9 g10 g11 g12 g13 g14 g15 g16 g17 g18 g19 g20 g21 g22 g23 g24 g25 g26 a0 (upd ma1_7 ((0 : Int32) + l2_7).toNatClampNeg (-2 : Int32)) a2 a3 a4 a5 a6 a7 a8 a9 a10 a11 a12 a13 a14 a15 a16 a17 a18 a19 a20 a21 a22 a23 b0 w0 k0 k1 k2 k3 k4 k5 k6 k7 k8 k9 k10 k11 k12 k13 k14 k15 (.ref 27) (.ref 27))) dX9_starts_43 rfl q43 rfl ?_
        refine x_aload_n dX9_starts_44 rfl ?_
        refine x_iconst (5 : Int32) dX9_starts_45 (by decide) ?_
        refine x_iload_n dX9_starts_46 rfl ?_
        refine x_iadd dX9_starts_47 ?_
        refine x_iload_n dX9_starts_48 rfl ?_
        refine x_bipush (-2 : Int32) dX9_starts_49 (by decide) ?_
        refine x_icmp_eq 75 dX9_starts_51 (by decide) (fun q => ?_) (fun q => ?_)
        · have h := xif_t q h
          refine x_bipush (-2 : Int32) dX9_starts_75 (by decide) ?_
          refine x_goto 81 dX9_starts_77 (by decide) ?_
          obtain ⟨q81, h⟩ := xix_of h
          refine x_iast (h2 := (hP g0 g1 g2 g3 g4 g5 g6 g7 g8 g9 g10 g11 g12 g13 g14 g15 g16 g17 g18 g19 g20 g21 g22 g23 g24 g25 g26 a0 (upd (upd ma1_7 ((0 : Int32) + l2_7).toNatClampNeg (-2 : Int32)) ((5 : Int32) + l2_7).toNatClampNeg (-2 : Int32)) a2 a3 a4 a5 a6 a7 a8 a9 a10 a11 a12 a13 a14 a15 a16 a17 a18 a19 a20 a21 a22 a23 b0 w0 k0 k1 k2 k3 k4 k5 k6 k7 k8 k9 k10 k11 k12 k13 k14 k15 (.ref 27) (.ref 27))) dX9_starts_81 rfl q81 rfl ?_
          refine x_iincK (1 : Int32) (pl' := [some (.ref 0), some (.ref 2), some (.int (l2_7 + (1 : Int32))), some (.int (-2 : Int32))]) dX9_starts_82 rfl (by decide) (by decide) rfl ?_
          refine x_goto 7 dX9_starts_85 (by decide) ?_
          refine x_weak (pl2 := [some (.ref 0), some (.ref 2), some (.int (l2_7 + (1 : Int32))), none]) ⟨rfl, rfl, rfl, trivial⟩ ?_
          exact ih7 (l2_7 + (1 : Int32)) (upd (upd ma1_7 ((0 : Int32) + l2_7).toNatClampNeg (-2 : Int32)) ((5 : Int32) + l2_7).toNatClampNeg (-2 : Int32)) h
        · have h := xif_f q h
          refine x_aload_n dX9_starts_54 rfl ?_
          refine x_get fX9_316 dX9_starts_55 rfl rfl rfl ?_
          refine x_get fX9_270 dX9_starts_58 rfl rfl rfl ?_
          refine x_iload_n dX9_starts_61 rfl ?_
          obtain ⟨q62, h⟩ := xix_of h
          refine x_iald dX9_starts_62 rfl q62 ?_
          refine x_iconst (2 : Int32) dX9_starts_63 (by decide) ?_
          refine x_icmp_eq 75 dX9_starts_64 (by decide) (fun q => ?_) (fun q => ?_)
          · have h := xif_t q h
            refine x_bipush (-2 : Int32) dX9_starts_75 (by decide) ?_
            refine x_goto 81 dX9_starts_77 (by decide) ?_
            obtain ⟨q81, h⟩ := xix_of h
            refine x_iast (h2 := (hP g0 g1 g2 g3 g4 g5 g6 g7 g8 g9 g10 g11 g12 g13 g14 g15 g16 g17 g18 g19 g20 g21 g22 g23 g24 g25 g26 a0 (upd (upd ma1_7 ((0 : Int32) + l2_7).toNatClampNeg (-2 : Int32)) ((5 : Int32) + l2_7).toNatClampNeg (-2 : Int32)) a2 a3 a4 a5 a6 a7 a8 a9 a10 a11 a12 a13 a14 a15 a16 a17 a18 a19 a20 a21 a22 a23 b0 w0 k0 k1 k2 k3 k4 k5 k6 k7 k8 k9 k10 k11 k12 k13 k14 k15 (.ref 27) (.ref 27))) dX9_starts_81 rfl q81 rfl ?_
            refine x_iincK (1 : Int32) (pl' := [some (.ref 0), some (.ref 2), some (.int (l2_7 + (1 : Int32))), some (.int (-2 : Int32))]) dX9_starts_82 rfl (by decide) (by decide) rfl ?_
            refine x_goto 7 dX9_starts_85 (by decide) ?_
            refine x_weak (pl2 := [some (.ref 0), some (.ref 2), some (.int (l2_7 + (1 : Int32))), none]) ⟨rfl, rfl, rfl, trivial⟩ ?_
            exact ih7 (l2_7 + (1 : Int32)) (upd (upd ma1_7 ((0 : Int32) + l2_7).toNatClampNeg (-2 : Int32)) ((5 : Int32) + l2_7).toNatClampNeg (-2 : Int32)) h
          · have h := xif_f q h
            refine x_aload_n dX9_starts_67 rfl ?_
            refine x_iload_n dX9_starts_68 rfl ?_
            obtain ⟨z69, y69, h⟩ := xbind h
            refine x_callV (t_hP_X9_isChild (-2 : Int32) z69 y69 (d + 0)) kX9_328 dX9_starts_69 rfl rfl rfl rfl rfl (Nat.le_of_ble_eq_true rfl) (Nat.le_of_ble_eq_true rfl) rfl rfl (Or.inl rfl) ?_
            refine x_if_eq 80 dX9_starts_72 (by decide) (fun q => ?_) (fun q => ?_)
            · have h := xif_t q h
              refine x_iload_n dX9_starts_80 rfl ?_
              obtain ⟨q81, h⟩ := xix_of h
              refine x_iast (h2 := (hP g0 g1 g2 g3 g4 g5 g6 g7 g8 g9 g10 g11 g12 g13 g14 g15 g16 g17 g18 g19 g20 g21 g22 g23 g24 g25 g26 a0 (upd (upd ma1_7 ((0 : Int32) + l2_7).toNatClampNeg (-2 : Int32)) ((5 : Int32) + l2_7).toNatClampNeg (-2 : Int32)) a2 a3 a4 a5 a6 a7 a8 a9 a10 a11 a12 a13 a14 a15 a16 a17 a18 a19 a20 a21 a22 a23 b0 w0 k0 k1 k2 k3 k4 k5 k6 k7 k8 k9 k10 k11 k12 k13 k14 k15 (.ref 27) (.ref 27))) dX9_starts_81 rfl q81 rfl ?_
              refine x_iincK (1 : Int32) (pl' := [some (.ref 0), some (.ref 2), some (.int (l2_7 + (1 : Int32))), some (.int (-2 : Int32))]) dX9_starts_82 rfl (by decide) (by decide) rfl ?_
              refine x_goto 7 dX9_starts_85 (by decide) ?_
              refine x_weak (pl2 := [some (.ref 0), some (.ref 2), some (.int (l2_7 + (1 : Int32))), none]) ⟨rfl, rfl, rfl, trivial⟩ ?_
              exact ih7 (l2_7 + (1 : Int32)) (upd (upd ma1_7 ((0 : Int32) + l2_7).toNatClampNeg (-2 : Int32)) ((5 : Int32) + l2_7).toNatClampNeg (-2 : Int32)) h
            · have h := xif_f q h
              refine x_bipush (-2 : Int32) dX9_starts_75 (by decide) ?_
              refine x_goto 81 dX9_starts_77 (by decide) ?_
              obtain ⟨q81, h⟩ := xix_of h
              refine x_iast (h2 := (hP g0 g1 g2 g3 g4 g5 g6 g7 g8 g9 g10 g11 g12 g13 g14 g15 g16 g17 g18 g19 g20 g21 g22 g23 g24 g25 g26 a0 (upd (upd ma1_7 ((0 : Int32) + l2_7).toNatClampNeg (-2 : Int32)) ((5 : Int32) + l2_7).toNatClampNeg (-2 : Int32)) a2 a3 a4 a5 a6 a7 a8 a9 a10 a11 a12 a13 a14 a15 a16 a17 a18 a19 a20 a21 a22 a23 b0 w0 k0 k1 k2 k3 k4 k5 k6 k7 k8 k9 k10 k11 k12 k13 k14 k15 (.ref 27) (.ref 27))) dX9_starts_81 rfl q81 rfl ?_
              refine x_iincK (1 : Int32) (pl' := [some (.ref 0), some (.ref 2), some (.int (l2_7 + (1 : Int32))), some (.int (-2 : Int32))]) dX9_starts_82 rfl (by decide) (by decide) rfl ?_
              refine x_goto 7 dX9_starts_85 (by decide) ?_
              refine x_weak (pl2 := [some (.ref 0), some (.ref 2), some (.int (l2_7 + (1 : Int32))), none]) ⟨rfl, rfl, rfl, trivial⟩ ?_
              exact ih7 (l2_7 + (1 : Int32)) (upd (upd ma1_7 ((0 : Int32) + l2_7).toNatClampNeg (-2 : Int32)) ((5 : Int32) + l2_7).toNatClampNeg (-2 : Int32)) h
      · have h := xif_f q h
        refine x_aload_n dX9_starts_23 rfl ?_
        refine x_get fX9_316 dX9_starts_24 rfl rfl rfl ?_
        refine x_get fX9_277 dX9_starts_27 rfl rfl rfl ?_
        refine x_iload_n dX9_starts_30 rfl ?_
        obtain ⟨q31, h⟩ := xix_of h
        refine x_iald dX9_starts_31 rfl q31 ?_
        refine x_goto 37 dX9_starts_32 (by decide) ?_
        refine x_istore_n (pl' := [some (.ref 0), some (.ref 2), some (.int l2_7), some (.int (a14 l2_7.toNatClampNeg))]) dX9_starts_37 (by decide) rfl ?_
        refine x_aload_n dX9_starts_38 rfl ?_
        refine x_iconst (0 : Int32) dX9_starts_39 (by decide) ?_
        refine x_iload_n dX9_starts_40 rfl ?_
        refine x_iadd dX9_starts_41 ?_
        refine x_iload_n dX9_starts_42 rfl ?_
        obtain ⟨q43, h⟩ := xix_of h
        refine x_iast (h2 := (hP g0 g1 g2 g3 g4 g5 g6 g7 g8 g9 g10 g11 g12 g13 g14 g15 g16 g17 g18 g19 g20 g21 g22 g23 g24 g25 g26 a0 (upd ma1_7 ((0 : Int32) + l2_7).toNatClampNeg (a14 l2_7.toNatClampNeg)) a2 a3 a4 a5 a6 a7 a8 a9 a10 a11 a12 a13 a14 a15 a16 a17 a18 a19 a20 a21 a22 a23 b0 w0 k0 k1 k2 k3 k4 k5 k6 k7 k8 k9 k10 k11 k12 k13 k14 k15 (.ref 27) (.ref 27))) dX9_starts_43 rfl q43 rfl ?_
        refine x_aload_n dX9_starts_44 rfl ?_
        refine x_iconst (5 : Int32) dX9_starts_45 (by decide) ?_
        refine x_iload_n dX9_starts_46 rfl ?_
        refine x_iadd dX9_starts_47 ?_
        refine x_iload_n dX9_starts_48 rfl ?_
        refine x_bipush (-2 : Int32) dX9_starts_49 (by decide) ?_
        refine x_icmp_eq 75 dX9_starts_51 (by decide) (fun q => ?_) (fun q => ?_)
        · have h := xif_t q h
          refine x_bipush (-2 : Int32) dX9_starts_75 (by decide) ?_
          refine x_goto 81 dX9_starts_77 (by decide) ?_
          obtain ⟨q81, h⟩ := xix_of h
          refine x_iast (h2 := (hP g0 g1 g2 g3 g4 g5 g6 g7 g8 g9 g10 g11 g12 g13 g14 g15 g16 g17 g18 g19 g20 g21 g22 g23 g24 g25 g26 a0 (upd (upd ma1_7 ((0 : Int32) + l2_7).toNatClampNeg (a14 l2_7.toNatClampNeg)) ((5 : Int32) + l2_7).toNatClampNeg (-2 : Int32)) a2 a3 a4 a5 a6 a7 a8 a9 a10 a11 a12 a13 a14 a15 a16 a17 a18 a19 a20 a21 a22 a23 b0 w0 k0 k1 k2 k3 k4 k5 k6 k7 k8 k9 k10 k11 k12 k13 k14 k15 (.ref 27) (.ref 27))) dX9_starts_81 rfl q81 rfl ?_
          refine x_iincK (1 : Int32) (pl' := [some (.ref 0), some (.ref 2), some (.int (l2_7 + (1 : Int32))), some (.int (a14 l2_7.toNatClampNeg))]) dX9_starts_82 rfl (by decide) (by decide) rfl ?_
          refine x_goto 7 dX9_starts_85 (by decide) ?_
          refine x_weak (pl2 := [some (.ref 0), some (.ref 2), some (.int (l2_7 + (1 : Int32))), none]) ⟨rfl, rfl, rfl, trivial⟩ ?_
          exact ih7 (l2_7 + (1 : Int32)) (upd (upd ma1_7 ((0 : Int32) + l2_7).toNatClampNeg (a14 l2_7.toNatClampNeg)) ((5 : Int32) + l2_7).toNatClampNeg (-2 : Int32)) h
        · have h := xif_f q h
          refine x_aload_n dX9_starts_54 rfl ?_
          refine x_get fX9_316 dX9_starts_55 rfl rfl rfl ?_
          refine x_get fX9_270 dX9_starts_58 rfl rfl rfl ?_
          refine x_iload_n dX9_starts_61 rfl ?_
          obtain ⟨q62, h⟩ := xix_of h
          refine x_iald dX9_starts_62 rfl q62 ?_
          refine x_iconst (2 : Int32) dX9_starts_63 (by decide) ?_
          refine x_icmp_eq 75 dX9_starts_64 (by decide) (fun q => ?_) (fun q => ?_)
          · have h := xif_t q h
            refine x_bipush (-2 : Int32) dX9_starts_75 (by decide) ?_
            refine x_goto 81 dX9_starts_77 (by decide) ?_
            obtain ⟨q81, h⟩ := xix_of h
            refine x_iast (h2 := (hP g0 g1 g2 g3 g4 g5 g6 g7 g8 g9 g10 g11 g12 g13 g14 g15 g16 g17 g18 g19 g20 g21 g22 g23 g24 g25 g26 a0 (upd (upd ma1_7 ((0 : Int32) + l2_7).toNatClampNeg (a14 l2_7.toNatClampNeg)) ((5 : Int32) + l2_7).toNatClampNeg (-2 : Int32)) a2 a3 a4 a5 a6 a7 a8 a9 a10 a11 a12 a13 a14 a15 a16 a17 a18 a19 a20 a21 a22 a23 b0 w0 k0 k1 k2 k3 k4 k5 k6 k7 k8 k9 k10 k11 k12 k13 k14 k15 (.ref 27) (.ref 27))) dX9_starts_81 rfl q81 rfl ?_
            refine x_iincK (1 : Int32) (pl' := [some (.ref 0), some (.ref 2), some (.int (l2_7 + (1 : Int32))), some (.int (a14 l2_7.toNatClampNeg))]) dX9_starts_82 rfl (by decide) (by decide) rfl ?_
            refine x_goto 7 dX9_starts_85 (by decide) ?_
            refine x_weak (pl2 := [some (.ref 0), some (.ref 2), some (.int (l2_7 + (1 : Int32))), none]) ⟨rfl, rfl, rfl, trivial⟩ ?_
            exact ih7 (l2_7 + (1 : Int32)) (upd (upd ma1_7 ((0 : Int32) + l2_7).toNatClampNeg (a14 l2_7.toNatClampNeg)) ((5 : Int32) + l2_7).toNatClampNeg (-2 : Int32)) h
          · have h := xif_f q h
            refine x_aload_n dX9_starts_67 rfl ?_
            refine x_iload_n dX9_starts_68 rfl ?_
            obtain ⟨z69, y69, h⟩ := xbind h
            refine x_callV (t_hP_X9_isChild (a14 l2_7.toNatClampNeg) z69 y69 (d + 0)) kX9_328 dX9_starts_69 rfl rfl rfl rfl rfl (Nat.le_of_ble_eq_true rfl) (Nat.le_of_ble_eq_true rfl) rfl rfl (Or.inl rfl) ?_
            refine x_if_eq 80 dX9_starts_72 (by decide) (fun q => ?_) (fun q => ?_)
            · have h := xif_t q h
              refine x_iload_n dX9_starts_80 rfl ?_
              obtain ⟨q81, h⟩ := xix_of h
              refine x_iast (h2 := (hP g0 g1 g2 g3 g4 g5 g6 g7 g8 g9 g10 g11 g12 g13 g14 g15 g16 g17 g18 g19 g20 g21 g22 g23 g24 g25 g26 a0 (upd (upd ma1_7 ((0 : Int32) + l2_7).toNatClampNeg (a14 l2_7.toNatClampNeg)) ((5 : Int32) + l2_7).toNatClampNeg (a14 l2_7.toNatClampNeg)) a2 a3 a4 a5 a6 a7 a8 a9 a10 a11 a12 a13 a14 a15 a16 a17 a18 a19 a20 a21 a22 a23 b0 w0 k0 k1 k2 k3 k4 k5 k6 k7 k8 k9 k10 k11 k12 k13 k14 k15 (.ref 27) (.ref 27))) dX9_starts_81 rfl q81 rfl ?_
              refine x_iincK (1 : Int32) (pl' := [some (.ref 0), some (.ref 2), some (.int (l2_7 + (1 : Int32))), some (.int (a14 l2_7.toNatClampNeg))]) dX9_starts_82 rfl (by decide) (by decide) rfl ?_
              refine x_goto 7 dX9_starts_85 (by decide) ?_
              refine x_weak (pl2 := [some (.ref 0), some (.ref 2), some (.int (l2_7 + (1 : Int32))), none]) ⟨rfl, rfl, rfl, trivial⟩ ?_
              exact ih7 (l2_7 + (1 : Int32)) (upd (upd ma1_7 ((0 : Int32) + l2_7).toNatClampNeg (a14 l2_7.toNatClampNeg)) ((5 : Int32) + l2_7).toNatClampNeg (a14 l2_7.toNatClampNeg)) h
            · have h := xif_f q h
              refine x_bipush (-2 : Int32) dX9_starts_75 (by decide) ?_
              refine x_goto 81 dX9_starts_77 (by decide) ?_
              obtain ⟨q81, h⟩ := xix_of h
              refine x_iast (h2 := (hP g0 g1 g2 g3 g4 g5 g6 g7 g8 g9 g10 g11 g12 g13 g14 g15 g16 g17 g18 g19 g20 g21 g22 g23 g24 g25 g26 a0 (upd (upd ma1_7 ((0 : Int32) + l2_7).toNatClampNeg (a14 l2_7.toNatClampNeg)) ((5 : Int32) + l2_7).toNatClampNeg (-2 : Int32)) a2 a3 a4 a5 a6 a7 a8 a9 a10 a11 a12 a13 a14 a15 a16 a17 a18 a19 a20 a21 a22 a23 b0 w0 k0 k1 k2 k3 k4 k5 k6 k7 k8 k9 k10 k11 k12 k13 k14 k15 (.ref 27) (.ref 27))) dX9_starts_81 rfl q81 rfl ?_
              refine x_iincK (1 : Int32) (pl' := [some (.ref 0), some (.ref 2), some (.int (l2_7 + (1 : Int32))), some (.int (a14 l2_7.toNatClampNeg))]) dX9_starts_82 rfl (by decide) (by decide) rfl ?_
              refine x_goto 7 dX9_starts_85 (by decide) ?_
              refine x_weak (pl2 := [some (.ref 0), some (.ref 2), some (.int (l2_7 + (1 : Int32))), none]) ⟨rfl, rfl, rfl, trivial⟩ ?_
              exact ih7 (l2_7 + (1 : Int32)) (upd (upd ma1_7 ((0 : Int32) + l2_7).toNatClampNeg (a14 l2_7.toNatClampNeg)) ((5 : Int32) + l2_7).toNatClampNeg (-2 : Int32)) h
set_option maxRecDepth 100000 in
set_option maxHeartbeats 4000000 in
theorem t_hP_X9_starts {g0 g1 g2 g3 g4 g5 g6 g7 g8 g9 g10 g11 g12 g13 g14 g15 g16 g17 g18 g19 g20 g21 g22 g23 g24 g25 g26 : Int32} {a0 a1 a2 a3 a4 a5 a6 a7 a8 a9 a10 a11 a12 a13 a14 a15 a16 a17 a18 a19 a20 a21 a22 a23 : (Nat → Int32)} {b0 : (Nat → Int64)} {w0 : Int64} {k0 k1 k2 k3 k4 k5 k6 k7 k8 k9 k10 k11 k12 k13 k14 k15 : xC}  (res : (Nat → Int32)) (h : e_hP_X9_starts a1 g23 a11 a10 a14  = some res) (d : Nat) : xMet xks YX9_starts (d + 2) 0 0 [.ref 0, .ref 2] (hP g0 g1 g2 g3 g4 g5 g6 g7 g8 g9 g10 g11 g12 g13 g14 g15 g16 g17 g18 g19 g20 g21 g22 g23 g24 g25 g26 a0 a1 a2 a3 a4 a5 a6 a7 a8 a9 a10 a11 a12 a13 a14 a15 a16 a17 a18 a19 a20 a21 a22 a23 b0 w0 k0 k1 k2 k3 k4 k5 k6 k7 k8 k9 k10 k11 k12 k13 k14 k15 (.ref 27) (.ref 27)) none (hP g0 g1 g2 g3 g4 g5 g6 g7 g8 g9 g10 g11 g12 g13 g14 g15 g16 g17 g18 g19 g20 g21 g22 g23 g24 g25 g26 a0 res a2 a3 a4 a5 a6 a7 a8 a9 a10 a11 a12 a13 a14 a15 a16 a17 a18 a19 a20 a21 a22 a23 b0 w0 k0 k1 k2 k3 k4 k5 k6 k7 k8 k9 k10 k11 k12 k13 k14 k15 (.ref 27) (.ref 27)) := by
  unfold e_hP_X9_starts at h
  refine xMet_of (pl := [some (.ref 0), some (.ref 2), none, none]) (by decide) (Nat.le_of_ble_eq_true rfl) rfl (Nat.le_of_ble_eq_true rfl) ?_
  refine x_aload_n dX9_starts_0 rfl ?_
  refine x_bipush (10 : Int32) dX9_starts_1 (by decide) ?_
  refine x_iconst (0 : Int32) dX9_starts_3 (by decide) ?_
  refine x_iast (h2 := (hP g0 g1 g2 g3 g4 g5 g6 g7 g8 g9 g10 g11 g12 g13 g14 g15 g16 g17 g18 g19 g20 g21 g22 g23 g24 g25 g26 a0 (upd a1 (10 : Int32).toNatClampNeg (0 : Int32)) a2 a3 a4 a5 a6 a7 a8 a9 a10 a11 a12 a13 a14 a15 a16 a17 a18 a19 a20 a21 a22 a23 b0 w0 k0 k1 k2 k3 k4 k5 k6 k7 k8 k9 k10 k11 k12 k13 k14 k15 (.ref 27) (.ref 27))) dX9_starts_4 rfl (show vp_in _ _ from (by decide : ¬ ((10 : Int32) < 0 ∨ 11 ≤ (10 : Int32).toNatClampNeg))) rfl ?_
  refine x_iconst (0 : Int32) dX9_starts_5 (by decide) ?_
  refine x_istore_n (pl' := [some (.ref 0), some (.ref 2), some (.int (0 : Int32)), none]) dX9_starts_6 (by decide) rfl ?_
  refine x_weak (pl2 := [some (.ref 0), some (.ref 2), some (.int (0 : Int32)), none]) ⟨rfl, rfl, rfl, trivial⟩ ?_
  refine lp_hP_X9_starts_7 d _  res _ (fun l2_7 ma1_7 h => ?_) 200000 (0 : Int32) (upd a1 (10 : Int32).toNatClampNeg (0 : Int32)) h
  cases h
  exact x_vret2 dX9_starts_88 rfl rfl
