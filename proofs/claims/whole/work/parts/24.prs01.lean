noncomputable def e_hP_X9_needs (p0 : Int32) (p1 : Int64) (p2 : Int32) (p3 : Int32) (p4 : (Nat → Int32)) (p5 : Int32) (p6 : Int32) (p7 : Int32) (p8 : Int32) (s0 : (List Int32))  : Option (Int32 × Int32 × Int32 × Int32 × Int64 × Int32 × Int32) :=
  ((e_hP_X9_isWord p0 p1 s0).bind fun z2 => if z2 = (0 : Int32) then ((e_hP_X9_flaw p0 p7 p5 p8 (1 : Int32)).bind fun z10 => (e_hP_X9_goesOn z10.2.2 p2 p3 p4 p5 p6 p1).bind fun z14 => some (z14.1, z14.2.1, z14.2.2.1, z14.2.2.2.1, z14.2.2.2.2, z10.1, z10.2.1)) else ((e_hP_X9_goesOn p0 p2 p3 p4 p5 p6 p1).bind fun z14 => some (z14.1, z14.2.1, z14.2.2.1, z14.2.2.2.1, z14.2.2.2.2, p7, p8)))
set_option maxRecDepth 100000 in
set_option maxHeartbeats 4000000 in
theorem t_hP_X9_needs {g0 g1 g2 g3 g4 g5 g6 g7 g8 g9 g10 g11 g12 g13 g14 g15 g16 g17 g18 g19 g20 g21 g22 g23 g24 g25 g26 : Int32} {a0 a1 a2 a3 a4 a5 a6 a7 a8 a9 a10 a11 a12 a13 a14 a15 a16 a17 a18 a19 a20 a21 a22 a23 : (Nat → Int32)} {b0 : (Nat → Int64)} {w0 : Int64} {k0 k1 k2 k3 k4 k5 k6 k7 k8 k9 k10 k11 k12 k13 k14 k15 : xC} {cv : Value}  (res : Int32 × Int32 × Int32 × Int32 × Int64 × Int32 × Int32) (h : e_hP_X9_needs g6 w0 g5 g4 a0 g7 g8 g9 g10 (xsy 32)  = some res) (d : Nat) : xMet xks YX9_needs (d + 7) 0 0 [.ref 0, .ref 1032] (hP g0 g1 g2 g3 g4 g5 g6 g7 g8 g9 g10 g11 g12 g13 g14 g15 g16 g17 g18 g19 g20 g21 g22 g23 g24 g25 g26 a0 a1 a2 a3 a4 a5 a6 a7 a8 a9 a10 a11 a12 a13 a14 a15 a16 a17 a18 a19 a20 a21 a22 a23 b0 w0 k0 k1 k2 k3 k4 k5 k6 k7 k8 k9 k10 k11 k12 k13 k14 k15 cv (.ref 27)) none (hP g0 g1 g2 g3 g4 res.2.2.1 res.2.1 res.1 res.2.2.2.1 res.2.2.2.2.2.1 res.2.2.2.2.2.2 g11 g12 g13 g14 g15 g16 g17 g18 g19 g20 g21 g22 g23 g24 g25 g26 a0 a1 a2 a3 a4 a5 a6 a7 a8 a9 a10 a11 a12 a13 a14 a15 a16 a17 a18 a19 a20 a21 a22 a23 b0 res.2.2.2.2.1 k0 k1 k2 k3 k4 k5 k6 k7 k8 k9 k10 k11 k12 k13 k14 k15 cv (.ref 27)) := by
  unfold e_hP_X9_needs at h
  refine xMet_of (pl := [some (.ref 0), some (.ref 1032)]) (by decide) (Nat.le_of_ble_eq_true rfl) rfl (Nat.le_of_ble_eq_true rfl) ?_
  refine x_aload_n dX9_needs_0 rfl ?_
  refine x_aload_n dX9_needs_1 rfl ?_
  obtain ⟨z2, y2, h⟩ := xbind h
  refine x_callV (t_hP_X9_isWord_9  z2 y2 (d + 0)) kX9_116 dX9_needs_2 rfl rfl rfl rfl rfl (Nat.le_of_ble_eq_true rfl) (Nat.le_of_ble_eq_true rfl) rfl rfl (Or.inl rfl) ?_
  refine x_if_ne 13 dX9_needs_5 (by decide) (fun q => ?_) (fun q => ?_)
  · have h := xif_f q h
    refine x_aload_n dX9_needs_13 rfl ?_
    obtain ⟨z14, y14, h⟩ := xbind h
    refine x_callV (t_hP_X9_goesOn  z14 y14 (d + 4)) kX9_113 dX9_needs_14 rfl rfl rfl rfl rfl (Nat.le_of_ble_eq_true rfl) (Nat.le_of_ble_eq_true rfl) rfl rfl (Or.inl rfl) ?_
    cases h
    exact x_vret2 dX9_needs_17 rfl rfl
  · have h := xif_t q h
    refine x_aload_n dX9_needs_8 rfl ?_
    refine x_iconst (1 : Int32) dX9_needs_9 (by decide) ?_
    obtain ⟨z10, y10, h⟩ := xbind h
    refine x_callV (t_hP_X9_flaw (1 : Int32) z10 y10 (d + 5)) kX9_120 dX9_needs_10 rfl rfl rfl rfl rfl (Nat.le_of_ble_eq_true rfl) (Nat.le_of_ble_eq_true rfl) rfl rfl (Or.inl rfl) ?_
    refine x_aload_n dX9_needs_13 rfl ?_
    obtain ⟨z14, y14, h⟩ := xbind h
    refine x_callV (t_hP_X9_goesOn  z14 y14 (d + 4)) kX9_113 dX9_needs_14 rfl rfl rfl rfl rfl (Nat.le_of_ble_eq_true rfl) (Nat.le_of_ble_eq_true rfl) rfl rfl (Or.inl rfl) ?_
    cases h
    exact x_vret2 dX9_needs_17 rfl rfl
noncomputable def e_hP_X9_in  (x0 : Int32) (x1 : Int32) (x2 : Int32) : Option (Int32) :=
  if x0 < x1 then some (0 : Int32) else if x2 < x0 then some (0 : Int32) else some (1 : Int32)
set_option maxRecDepth 100000 in
set_option maxHeartbeats 4000000 in
theorem t_hP_X9_in {g0 g1 g2 g3 g4 g5 g6 g7 g8 g9 g10 g11 g12 g13 g14 g15 g16 g17 g18 g19 g20 g21 g22 g23 g24 g25 g26 : Int32} {a0 a1 a2 a3 a4 a5 a6 a7 a8 a9 a10 a11 a12 a13 a14 a15 a16 a17 a18 a19 a20 a21 a22 a23 : (Nat → Int32)} {b0 : (Nat → Int64)} {w0 : Int64} {k0 k1 k2 k3 k4 k5 k6 k7 k8 k9 k10 k11 k12 k13 k14 k15 : xC} {cv : Value} (x0 : Int32) (x1 : Int32) (x2 : Int32) (res : Int32) (h : e_hP_X9_in  x0 x1 x2 = some res) (d : Nat) : xMet xks YX9_in (d + 1) 0 0 [.int x0, .int x1, .int x2] (hP g0 g1 g2 g3 g4 g5 g6 g7 g8 g9 g10 g11 g12 g13 g14 g15 g16 g17 g18 g19 g20 g21 g22 g23 g24 g25 g26 a0 a1 a2 a3 a4 a5 a6 a7 a8 a9 a10 a11 a12 a13 a14 a15 a16 a17 a18 a19 a20 a21 a22 a23 b0 w0 k0 k1 k2 k3 k4 k5 k6 k7 k8 k9 k10 k11 k12 k13 k14 k15 cv (.ref 27)) (some (.int res)) (hP g0 g1 g2 g3 g4 g5 g6 g7 g8 g9 g10 g11 g12 g13 g14 g15 g16 g17 g18 g19 g20 g21 g22 g23 g24 g25 g26 a0 a1 a2 a3 a4 a5 a6 a7 a8 a9 a10 a11 a12 a13 a14 a15 a16 a17 a18 a19 a20 a21 a22 a23 b0 w0 k0 k1 k2 k3 k4 k5 k6 k7 k8 k9 k10 k11 k12 k13 k14 k15 cv (.ref 27)) := by
  unfold e_hP_X9_in at h
  refine xMet_of (pl := [some (.int x0), some (.int x1), some (.int x2)]) (by decide) (Nat.le_of_ble_eq_true rfl) rfl (Nat.le_of_ble_eq_true rfl) ?_
  refine x_iload_n dX9_in_0 rfl ?_
  refine x_iload_n dX9_in_1 rfl ?_
  refine x_icmp_lt 14 dX9_in_2 (by decide) (fun q => ?_) (fun q => ?_)
  · have h := xif_t q h
    refine x_iconst (0 : Int32) dX9_in_14 (by decide) ?_
    cases h
    exact x_zret2 dX9_in_15 rfl rfl rfl
  · have h := xif_f q h
    refine x_iload_n dX9_in_5 rfl ?_
    refine x_iload_n dX9_in_6 rfl ?_
    refine x_icmp_gt 14 dX9_in_7 (by decide) (fun q => ?_) (fun q => ?_)
    · have h := xif_t q h
      refine x_iconst (0 : Int32) dX9_in_14 (by decide) ?_
      cases h
      exact x_zret2 dX9_in_15 rfl rfl rfl
    · have h := xif_f q h
      refine x_iconst (1 : Int32) dX9_in_10 (by decide) ?_
      refine x_goto 15 dX9_in_11 (by decide) ?_
      cases h
      exact x_zret2 dX9_in_15 rfl rfl rfl
noncomputable def J_hP_X9_readWhole_33 (p0 : Int32) (p1 : Int32) (p2 : Int32) (p3 : Int32) (p4 : (Nat → Int32)) (p5 : Int32) (p6 : Int64) (p7 : Int32) (p8 : Int32) (f1 : Int32) : Option (Int32 × Int32 × Int32 × Int32 × Int32 × Int64 × Int32 × Int32) :=
  if p0 = (5 : Int32) then ((e_hP_X9_goesOn p0 p2 p3 p4 p5 p1 p6).bind fun z51 => some (f1, z51.1, z51.2.1, z51.2.2.1, z51.2.2.2.1, z51.2.2.2.2, p7, p8)) else ((e_hP_X9_goesOn p0 p2 p3 p4 p5 p1 p6).bind fun z51 => some (p1, z51.1, z51.2.1, z51.2.2.1, z51.2.2.2.1, z51.2.2.2.2, p7, p8))
noncomputable def e_hP_X9_readWhole (p0 : Int32) (p1 : Int32) (p2 : Int32) (p3 : Int32) (p4 : (Nat → Int32)) (p5 : Int32) (p6 : Int64) (p7 : Int32) (p8 : Int32) (x1 : Int32) (x2 : Int32) : Option (Int32 × Int32 × Int32 × Int32 × Int32 × Int64 × Int32 × Int32) :=
  if p0 = (3 : Int32) then ((e_hP_X9_in p1 x1 x2).bind fun z22 => if z22 = (0 : Int32) then ((e_hP_X9_flaw p0 p7 p5 p8 (4 : Int32)).bind fun z30 => J_hP_X9_readWhole_33 z30.2.2 p1 p2 p3 p4 p5 p6 z30.1 z30.2.1 x1) else J_hP_X9_readWhole_33 p0 p1 p2 p3 p4 p5 p6 p7 p8 x1) else ((e_hP_X9_flaw p0 p7 p5 p8 (1 : Int32)).bind fun z10 => J_hP_X9_readWhole_33 z10.2.2 p1 p2 p3 p4 p5 p6 z10.1 z10.2.1 x1)
set_option maxRecDepth 100000 in
set_option maxHeartbeats 4000000 in
theorem jn_hP_X9_readWhole_33 {g0 g1 g2 g3 g4 g5 g6 g7 g8 g9 g10 g11 g12 g13 g14 g15 g16 g17 g18 g19 g20 g21 g22 g23 g24 g25 g26 : Int32} {a0 a1 a2 a3 a4 a5 a6 a7 a8 a9 a10 a11 a12 a13 a14 a15 a16 a17 a18 a19 a20 a21 a22 a23 : (Nat → Int32)} {b0 : (Nat → Int64)} {w0 : Int64} {k0 k1 k2 k3 k4 k5 k6 k7 k8 k9 k10 k11 k12 k13 k14 k15 : xC} {cv : Value} (d n0 : Nat) (f1 : Int32) (res : Int32 × Int32 × Int32 × Int32 × Int32 × Int64 × Int32 × Int32) (h : J_hP_X9_readWhole_33 g6 g8 g5 g4 a0 g7 w0 g9 g10 f1 = some res) : xW xks YX9_readWhole (d + 3) 0 0 n0 (xZ 0 0 n0 (some (.int res.1)) (hP g0 g1 g2 g3 g4 res.2.2.2.1 res.2.2.1 res.2.1 res.2.2.2.2.1 res.2.2.2.2.2.2.1 res.2.2.2.2.2.2.2 g11 g12 g13 g14 g15 g16 g17 g18 g19 g20 g21 g22 g23 g24 g25 g26 a0 a1 a2 a3 a4 a5 a6 a7 a8 a9 a10 a11 a12 a13 a14 a15 a16 a17 a18 a19 a20 a21 a22 a23 b0 res.2.2.2.2.2.1 k0 k1 k2 k3 k4 k5 k6 k7 k8 k9 k10 k11 k12 k13 k14 k15 cv (.ref 27))) 0 0 33 [some (.ref 0), some (.int f1), none, none] [] (hP g0 g1 g2 g3 g4 g5 g6 g7 g8 g9 g10 g11 g12 g13 g14 g15 g16 g17 g18 g19 g20 g21 g22 g23 g24 g25 g26 a0 a1 a2 a3 a4 a5 a6 a7 a8 a9 a10 a11 a12 a13 a14 a15 a16 a17 a18 a19 a20 a21 a22 a23 b0 w0 k0 k1 k2 k3 k4 k5 k6 k7 k8 k9 k10 k11 k12 k13 k14 k15 cv (.ref 27)) := by
  unfold J_hP_X9_readWhole_33 at h
  refine x_aload_n dX9_readWhole_33 rfl ?_
  refine x_get fX9_77 dX9_readWhole_34 rfl rfl rfl ?_
  refine x_iconst (5 : Int32) dX9_readWhole_37 (by decide) ?_
  refine x_icmp_ne 45 dX9_readWhole_38 (by decide) (fun q => ?_) (fun q => ?_)
  · have h := xif_f q h
    refine x_aload_n dX9_readWhole_45 rfl ?_
    refine x_get fX9_100 dX9_readWhole_46 rfl rfl rfl ?_
    refine x_istore_n (pl' := [some (.ref 0), some (.int f1), none, some (.int g8)]) dX9_readWhole_49 (by decide) rfl ?_
    refine x_aload_n dX9_readWhole_50 rfl ?_
    obtain ⟨z51, y51, h⟩ := xbind h
    refine x_callV (t_hP_X9_goesOn  z51 y51 (d + 0)) kX9_113 dX9_readWhole_51 rfl rfl rfl rfl rfl (Nat.le_of_ble_eq_true rfl) (Nat.le_of_ble_eq_true rfl) rfl rfl (Or.inl rfl) ?_
    refine x_iload_n dX9_readWhole_54 rfl ?_
    cases h
    exact x_iret2 dX9_readWhole_55 rfl rfl
  · have h := xif_t q h
    refine x_iload_n dX9_readWhole_41 rfl ?_
    refine x_goto 49 dX9_readWhole_42 (by decide) ?_
    refine x_istore_n (pl' := [some (.ref 0), some (.int f1), none, some (.int f1)]) dX9_readWhole_49 (by decide) rfl ?_
    refine x_aload_n dX9_readWhole_50 rfl ?_
    obtain ⟨z51, y51, h⟩ := xbind h
    refine x_callV (t_hP_X9_goesOn  z51 y51 (d + 0)) kX9_113 dX9_readWhole_51 rfl rfl rfl rfl rfl (Nat.le_of_ble_eq_true rfl) (Nat.le_of_ble_eq_true rfl) rfl rfl (Or.inl rfl) ?_
    refine x_iload_n dX9_readWhole_54 rfl ?_
    cases h
    exact x_iret2 dX9_readWhole_55 rfl rfl
set_option maxRecDepth 100000 in
set_option maxHeartbeats 4000000 in
theorem t_hP_X9_readWhole {g0 g1 g2 g3 g4 g5 g6 g7 g8 g9 g10 g11 g12 g13 g14 g15 g16 g17 g18 g19 g20 g21 g22 g23 g24 g25 g26 : Int32} {a0 a1 a2 a3 a4 a5 a6 a7 a8 a9 a10 a11 a12 a13 a14 a15 a16 a17 a18 a19 a20 a21 a22 a23 : (Nat → Int32)} {b0 : (Nat → Int64)} {w0 : Int64} {k0 k1 k2 k3 k4 k5 k6 k7 k8 k9 k10 k11 k12 k13 k14 k15 : xC} {cv : Value} (x1 : Int32) (x2 : Int32) (res : Int32 × Int32 × Int32 × Int32 × Int32 × Int64 × Int32 × Int32) (h : e_hP_X9_readWhole g6 g8 g5 g4 a0 g7 w0 g9 g10 x1 x2 = some res) (d : Nat) : xMet xks YX9_readWhole (d + 3) 0 0 [.ref 0, .int x1, .int x2] (hP g0 g1 g2 g3 g4 g5 g6 g7 g8 g9 g10 g11 g12 g13 g14 g15 g16 g17 g18 g19 g20 g21 g22 g23 g24 g25 g26 a0 a1 a2 a3 a4 a5 a6 a7 a8 a9 a10 a11 a12 a13 a14 a15 a16 a17 a18 a19 a20 a21 a22 a23 b0 w0 k0 k1 k2 k3 k4 k5 k6 k7 k8 k9 k10 k11 k12 k13 k14 k15 cv (.ref 27)) (some (.int res.1)) (hP g0 g1 g2 g3 g4 res.2.2.2.1 res.2.2.1 res.2.1 res.2.2.2.2.1 res.2.2.2.2.2.2.1 res.2.2.2.2.2.2.2 g11 g12 g13 g14 g15 g16 g17 g18 g19 g20 g21 g22 g23 g24 g25 g26 a0 a1 a2 a3 a4 a5 a6 a7 a8 a9 a10 a11 a12 a13 a14 a15 a16 a17 a18 a19 a20 a21 a22 a23 b0 res.2.2.2.2.2.1 k0 k1 k2 k3 k4 k5 k6 k7 k8 k9 k10 k11 k12 k13 k14 k15 cv (.ref 27)) := by
  unfold e_hP_X9_readWhole at h
  refine xMet_of (pl := [some (.ref 0), some (.int x1), some (.int x2), none]) (by decide) (Nat.le_of_ble_eq_true rfl) rfl (Nat.le_of_ble_eq_true rfl) ?_
  refine x_aload_n dX9_readWhole_0 rfl ?_
  refine x_get fX9_77 dX9_readWhole_1 rfl rfl rfl ?_
  refine x_iconst (3 : Int32) dX9_readWhole_4 (by decide) ?_
  refine x_icmp_eq 16 dX9_readWhole_5 (by decide) (fun q => ?_) (fun q => ?_)
  · have h := xif_t q h
    refine x_aload_n dX9_readWhole_16 rfl ?_
    refine x_get fX9_100 dX9_readWhole_17 rfl rfl rfl ?_
    refine x_iload_n dX9_readWhole_20 rfl ?_
    refine x_iload_n dX9_readWhole_21 rfl ?_
    obtain ⟨z22, y22, h⟩ := xbind h
    refine x_callS (t_hP_X9_in g8 x1 x2 z22 y22 (d + 1)) kX9_124 dX9_readWhole_22 rfl rfl (Nat.le_of_ble_eq_true rfl) (Nat.le_of_ble_eq_true rfl) rfl rfl (Or.inl rfl) ?_
    refine x_if_ne 33 dX9_readWhole_25 (by decide) (fun q => ?_) (fun q => ?_)
    · have h := xif_f q h
      refine x_weak (pl2 := [some (.ref 0), some (.int x1), none, none]) ⟨rfl, rfl, trivial⟩ ?_
      exact jn_hP_X9_readWhole_33 d _ x1 res h
    · have h := xif_t q h
      refine x_aload_n dX9_readWhole_28 rfl ?_
      refine x_iconst (4 : Int32) dX9_readWhole_29 (by decide) ?_
      obtain ⟨z30, y30, h⟩ := xbind h
      refine x_callV (t_hP_X9_flaw (4 : Int32) z30 y30 (d + 1)) kX9_120 dX9_readWhole_30 rfl rfl rfl rfl rfl (Nat.le_of_ble_eq_true rfl) (Nat.le_of_ble_eq_true rfl) rfl rfl (Or.inl rfl) ?_
      refine x_weak (pl2 := [some (.ref 0), some (.int x1), none, none]) ⟨rfl, rfl, trivial⟩ ?_
      exact jn_hP_X9_readWhole_33 d _ x1 res h
  · have h := xif_f q h
    refine x_aload_n dX9_readWhole_8 rfl ?_
    refine x_iconst (1 : Int32) dX9_readWhole_9 (by decide) ?_
    obtain ⟨z10, y10, h⟩ := xbind h
    refine x_callV (t_hP_X9_flaw (1 : Int32) z10 y10 (d + 1)) kX9_120 dX9_readWhole_10 rfl rfl rfl rfl rfl (Nat.le_of_ble_eq_true rfl) (Nat.le_of_ble_eq_true rfl) rfl rfl (Or.inl rfl) ?_
    refine x_goto 33 dX9_readWhole_13 (by decide) ?_
    refine x_weak (pl2 := [some (.ref 0), some (.int x1), none, none]) ⟨rfl, rfl, trivial⟩ ?_
    exact jn_hP_X9_readWhole_33 d _ x1 res h
noncomputable def e_hP_X9_readPart (p0 : Int32) (p1 : Int64) (p2 : Int32) (p3 : Int32) (p4 : (Nat → Int32)) (p5 : Int32) (p6 : Int32) (p7 : Int32) (p8 : Int32) (s0 : (List Int32)) (x2 : Int32) (x3 : Int32) : Option (Int32 × Int32 × Int32 × Int32 × Int32 × Int64 × Int32 × Int32) :=
  ((e_hP_X9_needs p0 p1 p2 p3 p4 p5 p6 p7 p8 s0).bind fun z2 => (e_hP_X9_readWhole z2.2.1 z2.2.2.2.1 z2.2.2.1 p3 p4 z2.1 z2.2.2.2.2.1 z2.2.2.2.2.2.1 z2.2.2.2.2.2.2 x2 x3).bind fun z8 => some (z8.1, z8.2.1, z8.2.2.1, z8.2.2.2.1, z8.2.2.2.2.1, z8.2.2.2.2.2.1, z8.2.2.2.2.2.2.1, z8.2.2.2.2.2.2.2))
set_option maxRecDepth 100000 in
set_option maxHeartbeats 4000000 in
theorem t_hP_X9_readPart {g0 g1 g2 g3 g4 g5 g6 g7 g8 g9 g10 g11 g12 g13 g14 g15 g16 g17 g18 g19 g20 g21 g22 g23 g24 g25 g26 : Int32} {a0 a1 a2 a3 a4 a5 a6 a7 a8 a9 a10 a11 a12 a13 a14 a15 a16 a17 a18 a19 a20 a21 a22 a23 : (Nat → Int32)} {b0 : (Nat → Int64)} {w0 : Int64} {k0 k1 k2 k3 k4 k5 k6 k7 k8 k9 k10 k11 k12 k13 k14 k15 : xC} {cv : Value} (x2 : Int32) (x3 : Int32) (res : Int32 × Int32 × Int32 × Int32 × Int32 × Int64 × Int32 × Int32) (h : e_hP_X9_readPart g6 w0 g5 g4 a0 g7 g8 g9 g10 (xsy 32) x2 x3 = some res) (d : Nat) : xMet xks YX9_readPart (d + 8) 0 0 [.ref 0, .ref 1032, .int x2, .int x3] (hP g0 g1 g2 g3 g4 g5 g6 g7 g8 g9 g10 g11 g12 g13 g14 g15 g16 g17 g18 g19 g20 g21 g22 g23 g24 g25 g26 a0 a1 a2 a3 a4 a5 a6 a7 a8 a9 a10 a11 a12 a13 a14 a15 a16 a17 a18 a19 a20 a21 a22 a23 b0 w0 k0 k1 k2 k3 k4 k5 k6 k7 k8 k9 k10 k11 k12 k13 k14 k15 cv (.ref 27)) (some (.int res.1)) (hP g0 g1 g2 g3 g4 res.2.2.2.1 res.2.2.1 res.2.1 res.2.2.2.2.1 res.2.2.2.2.2.2.1 res.2.2.2.2.2.2.2 g11 g12 g13 g14 g15 g16 g17 g18 g19 g20 g21 g22 g23 g24 g25 g26 a0 a1 a2 a3 a4 a5 a6 a7 a8 a9 a10 a11 a12 a13 a14 a15 a16 a17 a18 a19 a20 a21 a22 a23 b0 res.2.2.2.2.2.1 k0 k1 k2 k3 k4 k5 k6 k7 k8 k9 k10 k11 k12 k13 k14 k15 cv (.ref 27)) := by
  unfold e_hP_X9_readPart at h
  refine xMet_of (pl := [some (.ref 0), some (.ref 1032), some (.int x2), some (.int x3)]) (by decide) (Nat.le_of_ble_eq_true rfl) rfl (Nat.le_of_ble_eq_true rfl) ?_
  refine x_aload_n dX9_readPart_0 rfl ?_
  refine x_aload_n dX9_readPart_1 rfl ?_
  obtain ⟨z2, y2, h⟩ := xbind h
  refine x_callV (t_hP_X9_needs  z2 y2 (d + 0)) kX9_128 dX9_readPart_2 rfl rfl rfl rfl rfl (Nat.le_of_ble_eq_true rfl) (Nat.le_of_ble_eq_true rfl) rfl rfl (Or.inl rfl) ?_
  refine x_aload_n dX9_readPart_5 rfl ?_
  refine x_iload_n dX9_readPart_6 rfl ?_
  refine x_iload_n dX9_readPart_7 rfl ?_
  obtain ⟨z8, y8, h⟩ := xbind h
  refine x_callV (t_hP_X9_readWhole x2 x3 z8 y8 (d + 4)) kX9_132 dX9_readPart_8 rfl rfl rfl rfl rfl (Nat.le_of_ble_eq_true rfl) (Nat.le_of_ble_eq_true rfl) rfl rfl (Or.inl rfl) ?_
  cases h
  exact x_iret2 dX9_readPart_11 rfl rfl
noncomputable def e_hP_X9_readClaims (p0 : Int32) (p1 : Int32) (p2 : Int32) (p3 : Int32) (p4 : Int32) (p5 : (Nat → Int32)) (p6 : Int32) (p7 : Int32) (p8 : Int64) (p9 : Int32) (p10 : Int32) (p11 : Int32) (p12 : (Nat → Int64)) (p13 : (Nat → Int32)) (p14 : (Nat → Int32)) (p15 : (Nat → Int32)) (p16 : (Nat → Int32)) (p17 : (Nat → Int32))  : Option (Int32 × Int32 × Int32 × Int32 × Int64 × Int32 × Int32 × (Nat → Int32) × (Nat → Int32) × (Nat → Int32) × Int32) :=
  ((e_hP_X9_lineBegins p1 p2 p3 p4 p5 p6 p7 p8 p9 p10 p0 (6 : Int32)).bind fun z10 => (e_hP_X9_readKnown z10.2.1 z10.2.2.2.2.1 p11 p12 z10.2.2.2.2.2.1 z10.1 z10.2.2.2.2.2.2 p13 p14 z10.2.2.1 p4 p5 z10.2.2.2.1 (0 : Int32)).bind fun z15 => (e_hP_X9_readKnown z15.2.2.2.1 z15.2.2.2.2.2.2.2 p11 p12 z15.2.1 z15.2.2.2.2.1 z15.2.2.1 p13 p14 z15.2.2.2.2.2.1 p4 p5 z15.2.2.2.2.2.2.1 (1 : Int32)).bind fun z21 => (e_hP_X9_readPart z21.2.2.2.1 z21.2.2.2.2.2.2.2 z21.2.2.2.2.2.1 p4 p5 z21.2.2.2.2.1 z21.2.2.2.2.2.2.1 z21.2.1 z21.2.2.1 (xsy 32) (0 : Int32) (40 : Int32)).bind fun z32 => if z32.2.2.1 = (5 : Int32) then some (z32.2.1, z32.2.2.1, z32.2.2.2.1, z32.2.2.2.2.1, z32.2.2.2.2.2.1, z32.2.2.2.2.2.2.1, z32.2.2.2.2.2.2.2, p15, p16, p17, p0) else (xix p0 6 (xix p0 6 (xix p0 6 (some (z32.2.1, z32.2.2.1, z32.2.2.2.1, z32.2.2.2.2.1, z32.2.2.2.2.2.1, z32.2.2.2.2.2.2.1, z32.2.2.2.2.2.2.2, (upd p15 p0.toNatClampNeg z15.1), (upd p16 p0.toNatClampNeg z21.1), (upd p17 p0.toNatClampNeg z32.1), (p0 + (1 : Int32))))))))
set_option maxRecDepth 100000 in
set_option maxHeartbeats 4000000 in
theorem t_hP_X9_readClaims {g0 g1 g2 g3 g4 g5 g6 g7 g8 g9 g10 g11 g12 g13 g14 g15 g16 g17 g18 g19 g20 g21 g22 g23 g24 g25 g26 : Int32} {a0 a1 a2 a3 a4 a5 a6 a7 a8 a9 a10 a11 a12 a13 a14 a15 a16 a17 a18 a19 a20 a21 a22 a23 : (Nat → Int32)} {b0 : (Nat → Int64)} {w0 : Int64} {k0 k1 k2 k3 k4 k5 k6 k7 k8 k9 k10 k11 k12 k13 k14 k15 : xC} {cv : Value}  (res : Int32 × Int32 × Int32 × Int32 × Int64 × Int32 × Int32 × (Nat → Int32) × (Nat → Int32) × (Nat → Int32) × Int32) (h : e_hP_X9_readClaims g25 g19 g6 g5 g4 a0 g7 g8 w0 g9 g10 g26 b0 a23 a22 a19 a20 a21  = some res) (d : Nat) : xMet xks YX9_readClaims (d + 10) 0 0 [.ref 0] (hP g0 g1 g2 g3 g4 g5 g6 g7 g8 g9 g10 g11 g12 g13 g14 g15 g16 g17 g18 g19 g20 g21 g22 g23 g24 g25 g26 a0 a1 a2 a3 a4 a5 a6 a7 a8 a9 a10 a11 a12 a13 a14 a15 a16 a17 a18 a19 a20 a21 a22 a23 b0 w0 k0 k1 k2 k3 k4 k5 k6 k7 k8 k9 k10 k11 k12 k13 k14 k15 cv (.ref 27)) none (hP g0 g1 g2 g3 g4 res.2.2.1 res.2.1 res.1 res.2.2.2.1 res.2.2.2.2.2.1 res.2.2.2.2.2.2.1 g11 g12 g13 g14 g15 g16 g17 g18 g19 g20 g21 g22 g23 g24 res.2.2.2.2.2.2.2.2.2.2 g26 a0 a1 a2 a3 a4 a5 a6 a7 a8 a9 a10 a11 a12 a13 a14 a15 a16 a17 a18 res.2.2.2.2.2.2.2.1 res.2.2.2.2.2.2.2.2.1 res.2.2.2.2.2.2.2.2.2.1 a22 a23 b0 res.2.2.2.2.1 k0 k1 k2 k3 k4 k5 k6 k7 k8 k9 k10 k11 k12 k13 k14 k15 cv (.ref 27)) := by
  unfold e_hP_X9_readClaims at h
  refine xMet_of (pl := [some (.ref 0), none, none, none]) (by decide) (Nat.le_of_ble_eq_true rfl) rfl (Nat.le_of_ble_eq_true rfl) ?_
  refine x_aload_n dX9_readClaims_0 rfl ?_
  refine x_aload_n dX9_readClaims_1 rfl ?_
  refine x_get fX9_152 dX9_readClaims_2 rfl rfl rfl ?_
  refine x_get fX9_298 dX9_readClaims_5 rfl rfl rfl ?_
  refine x_bipush (6 : Int32) dX9_readClaims_8 (by decide) ?_
  obtain ⟨z10, y10, h⟩ := xbind h
  refine x_callV (t_hP_X9_lineBegins g25 (6 : Int32) z10 y10 (d + 6)) kX9_234 dX9_readClaims_10 rfl rfl rfl rfl rfl (Nat.le_of_ble_eq_true rfl) (Nat.le_of_ble_eq_true rfl) rfl rfl (Or.inl rfl) ?_
  refine x_aload_n dX9_readClaims_13 rfl ?_
  refine x_iconst (0 : Int32) dX9_readClaims_14 (by decide) ?_
  obtain ⟨z15, y15, h⟩ := xbind h
  refine x_callV (t_hP_X9_readKnown (0 : Int32) z15 y15 (d + 0)) kX9_267 dX9_readClaims_15 rfl rfl rfl rfl rfl (Nat.le_of_ble_eq_true rfl) (Nat.le_of_ble_eq_true rfl) rfl rfl (Or.inl rfl) ?_
  refine x_istore_n (pl' := [some (.ref 0), some (.int z15.1), none, none]) dX9_readClaims_18 (by decide) rfl ?_
  refine x_aload_n dX9_readClaims_19 rfl ?_
  refine x_iconst (1 : Int32) dX9_readClaims_20 (by decide) ?_
  obtain ⟨z21, y21, h⟩ := xbind h
  refine x_callV (t_hP_X9_readKnown (1 : Int32) z21 y21 (d + 0)) kX9_267 dX9_readClaims_21 rfl rfl rfl rfl rfl (Nat.le_of_ble_eq_true rfl) (Nat.le_of_ble_eq_true rfl) rfl rfl (Or.inl rfl) ?_
  refine x_istore_n (pl' := [some (.ref 0), some (.int z15.1), some (.int z21.1), none]) dX9_readClaims_24 (by decide) rfl ?_
  refine x_aload_n dX9_readClaims_25 rfl ?_
  refine x_ldcSW (k := 32) rfl rfl rfl dX9_readClaims_26 ?_
  refine x_iconst (0 : Int32) dX9_readClaims_29 (by decide) ?_
  refine x_bipush (40 : Int32) dX9_readClaims_30 (by decide) ?_
  obtain ⟨z32, y32, h⟩ := xbind h
  refine x_callV (t_hP_X9_readPart (0 : Int32) (40 : Int32) z32 y32 (d + 1)) kX9_222 dX9_readClaims_32 rfl rfl rfl rfl rfl (Nat.le_of_ble_eq_true rfl) (Nat.le_of_ble_eq_true rfl) rfl rfl (Or.inl rfl) ?_
  refine x_istore_n (pl' := [some (.ref 0), some (.int z15.1), some (.int z21.1), some (.int z32.1)]) dX9_readClaims_35 (by decide) rfl ?_
  refine x_aload_n dX9_readClaims_36 rfl ?_
  refine x_get fX9_77 dX9_readClaims_37 rfl rfl rfl ?_
  refine x_iconst (5 : Int32) dX9_readClaims_40 (by decide) ?_
  refine x_icmp_ne 45 dX9_readClaims_41 (by decide) (fun q => ?_) (fun q => ?_)
  · have h := xif_f q h
    refine x_aload_n dX9_readClaims_45 rfl ?_
    refine x_get fX9_152 dX9_readClaims_46 rfl rfl rfl ?_
    refine x_get fX9_300 dX9_readClaims_49 rfl rfl rfl ?_
    refine x_aload_n dX9_readClaims_52 rfl ?_
    refine x_get fX9_152 dX9_readClaims_53 rfl rfl rfl ?_
    refine x_get fX9_298 dX9_readClaims_56 rfl rfl rfl ?_
    refine x_iload_n dX9_readClaims_59 rfl ?_
    obtain ⟨q60, h⟩ := xix_of h
    refine x_iast (h2 := (hP g0 g1 g2 g3 g4 z32.2.2.2.1 z32.2.2.1 z32.2.1 z32.2.2.2.2.1 z32.2.2.2.2.2.2.1 z32.2.2.2.2.2.2.2 g11 g12 g13 g14 g15 g16 g17 g18 g19 g20 g21 g22 g23 g24 g25 g26 a0 a1 a2 a3 a4 a5 a6 a7 a8 a9 a10 a11 a12 a13 a14 a15 a16 a17 a18 (upd a19 g25.toNatClampNeg z15.1) a20 a21 a22 a23 b0 z32.2.2.2.2.2.1 k0 k1 k2 k3 k4 k5 k6 k7 k8 k9 k10 k11 k12 k13 k14 k15 cv (.ref 27))) dX9_readClaims_60 rfl q60 rfl ?_
    refine x_aload_n dX9_readClaims_61 rfl ?_
    refine x_get fX9_152 dX9_readClaims_62 rfl rfl rfl ?_
    refine x_get fX9_303 dX9_readClaims_65 rfl rfl rfl ?_
    refine x_aload_n dX9_readClaims_68 rfl ?_
    refine x_get fX9_152 dX9_readClaims_69 rfl rfl rfl ?_
    refine x_get fX9_298 dX9_readClaims_72 rfl rfl rfl ?_
    refine x_iload_n dX9_readClaims_75 rfl ?_
    obtain ⟨q76, h⟩ := xix_of h
    refine x_iast (h2 := (hP g0 g1 g2 g3 g4 z32.2.2.2.1 z32.2.2.1 z32.2.1 z32.2.2.2.2.1 z32.2.2.2.2.2.2.1 z32.2.2.2.2.2.2.2 g11 g12 g13 g14 g15 g16 g17 g18 g19 g20 g21 g22 g23 g24 g25 g26 a0 a1 a2 a3 a4 a5 a6 a7 a8 a9 a10 a11 a12 a13 a14 a15 a16 a17 a18 (upd a19 g25.toNatClampNeg z15.1) (upd a20 g25.toNatClampNeg z21.1) a21 a22 a23 b0 z32.2.2.2.2.2.1 k0 k1 k2 k3 k4 k5 k6 k7 k8 k9 k10 k11 k12 k13 k14 k15 cv (.ref 27))) dX9_readClaims_76 rfl q76 rfl ?_
    refine x_aload_n dX9_readClaims_77 rfl ?_
    refine x_get fX9_152 dX9_readClaims_78 rfl rfl rfl ?_
    refine x_get fX9_306 dX9_readClaims_81 rfl rfl rfl ?_
    refine x_aload_n dX9_readClaims_84 rfl ?_
    refine x_get fX9_152 dX9_readClaims_85 rfl rfl rfl ?_
    refine x_get fX9_298 dX9_readClaims_88 rfl rfl rfl ?_
    refine x_iload_n dX9_readClaims_91 rfl ?_
    obtain ⟨q92, h⟩ := xix_of h
    refine x_iast (h2 := (hP g0 g1 g2 g3 g4 z32.2.2.2.1 z32.2.2.1 z32.2.1 z32.2.2.2.2.1 z32.2.2.2.2.2.2.1 z32.2.2.2.2.2.2.2 g11 g12 g13 g14 g15 g16 g17 g18 g19 g20 g21 g22 g23 g24 g25 g26 a0 a1 a2 a3 a4 a5 a6 a7 a8 a9 a10 a11 a12 a13 a14 a15 a16 a17 a18 (upd a19 g25.toNatClampNeg z15.1) (upd a20 g25.toNatClampNeg z21.1) (upd a21 g25.toNatClampNeg z32.1) a22 a23 b0 z32.2.2.2.2.2.1 k0 k1 k2 k3 k4 k5 k6 k7 k8 k9 k10 k11 k12 k13 k14 k15 cv (.ref 27))) dX9_readClaims_92 rfl q92 rfl ?_
    refine x_aload_n dX9_readClaims_93 rfl ?_
    refine x_get fX9_152 dX9_readClaims_94 rfl rfl rfl ?_
    refine x_dup dX9_readClaims_97 rfl ?_
    refine x_get fX9_298 dX9_readClaims_98 rfl rfl rfl ?_
    refine x_iconst (1 : Int32) dX9_readClaims_101 (by decide) ?_
    refine x_iadd dX9_readClaims_102 ?_
    refine x_put (h2 := (hP g0 g1 g2 g3 g4 z32.2.2.2.1 z32.2.2.1 z32.2.1 z32.2.2.2.2.1 z32.2.2.2.2.2.2.1 z32.2.2.2.2.2.2.2 g11 g12 g13 g14 g15 g16 g17 g18 g19 g20 g21 g22 g23 g24 (g25 + (1 : Int32)) g26 a0 a1 a2 a3 a4 a5 a6 a7 a8 a9 a10 a11 a12 a13 a14 a15 a16 a17 a18 (upd a19 g25.toNatClampNeg z15.1) (upd a20 g25.toNatClampNeg z21.1) (upd a21 g25.toNatClampNeg z32.1) a22 a23 b0 z32.2.2.2.2.2.1 k0 k1 k2 k3 k4 k5 k6 k7 k8 k9 k10 k11 k12 k13 k14 k15 cv (.ref 27))) fX9_298 dX9_readClaims_103 rfl rfl (Nat.le_of_ble_eq_true rfl : 6 + 1 ≤ _) (fun α => ⟨rfl, rfl⟩) rfl ?_
    cases h
    exact x_vret2 dX9_readClaims_106 rfl rfl
  · have h := xif_t q h
    cases h
    exact x_vret2 dX9_readClaims_44 rfl rfl
noncomputable def e_hP_X9_logs (p0 : Int32) (p1 : (Nat → Int32)) (p2 : Int32) (p3 : Int64) (p4 : Int32) (p5 : Int32) (p6 : (Nat → Int32)) (p7 : Int32) (p8 : Int32) (p9 : Int32) (p10 : Int32) (p11 : (Nat → Int32)) (p12 : (Nat → Int32)) (p13 : (Nat → Int32)) (x1 : Int32) (x2 : Int32) (x3 : Int32) : Option (Int32 × Int32 × Int32 × Int32 × Int64 × Int32 × Int32 × (Nat → Int32) × (Nat → Int32) × (Nat → Int32) × (Nat → Int32) × Int32) :=
  if p0 = (0 : Int32) then ((e_hP_X9_readPart p2 p3 p4 p5 p6 p7 p8 p9 p10 (xsy 32) (0 : Int32) (40 : Int32)).bind fun z41 => if z41.2.2.1 = (5 : Int32) then some (z41.2.1, z41.2.2.1, z41.2.2.2.1, z41.2.2.2.2.1, z41.2.2.2.2.2.1, z41.2.2.2.2.2.2.1, z41.2.2.2.2.2.2.2, p11, p12, p13, p1, p0) else (xix p0 16 (xix p0 16 (xix p0 16 (xix p0 16 (some (z41.2.1, z41.2.2.1, z41.2.2.2.1, z41.2.2.2.2.1, z41.2.2.2.2.2.1, z41.2.2.2.2.2.2.1, z41.2.2.2.2.2.2.2, (upd p11 p0.toNatClampNeg x1), (upd p12 p0.toNatClampNeg x2), (upd p13 p0.toNatClampNeg x3), (upd p1 p0.toNatClampNeg z41.1), (p0 + (1 : Int32))))))))) else (xix (p0 - (1 : Int32)) 16 ((e_hP_X9_readPart p2 p3 p4 p5 p6 p7 p8 p9 p10 (xsy 32) (p1 (p0 - (1 : Int32)).toNatClampNeg) (40 : Int32)).bind fun z41 => if z41.2.2.1 = (5 : Int32) then some (z41.2.1, z41.2.2.1, z41.2.2.2.1, z41.2.2.2.2.1, z41.2.2.2.2.2.1, z41.2.2.2.2.2.2.1, z41.2.2.2.2.2.2.2, p11, p12, p13, p1, p0) else (xix p0 16 (xix p0 16 (xix p0 16 (xix p0 16 (some (z41.2.1, z41.2.2.1, z41.2.2.2.1, z41.2.2.2.2.1, z41.2.2.2.2.2.1, z41.2.2.2.2.2.2.1, z41.2.2.2.2.2.2.2, (upd p11 p0.toNatClampNeg x1), (upd p12 p0.toNatClampNeg x2), (upd p13 p0.toNatClampNeg x3), (upd p1 p0.toNatClampNeg z41.1), (p0 + (1 : Int32))))))))))
set_option maxRecDepth 100000 in
set_option maxHeartbeats 4000000 in
theorem t_hP_X9_logs {g0 g1 g2 g3 g4 g5 g6 g7 g8 g9 g10 g11 g12 g13 g14 g15 g16 g17 g18 g19 g20 g21 g22 g23 g24 g25 g26 : Int32} {a0 a1 a2 a3 a4 a5 a6 a7 a8 a9 a10 a11 a12 a13 a14 a15 a16 a17 a18 a19 a20 a21 a22 a23 : (Nat → Int32)} {b0 : (Nat → Int64)} {w0 : Int64} {k0 k1 k2 k3 k4 k5 k6 k7 k8 k9 k10 k11 k12 k13 k14 k15 : xC} {cv : Value} (x1 : Int32) (x2 : Int32) (x3 : Int32) (res : Int32 × Int32 × Int32 × Int32 × Int64 × Int32 × Int32 × (Nat → Int32) × (Nat → Int32) × (Nat → Int32) × (Nat → Int32) × Int32) (h : e_hP_X9_logs g24 a18 g6 w0 g5 g4 a0 g7 g8 g9 g10 a15 a16 a17 x1 x2 x3 = some res) (d : Nat) : xMet xks YX9_logs (d + 9) 0 0 [.ref 0, .int x1, .int x2, .int x3] (hP g0 g1 g2 g3 g4 g5 g6 g7 g8 g9 g10 g11 g12 g13 g14 g15 g16 g17 g18 g19 g20 g21 g22 g23 g24 g25 g26 a0 a1 a2 a3 a4 a5 a6 a7 a8 a9 a10 a11 a12 a13 a14 a15 a16 a17 a18 a19 a20 a21 a22 a23 b0 w0 k0 k1 k2 k3 k4 k5 k6 k7 k8 k9 k10 k11 k12 k13 k14 k15 cv (.ref 27)) none (hP g0 g1 g2 g3 g4 res.2.2.1 res.2.1 res.1 res.2.2.2.1 res.2.2.2.2.2.1 res.2.2.2.2.2.2.1 g11 g12 g13 g14 g15 g16 g17 g18 g19 g20 g21 g22 g23 res.2.2.2.2.2.2.2.2.2.2.2 g25 g26 a0 a1 a2 a3 a4 a5 a6 a7 a8 a9 a10 a11 a12 a13 a14 res.2.2.2.2.2.2.2.1 res.2.2.2.2.2.2.2.2.1 res.2.2.2.2.2.2.2.2.2.1 res.2.2.2.2.2.2.2.2.2.2.1 a19 a20 a21 a22 a23 b0 res.2.2.2.2.1 k0 k1 k2 k3 k4 k5 k6 k7 k8 k9 k10 k11 k12 k13 k14 k15 cv (.ref 27)) := by
  unfold e_hP_X9_logs at h
  refine xMet_of (pl := [some (.ref 0), some (.int x1), some (.int x2), some (.int x3), none, none]) (by decide) (Nat.le_of_ble_eq_true rfl) rfl (Nat.le_of_ble_eq_true rfl) ?_
  refine x_aload_n dX9_logs_0 rfl ?_
  refine x_get fX9_152 dX9_logs_1 rfl rfl rfl ?_
  refine x_get fX9_279 dX9_logs_4 rfl rfl rfl ?_
  refine x_if_ne 14 dX9_logs_7 (by decide) (fun q => ?_) (fun q => ?_)
  · have h := xif_f q h
    refine x_aload_n dX9_logs_14 rfl ?_
    refine x_get fX9_152 dX9_logs_15 rfl rfl rfl ?_
    refine x_get fX9_282 dX9_logs_18 rfl rfl rfl ?_
    refine x_aload_n dX9_logs_21 rfl ?_
    refine x_get fX9_152 dX9_logs_22 rfl rfl rfl ?_
    refine x_get fX9_279 dX9_logs_25 rfl rfl rfl ?_
    refine x_iconst (1 : Int32) dX9_logs_28 (by decide) ?_
    refine x_isub dX9_logs_29 ?_
    obtain ⟨q30, h⟩ := xix_of h
    refine x_iald dX9_logs_30 rfl q30 ?_
    refine x_istore (pl' := [some (.ref 0), some (.int x1), some (.int x2), some (.int x3), some (.int (a18 (g24 - (1 : Int32)).toNatClampNeg)), none]) dX9_logs_31 (by decide) rfl ?_
    refine x_aload_n dX9_logs_33 rfl ?_
    refine x_ldcSW (k := 32) rfl rfl rfl dX9_logs_34 ?_
    refine x_iload dX9_logs_37 rfl ?_
    refine x_bipush (40 : Int32) dX9_logs_39 (by decide) ?_
    obtain ⟨z41, y41, h⟩ := xbind h
    refine x_callV (t_hP_X9_readPart (a18 (g24 - (1 : Int32)).toNatClampNeg) (40 : Int32) z41 y41 (d + 0)) kX9_222 dX9_logs_41 rfl rfl rfl rfl rfl (Nat.le_of_ble_eq_true rfl) (Nat.le_of_ble_eq_true rfl) rfl rfl (Or.inl rfl) ?_
    refine x_istore (pl' := [some (.ref 0), some (.int x1), some (.int x2), some (.int x3), some (.int (a18 (g24 - (1 : Int32)).toNatClampNeg)), some (.int z41.1)]) dX9_logs_44 (by decide) rfl ?_
    refine x_aload_n dX9_logs_46 rfl ?_
    refine x_get fX9_77 dX9_logs_47 rfl rfl rfl ?_
    refine x_iconst (5 : Int32) dX9_logs_50 (by decide) ?_
    refine x_icmp_ne 55 dX9_logs_51 (by decide) (fun q => ?_) (fun q => ?_)
    · have h := xif_f q h
      refine x_aload_n dX9_logs_55 rfl ?_
      refine x_get fX9_152 dX9_logs_56 rfl rfl rfl ?_
      refine x_get fX9_286 dX9_logs_59 rfl rfl rfl ?_
      refine x_aload_n dX9_logs_62 rfl ?_
      refine x_get fX9_152 dX9_logs_63 rfl rfl rfl ?_
      refine x_get fX9_279 dX9_logs_66 rfl rfl rfl ?_
      refine x_iload_n dX9_logs_69 rfl ?_
      obtain ⟨q70, h⟩ := xix_of h
      refine x_iast (h2 := (hP g0 g1 g2 g3 g4 z41.2.2.2.1 z41.2.2.1 z41.2.1 z41.2.2.2.2.1 z41.2.2.2.2.2.2.1 z41.2.2.2.2.2.2.2 g11 g12 g13 g14 g15 g16 g17 g18 g19 g20 g21 g22 g23 g24 g25 g26 a0 a1 a2 a3 a4 a5 a6 a7 a8 a9 a10 a11 a12 a13 a14 (upd a15 g24.toNatClampNeg x1) a16 a17 a18 a19 a20 a21 a22 a23 b0 z41.2.2.2.2.2.1 k0 k1 k2 k3 k4 k5 k6 k7 k8 k9 k10 k11 k12 k13 k14 k15 cv (.ref 27))) dX9_logs_70 rfl q70 rfl ?_
      refine x_aload_n dX9_logs_71 rfl ?_
      refine x_get fX9_152 dX9_logs_72 rfl rfl rfl ?_
      refine x_get fX9_289 dX9_logs_75 rfl rfl rfl ?_
      refine x_aload_n dX9_logs_78 rfl ?_
      refine x_get fX9_152 dX9_logs_79 rfl rfl rfl ?_
      refine x_get fX9_279 dX9_logs_82 rfl rfl rfl ?_
      refine x_iload_n dX9_logs_85 rfl ?_
      obtain ⟨q86, h⟩ := xix_of h
      refine x_iast (h2 := (hP g0 g1 g2 g3 g4 z41.2.2.2.1 z41.2.2.1 z41.2.1 z41.2.2.2.2.1 z41.2.2.2.2.2.2.1 z41.2.2.2.2.2.2.2 g11 g12 g13 g14 g15 g16 g17 g18 g19 g20 g21 g22 g23 g24 g25 g26 a0 a1 a2 a3 a4 a5 a6 a7 a8 a9 a10 a11 a12 a13 a14 (upd a15 g24.toNatClampNeg x1) (upd a16 g24.toNatClampNeg x2) a17 a18 a19 a20 a21 a22 a23 b0 z41.2.2.2.2.2.1 k0 k1 k2 k3 k4 k5 k6 k7 k8 k9 k10 k11 k12 k13 k14 k15 cv (.ref 27))) dX9_logs_86 rfl q86 rfl ?_
      refine x_aload_n dX9_logs_87 rfl ?_
      refine x_get fX9_152 dX9_logs_88 rfl rfl rfl ?_
      refine x_get fX9_292 dX9_logs_91 rfl rfl rfl ?_
      refine x_aload_n dX9_logs_94 rfl ?_
      refine x_get fX9_152 dX9_logs_95 rfl rfl rfl ?_
      refine x_get fX9_279 dX9_logs_98 rfl rfl rfl ?_
      refine x_iload_n dX9_logs_101 rfl ?_
      obtain ⟨q102, h⟩ := xix_of h
      refine x_iast (h2 := (hP g0 g1 g2 g3 g4 z41.2.2.2.1 z41.2.2.1 z41.2.1 z41.2.2.2.2.1 z41.2.2.2.2.2.2.1 z41.2.2.2.2.2.2.2 g11 g12 g13 g14 g15 g16 g17 g18 g19 g20 g21 g22 g23 g24 g25 g26 a0 a1 a2 a3 a4 a5 a6 a7 a8 a9 a10 a11 a12 a13 a14 (upd a15 g24.toNatClampNeg x1) (upd a16 g24.toNatClampNeg x2) (upd a17 g24.toNatClampNeg x3) a18 a19 a20 a21 a22 a23 b0 z41.2.2.2.2.2.1 k0 k1 k2 k3 k4 k5 k6 k7 k8 k9 k10 k11 k12 k13 k14 k15 cv (.ref 27))) dX9_logs_102 rfl q102 rfl ?_
      refine x_aload_n dX9_logs_103 rfl ?_
      refine x_get fX9_152 dX9_logs_104 rfl rfl rfl ?_
      refine x_get fX9_282 dX9_logs_107 rfl rfl rfl ?_
      refine x_aload_n dX9_logs_110 rfl ?_
      refine x_get fX9_152 dX9_logs_111 rfl rfl rfl ?_
      refine x_get fX9_279 dX9_logs_114 rfl rfl rfl ?_
      refine x_iload dX9_logs_117 rfl ?_
      obtain ⟨q119, h⟩ := xix_of h
      refine x_iast (h2 := (hP g0 g1 g2 g3 g4 z41.2.2.2.1 z41.2.2.1 z41.2.1 z41.2.2.2.2.1 z41.2.2.2.2.2.2.1 z41.2.2.2.2.2.2.2 g11 g12 g13 g14 g15 g16 g17 g18 g19 g20 g21 g22 g23 g24 g25 g26 a0 a1 a2 a3 a4 a5 a6 a7 a8 a9 a10 a11 a12 a13 a14 (upd a15 g24.toNatClampNeg x1) (upd a16 g24.toNatClampNeg x2) (upd a17 g24.toNatClampNeg x3) (upd a18 g24.toNatClampNeg z41.1) a19 a20 a21 a22 a23 b0 z41.2.2.2.2.2.1 k0 k1 k2 k3 k4 k5 k6 k7 k8 k9 k10 k11 k12 k13 k14 k15 cv (.ref 27))) dX9_logs_119 rfl q119 rfl ?_
      refine x_aload_n dX9_logs_120 rfl ?_
      refine x_get fX9_152 dX9_logs_121 rfl rfl rfl ?_
      refine x_dup dX9_logs_124 rfl ?_
      refine x_get fX9_279 dX9_logs_125 rfl rfl rfl ?_
      refine x_iconst (1 : Int32) dX9_logs_128 (by decide) ?_
      refine x_iadd dX9_logs_129 ?_
      refine x_put (h2 := (hP g0 g1 g2 g3 g4 z41.2.2.2.1 z41.2.2.1 z41.2.1 z41.2.2.2.2.1 z41.2.2.2.2.2.2.1 z41.2.2.2.2.2.2.2 g11 g12 g13 g14 g15 g16 g17 g18 g19 g20 g21 g22 g23 (g24 + (1 : Int32)) g25 g26 a0 a1 a2 a3 a4 a5 a6 a7 a8 a9 a10 a11 a12 a13 a14 (upd a15 g24.toNatClampNeg x1) (upd a16 g24.toNatClampNeg x2) (upd a17 g24.toNatClampNeg x3) (upd a18 g24.toNatClampNeg z41.1) a19 a20 a21 a22 a23 b0 z41.2.2.2.2.2.1 k0 k1 k2 k3 k4 k5 k6 k7 k8 k9 k10 k11 k12 k13 k14 k15 cv (.ref 27))) fX9_279 dX9_logs_130 rfl rfl (Nat.le_of_ble_eq_true rfl : 5 + 1 ≤ _) (fun α => ⟨rfl, rfl⟩) rfl ?_
      cases h
      exact x_vret2 dX9_logs_133 rfl rfl
    · have h := xif_t q h
      cases h
      exact x_vret2 dX9_logs_54 rfl rfl
  · have h := xif_t q h
    refine x_iconst (0 : Int32) dX9_logs_10 (by decide) ?_
    refine x_goto 31 dX9_logs_11 (by decide) ?_
    refine x_istore (pl' := [some (.ref 0), some (.int x1), some (.int x2), some (.int x3), some (.int (0 : Int32)), none]) dX9_logs_31 (by decide) rfl ?_
    refine x_aload_n dX9_logs_33 rfl ?_
    refine x_ldcSW (k := 32) rfl rfl rfl dX9_logs_34 ?_
    refine x_iload dX9_logs_37 rfl ?_
    refine x_bipush (40 : Int32) dX9_logs_39 (by decide) ?_
    obtain ⟨z41, y41, h⟩ := xbind h
    refine x_callV (t_hP_X9_readPart (0 : Int32) (40 : Int32) z41 y41 (d + 0)) kX9_222 dX9_logs_41 rfl rfl rfl rfl rfl (Nat.le_of_ble_eq_true rfl) (Nat.le_of_ble_eq_true rfl) rfl rfl (Or.inl rfl) ?_
    refine x_istore (pl' := [some (.ref 0), some (.int x1), some (.int x2), some (.int x3), some (.int (0 : Int32)), some (.int z41.1)]) dX9_logs_44 (by decide) rfl ?_
    refine x_aload_n dX9_logs_46 rfl ?_
    refine x_get fX9_77 dX9_logs_47 rfl rfl rfl ?_
    refine x_iconst (5 : Int32) dX9_logs_50 (by decide) ?_
    refine x_icmp_ne 55 dX9_logs_51 (by decide) (fun q => ?_) (fun q => ?_)
    · have h := xif_f q h
      refine x_aload_n dX9_logs_55 rfl ?_
      refine x_get fX9_152 dX9_logs_56 rfl rfl rfl ?_
      refine x_get fX9_286 dX9_logs_59 rfl rfl rfl ?_
      refine x_aload_n dX9_logs_62 rfl ?_
      refine x_get fX9_152 dX9_logs_63 rfl rfl rfl ?_
      refine x_get fX9_279 dX9_logs_66 rfl rfl rfl ?_
      refine x_iload_n dX9_logs_69 rfl ?_
      obtain ⟨q70, h⟩ := xix_of h
      refine x_iast (h2 := (hP g0 g1 g2 g3 g4 z41.2.2.2.1 z41.2.2.1 z41.2.1 z41.2.2.2.2.1 z41.2.2.2.2.2.2.1 z41.2.2.2.2.2.2.2 g11 g12 g13 g14 g15 g16 g17 g18 g19 g20 g21 g22 g23 g24 g25 g26 a0 a1 a2 a3 a4 a5 a6 a7 a8 a9 a10 a11 a12 a13 a14 (upd a15 g24.toNatClampNeg x1) a16 a17 a18 a19 a20 a21 a22 a23 b0 z41.2.2.2.2.2.1 k0 k1 k2 k3 k4 k5 k6 k7 k8 k9 k10 k11 k12 k13 k14 k15 cv (.ref 27))) dX9_logs_70 rfl q70 rfl ?_
      refine x_aload_n dX9_logs_71 rfl ?_
      refine x_get fX9_152 dX9_logs_72 rfl rfl rfl ?_
      refine x_get fX9_289 dX9_logs_75 rfl rfl rfl ?_
      refine x_aload_n dX9_logs_78 rfl ?_
      refine x_get fX9_152 dX9_logs_79 rfl rfl rfl ?_
      refine x_get fX9_279 dX9_logs_82 rfl rfl rfl ?_
      refine x_iload_n dX9_logs_85 rfl ?_
      obtain ⟨q86, h⟩ := xix_of h
      refine x_iast (h2 := (hP g0 g1 g2 g3 g4 z41.2.2.2.1 z41.2.2.1 z41.2.1 z41.2.2.2.2.1 z41.2.2.2.2.2.2.1 z41.2.2.2.2.2.2.2 g11 g12 g13 g14 g15 g16 g17 g18 g19 g20 g21 g22 g23 g24 g25 g26 a0 a1 a2 a3 a4 a5 a6 a7 a8 a9 a10 a11 a12 a13 a14 (upd a15 g24.toNatClampNeg x1) (upd a16 g24.toNatClampNeg x2) a17 a18 a19 a20 a21 a22 a23 b0 z41.2.2.2.2.2.1 k0 k1 k2 k3 k4 k5 k6 k7 k8 k9 k10 k11 k12 k13 k14 k15 cv (.ref 27))) dX9_logs_86 rfl q86 rfl ?_
      refine x_aload_n dX9_logs_87 rfl ?_
      refine x_get fX9_152 dX9_logs_88 rfl rfl rfl ?_
      refine x_get fX9_292 dX9_logs_91 rfl rfl rfl ?_
      refine x_aload_n dX9_logs_94 rfl ?_
      refine x_get fX9_152 dX9_logs_95 rfl rfl rfl ?_
      refine x_get fX9_279 dX9_logs_98 rfl rfl rfl ?_
      refine x_iload_n dX9_logs_101 rfl ?_
      obtain ⟨q102, h⟩ := xix_of h
      refine x_iast (h2 := (hP g0 g1 g2 g3 g4 z41.2.2.2.1 z41.2.2.1 z41.2.1 z41.2.2.2.2.1 z41.2.2.2.2.2.2.1 z41.2.2.2.2.2.2.2 g11 g12 g13 g14 g15 g16 g17 g18 g19 g20 g21 g22 g23 g24 g25 g26 a0 a1 a2 a3 a4 a5 a6 a7 a8 a9 a10 a11 a12 a13 a14 (upd a15 g24.toNatClampNeg x1) (upd a16 g24.toNatClampNeg x2) (upd a17 g24.toNatClampNeg x3) a18 a19 a20 a21 a22 a23 b0 z41.2.2.2.2.2.1 k0 k1 k2 k3 k4 k5 k6 k7 k8 k9 k10 k11 k12 k13 k14 k15 cv (.ref 27))) dX9_logs_102 rfl q102 rfl ?_
      refine x_aload_n dX9_logs_103 rfl ?_
      refine x_get fX9_152 dX9_logs_104 rfl rfl rfl ?_
      refine x_get fX9_282 dX9_logs_107 rfl rfl rfl ?_
      refine x_aload_n dX9_logs_110 rfl ?_
      refine x_get fX9_152 dX9_logs_111 rfl rfl rfl ?_
      refine x_get fX9_279 dX9_logs_114 rfl rfl rfl ?_
      refine x_iload dX9_logs_117 rfl ?_
      obtain ⟨q119, h⟩ := xix_of h
      refine x_iast (h2 := (hP g0 g1 g2 g3 g4 z41.2.2.2.1 z41.2.2.1 z41.2.1 z41.2.2.2.2.1 z41.2.2.2.2.2.2.1 z41.2.2.2.2.2.2.2 g11 g12 g13 g14 g15 g16 g17 g18 g19 g20 g21 g22 g23 g24 g25 g26 a0 a1 a2 a3 a4 a5 a6 a7 a8 a9 a10 a11 a12 a13 a14 (upd a15 g24.toNatClampNeg x1) (upd a16 g24.toNatClampNeg x2) (upd a17 g24.toNatClampNeg x3) (upd a18 g24.toNatClampNeg z41.1) a19 a20 a21 a22 a23 b0 z41.2.2.2.2.2.1 k0 k1 k2 k3 k4 k5 k6 k7 k8 k9 k10 k11 k12 k13 k14 k15 cv (.ref 27))) dX9_logs_119 rfl q119 rfl ?_
      refine x_aload_n dX9_logs_120 rfl ?_
      refine x_get fX9_152 dX9_logs_121 rfl rfl rfl ?_
      refine x_dup dX9_logs_124 rfl ?_
      refine x_get fX9_279 dX9_logs_125 rfl rfl rfl ?_
      refine x_iconst (1 : Int32) dX9_logs_128 (by decide) ?_
      refine x_iadd dX9_logs_129 ?_
      refine x_put (h2 := (hP g0 g1 g2 g3 g4 z41.2.2.2.1 z41.2.2.1 z41.2.1 z41.2.2.2.2.1 z41.2.2.2.2.2.2.1 z41.2.2.2.2.2.2.2 g11 g12 g13 g14 g15 g16 g17 g18 g19 g20 g21 g22 g23 (g24 + (1 : Int32)) g25 g26 a0 a1 a2 a3 a4 a5 a6 a7 a8 a9 a10 a11 a12 a13 a14 (upd a15 g24.toNatClampNeg x1) (upd a16 g24.toNatClampNeg x2) (upd a17 g24.toNatClampNeg x3) (upd a18 g24.toNatClampNeg z41.1) a19 a20 a21 a22 a23 b0 z41.2.2.2.2.2.1 k0 k1 k2 k3 k4 k5 k6 k7 k8 k9 k10 k11 k12 k13 k14 k15 cv (.ref 27))) fX9_279 dX9_logs_130 rfl rfl (Nat.le_of_ble_eq_true rfl : 5 + 1 ≤ _) (fun α => ⟨rfl, rfl⟩) rfl ?_
      cases h
      exact x_vret2 dX9_logs_133 rfl rfl
    · have h := xif_t q h
      cases h
      exact x_vret2 dX9_logs_54 rfl rfl
noncomputable def e_hP_X9_readRain (p0 : Int32) (p1 : Int32) (p2 : Int32) (p3 : Int32) (p4 : Int32) (p5 : (Nat → Int32)) (p6 : Int32) (p7 : Int32) (p8 : Int64) (p9 : Int32) (p10 : Int32) (p11 : (Nat → Int32)) (p12 : (Nat → Int32)) (p13 : (Nat → Int32)) (p14 : (Nat → Int32))  : Option (Int32 × Int32 × Int32 × Int32 × Int64 × Int32 × Int32 × (Nat → Int32) × (Nat → Int32) × (Nat → Int32) × (Nat → Int32) × Int32) :=
  ((e_hP_X9_lineBegins p1 p2 p3 p4 p5 p6 p7 p8 p9 p10 p0 (16 : Int32)).bind fun z10 => (e_hP_X9_logs p0 p11 z10.2.1 z10.2.2.2.2.1 z10.2.2.1 p4 p5 z10.1 z10.2.2.2.1 z10.2.2.2.2.2.1 z10.2.2.2.2.2.2 p12 p13 p14 (3 : Int32) (0 : Int32) (0 : Int32)).bind fun z17 => some (z17.1, z17.2.1, z17.2.2.1, z17.2.2.2.1, z17.2.2.2.2.1, z17.2.2.2.2.2.1, z17.2.2.2.2.2.2.1, z17.2.2.2.2.2.2.2.1, z17.2.2.2.2.2.2.2.2.1, z17.2.2.2.2.2.2.2.2.2.1, z17.2.2.2.2.2.2.2.2.2.2.1, z17.2.2.2.2.2.2.2.2.2.2.2))
set_option maxRecDepth 100000 in
set_option maxHeartbeats 4000000 in
theorem t_hP_X9_readRain {g0 g1 g2 g3 g4 g5 g6 g7 g8 g9 g10 g11 g12 g13 g14 g15 g16 g17 g18 g19 g20 g21 g22 g23 g24 g25 g26 : Int32} {a0 a1 a2 a3 a4 a5 a6 a7 a8 a9 a10 a11 a12 a13 a14 a15 a16 a17 a18 a19 a20 a21 a22 a23 : (Nat → Int32)} {b0 : (Nat → Int64)} {w0 : Int64} {k0 k1 k2 k3 k4 k5 k6 k7 k8 k9 k10 k11 k12 k13 k14 k15 : xC} {cv : Value}  (res : Int32 × Int32 × Int32 × Int32 × Int64 × Int32 × Int32 × (Nat → Int32) × (Nat → Int32) × (Nat → Int32) × (Nat → Int32) × Int32) (h : e_hP_X9_readRain g24 g19 g6 g5 g4 a0 g7 g8 w0 g9 g10 a18 a15 a16 a17  = some res) (d : Nat) : xMet xks YX9_readRain (d + 10) 0 0 [.ref 0] (hP g0 g1 g2 g3 g4 g5 g6 g7 g8 g9 g10 g11 g12 g13 g14 g15 g16 g17 g18 g19 g20 g21 g22 g23 g24 g25 g26 a0 a1 a2 a3 a4 a5 a6 a7 a8 a9 a10 a11 a12 a13 a14 a15 a16 a17 a18 a19 a20 a21 a22 a23 b0 w0 k0 k1 k2 k3 k4 k5 k6 k7 k8 k9 k10 k11 k12 k13 k14 k15 cv (.ref 27)) none (hP g0 g1 g2 g3 g4 res.2.2.1 res.2.1 res.1 res.2.2.2.1 res.2.2.2.2.2.1 res.2.2.2.2.2.2.1 g11 g12 g13 g14 g15 g16 g17 g18 g19 g20 g21 g22 g23 res.2.2.2.2.2.2.2.2.2.2.2 g25 g26 a0 a1 a2 a3 a4 a5 a6 a7 a8 a9 a10 a11 a12 a13 a14 res.2.2.2.2.2.2.2.1 res.2.2.2.2.2.2.2.2.1 res.2.2.2.2.2.2.2.2.2.1 res.2.2.2.2.2.2.2.2.2.2.1 a19 a20 a21 a22 a23 b0 res.2.2.2.2.1 k0 k1 k2 k3 k4 k5 k6 k7 k8 k9 k10 k11 k12 k13 k14 k15 cv (.ref 27)) := by
  unfold e_hP_X9_readRain at h
  refine xMet_of (pl := [some (.ref 0)]) (by decide) (Nat.le_of_ble_eq_true rfl) rfl (Nat.le_of_ble_eq_true rfl) ?_
  refine x_aload_n dX9_readRain_0 rfl ?_
  refine x_aload_n dX9_readRain_1 rfl ?_
  refine x_get fX9_152 dX9_readRain_2 rfl rfl rfl ?_
  refine x_get fX9_279 dX9_readRain_5 rfl rfl rfl ?_
  refine x_bipush (16 : Int32) dX9_readRain_8 (by decide) ?_
  obtain ⟨z10, y10, h⟩ := xbind h
  refine x_callV (t_hP_X9_lineBegins g24 (16 : Int32) z10 y10 (d + 6)) kX9_234 dX9_readRain_10 rfl rfl rfl rfl rfl (Nat.le_of_ble_eq_true rfl) (Nat.le_of_ble_eq_true rfl) rfl rfl (Or.inl rfl) ?_
  refine x_aload_n dX9_readRain_13 rfl ?_
  refine x_iconst (3 : Int32) dX9_readRain_14 (by decide) ?_
  refine x_iconst (0 : Int32) dX9_readRain_15 (by decide) ?_
  refine x_iconst (0 : Int32) dX9_readRain_16 (by decide) ?_
  obtain ⟨z17, y17, h⟩ := xbind h
  refine x_callV (t_hP_X9_logs (3 : Int32) (0 : Int32) (0 : Int32) z17 y17 (d + 0)) kX9_295 dX9_readRain_17 rfl rfl rfl rfl rfl (Nat.le_of_ble_eq_true rfl) (Nat.le_of_ble_eq_true rfl) rfl rfl (Or.inl rfl) ?_
  cases h
  exact x_vret2 dX9_readRain_20 rfl rfl
noncomputable def e_hP_X9_readChanged (p0 : Int32) (p1 : Int32) (p2 : Int32) (p3 : Int32) (p4 : Int32) (p5 : (Nat → Int32)) (p6 : Int32) (p7 : Int32) (p8 : Int64) (p9 : Int32) (p10 : Int32) (p11 : Int32) (p12 : (Nat → Int64)) (p13 : (Nat → Int32)) (p14 : (Nat → Int32)) (p15 : (Nat → Int32)) (p16 : (Nat → Int32)) (p17 : (Nat → Int32)) (p18 : (Nat → Int32))  : Option (Int32 × Int32 × Int32 × Int32 × Int64 × Int32 × Int32 × (Nat → Int32) × (Nat → Int32) × (Nat → Int32) × (Nat → Int32) × Int32) :=
  ((e_hP_X9_lineBegins p1 p2 p3 p4 p5 p6 p7 p8 p9 p10 p0 (16 : Int32)).bind fun z10 => (e_hP_X9_readKnown z10.2.1 z10.2.2.2.2.1 p11 p12 z10.2.2.2.2.2.1 z10.1 z10.2.2.2.2.2.2 p13 p14 z10.2.2.1 p4 p5 z10.2.2.2.1 (1 : Int32)).bind fun z15 => (e_hP_X9_knownOne z15.2.2.2.1 z15.2.2.2.2.2.2.2 p11 p12 z15.2.1 z15.2.2.2.2.1 z15.2.2.1 p13 p14 (1 : Int32)).bind fun z21 => if z21.2.2.2 = (5 : Int32) then ((e_hP_X9_goesOn z21.2.2.2 z15.2.2.2.2.2.1 p4 p5 z15.2.2.2.2.1 z15.2.2.2.2.2.2.1 z15.2.2.2.2.2.2.2).bind fun z44 => (e_hP_X9_logs p0 p15 z44.2.1 z44.2.2.2.2 z44.2.2.1 p4 p5 z44.1 z44.2.2.2.1 z21.2.1 z21.2.2.1 p16 p17 p18 (2 : Int32) z15.1 z21.1).bind fun z51 => some (z51.1, z51.2.1, z51.2.2.1, z51.2.2.2.1, z51.2.2.2.2.1, z51.2.2.2.2.2.1, z51.2.2.2.2.2.2.1, z51.2.2.2.2.2.2.2.1, z51.2.2.2.2.2.2.2.2.1, z51.2.2.2.2.2.2.2.2.2.1, z51.2.2.2.2.2.2.2.2.2.2.1, z51.2.2.2.2.2.2.2.2.2.2.2)) else if z15.1 = z21.1 then ((e_hP_X9_flaw z21.2.2.2 z21.2.1 z15.2.2.2.2.1 z21.2.2.1 (3 : Int32)).bind fun z40 => (e_hP_X9_goesOn z40.2.2 z15.2.2.2.2.2.1 p4 p5 z15.2.2.2.2.1 z15.2.2.2.2.2.2.1 z15.2.2.2.2.2.2.2).bind fun z44 => (e_hP_X9_logs p0 p15 z44.2.1 z44.2.2.2.2 z44.2.2.1 p4 p5 z44.1 z44.2.2.2.1 z40.1 z40.2.1 p16 p17 p18 (2 : Int32) z15.1 z21.1).bind fun z51 => some (z51.1, z51.2.1, z51.2.2.1, z51.2.2.2.1, z51.2.2.2.2.1, z51.2.2.2.2.2.1, z51.2.2.2.2.2.2.1, z51.2.2.2.2.2.2.2.1, z51.2.2.2.2.2.2.2.2.1, z51.2.2.2.2.2.2.2.2.2.1, z51.2.2.2.2.2.2.2.2.2.2.1, z51.2.2.2.2.2.2.2.2.2.2.2)) else ((e_hP_X9_goesOn z21.2.2.2 z15.2.2.2.2.2.1 p4 p5 z15.2.2.2.2.1 z15.2.2.2.2.2.2.1 z15.2.2.2.2.2.2.2).bind fun z44 => (e_hP_X9_logs p0 p15 z44.2.1 z44.2.2.2.2 z44.2.2.1 p4 p5 z44.1 z44.2.2.2.1 z21.2.1 z21.2.2.1 p16 p17 p18 (2 : Int32) z15.1 z21.1).bind fun z51 => some (z51.1, z51.2.1, z51.2.2.1, z51.2.2.2.1, z51.2.2.2.2.1, z51.2.2.2.2.2.1, z51.2.2.2.2.2.2.1, z51.2.2.2.2.2.2.2.1, z51.2.2.2.2.2.2.2.2.1, z51.2.2.2.2.2.2.2.2.2.1, z51.2.2.2.2.2.2.2.2.2.2.1, z51.2.2.2.2.2.2.2.2.2.2.2)))
set_option maxRecDepth 100000 in
set_option maxHeartbeats 4000000 in
theorem t_hP_X9_readChanged {g0 g1 g2 g3 g4 g5 g6 g7 g8 g9 g10 g11 g12 g13 g14 g15 g16 g17 g18 g19 g20 g21 g22 g23 g24 g25 g26 : Int32} {a0 a1 a2 a3 a4 a5 a6 a7 a8 a9 a10 a11 a12 a13 a14 a15 a16 a17 a18 a19 a20 a21 a22 a23 : (Nat → Int32)} {b0 : (Nat → Int64)} {w0 : Int64} {k0 k1 k2 k3 k4 k5 k6 k7 k8 k9 k10 k11 k12 k13 k14 k15 : xC} {cv : Value}  (res : Int32 × Int32 × Int32 × Int32 × Int64 × Int32 × Int32 × (Nat → Int32) × (Nat → Int32) × (Nat → Int32) × (Nat → Int32) × Int32) (h : e_hP_X9_readChanged g24 g19 g6 g5 g4 a0 g7 g8 w0 g9 g10 g26 b0 a23 a22 a18 a15 a16 a17  = some res) (d : Nat) : xMet xks YX9_readChanged (d + 10) 0 0 [.ref 0] (hP g0 g1 g2 g3 g4 g5 g6 g7 g8 g9 g10 g11 g12 g13 g14 g15 g16 g17 g18 g19 g20 g21 g22 g23 g24 g25 g26 a0 a1 a2 a3 a4 a5 a6 a7 a8 a9 a10 a11 a12 a13 a14 a15 a16 a17 a18 a19 a20 a21 a22 a23 b0 w0 k0 k1 k2 k3 k4 k5 k6 k7 k8 k9 k10 k11 k12 k13 k14 k15 cv (.ref 27)) none (hP g0 g1 g2 g3 g4 res.2.2.1 res.2.1 res.1 res.2.2.2.1 res.2.2.2.2.2.1 res.2.2.2.2.2.2.1 g11 g12 g13 g14 g15 g16 g17 g18 g19 g20 g21 g22 g23 res.2.2.2.2.2.2.2.2.2.2.2 g25 g26 a0 a1 a2 a3 a4 a5 a6 a7 a8 a9 a10 a11 a12 a13 a14 res.2.2.2.2.2.2.2.1 res.2.2.2.2.2.2.2.2.1 res.2.2.2.2.2.2.2.2.2.1 res.2.2.2.2.2.2.2.2.2.2.1 a19 a20 a21 a22 a23 b0 res.2.2.2.2.1 k0 k1 k2 k3 k4 k5 k6 k7 k8 k9 k10 k11 k12 k13 k14 k15 cv (.ref 27)) := by
  unfold e_hP_X9_readChanged at h
  refine xMet_of (pl := [some (.ref 0), none, none]) (by decide) (Nat.le_of_ble_eq_true rfl) rfl (Nat.le_of_ble_eq_true rfl) ?_
  refine x_aload_n dX9_readChanged_0 rfl ?_
  refine x_aload_n dX9_readChanged_1 rfl ?_
  refine x_get fX9_152 dX9_readChanged_2 rfl rfl rfl ?_
  refine x_get fX9_279 dX9_readChanged_5 rfl rfl rfl ?_
  refine x_bipush (16 : Int32) dX9_readChanged_8 (by decide) ?_
  obtain ⟨z10, y10, h⟩ := xbind h
  refine x_callV (t_hP_X9_lineBegins g24 (16 : Int32) z10 y10 (d + 6)) kX9_234 dX9_readChanged_10 rfl rfl rfl rfl rfl (Nat.le_of_ble_eq_true rfl) (Nat.le_of_ble_eq_true rfl) rfl rfl (Or.inl rfl) ?_
  refine x_aload_n dX9_readChanged_13 rfl ?_
  refine x_iconst (1 : Int32) dX9_readChanged_14 (by decide) ?_
  obtain ⟨z15, y15, h⟩ := xbind h
  refine x_callV (t_hP_X9_readKnown (1 : Int32) z15 y15 (d + 0)) kX9_267 dX9_readChanged_15 rfl rfl rfl rfl rfl (Nat.le_of_ble_eq_true rfl) (Nat.le_of_ble_eq_true rfl) rfl rfl (Or.inl rfl) ?_
  refine x_istore_n (pl' := [some (.ref 0), some (.int z15.1), none]) dX9_readChanged_18 (by decide) rfl ?_
  refine x_aload_n dX9_readChanged_19 rfl ?_
  refine x_iconst (1 : Int32) dX9_readChanged_20 (by decide) ?_
  obtain ⟨z21, y21, h⟩ := xbind h
  refine x_callV (t_hP_X9_knownOne (1 : Int32) z21 y21 (d + 1)) kX9_182 dX9_readChanged_21 rfl rfl rfl rfl rfl (Nat.le_of_ble_eq_true rfl) (Nat.le_of_ble_eq_true rfl) rfl rfl (Or.inl rfl) ?_
  refine x_istore_n (pl' := [some (.ref 0), some (.int z15.1), some (.int z21.1)]) dX9_readChanged_24 (by decide) rfl ?_
  refine x_aload_n dX9_readChanged_25 rfl ?_
  refine x_get fX9_77 dX9_readChanged_26 rfl rfl rfl ?_
  refine x_iconst (5 : Int32) dX9_readChanged_29 (by decide) ?_
  refine x_icmp_eq 43 dX9_readChanged_30 (by decide) (fun q => ?_) (fun q => ?_)
  · have h := xif_t q h
    refine x_aload_n dX9_readChanged_43 rfl ?_
    obtain ⟨z44, y44, h⟩ := xbind h
    refine x_callV (t_hP_X9_goesOn  z44 y44 (d + 7)) kX9_113 dX9_readChanged_44 rfl rfl rfl rfl rfl (Nat.le_of_ble_eq_true rfl) (Nat.le_of_ble_eq_true rfl) rfl rfl (Or.inl rfl) ?_
    refine x_aload_n dX9_readChanged_47 rfl ?_
    refine x_iconst (2 : Int32) dX9_readChanged_48 (by decide) ?_
    refine x_iload_n dX9_readChanged_49 rfl ?_
    refine x_iload_n dX9_readChanged_50 rfl ?_
    obtain ⟨z51, y51, h⟩ := xbind h
    refine x_callV (t_hP_X9_logs (2 : Int32) z15.1 z21.1 z51 y51 (d + 0)) kX9_295 dX9_readChanged_51 rfl rfl rfl rfl rfl (Nat.le_of_ble_eq_true rfl) (Nat.le_of_ble_eq_true rfl) rfl rfl (Or.inl rfl) ?_
    cases h
    exact x_vret2 dX9_readChanged_54 rfl rfl
  · have h := xif_f q h
    refine x_iload_n dX9_readChanged_33 rfl ?_
    refine x_iload_n dX9_readChanged_34 rfl ?_
    refine x_icmp_ne 43 dX9_readChanged_35 (by decide) (fun q => ?_) (fun q => ?_)
    · have h := xif_f q h
      refine x_aload_n dX9_readChanged_43 rfl ?_
      obtain ⟨z44, y44, h⟩ := xbind h
      refine x_callV (t_hP_X9_goesOn  z44 y44 (d + 7)) kX9_113 dX9_readChanged_44 rfl rfl rfl rfl rfl (Nat.le_of_ble_eq_true rfl) (Nat.le_of_ble_eq_true rfl) rfl rfl (Or.inl rfl) ?_
      refine x_aload_n dX9_readChanged_47 rfl ?_
      refine x_iconst (2 : Int32) dX9_readChanged_48 (by decide) ?_
      refine x_iload_n dX9_readChanged_49 rfl ?_
      refine x_iload_n dX9_readChanged_50 rfl ?_
      obtain ⟨z51, y51, h⟩ := xbind h
      refine x_callV (t_hP_X9_logs (2 : Int32) z15.1 z21.1 z51 y51 (d + 0)) kX9_295 dX9_readChanged_51 rfl rfl rfl rfl rfl (Nat.le_of_ble_eq_true rfl) (Nat.le_of_ble_eq_true rfl) rfl rfl (Or.inl rfl) ?_
      cases h
      exact x_vret2 dX9_readChanged_54 rfl rfl
    · have h := xif_t q h
      refine x_aload_n dX9_readChanged_38 rfl ?_
      refine x_iconst (3 : Int32) dX9_readChanged_39 (by decide) ?_
      obtain ⟨z40, y40, h⟩ := xbind h
      refine x_callV (t_hP_X9_flaw (3 : Int32) z40 y40 (d + 8)) kX9_120 dX9_readChanged_40 rfl rfl rfl rfl rfl (Nat.le_of_ble_eq_true rfl) (Nat.le_of_ble_eq_true rfl) rfl rfl (Or.inl rfl) ?_
      refine x_aload_n dX9_readChanged_43 rfl ?_
      obtain ⟨z44, y44, h⟩ := xbind h
      refine x_callV (t_hP_X9_goesOn  z44 y44 (d + 7)) kX9_113 dX9_readChanged_44 rfl rfl rfl rfl rfl (Nat.le_of_ble_eq_true rfl) (Nat.le_of_ble_eq_true rfl) rfl rfl (Or.inl rfl) ?_
      refine x_aload_n dX9_readChanged_47 rfl ?_
      refine x_iconst (2 : Int32) dX9_readChanged_48 (by decide) ?_
      refine x_iload_n dX9_readChanged_49 rfl ?_
      refine x_iload_n dX9_readChanged_50 rfl ?_
      obtain ⟨z51, y51, h⟩ := xbind h
      refine x_callV (t_hP_X9_logs (2 : Int32) z15.1 z21.1 z51 y51 (d + 0)) kX9_295 dX9_readChanged_51 rfl rfl rfl rfl rfl (Nat.le_of_ble_eq_true rfl) (Nat.le_of_ble_eq_true rfl) rfl rfl (Or.inl rfl) ?_
      cases h
      exact x_vret2 dX9_readChanged_54 rfl rfl
noncomputable def e_hP_X9_readLeft (p0 : Int32) (p1 : Int32) (p2 : Int32) (p3 : Int32) (p4 : Int32) (p5 : (Nat → Int32)) (p6 : Int32) (p7 : Int32) (p8 : Int64) (p9 : Int32) (p10 : Int32) (p11 : Int32) (p12 : (Nat → Int64)) (p13 : (Nat → Int32)) (p14 : (Nat → Int32)) (p15 : (Nat → Int32)) (p16 : (Nat → Int32)) (p17 : (Nat → Int32)) (p18 : (Nat → Int32))  : Option (Int32 × Int32 × Int32 × Int32 × Int64 × Int32 × Int32 × (Nat → Int32) × (Nat → Int32) × (Nat → Int32) × (Nat → Int32) × Int32) :=
  ((e_hP_X9_lineBegins p1 p2 p3 p4 p5 p6 p7 p8 p9 p10 p0 (16 : Int32)).bind fun z10 => (e_hP_X9_readKnown z10.2.1 z10.2.2.2.2.1 p11 p12 z10.2.2.2.2.2.1 z10.1 z10.2.2.2.2.2.2 p13 p14 z10.2.2.1 p4 p5 z10.2.2.2.1 (1 : Int32)).bind fun z15 => (e_hP_X9_logs p0 p15 z15.2.2.2.1 z15.2.2.2.2.2.2.2 z15.2.2.2.2.2.1 p4 p5 z15.2.2.2.2.1 z15.2.2.2.2.2.2.1 z15.2.1 z15.2.2.1 p16 p17 p18 (1 : Int32) z15.1 (0 : Int32)).bind fun z23 => some (z23.1, z23.2.1, z23.2.2.1, z23.2.2.2.1, z23.2.2.2.2.1, z23.2.2.2.2.2.1, z23.2.2.2.2.2.2.1, z23.2.2.2.2.2.2.2.1, z23.2.2.2.2.2.2.2.2.1, z23.2.2.2.2.2.2.2.2.2.1, z23.2.2.2.2.2.2.2.2.2.2.1, z23.2.2.2.2.2.2.2.2.2.2.2))
set_option maxRecDepth 100000 in
set_option maxHeartbeats 4000000 in
theorem t_hP_X9_readLeft {g0 g1 g2 g3 g4 g5 g6 g7 g8 g9 g10 g11 g12 g13 g14 g15 g16 g17 g18 g19 g20 g21 g22 g23 g24 g25 g26 : Int32} {a0 a1 a2 a3 a4 a5 a6 a7 a8 a9 a10 a11 a12 a13 a14 a15 a16 a17 a18 a19 a20 a21 a22 a23 : (Nat → Int32)} {b0 : (Nat → Int64)} {w0 : Int64} {k0 k1 k2 k3 k4 k5 k6 k7 k8 k9 k10 k11 k12 k13 k14 k15 : xC} {cv : Value}  (res : Int32 × Int32 × Int32 × Int32 × Int64 × Int32 × Int32 × (Nat → Int32) × (Nat → Int32) × (Nat → Int32) × (Nat → Int32) × Int32) (h : e_hP_X9_readLeft g24 g19 g6 g5 g4 a0 g7 g8 w0 g9 g10 g26 b0 a23 a22 a18 a15 a16 a17  = some res) (d : Nat) : xMet xks YX9_readLeft (d + 10) 0 0 [.ref 0] (hP g0 g1 g2 g3 g4 g5 g6 g7 g8 g9 g10 g11 g12 g13 g14 g15 g16 g17 g18 g19 g20 g21 g22 g23 g24 g25 g26 a0 a1 a2 a3 a4 a5 a6 a7 a8 a9 a10 a11 a12 a13 a14 a15 a16 a17 a18 a19 a20 a21 a22 a23 b0 w0 k0 k1 k2 k3 k4 k5 k6 k7 k8 k9 k10 k11 k12 k13 k14 k15 cv (.ref 27)) none (hP g0 g1 g2 g3 g4 res.2.2.1 res.2.1 res.1 res.2.2.2.1 res.2.2.2.2.2.1 res.2.2.2.2.2.2.1 g11 g12 g13 g14 g15 g16 g17 g18 g19 g20 g21 g22 g23 res.2.2.2.2.2.2.2.2.2.2.2 g25 g26 a0 a1 a2 a3 a4 a5 a6 a7 a8 a9 a10 a11 a12 a13 a14 res.2.2.2.2.2.2.2.1 res.2.2.2.2.2.2.2.2.1 res.2.2.2.2.2.2.2.2.2.1 res.2.2.2.2.2.2.2.2.2.2.1 a19 a20 a21 a22 a23 b0 res.2.2.2.2.1 k0 k1 k2 k3 k4 k5 k6 k7 k8 k9 k10 k11 k12 k13 k14 k15 cv (.ref 27)) := by
  unfold e_hP_X9_readLeft at h
  refine xMet_of (pl := [some (.ref 0), none]) (by decide) (Nat.le_of_ble_eq_true rfl) rfl (Nat.le_of_ble_eq_true rfl) ?_
  refine x_aload_n dX9_readLeft_0 rfl ?_
  refine x_aload_n dX9_readLeft_1 rfl ?_
  refine x_get fX9_152 dX9_readLeft_2 rfl rfl rfl ?_
  refine x_get fX9_279 dX9_readLeft_5 rfl rfl rfl ?_
  refine x_bipush (16 : Int32) dX9_readLeft_8 (by decide) ?_
  obtain ⟨z10, y10, h⟩ := xbind h
  refine x_callV (t_hP_X9_lineBegins g24 (16 : Int32) z10 y10 (d + 6)) kX9_234 dX9_readLeft_10 rfl rfl rfl rfl rfl (Nat.le_of_ble_eq_true rfl) (Nat.le_of_ble_eq_true rfl) rfl rfl (Or.inl rfl) ?_
  refine x_aload_n dX9_readLeft_13 rfl ?_
  refine x_iconst (1 : Int32) dX9_readLeft_14 (by decide) ?_
  obtain ⟨z15, y15, h⟩ := xbind h
  refine x_callV (t_hP_X9_readKnown (1 : Int32) z15 y15 (d + 0)) kX9_267 dX9_readLeft_15 rfl rfl rfl rfl rfl (Nat.le_of_ble_eq_true rfl) (Nat.le_of_ble_eq_true rfl) rfl rfl (Or.inl rfl) ?_
  refine x_istore_n (pl' := [some (.ref 0), some (.int z15.1)]) dX9_readLeft_18 (by decide) rfl ?_
  refine x_aload_n dX9_readLeft_19 rfl ?_
  refine x_iconst (1 : Int32) dX9_readLeft_20 (by decide) ?_
  refine x_iload_n dX9_readLeft_21 rfl ?_
  refine x_iconst (0 : Int32) dX9_readLeft_22 (by decide) ?_
  obtain ⟨z23, y23, h⟩ := xbind h
  refine x_callV (t_hP_X9_logs (1 : Int32) z15.1 (0 : Int32) z23 y23 (d + 0)) kX9_295 dX9_readLeft_23 rfl rfl rfl rfl rfl (Nat.le_of_ble_eq_true rfl) (Nat.le_of_ble_eq_true rfl) rfl rfl (Or.inl rfl) ?_
  cases h
  exact x_vret2 dX9_readLeft_26 rfl rfl
noncomputable def e_hP_X9_readLent (p0 : Int32) (p1 : Int32) (p2 : Int32) (p3 : Int32) (p4 : Int32) (p5 : (Nat → Int32)) (p6 : Int32) (p7 : Int32) (p8 : Int64) (p9 : Int32) (p10 : Int32) (p11 : Int32) (p12 : (Nat → Int64)) (p13 : (Nat → Int32)) (p14 : (Nat → Int32)) (p15 : (Nat → Int32)) (p16 : (Nat → Int32)) (p17 : (Nat → Int32)) (p18 : (Nat → Int32))  : Option (Int32 × Int32 × Int32 × Int32 × Int64 × Int32 × Int32 × (Nat → Int32) × (Nat → Int32) × (Nat → Int32) × (Nat → Int32) × Int32) :=
  ((e_hP_X9_lineBegins p1 p2 p3 p4 p5 p6 p7 p8 p9 p10 p0 (16 : Int32)).bind fun z10 => (e_hP_X9_readKnown z10.2.1 z10.2.2.2.2.1 p11 p12 z10.2.2.2.2.2.1 z10.1 z10.2.2.2.2.2.2 p13 p14 z10.2.2.1 p4 p5 z10.2.2.2.1 (1 : Int32)).bind fun z15 => (e_hP_X9_readKnown z15.2.2.2.1 z15.2.2.2.2.2.2.2 p11 p12 z15.2.1 z15.2.2.2.2.1 z15.2.2.1 p13 p14 z15.2.2.2.2.2.1 p4 p5 z15.2.2.2.2.2.2.1 (0 : Int32)).bind fun z21 => (e_hP_X9_logs p0 p15 z21.2.2.2.1 z21.2.2.2.2.2.2.2 z21.2.2.2.2.2.1 p4 p5 z21.2.2.2.2.1 z21.2.2.2.2.2.2.1 z21.2.1 z21.2.2.1 p16 p17 p18 (0 : Int32) z15.1 z21.1).bind fun z29 => some (z29.1, z29.2.1, z29.2.2.1, z29.2.2.2.1, z29.2.2.2.2.1, z29.2.2.2.2.2.1, z29.2.2.2.2.2.2.1, z29.2.2.2.2.2.2.2.1, z29.2.2.2.2.2.2.2.2.1, z29.2.2.2.2.2.2.2.2.2.1, z29.2.2.2.2.2.2.2.2.2.2.1, z29.2.2.2.2.2.2.2.2.2.2.2))
set_option maxRecDepth 100000 in
set_option maxHeartbeats 4000000 in
theorem t_hP_X9_readLent {g0 g1 g2 g3 g4 g5 g6 g7 g8 g9 g10 g11 g12 g13 g14 g15 g16 g17 g18 g19 g20 g21 g22 g23 g24 g25 g26 : Int32} {a0 a1 a2 a3 a4 a5 a6 a7 a8 a9 a10 a11 a12 a13 a14 a15 a16 a17 a18 a19 a20 a21 a22 a23 : (Nat → Int32)} {b0 : (Nat → Int64)} {w0 : Int64} {k0 k1 k2 k3 k4 k5 k6 k7 k8 k9 k10 k11 k12 k13 k14 k15 : xC} {cv : Value}  (res : Int32 × Int32 × Int32 × Int32 × Int64 × Int32 × Int32 × (Nat → Int32) × (Nat → Int32) × (Nat → Int32) × (Nat → Int32) × Int32) (h : e_hP_X9_readLent g24 g19 g6 g5 g4 a0 g7 g8 w0 g9 g10 g26 b0 a23 a22 a18 a15 a16 a17  = some res) (d : Nat) : xMet xks YX9_readLent (d + 10) 0 0 [.ref 0] (hP g0 g1 g2 g3 g4 g5 g6 g7 g8 g9 g10 g11 g12 g13 g14 g15 g16 g17 g18 g19 g20 g21 g22 g23 g24 g25 g26 a0 a1 a2 a3 a4 a5 a6 a7 a8 a9 a10 a11 a12 a13 a14 a15 a16 a17 a18 a19 a20 a21 a22 a23 b0 w0 k0 k1 k2 k3 k4 k5 k6 k7 k8 k9 k10 k11 k12 k13 k14 k15 cv (.ref 27)) none (hP g0 g1 g2 g3 g4 res.2.2.1 res.2.1 res.1 res.2.2.2.1 res.2.2.2.2.2.1 res.2.2.2.2.2.2.1 g11 g12 g13 g14 g15 g16 g17 g18 g19 g20 g21 g22 g23 res.2.2.2.2.2.2.2.2.2.2.2 g25 g26 a0 a1 a2 a3 a4 a5 a6 a7 a8 a9 a10 a11 a12 a13 a14 res.2.2.2.2.2.2.2.1 res.2.2.2.2.2.2.2.2.1 res.2.2.2.2.2.2.2.2.2.1 res.2.2.2.2.2.2.2.2.2.2.1 a19 a20 a21 a22 a23 b0 res.2.2.2.2.1 k0 k1 k2 k3 k4 k5 k6 k7 k8 k9 k10 k11 k12 k13 k14 k15 cv (.ref 27)) := by
  unfold e_hP_X9_readLent at h
  refine xMet_of (pl := [some (.ref 0), none, none]) (by decide) (Nat.le_of_ble_eq_true rfl) rfl (Nat.le_of_ble_eq_true rfl) ?_
  refine x_aload_n dX9_readLent_0 rfl ?_
  refine x_aload_n dX9_readLent_1 rfl ?_
  refine x_get fX9_152 dX9_readLent_2 rfl rfl rfl ?_
  refine x_get fX9_279 dX9_readLent_5 rfl rfl rfl ?_
  refine x_bipush (16 : Int32) dX9_readLent_8 (by decide) ?_
  obtain ⟨z10, y10, h⟩ := xbind h
  refine x_callV (t_hP_X9_lineBegins g24 (16 : Int32) z10 y10 (d + 6)) kX9_234 dX9_readLent_10 rfl rfl rfl rfl rfl (Nat.le_of_ble_eq_true rfl) (Nat.le_of_ble_eq_true rfl) rfl rfl (Or.inl rfl) ?_
  refine x_aload_n dX9_readLent_13 rfl ?_
  refine x_iconst (1 : Int32) dX9_readLent_14 (by decide) ?_
  obtain ⟨z15, y15, h⟩ := xbind h
  refine x_callV (t_hP_X9_readKnown (1 : Int32) z15 y15 (d + 0)) kX9_267 dX9_readLent_15 rfl rfl rfl rfl rfl (Nat.le_of_ble_eq_true rfl) (Nat.le_of_ble_eq_true rfl) rfl rfl (Or.inl rfl) ?_
  refine x_istore_n (pl' := [some (.ref 0), some (.int z15.1), none]) dX9_readLent_18 (by decide) rfl ?_
  refine x_aload_n dX9_readLent_19 rfl ?_
  refine x_iconst (0 : Int32) dX9_readLent_20 (by decide) ?_
  obtain ⟨z21, y21, h⟩ := xbind h
  refine x_callV (t_hP_X9_readKnown (0 : Int32) z21 y21 (d + 0)) kX9_267 dX9_readLent_21 rfl rfl rfl rfl rfl (Nat.le_of_ble_eq_true rfl) (Nat.le_of_ble_eq_true rfl) rfl rfl (Or.inl rfl) ?_
  refine x_istore_n (pl' := [some (.ref 0), some (.int z15.1), some (.int z21.1)]) dX9_readLent_24 (by decide) rfl ?_
  refine x_aload_n dX9_readLent_25 rfl ?_
  refine x_iconst (0 : Int32) dX9_readLent_26 (by decide) ?_
  refine x_iload_n dX9_readLent_27 rfl ?_
  refine x_iload_n dX9_readLent_28 rfl ?_
  obtain ⟨z29, y29, h⟩ := xbind h
  refine x_callV (t_hP_X9_logs (0 : Int32) z15.1 z21.1 z29 y29 (d + 0)) kX9_295 dX9_readLent_29 rfl rfl rfl rfl rfl (Nat.le_of_ble_eq_true rfl) (Nat.le_of_ble_eq_true rfl) rfl rfl (Or.inl rfl) ?_
  cases h
  exact x_vret2 dX9_readLent_32 rfl rfl
noncomputable def J_hP_X9_readFresh_12 (p0 : Int32) (p1 : Int64) (p2 : Int32) (p3 : (Nat → Int64)) (p4 : Int32) (p5 : Int32) (p6 : (Nat → Int32)) (p7 : Int32) (p8 : Int32) (p9 : Int32) (p10 : Int32)  : Option (Int64 × Int32 × Int32 × Int32 × Int32 × Int64 × Int32 × Int32) :=
  ((e_hP_X8_find p2 p3 p1).bind fun z20 => if z20 = (-1 : Int32) then ((e_hP_X9_goesOn p0 p4 p5 p6 p7 p8 p1).bind fun z38 => some (p1, z38.1, z38.2.1, z38.2.2.1, z38.2.2.2.1, z38.2.2.2.2, p9, p10)) else ((e_hP_X9_flaw p0 p9 p7 p10 (3 : Int32)).bind fun z29 => (e_hP_X9_goesOn z29.2.2 p4 p5 p6 p7 p8 p1).bind fun z38 => some (p1, z38.1, z38.2.1, z38.2.2.1, z38.2.2.2.1, z38.2.2.2.2, z29.1, z29.2.1)))
noncomputable def e_hP_X9_readFresh (p0 : Int32) (p1 : Int64) (p2 : Int32) (p3 : (Nat → Int64)) (p4 : Int32) (p5 : Int32) (p6 : (Nat → Int32)) (p7 : Int32) (p8 : Int32) (p9 : Int32) (p10 : Int32)  : Option (Int64 × Int32 × Int32 × Int32 × Int32 × Int64 × Int32 × Int32) :=
  ((e_hP_X9_isName p0 p1).bind fun z1 => if z1 = (0 : Int32) then ((e_hP_X9_flaw p0 p9 p7 p10 (1 : Int32)).bind fun z9 => J_hP_X9_readFresh_12 z9.2.2 p1 p2 p3 p4 p5 p6 p7 p8 z9.1 z9.2.1 ) else J_hP_X9_readFresh_12 p0 p1 p2 p3 p4 p5 p6 p7 p8 p9 p10 )
set_option maxRecDepth 100000 in
set_option maxHeartbeats 4000000 in
theorem jn_hP_X9_readFresh_12 {g0 g1 g2 g3 g4 g5 g6 g7 g8 g9 g10 g11 g12 g13 g14 g15 g16 g17 g18 g19 g20 g21 g22 g23 g24 g25 g26 : Int32} {a0 a1 a2 a3 a4 a5 a6 a7 a8 a9 a10 a11 a12 a13 a14 a15 a16 a17 a18 a19 a20 a21 a22 a23 : (Nat → Int32)} {b0 : (Nat → Int64)} {w0 : Int64} {k0 k1 k2 k3 k4 k5 k6 k7 k8 k9 k10 k11 k12 k13 k14 k15 : xC} {cv : Value} (d n0 : Nat)  (res : Int64 × Int32 × Int32 × Int32 × Int32 × Int64 × Int32 × Int32) (h : J_hP_X9_readFresh_12 g6 w0 g26 b0 g5 g4 a0 g7 g8 g9 g10  = some res) : xW xks YX9_readFresh (d + 8) 0 0 n0 (xZ 0 0 n0 (some (.long res.1)) (hP g0 g1 g2 g3 g4 res.2.2.2.1 res.2.2.1 res.2.1 res.2.2.2.2.1 res.2.2.2.2.2.2.1 res.2.2.2.2.2.2.2 g11 g12 g13 g14 g15 g16 g17 g18 g19 g20 g21 g22 g23 g24 g25 g26 a0 a1 a2 a3 a4 a5 a6 a7 a8 a9 a10 a11 a12 a13 a14 a15 a16 a17 a18 a19 a20 a21 a22 a23 b0 res.2.2.2.2.2.1 k0 k1 k2 k3 k4 k5 k6 k7 k8 k9 k10 k11 k12 k13 k14 k15 cv (.ref 27))) 0 0 12 [some (.ref 0), none, none] [] (hP g0 g1 g2 g3 g4 g5 g6 g7 g8 g9 g10 g11 g12 g13 g14 g15 g16 g17 g18 g19 g20 g21 g22 g23 g24 g25 g26 a0 a1 a2 a3 a4 a5 a6 a7 a8 a9 a10 a11 a12 a13 a14 a15 a16 a17 a18 a19 a20 a21 a22 a23 b0 w0 k0 k1 k2 k3 k4 k5 k6 k7 k8 k9 k10 k11 k12 k13 k14 k15 cv (.ref 27)) := by
  unfold J_hP_X9_readFresh_12 at h
  refine x_aload_n dX9_readFresh_12 rfl ?_
  refine x_get fX9_152 dX9_readFresh_13 rfl rfl rfl ?_
  refine x_aload_n dX9_readFresh_16 rfl ?_
  refine x_get fX9_93 dX9_readFresh_17 rfl rfl rfl ?_
  obtain ⟨z20, y20, h⟩ := xbind h
  refine x_callV (t_hP_X8_find w0 z20 y20 (d + 6)) kX9_165 dX9_readFresh_20 rfl rfl rfl rfl rfl (Nat.le_of_ble_eq_true rfl) (Nat.le_of_ble_eq_true rfl) rfl rfl (Or.inl rfl) ?_
  refine x_iconst (-1 : Int32) dX9_readFresh_23 (by decide) ?_
  refine x_icmp_eq 32 dX9_readFresh_24 (by decide) (fun q => ?_) (fun q => ?_)
  · have h := xif_t q h
    refine x_aload_n dX9_readFresh_32 rfl ?_
    refine x_get fX9_93 dX9_readFresh_33 rfl rfl rfl ?_
    refine x_lstore_n (pl' := [some (.ref 0), some (.long w0), none]) dX9_readFresh_36 (by decide) rfl ?_
    refine x_aload_n dX9_readFresh_37 rfl ?_
    obtain ⟨z38, y38, h⟩ := xbind h
    refine x_callV (t_hP_X9_goesOn  z38 y38 (d + 5)) kX9_113 dX9_readFresh_38 rfl rfl rfl rfl rfl (Nat.le_of_ble_eq_true rfl) (Nat.le_of_ble_eq_true rfl) rfl rfl (Or.inl rfl) ?_
    refine x_lload_n dX9_readFresh_41 rfl ?_
    cases h
    exact x_lret2 dX9_readFresh_42 rfl rfl
  · have h := xif_f q h
    refine x_aload_n dX9_readFresh_27 rfl ?_
    refine x_iconst (3 : Int32) dX9_readFresh_28 (by decide) ?_
    obtain ⟨z29, y29, h⟩ := xbind h
    refine x_callV (t_hP_X9_flaw (3 : Int32) z29 y29 (d + 6)) kX9_120 dX9_readFresh_29 rfl rfl rfl rfl rfl (Nat.le_of_ble_eq_true rfl) (Nat.le_of_ble_eq_true rfl) rfl rfl (Or.inl rfl) ?_
    refine x_aload_n dX9_readFresh_32 rfl ?_
    refine x_get fX9_93 dX9_readFresh_33 rfl rfl rfl ?_
    refine x_lstore_n (pl' := [some (.ref 0), some (.long w0), none]) dX9_readFresh_36 (by decide) rfl ?_
    refine x_aload_n dX9_readFresh_37 rfl ?_
    obtain ⟨z38, y38, h⟩ := xbind h
    refine x_callV (t_hP_X9_goesOn  z38 y38 (d + 5)) kX9_113 dX9_readFresh_38 rfl rfl rfl rfl rfl (Nat.le_of_ble_eq_true rfl) (Nat.le_of_ble_eq_true rfl) rfl rfl (Or.inl rfl) ?_
    refine x_lload_n dX9_readFresh_41 rfl ?_
    cases h
    exact x_lret2 dX9_readFresh_42 rfl rfl
set_option maxRecDepth 100000 in
set_option maxHeartbeats 4000000 in
theorem t_hP_X9_readFresh {g0 g1 g2 g3 g4 g5 g6 g7 g8 g9 g10 g11 g12 g13 g14 g15 g16 g17 g18 g19 g20 g21 g22 g23 g24 g25 g26 : Int32} {a0 a1 a2 a3 a4 a5 a6 a7 a8 a9 a10 a11 a12 a13 a14 a15 a16 a17 a18 a19 a20 a21 a22 a23 : (Nat → Int32)} {b0 : (Nat → Int64)} {w0 : Int64} {k0 k1 k2 k3 k4 k5 k6 k7 k8 k9 k10 k11 k12 k13 k14 k15 : xC} {cv : Value}  (res : Int64 × Int32 × Int32 × Int32 × Int32 × Int64 × Int32 × Int32) (h : e_hP_X9_readFresh g6 w0 g26 b0 g5 g4 a0 g7 g8 g9 g10  = some res) (d : Nat) : xMet xks YX9_readFresh (d + 8) 0 0 [.ref 0] (hP g0 g1 g2 g3 g4 g5 g6 g7 g8 g9 g10 g11 g12 g13 g14 g15 g16 g17 g18 g19 g20 g21 g22 g23 g24 g25 g26 a0 a1 a2 a3 a4 a5 a6 a7 a8 a9 a10 a11 a12 a13 a14 a15 a16 a17 a18 a19 a20 a21 a22 a23 b0 w0 k0 k1 k2 k3 k4 k5 k6 k7 k8 k9 k10 k11 k12 k13 k14 k15 cv (.ref 27)) (some (.long res.1)) (hP g0 g1 g2 g3 g4 res.2.2.2.1 res.2.2.1 res.2.1 res.2.2.2.2.1 res.2.2.2.2.2.2.1 res.2.2.2.2.2.2.2 g11 g12 g13 g14 g15 g16 g17 g18 g19 g20 g21 g22 g23 g24 g25 g26 a0 a1 a2 a3 a4 a5 a6 a7 a8 a9 a10 a11 a12 a13 a14 a15 a16 a17 a18 a19 a20 a21 a22 a23 b0 res.2.2.2.2.2.1 k0 k1 k2 k3 k4 k5 k6 k7 k8 k9 k10 k11 k12 k13 k14 k15 cv (.ref 27)) := by
  unfold e_hP_X9_readFresh at h
  refine xMet_of (pl := [some (.ref 0), none, none]) (by decide) (Nat.le_of_ble_eq_true rfl) rfl (Nat.le_of_ble_eq_true rfl) ?_
  refine x_aload_n dX9_readFresh_0 rfl ?_
  obtain ⟨z1, y1, h⟩ := xbind h
  refine x_callV (t_hP_X9_isName  z1 y1 (d + 0)) kX9_161 dX9_readFresh_1 rfl rfl rfl rfl rfl (Nat.le_of_ble_eq_true rfl) (Nat.le_of_ble_eq_true rfl) rfl rfl (Or.inl rfl) ?_
  refine x_if_ne 12 dX9_readFresh_4 (by decide) (fun q => ?_) (fun q => ?_)
  · have h := xif_f q h
    refine x_weak (pl2 := [some (.ref 0), none, none]) ⟨rfl, trivial⟩ ?_
    exact jn_hP_X9_readFresh_12 d _  res h
  · have h := xif_t q h
    refine x_aload_n dX9_readFresh_7 rfl ?_
    refine x_iconst (1 : Int32) dX9_readFresh_8 (by decide) ?_
    obtain ⟨z9, y9, h⟩ := xbind h
    refine x_callV (t_hP_X9_flaw (1 : Int32) z9 y9 (d + 6)) kX9_120 dX9_readFresh_9 rfl rfl rfl rfl rfl (Nat.le_of_ble_eq_true rfl) (Nat.le_of_ble_eq_true rfl) rfl rfl (Or.inl rfl) ?_
    refine x_weak (pl2 := [some (.ref 0), none, none]) ⟨rfl, trivial⟩ ?_
    exact jn_hP_X9_readFresh_12 d _  res h
set_option maxRecDepth 100000 in
set_option maxHeartbeats 4000000 in
theorem lp_hP_X9_packed_10_4 {g0 g1 g2 g3 g4 g5 g6 g7 g8 g9 g10 g11 g12 g13 g14 g15 g16 g17 g18 g19 g20 g21 g22 g23 g24 g25 g26 : Int32} {a0 a1 a2 a3 a4 a5 a6 a7 a8 a9 a10 a11 a12 a13 a14 a15 a16 a17 a18 a19 a20 a21 a22 a23 : (Nat → Int32)} {b0 : (Nat → Int64)} {w0 : Int64} {k0 k1 k2 k3 k4 k5 k6 k7 k8 k9 k10 k11 k12 k13 k14 k15 : xC} {cv : Value} (d n0 : Nat)  (res : Int64) (K : Int64 → Int32 → Option (Int64)) (hK : ∀ (l1_4 : Int64) (l3_4 : Int32), K l1_4 l3_4 = some res → xW xks YX9_packed (d + 5) 0 0 n0 (xZ 0 0 n0 (some (.long res)) (hP g0 g1 g2 g3 g4 g5 g6 g7 g8 g9 g10 g11 g12 g13 g14 g15 g16 g17 g18 g19 g20 g21 g22 g23 g24 g25 g26 a0 a1 a2 a3 a4 a5 a6 a7 a8 a9 a10 a11 a12 a13 a14 a15 a16 a17 a18 a19 a20 a21 a22 a23 b0 w0 k0 k1 k2 k3 k4 k5 k6 k7 k8 k9 k10 k11 k12 k13 k14 k15 cv (.ref 27))) 0 0 36 [none, some (.long l1_4), none, none] [] (hP g0 g1 g2 g3 g4 g5 g6 g7 g8 g9 g10 g11 g12 g13 g14 g15 g16 g17 g18 g19 g20 g21 g22 g23 g24 g25 g26 a0 a1 a2 a3 a4 a5 a6 a7 a8 a9 a10 a11 a12 a13 a14 a15 a16 a17 a18 a19 a20 a21 a22 a23 b0 w0 k0 k1 k2 k3 k4 k5 k6 k7 k8 k9 k10 k11 k12 k13 k14 k15 cv (.ref 27))) : ∀ (n : Nat) (l1_4 : Int64) (l3_4 : Int32), L_hP_X9_packed_4 (xsy 25)  K n l1_4 l3_4 = some res → xW xks YX9_packed (d + 5) 0 0 n0 (xZ 0 0 n0 (some (.long res)) (hP g0 g1 g2 g3 g4 g5 g6 g7 g8 g9 g10 g11 g12 g13 g14 g15 g16 g17 g18 g19 g20 g21 g22 g23 g24 g25 g26 a0 a1 a2 a3 a4 a5 a6 a7 a8 a9 a10 a11 a12 a13 a14 a15 a16 a17 a18 a19 a20 a21 a22 a23 b0 w0 k0 k1 k2 k3 k4 k5 k6 k7 k8 k9 k10 k11 k12 k13 k14 k15 cv (.ref 27))) 0 0 4 [some (.ref 1025), some (.long l1_4), none, some (.int l3_4)] [] (hP g0 g1 g2 g3 g4 g5 g6 g7 g8 g9 g10 g11 g12 g13 g14 g15 g16 g17 g18 g19 g20 g21 g22 g23 g24 g25 g26 a0 a1 a2 a3 a4 a5 a6 a7 a8 a9 a10 a11 a12 a13 a14 a15 a16 a17 a18 a19 a20 a21 a22 a23 b0 w0 k0 k1 k2 k3 k4 k5 k6 k7 k8 k9 k10 k11 k12 k13 k14 k15 cv (.ref 27)) := by
  intro n
  induction n with
  | zero =>
    intro l1_4 l3_4 h
    cases (show (none : Option (Int64)) = some res from h)
  | succ n4 ih4 =>
    intro l1_4 l3_4 h
    unfold L_hP_X9_packed_4 at h
    refine x_iload_n dX9_packed_4 rfl ?_
    refine x_aload_n dX9_packed_5 rfl ?_
    refine x_slen (k := 25) (s := xsy 25) rfl rfl (Nat.le_of_ble_eq_true rfl) kX9_65 dX9_packed_6 (Nat.le_of_ble_eq_true rfl) ?_
    refine x_icmp_ge 36 dX9_packed_9 (by decide) (fun q => ?_) (fun q => ?_)
    · have h := xif_t q h
      refine x_weak (pl2 := [none, some (.long l1_4), none, none]) ⟨rfl, trivial⟩ ?_
      exact hK l1_4 l3_4 h
    · have h := xif_f q h
      refine x_ldc2 iX9_71 dX9_packed_12 ?_
      refine x_lload_n dX9_packed_15 rfl ?_
      refine x_lmul dX9_packed_16 ?_
      refine x_aload_n dX9_packed_17 rfl ?_
      refine x_iload_n dX9_packed_18 rfl ?_
      obtain ⟨q19, h⟩ := xix_of h
      refine x_schar (k := 25) (s := xsy 25) rfl rfl q19 (Nat.le_of_ble_eq_true rfl) kX9_73 dX9_packed_19 (Nat.le_of_ble_eq_true rfl) ?_
      refine x_bipush (97 : Int32) dX9_packed_22 (by decide) ?_
      refine x_isub dX9_packed_24 ?_
      refine x_iconst (1 : Int32) dX9_packed_25 (by decide) ?_
      refine x_iadd dX9_packed_26 ?_
      refine x_i2l dX9_packed_27 ?_
      refine x_ladd dX9_packed_28 ?_
      refine x_lstore_n (pl' := [some (.ref 1025), some (.long (((32 : Int64) * l1_4) + (((xch (xsy 25) l3_4) - (97 : Int32)) + (1 : Int32)).toInt64)), none, some (.int l3_4)]) dX9_packed_29 (by decide) rfl ?_
      refine x_iincK (1 : Int32) (pl' := [some (.ref 1025), some (.long (((32 : Int64) * l1_4) + (((xch (xsy 25) l3_4) - (97 : Int32)) + (1 : Int32)).toInt64)), none, some (.int (l3_4 + (1 : Int32)))]) dX9_packed_30 rfl (by decide) (by decide) rfl ?_
      refine x_goto 4 dX9_packed_33 (by decide) ?_
      refine x_weak (pl2 := [some (.ref 1025), some (.long (((32 : Int64) * l1_4) + (((xch (xsy 25) l3_4) - (97 : Int32)) + (1 : Int32)).toInt64)), none, some (.int (l3_4 + (1 : Int32)))]) ⟨rfl, rfl, rfl, trivial⟩ ?_
      exact ih4 (((32 : Int64) * l1_4) + (((xch (xsy 25) l3_4) - (97 : Int32)) + (1 : Int32)).toInt64) (l3_4 + (1 : Int32)) h
set_option maxRecDepth 100000 in
set_option maxHeartbeats 4000000 in
theorem t_hP_X9_packed_10 {g0 g1 g2 g3 g4 g5 g6 g7 g8 g9 g10 g11 g12 g13 g14 g15 g16 g17 g18 g19 g20 g21 g22 g23 g24 g25 g26 : Int32} {a0 a1 a2 a3 a4 a5 a6 a7 a8 a9 a10 a11 a12 a13 a14 a15 a16 a17 a18 a19 a20 a21 a22 a23 : (Nat → Int32)} {b0 : (Nat → Int64)} {w0 : Int64} {k0 k1 k2 k3 k4 k5 k6 k7 k8 k9 k10 k11 k12 k13 k14 k15 : xC} {cv : Value}  (res : Int64) (h : e_hP_X9_packed (xsy 25)  = some res) (d : Nat) : xMet xks YX9_packed (d + 5) 0 0 [.ref 1025] (hP g0 g1 g2 g3 g4 g5 g6 g7 g8 g9 g10 g11 g12 g13 g14 g15 g16 g17 g18 g19 g20 g21 g22 g23 g24 g25 g26 a0 a1 a2 a3 a4 a5 a6 a7 a8 a9 a10 a11 a12 a13 a14 a15 a16 a17 a18 a19 a20 a21 a22 a23 b0 w0 k0 k1 k2 k3 k4 k5 k6 k7 k8 k9 k10 k11 k12 k13 k14 k15 cv (.ref 27)) (some (.long res)) (hP g0 g1 g2 g3 g4 g5 g6 g7 g8 g9 g10 g11 g12 g13 g14 g15 g16 g17 g18 g19 g20 g21 g22 g23 g24 g25 g26 a0 a1 a2 a3 a4 a5 a6 a7 a8 a9 a10 a11 a12 a13 a14 a15 a16 a17 a18 a19 a20 a21 a22 a23 b0 w0 k0 k1 k2 k3 k4 k5 k6 k7 k8 k9 k10 k11 k12 k13 k14 k15 cv (.ref 27)) := by
  unfold e_hP_X9_packed at h
  refine xMet_of (pl := [some (.ref 1025), none, none, none]) (by decide) (Nat.le_of_ble_eq_true rfl) rfl (Nat.le_of_ble_eq_true rfl) ?_
  refine x_lconst (0 : Int64) dX9_packed_0 (by decide) ?_
  refine x_lstore_n (pl' := [some (.ref 1025), some (.long (0 : Int64)), none, none]) dX9_packed_1 (by decide) rfl ?_
  refine x_iconst (0 : Int32) dX9_packed_2 (by decide) ?_
  refine x_istore_n (pl' := [some (.ref 1025), some (.long (0 : Int64)), none, some (.int (0 : Int32))]) dX9_packed_3 (by decide) rfl ?_
  refine x_weak (pl2 := [some (.ref 1025), some (.long (0 : Int64)), none, some (.int (0 : Int32))]) ⟨rfl, rfl, rfl, trivial⟩ ?_
  refine lp_hP_X9_packed_10_4 d _  res _ (fun l1_4 l3_4 h => ?_) 200000 (0 : Int64) (0 : Int32) h
  refine x_lload_n dX9_packed_36 rfl ?_
  cases h
  exact x_lret2 dX9_packed_37 rfl rfl
set_option maxRecDepth 100000 in
set_option maxHeartbeats 4000000 in
theorem t_hP_X9_isWord_10 {g0 g1 g2 g3 g4 g5 g6 g7 g8 g9 g10 g11 g12 g13 g14 g15 g16 g17 g18 g19 g20 g21 g22 g23 g24 g25 g26 : Int32} {a0 a1 a2 a3 a4 a5 a6 a7 a8 a9 a10 a11 a12 a13 a14 a15 a16 a17 a18 a19 a20 a21 a22 a23 : (Nat → Int32)} {b0 : (Nat → Int64)} {w0 : Int64} {k0 k1 k2 k3 k4 k5 k6 k7 k8 k9 k10 k11 k12 k13 k14 k15 : xC} {cv : Value}  (res : Int32) (h : e_hP_X9_isWord g6 w0 (xsy 25)  = some res) (d : Nat) : xMet xks YX9_isWord (d + 6) 0 0 [.ref 0, .ref 1025] (hP g0 g1 g2 g3 g4 g5 g6 g7 g8 g9 g10 g11 g12 g13 g14 g15 g16 g17 g18 g19 g20 g21 g22 g23 g24 g25 g26 a0 a1 a2 a3 a4 a5 a6 a7 a8 a9 a10 a11 a12 a13 a14 a15 a16 a17 a18 a19 a20 a21 a22 a23 b0 w0 k0 k1 k2 k3 k4 k5 k6 k7 k8 k9 k10 k11 k12 k13 k14 k15 cv (.ref 27)) (some (.int res)) (hP g0 g1 g2 g3 g4 g5 g6 g7 g8 g9 g10 g11 g12 g13 g14 g15 g16 g17 g18 g19 g20 g21 g22 g23 g24 g25 g26 a0 a1 a2 a3 a4 a5 a6 a7 a8 a9 a10 a11 a12 a13 a14 a15 a16 a17 a18 a19 a20 a21 a22 a23 b0 w0 k0 k1 k2 k3 k4 k5 k6 k7 k8 k9 k10 k11 k12 k13 k14 k15 cv (.ref 27)) := by
  unfold e_hP_X9_isWord at h
  refine xMet_of (pl := [some (.ref 0), some (.ref 1025)]) (by decide) (Nat.le_of_ble_eq_true rfl) rfl (Nat.le_of_ble_eq_true rfl) ?_
  refine x_aload_n dX9_isWord_0 rfl ?_
  refine x_get fX9_77 dX9_isWord_1 rfl rfl rfl ?_
  refine x_iconst (2 : Int32) dX9_isWord_4 (by decide) ?_
  refine x_icmp_ne 24 dX9_isWord_5 (by decide) (fun q => ?_) (fun q => ?_)
  · have h := xif_f q h
    refine x_iconst (0 : Int32) dX9_isWord_24 (by decide) ?_
    cases h
    exact x_zret2 dX9_isWord_25 rfl rfl rfl
  · have h := xif_t q h
    refine x_aload_n dX9_isWord_8 rfl ?_
    refine x_get fX9_93 dX9_isWord_9 rfl rfl rfl ?_
    refine x_aload_n dX9_isWord_12 rfl ?_
    obtain ⟨z13, y13, h⟩ := xbind h
    refine x_callS (t_hP_X9_packed_10  z13 y13 (d + 0)) kX9_109 dX9_isWord_13 rfl rfl (Nat.le_of_ble_eq_true rfl) (Nat.le_of_ble_eq_true rfl) rfl rfl (Or.inl rfl) ?_
    refine x_lcmp dX9_isWord_16 ?_
    refine x_if_ne 24 dX9_isWord_17 (by decide) (fun q => ?_) (fun q => ?_)
    · have h := xif_f q h
      refine x_iconst (0 : Int32) dX9_isWord_24 (by decide) ?_
      cases h
      exact x_zret2 dX9_isWord_25 rfl rfl rfl
    · have h := xif_t q h
      refine x_iconst (1 : Int32) dX9_isWord_20 (by decide) ?_
      refine x_goto 25 dX9_isWord_21 (by decide) ?_
      cases h
      exact x_zret2 dX9_isWord_25 rfl rfl rfl
set_option maxRecDepth 100000 in
set_option maxHeartbeats 4000000 in
theorem lp_hP_X9_packed_11_4 {g0 g1 g2 g3 g4 g5 g6 g7 g8 g9 g10 g11 g12 g13 g14 g15 g16 g17 g18 g19 g20 g21 g22 g23 g24 g25 g26 : Int32} {a0 a1 a2 a3 a4 a5 a6 a7 a8 a9 a10 a11 a12 a13 a14 a15 a16 a17 a18 a19 a20 a21 a22 a23 : (Nat → Int32)} {b0 : (Nat → Int64)} {w0 : Int64} {k0 k1 k2 k3 k4 k5 k6 k7 k8 k9 k10 k11 k12 k13 k14 k15 : xC} {cv : Value} (d n0 : Nat)  (res : Int64) (K : Int64 → Int32 → Option (Int64)) (hK : ∀ (l1_4 : Int64) (l3_4 : Int32), K l1_4 l3_4 = some res → xW xks YX9_packed (d + 5) 0 0 n0 (xZ 0 0 n0 (some (.long res)) (hP g0 g1 g2 g3 g4 g5 g6 g7 g8 g9 g10 g11 g12 g13 g14 g15 g16 g17 g18 g19 g20 g21 g22 g23 g24 g25 g26 a0 a1 a2 a3 a4 a5 a6 a7 a8 a9 a10 a11 a12 a13 a14 a15 a16 a17 a18 a19 a20 a21 a22 a23 b0 w0 k0 k1 k2 k3 k4 k5 k6 k7 k8 k9 k10 k11 k12 k13 k14 k15 cv (.ref 27))) 0 0 36 [none, some (.long l1_4), none, none] [] (hP g0 g1 g2 g3 g4 g5 g6 g7 g8 g9 g10 g11 g12 g13 g14 g15 g16 g17 g18 g19 g20 g21 g22 g23 g24 g25 g26 a0 a1 a2 a3 a4 a5 a6 a7 a8 a9 a10 a11 a12 a13 a14 a15 a16 a17 a18 a19 a20 a21 a22 a23 b0 w0 k0 k1 k2 k3 k4 k5 k6 k7 k8 k9 k10 k11 k12 k13 k14 k15 cv (.ref 27))) : ∀ (n : Nat) (l1_4 : Int64) (l3_4 : Int32), L_hP_X9_packed_4 (xsy 26)  K n l1_4 l3_4 = some res → xW xks YX9_packed (d + 5) 0 0 n0 (xZ 0 0 n0 (some (.long res)) (hP g0 g1 g2 g3 g4 g5 g6 g7 g8 g9 g10 g11 g12 g13 g14 g15 g16 g17 g18 g19 g20 g21 g22 g23 g24 g25 g26 a0 a1 a2 a3 a4 a5 a6 a7 a8 a9 a10 a11 a12 a13 a14 a15 a16 a17 a18 a19 a20 a21 a22 a23 b0 w0 k0 k1 k2 k3 k4 k5 k6 k7 k8 k9 k10 k11 k12 k13 k14 k15 cv (.ref 27))) 0 0 4 [some (.ref 1026), some (.long l1_4), none, some (.int l3_4)] [] (hP g0 g1 g2 g3 g4 g5 g6 g7 g8 g9 g10 g11 g12 g13 g14 g15 g16 g17 g18 g19 g20 g21 g22 g23 g24 g25 g26 a0 a1 a2 a3 a4 a5 a6 a7 a8 a9 a10 a11 a12 a13 a14 a15 a16 a17 a18 a19 a20 a21 a22 a23 b0 w0 k0 k1 k2 k3 k4 k5 k6 k7 k8 k9 k10 k11 k12 k13 k14 k15 cv (.ref 27)) := by
  intro n
  induction n with
  | zero =>
    intro l1_4 l3_4 h
    cases (show (none : Option (Int64)) = some res from h)
  | succ n4 ih4 =>
    intro l1_4 l3_4 h
    unfold L_hP_X9_packed_4 at h
    refine x_iload_n dX9_packed_4 rfl ?_
    refine x_aload_n dX9_packed_5 rfl ?_
    refine x_slen (k := 26) (s := xsy 26) rfl rfl (Nat.le_of_ble_eq_true rfl) kX9_65 dX9_packed_6 (Nat.le_of_ble_eq_true rfl) ?_
    refine x_icmp_ge 36 dX9_packed_9 (by decide) (fun q => ?_) (fun q => ?_)
    · have h := xif_t q h
      refine x_weak (pl2 := [none, some (.long l1_4), none, none]) ⟨rfl, trivial⟩ ?_
      exact hK l1_4 l3_4 h
    · have h := xif_f q h
      refine x_ldc2 iX9_71 dX9_packed_12 ?_
      refine x_lload_n dX9_packed_15 rfl ?_
      refine x_lmul dX9_packed_16 ?_
      refine x_aload_n dX9_packed_17 rfl ?_
      refine x_iload_n dX9_packed_18 rfl ?_
      obtain ⟨q19, h⟩ := xix_of h
      refine x_schar (k := 26) (s := xsy 26) rfl rfl q19 (Nat.le_of_ble_eq_true rfl) kX9_73 dX9_packed_19 (Nat.le_of_ble_eq_true rfl) ?_
      refine x_bipush (97 : Int32) dX9_packed_22 (by decide) ?_
      refine x_isub dX9_packed_24 ?_
      refine x_iconst (1 : Int32) dX9_packed_25 (by decide) ?_
      refine x_iadd dX9_packed_26 ?_
      refine x_i2l dX9_packed_27 ?_
      refine x_ladd dX9_packed_28 ?_
      refine x_lstore_n (pl' := [some (.ref 1026), some (.long (((32 : Int64) * l1_4) + (((xch (xsy 26) l3_4) - (97 : Int32)) + (1 : Int32)).toInt64)), none, some (.int l3_4)]) dX9_packed_29 (by decide) rfl ?_
      refine x_iincK (1 : Int32) (pl' := [some (.ref 1026), some (.long (((32 : Int64) * l1_4) + (((xch (xsy 26) l3_4) - (97 : Int32)) + (1 : Int32)).toInt64)), none, some (.int (l3_4 + (1 : Int32)))]) dX9_packed_30 rfl (by decide) (by decide) rfl ?_
      refine x_goto 4 dX9_packed_33 (by decide) ?_
      refine x_weak (pl2 := [some (.ref 1026), some (.long (((32 : Int64) * l1_4) + (((xch (xsy 26) l3_4) - (97 : Int32)) + (1 : Int32)).toInt64)), none, some (.int (l3_4 + (1 : Int32)))]) ⟨rfl, rfl, rfl, trivial⟩ ?_
      exact ih4 (((32 : Int64) * l1_4) + (((xch (xsy 26) l3_4) - (97 : Int32)) + (1 : Int32)).toInt64) (l3_4 + (1 : Int32)) h
set_option maxRecDepth 100000 in
set_option maxHeartbeats 4000000 in
theorem t_hP_X9_packed_11 {g0 g1 g2 g3 g4 g5 g6 g7 g8 g9 g10 g11 g12 g13 g14 g15 g16 g17 g18 g19 g20 g21 g22 g23 g24 g25 g26 : Int32} {a0 a1 a2 a3 a4 a5 a6 a7 a8 a9 a10 a11 a12 a13 a14 a15 a16 a17 a18 a19 a20 a21 a22 a23 : (Nat → Int32)} {b0 : (Nat → Int64)} {w0 : Int64} {k0 k1 k2 k3 k4 k5 k6 k7 k8 k9 k10 k11 k12 k13 k14 k15 : xC} {cv : Value}  (res : Int64) (h : e_hP_X9_packed (xsy 26)  = some res) (d : Nat) : xMet xks YX9_packed (d + 5) 0 0 [.ref 1026] (hP g0 g1 g2 g3 g4 g5 g6 g7 g8 g9 g10 g11 g12 g13 g14 g15 g16 g17 g18 g19 g20 g21 g22 g23 g24 g25 g26 a0 a1 a2 a3 a4 a5 a6 a7 a8 a9 a10 a11 a12 a13 a14 a15 a16 a17 a18 a19 a20 a21 a22 a23 b0 w0 k0 k1 k2 k3 k4 k5 k6 k7 k8 k9 k10 k11 k12 k13 k14 k15 cv (.ref 27)) (some (.long res)) (hP g0 g1 g2 g3 g4 g5 g6 g7 g8 g9 g10 g11 g12 g13 g14 g15 g16 g17 g18 g19 g20 g21 g22 g23 g24 g25 g26 a0 a1 a2 a3 a4 a5 a6 a7 a8 a9 a10 a11 a12 a13 a14 a15 a16 a17 a18 a19 a20 a21 a22 a23 b0 w0 k0 k1 k2 k3 k4 k5 k6 k7 k8 k9 k10 k11 k12 k13 k14 k15 cv (.ref 27)) := by
  unfold e_hP_X9_packed at h
  refine xMet_of (pl := [some (.ref 1026), none, none, none]) (by decide) (Nat.le_of_ble_eq_true rfl) rfl (Nat.le_of_ble_eq_true rfl) ?_
  refine x_lconst (0 : Int64) dX9_packed_0 (by decide) ?_
  refine x_lstore_n (pl' := [some (.ref 1026), some (.long (0 : Int64)), none, none]) dX9_packed_1 (by decide) rfl ?_
  refine x_iconst (0 : Int32) dX9_packed_2 (by decide) ?_
  refine x_istore_n (pl' := [some (.ref 1026), some (.long (0 : Int64)), none, some (.int (0 : Int32))]) dX9_packed_3 (by decide) rfl ?_
  refine x_weak (pl2 := [some (.ref 1026), some (.long (0 : Int64)), none, some (.int (0 : Int32))]) ⟨rfl, rfl, rfl, trivial⟩ ?_
  refine lp_hP_X9_packed_11_4 d _  res _ (fun l1_4 l3_4 h => ?_) 200000 (0 : Int64) (0 : Int32) h
  refine x_lload_n dX9_packed_36 rfl ?_
  cases h
  exact x_lret2 dX9_packed_37 rfl rfl
set_option maxRecDepth 100000 in
set_option maxHeartbeats 4000000 in
theorem t_hP_X9_isWord_11 {g0 g1 g2 g3 g4 g5 g6 g7 g8 g9 g10 g11 g12 g13 g14 g15 g16 g17 g18 g19 g20 g21 g22 g23 g24 g25 g26 : Int32} {a0 a1 a2 a3 a4 a5 a6 a7 a8 a9 a10 a11 a12 a13 a14 a15 a16 a17 a18 a19 a20 a21 a22 a23 : (Nat → Int32)} {b0 : (Nat → Int64)} {w0 : Int64} {k0 k1 k2 k3 k4 k5 k6 k7 k8 k9 k10 k11 k12 k13 k14 k15 : xC} {cv : Value}  (res : Int32) (h : e_hP_X9_isWord g6 w0 (xsy 26)  = some res) (d : Nat) : xMet xks YX9_isWord (d + 6) 0 0 [.ref 0, .ref 1026] (hP g0 g1 g2 g3 g4 g5 g6 g7 g8 g9 g10 g11 g12 g13 g14 g15 g16 g17 g18 g19 g20 g21 g22 g23 g24 g25 g26 a0 a1 a2 a3 a4 a5 a6 a7 a8 a9 a10 a11 a12 a13 a14 a15 a16 a17 a18 a19 a20 a21 a22 a23 b0 w0 k0 k1 k2 k3 k4 k5 k6 k7 k8 k9 k10 k11 k12 k13 k14 k15 cv (.ref 27)) (some (.int res)) (hP g0 g1 g2 g3 g4 g5 g6 g7 g8 g9 g10 g11 g12 g13 g14 g15 g16 g17 g18 g19 g20 g21 g22 g23 g24 g25 g26 a0 a1 a2 a3 a4 a5 a6 a7 a8 a9 a10 a11 a12 a13 a14 a15 a16 a17 a18 a19 a20 a21 a22 a23 b0 w0 k0 k1 k2 k3 k4 k5 k6 k7 k8 k9 k10 k11 k12 k13 k14 k15 cv (.ref 27)) := by
  unfold e_hP_X9_isWord at h
  refine xMet_of (pl := [some (.ref 0), some (.ref 1026)]) (by decide) (Nat.le_of_ble_eq_true rfl) rfl (Nat.le_of_ble_eq_true rfl) ?_
  refine x_aload_n dX9_isWord_0 rfl ?_
  refine x_get fX9_77 dX9_isWord_1 rfl rfl rfl ?_
  refine x_iconst (2 : Int32) dX9_isWord_4 (by decide) ?_
  refine x_icmp_ne 24 dX9_isWord_5 (by decide) (fun q => ?_) (fun q => ?_)
  · have h := xif_f q h
    refine x_iconst (0 : Int32) dX9_isWord_24 (by decide) ?_
    cases h
    exact x_zret2 dX9_isWord_25 rfl rfl rfl
  · have h := xif_t q h
    refine x_aload_n dX9_isWord_8 rfl ?_
    refine x_get fX9_93 dX9_isWord_9 rfl rfl rfl ?_
    refine x_aload_n dX9_isWord_12 rfl ?_
    obtain ⟨z13, y13, h⟩ := xbind h
    refine x_callS (t_hP_X9_packed_11  z13 y13 (d + 0)) kX9_109 dX9_isWord_13 rfl rfl (Nat.le_of_ble_eq_true rfl) (Nat.le_of_ble_eq_true rfl) rfl rfl (Or.inl rfl) ?_
    refine x_lcmp dX9_isWord_16 ?_
    refine x_if_ne 24 dX9_isWord_17 (by decide) (fun q => ?_) (fun q => ?_)
    · have h := xif_f q h
      refine x_iconst (0 : Int32) dX9_isWord_24 (by decide) ?_
      cases h
      exact x_zret2 dX9_isWord_25 rfl rfl rfl
    · have h := xif_t q h
      refine x_iconst (1 : Int32) dX9_isWord_20 (by decide) ?_
      refine x_goto 25 dX9_isWord_21 (by decide) ?_
      cases h
      exact x_zret2 dX9_isWord_25 rfl rfl rfl
set_option maxRecDepth 100000 in
set_option maxHeartbeats 4000000 in
theorem lp_hP_X9_packed_12_4 {g0 g1 g2 g3 g4 g5 g6 g7 g8 g9 g10 g11 g12 g13 g14 g15 g16 g17 g18 g19 g20 g21 g22 g23 g24 g25 g26 : Int32} {a0 a1 a2 a3 a4 a5 a6 a7 a8 a9 a10 a11 a12 a13 a14 a15 a16 a17 a18 a19 a20 a21 a22 a23 : (Nat → Int32)} {b0 : (Nat → Int64)} {w0 : Int64} {k0 k1 k2 k3 k4 k5 k6 k7 k8 k9 k10 k11 k12 k13 k14 k15 : xC} {cv : Value} (d n0 : Nat)  (res : Int64) (K : Int64 → Int32 → Option (Int64)) (hK : ∀ (l1_4 : Int64) (l3_4 : Int32), K l1_4 l3_4 = some res → xW xks YX9_packed (d + 5) 0 0 n0 (xZ 0 0 n0 (some (.long res)) (hP g0 g1 g2 g3 g4 g5 g6 g7 g8 g9 g10 g11 g12 g13 g14 g15 g16 g17 g18 g19 g20 g21 g22 g23 g24 g25 g26 a0 a1 a2 a3 a4 a5 a6 a7 a8 a9 a10 a11 a12 a13 a14 a15 a16 a17 a18 a19 a20 a21 a22 a23 b0 w0 k0 k1 k2 k3 k4 k5 k6 k7 k8 k9 k10 k11 k12 k13 k14 k15 cv (.ref 27))) 0 0 36 [none, some (.long l1_4), none, none] [] (hP g0 g1 g2 g3 g4 g5 g6 g7 g8 g9 g10 g11 g12 g13 g14 g15 g16 g17 g18 g19 g20 g21 g22 g23 g24 g25 g26 a0 a1 a2 a3 a4 a5 a6 a7 a8 a9 a10 a11 a12 a13 a14 a15 a16 a17 a18 a19 a20 a21 a22 a23 b0 w0 k0 k1 k2 k3 k4 k5 k6 k7 k8 k9 k10 k11 k12 k13 k14 k15 cv (.ref 27))) : ∀ (n : Nat) (l1_4 : Int64) (l3_4 : Int32), L_hP_X9_packed_4 (xsy 27)  K n l1_4 l3_4 = some res → xW xks YX9_packed (d + 5) 0 0 n0 (xZ 0 0 n0 (some (.long res)) (hP g0 g1 g2 g3 g4 g5 g6 g7 g8 g9 g10 g11 g12 g13 g14 g15 g16 g17 g18 g19 g20 g21 g22 g23 g24 g25 g26 a0 a1 a2 a3 a4 a5 a6 a7 a8 a9 a10 a11 a12 a13 a14 a15 a16 a17 a18 a19 a20 a21 a22 a23 b0 w0 k0 k1 k2 k3 k4 k5 k6 k7 k8 k9 k10 k11 k12 k13 k14 k15 cv (.ref 27))) 0 0 4 [some (.ref 1027), some (.long l1_4), none, some (.int l3_4)] [] (hP g0 g1 g2 g3 g4 g5 g6 g7 g8 g9 g10 g11 g12 g13 g14 g15 g16 g17 g18 g19 g20 g21 g22 g23 g24 g25 g26 a0 a1 a2 a3 a4 a5 a6 a7 a8 a9 a10 a11 a12 a13 a14 a15 a16 a17 a18 a19 a20 a21 a22 a23 b0 w0 k0 k1 k2 k3 k4 k5 k6 k7 k8 k9 k10 k11 k12 k13 k14 k15 cv (.ref 27)) := by
  intro n
  induction n with
  | zero =>
    intro l1_4 l3_4 h
    cases (show (none : Option (Int64)) = some res from h)
  | succ n4 ih4 =>
    intro l1_4 l3_4 h
    unfold L_hP_X9_packed_4 at h
    refine x_iload_n dX9_packed_4 rfl ?_
    refine x_aload_n dX9_packed_5 rfl ?_
    refine x_slen (k := 27) (s := xsy 27) rfl rfl (Nat.le_of_ble_eq_true rfl) kX9_65 dX9_packed_6 (Nat.le_of_ble_eq_true rfl) ?_
    refine x_icmp_ge 36 dX9_packed_9 (by decide) (fun q => ?_) (fun q => ?_)
    · have h := xif_t q h
      refine x_weak (pl2 := [none, some (.long l1_4), none, none]) ⟨rfl, trivial⟩ ?_
      exact hK l1_4 l3_4 h
    · have h := xif_f q h
      refine x_ldc2 iX9_71 dX9_packed_12 ?_
      refine x_lload_n dX9_packed_15 rfl ?_
      refine x_lmul dX9_packed_16 ?_
      refine x_aload_n dX9_packed_17 rfl ?_
      refine x_iload_n dX9_packed_18 rfl ?_
      obtain ⟨q19, h⟩ := xix_of h
      refine x_schar (k := 27) (s := xsy 27) rfl rfl q19 (Nat.le_of_ble_eq_true rfl) kX9_73 dX9_packed_19 (Nat.le_of_ble_eq_true rfl) ?_
      refine x_bipush (97 : Int32) dX9_packed_22 (by decide) ?_
      refine x_isub dX9_packed_24 ?_
      refine x_iconst (1 : Int32) dX9_packed_25 (by decide) ?_
      refine x_iadd dX9_packed_26 ?_
      refine x_i2l dX9_packed_27 ?_
      refine x_ladd dX9_packed_28 ?_
      refine x_lstore_n (pl' := [some (.ref 1027), some (.long (((32 : Int64) * l1_4) + (((xch (xsy 27) l3_4) - (97 : Int32)) + (1 : Int32)).toInt64)), none, some (.int l3_4)]) dX9_packed_29 (by decide) rfl ?_
      refine x_iincK (1 : Int32) (pl' := [some (.ref 1027), some (.long (((32 : Int64) * l1_4) + (((xch (xsy 27) l3_4) - (97 : Int32)) + (1 : Int32)).toInt64)), none, some (.int (l3_4 + (1 : Int32)))]) dX9_packed_30 rfl (by decide) (by decide) rfl ?_
      refine x_goto 4 dX9_packed_33 (by decide) ?_
      refine x_weak (pl2 := [some (.ref 1027), some (.long (((32 : Int64) * l1_4) + (((xch (xsy 27) l3_4) - (97 : Int32)) + (1 : Int32)).toInt64)), none, some (.int (l3_4 + (1 : Int32)))]) ⟨rfl, rfl, rfl, trivial⟩ ?_
      exact ih4 (((32 : Int64) * l1_4) + (((xch (xsy 27) l3_4) - (97 : Int32)) + (1 : Int32)).toInt64) (l3_4 + (1 : Int32)) h
set_option maxRecDepth 100000 in
set_option maxHeartbeats 4000000 in
theorem t_hP_X9_packed_12 {g0 g1 g2 g3 g4 g5 g6 g7 g8 g9 g10 g11 g12 g13 g14 g15 g16 g17 g18 g19 g20 g21 g22 g23 g24 g25 g26 : Int32} {a0 a1 a2 a3 a4 a5 a6 a7 a8 a9 a10 a11 a12 a13 a14 a15 a16 a17 a18 a19 a20 a21 a22 a23 : (Nat → Int32)} {b0 : (Nat → Int64)} {w0 : Int64} {k0 k1 k2 k3 k4 k5 k6 k7 k8 k9 k10 k11 k12 k13 k14 k15 : xC} {cv : Value}  (res : Int64) (h : e_hP_X9_packed (xsy 27)  = some res) (d : Nat) : xMet xks YX9_packed (d + 5) 0 0 [.ref 1027] (hP g0 g1 g2 g3 g4 g5 g6 g7 g8 g9 g10 g11 g12 g13 g14 g15 g16 g17 g18 g19 g20 g21 g22 g23 g24 g25 g26 a0 a1 a2 a3 a4 a5 a6 a7 a8 a9 a10 a11 a12 a13 a14 a15 a16 a17 a18 a19 a20 a21 a22 a23 b0 w0 k0 k1 k2 k3 k4 k5 k6 k7 k8 k9 k10 k11 k12 k13 k14 k15 cv (.ref 27)) (some (.long res)) (hP g0 g1 g2 g3 g4 g5 g6 g7 g8 g9 g10 g11 g12 g13 g14 g15 g16 g17 g18 g19 g20 g21 g22 g23 g24 g25 g26 a0 a1 a2 a3 a4 a5 a6 a7 a8 a9 a10 a11 a12 a13 a14 a15 a16 a17 a18 a19 a20 a21 a22 a23 b0 w0 k0 k1 k2 k3 k4 k5 k6 k7 k8 k9 k10 k11 k12 k13 k14 k15 cv (.ref 27)) := by
  unfold e_hP_X9_packed at h
  refine xMet_of (pl := [some (.ref 1027), none, none, none]) (by decide) (Nat.le_of_ble_eq_true rfl) rfl (Nat.le_of_ble_eq_true rfl) ?_
  refine x_lconst (0 : Int64) dX9_packed_0 (by decide) ?_
  refine x_lstore_n (pl' := [some (.ref 1027), some (.long (0 : Int64)), none, none]) dX9_packed_1 (by decide) rfl ?_
  refine x_iconst (0 : Int32) dX9_packed_2 (by decide) ?_
  refine x_istore_n (pl' := [some (.ref 1027), some (.long (0 : Int64)), none, some (.int (0 : Int32))]) dX9_packed_3 (by decide) rfl ?_
  refine x_weak (pl2 := [some (.ref 1027), some (.long (0 : Int64)), none, some (.int (0 : Int32))]) ⟨rfl, rfl, rfl, trivial⟩ ?_
  refine lp_hP_X9_packed_12_4 d _  res _ (fun l1_4 l3_4 h => ?_) 200000 (0 : Int64) (0 : Int32) h
  refine x_lload_n dX9_packed_36 rfl ?_
  cases h
  exact x_lret2 dX9_packed_37 rfl rfl
set_option maxRecDepth 100000 in
set_option maxHeartbeats 4000000 in
theorem t_hP_X9_isWord_12 {g0 g1 g2 g3 g4 g5 g6 g7 g8 g9 g10 g11 g12 g13 g14 g15 g16 g17 g18 g19 g20 g21 g22 g23 g24 g25 g26 : Int32} {a0 a1 a2 a3 a4 a5 a6 a7 a8 a9 a10 a11 a12 a13 a14 a15 a16 a17 a18 a19 a20 a21 a22 a23 : (Nat → Int32)} {b0 : (Nat → Int64)} {w0 : Int64} {k0 k1 k2 k3 k4 k5 k6 k7 k8 k9 k10 k11 k12 k13 k14 k15 : xC} {cv : Value}  (res : Int32) (h : e_hP_X9_isWord g6 w0 (xsy 27)  = some res) (d : Nat) : xMet xks YX9_isWord (d + 6) 0 0 [.ref 0, .ref 1027] (hP g0 g1 g2 g3 g4 g5 g6 g7 g8 g9 g10 g11 g12 g13 g14 g15 g16 g17 g18 g19 g20 g21 g22 g23 g24 g25 g26 a0 a1 a2 a3 a4 a5 a6 a7 a8 a9 a10 a11 a12 a13 a14 a15 a16 a17 a18 a19 a20 a21 a22 a23 b0 w0 k0 k1 k2 k3 k4 k5 k6 k7 k8 k9 k10 k11 k12 k13 k14 k15 cv (.ref 27)) (some (.int res)) (hP g0 g1 g2 g3 g4 g5 g6 g7 g8 g9 g10 g11 g12 g13 g14 g15 g16 g17 g18 g19 g20 g21 g22 g23 g24 g25 g26 a0 a1 a2 a3 a4 a5 a6 a7 a8 a9 a10 a11 a12 a13 a14 a15 a16 a17 a18 a19 a20 a21 a22 a23 b0 w0 k0 k1 k2 k3 k4 k5 k6 k7 k8 k9 k10 k11 k12 k13 k14 k15 cv (.ref 27)) := by
  unfold e_hP_X9_isWord at h
  refine xMet_of (pl := [some (.ref 0), some (.ref 1027)]) (by decide) (Nat.le_of_ble_eq_true rfl) rfl (Nat.le_of_ble_eq_true rfl) ?_
  refine x_aload_n dX9_isWord_0 rfl ?_
  refine x_get fX9_77 dX9_isWord_1 rfl rfl rfl ?_
  refine x_iconst (2 : Int32) dX9_isWord_4 (by decide) ?_
  refine x_icmp_ne 24 dX9_isWord_5 (by decide) (fun q => ?_) (fun q => ?_)
  · have h := xif_f q h
    refine x_iconst (0 : Int32) dX9_isWord_24 (by decide) ?_
    cases h
    exact x_zret2 dX9_isWord_25 rfl rfl rfl
  · have h := xif_t q h
    refine x_aload_n dX9_isWord_8 rfl ?_
    refine x_get fX9_93 dX9_isWord_9 rfl rfl rfl ?_
    refine x_aload_n dX9_isWord_12 rfl ?_
    obtain ⟨z13, y13, h⟩ := xbind h
    refine x_callS (t_hP_X9_packed_12  z13 y13 (d + 0)) kX9_109 dX9_isWord_13 rfl rfl (Nat.le_of_ble_eq_true rfl) (Nat.le_of_ble_eq_true rfl) rfl rfl (Or.inl rfl) ?_
    refine x_lcmp dX9_isWord_16 ?_
    refine x_if_ne 24 dX9_isWord_17 (by decide) (fun q => ?_) (fun q => ?_)
    · have h := xif_f q h
      refine x_iconst (0 : Int32) dX9_isWord_24 (by decide) ?_
      cases h
      exact x_zret2 dX9_isWord_25 rfl rfl rfl
    · have h := xif_t q h
      refine x_iconst (1 : Int32) dX9_isWord_20 (by decide) ?_
      refine x_goto 25 dX9_isWord_21 (by decide) ?_
      cases h
      exact x_zret2 dX9_isWord_25 rfl rfl rfl
set_option maxRecDepth 100000 in
set_option maxHeartbeats 4000000 in
theorem lp_hP_X9_packed_13_4 {g0 g1 g2 g3 g4 g5 g6 g7 g8 g9 g10 g11 g12 g13 g14 g15 g16 g17 g18 g19 g20 g21 g22 g23 g24 g25 g26 : Int32} {a0 a1 a2 a3 a4 a5 a6 a7 a8 a9 a10 a11 a12 a13 a14 a15 a16 a17 a18 a19 a20 a21 a22 a23 : (Nat → Int32)} {b0 : (Nat → Int64)} {w0 : Int64} {k0 k1 k2 k3 k4 k5 k6 k7 k8 k9 k10 k11 k12 k13 k14 k15 : xC} {cv : Value} (d n0 : Nat)  (res : Int64) (K : Int64 → Int32 → Option (Int64)) (hK : ∀ (l1_4 : Int64) (l3_4 : Int32), K l1_4 l3_4 = some res → xW xks YX9_packed (d + 5) 0 0 n0 (xZ 0 0 n0 (some (.long res)) (hP g0 g1 g2 g3 g4 g5 g6 g7 g8 g9 g10 g11 g12 g13 g14 g15 g16 g17 g18 g19 g20 g21 g22 g23 g24 g25 g26 a0 a1 a2 a3 a4 a5 a6 a7 a8 a9 a10 a11 a12 a13 a14 a15 a16 a17 a18 a19 a20 a21 a22 a23 b0 w0 k0 k1 k2 k3 k4 k5 k6 k7 k8 k9 k10 k11 k12 k13 k14 k15 cv (.ref 27))) 0 0 36 [none, some (.long l1_4), none, none] [] (hP g0 g1 g2 g3 g4 g5 g6 g7 g8 g9 g10 g11 g12 g13 g14 g15 g16 g17 g18 g19 g20 g21 g22 g23 g24 g25 g26 a0 a1 a2 a3 a4 a5 a6 a7 a8 a9 a10 a11 a12 a13 a14 a15 a16 a17 a18 a19 a20 a21 a22 a23 b0 w0 k0 k1 k2 k3 k4 k5 k6 k7 k8 k9 k10 k11 k12 k13 k14 k15 cv (.ref 27))) : ∀ (n : Nat) (l1_4 : Int64) (l3_4 : Int32), L_hP_X9_packed_4 (xsy 28)  K n l1_4 l3_4 = some res → xW xks YX9_packed (d + 5) 0 0 n0 (xZ 0 0 n0 (some (.long res)) (hP g0 g1 g2 g3 g4 g5 g6 g7 g8 g9 g10 g11 g12 g13 g14 g15 g16 g17 g18 g19 g20 g21 g22 g23 g24 g25 g26 a0 a1 a2 a3 a4 a5 a6 a7 a8 a9 a10 a11 a12 a13 a14 a15 a16 a17 a18 a19 a20 a21 a22 a23 b0 w0 k0 k1 k2 k3 k4 k5 k6 k7 k8 k9 k10 k11 k12 k13 k14 k15 cv (.ref 27))) 0 0 4 [some (.ref 1028), some (.long l1_4), none, some (.int l3_4)] [] (hP g0 g1 g2 g3 g4 g5 g6 g7 g8 g9 g10 g11 g12 g13 g14 g15 g16 g17 g18 g19 g20 g21 g22 g23 g24 g25 g26 a0 a1 a2 a3 a4 a5 a6 a7 a8 a9 a10 a11 a12 a13 a14 a15 a16 a17 a18 a19 a20 a21 a22 a23 b0 w0 k0 k1 k2 k3 k4 k5 k6 k7 k8 k9 k10 k11 k12 k13 k14 k15 cv (.ref 27)) := by
  intro n
  induction n with
  | zero =>
    intro l1_4 l3_4 h
    cases (show (none : Option (Int64)) = some res from h)
  | succ n4 ih4 =>
    intro l1_4 l3_4 h
    unfold L_hP_X9_packed_4 at h
    refine x_iload_n dX9_packed_4 rfl ?_
    refine x_aload_n dX9_packed_5 rfl ?_
    refine x_slen (k := 28) (s := xsy 28) rfl rfl (Nat.le_of_ble_eq_true rfl) kX9_65 dX9_packed_6 (Nat.le_of_ble_eq_true rfl) ?_
    refine x_icmp_ge 36 dX9_packed_9 (by decide) (fun q => ?_) (fun q => ?_)
    · have h := xif_t q h
      refine x_weak (pl2 := [none, some (.long l1_4), none, none]) ⟨rfl, trivial⟩ ?_
      exact hK l1_4 l3_4 h
    · have h := xif_f q h
      refine x_ldc2 iX9_71 dX9_packed_12 ?_
      refine x_lload_n dX9_packed_15 rfl ?_
      refine x_lmul dX9_packed_16 ?_
      refine x_aload_n dX9_packed_17 rfl ?_
      refine x_iload_n dX9_packed_18 rfl ?_
      obtain ⟨q19, h⟩ := xix_of h
      refine x_schar (k := 28) (s := xsy 28) rfl rfl q19 (Nat.le_of_ble_eq_true rfl) kX9_73 dX9_packed_19 (Nat.le_of_ble_eq_true rfl) ?_
      refine x_bipush (97 : Int32) dX9_packed_22 (by decide) ?_
      refine x_isub dX9_packed_24 ?_
      refine x_iconst (1 : Int32) dX9_packed_25 (by decide) ?_
      refine x_iadd dX9_packed_26 ?_
      refine x_i2l dX9_packed_27 ?_
      refine x_ladd dX9_packed_28 ?_
      refine x_lstore_n (pl' := [some (.ref 1028), some (.long (((32 : Int64) * l1_4) + (((xch (xsy 28) l3_4) - (97 : Int32)) + (1 : Int32)).toInt64)), none, some (.int l3_4)]) dX9_packed_29 (by decide) rfl ?_
      refine x_iincK (1 : Int32) (pl' := [some (.ref 1028), some (.long (((32 : Int64) * l1_4) + (((xch (xsy 28) l3_4) - (97 : Int32)) + (1 : Int32)).toInt64)), none, some (.int (l3_4 + (1 : Int32)))]) dX9_packed_30 rfl (by decide) (by decide) rfl ?_
      refine x_goto 4 dX9_packed_33 (by decide) ?_
      refine x_weak (pl2 := [some (.ref 1028), some (.long (((32 : Int64) * l1_4) + (((xch (xsy 28) l3_4) - (97 : Int32)) + (1 : Int32)).toInt64)), none, some (.int (l3_4 + (1 : Int32)))]) ⟨rfl, rfl, rfl, trivial⟩ ?_
      exact ih4 (((32 : Int64) * l1_4) + (((xch (xsy 28) l3_4) - (97 : Int32)) + (1 : Int32)).toInt64) (l3_4 + (1 : Int32)) h
set_option maxRecDepth 100000 in
set_option maxHeartbeats 4000000 in
theorem t_hP_X9_packed_13 {g0 g1 g2 g3 g4 g5 g6 g7 g8 g9 g10 g11 g12 g13 g14 g15 g16 g17 g18 g19 g20 g21 g22 g23 g24 g25 g26 : Int32} {a0 a1 a2 a3 a4 a5 a6 a7 a8 a9 a10 a11 a12 a13 a14 a15 a16 a17 a18 a19 a20 a21 a22 a23 : (Nat → Int32)} {b0 : (Nat → Int64)} {w0 : Int64} {k0 k1 k2 k3 k4 k5 k6 k7 k8 k9 k10 k11 k12 k13 k14 k15 : xC} {cv : Value}  (res : Int64) (h : e_hP_X9_packed (xsy 28)  = some res) (d : Nat) : xMet xks YX9_packed (d + 5) 0 0 [.ref 1028] (hP g0 g1 g2 g3 g4 g5 g6 g7 g8 g9 g10 g11 g12 g13 g14 g15 g16 g17 g18 g19 g20 g21 g22 g23 g24 g25 g26 a0 a1 a2 a3 a4 a5 a6 a7 a8 a9 a10 a11 a12 a13 a14 a15 a16 a17 a18 a19 a20 a21 a22 a23 b0 w0 k0 k1 k2 k3 k4 k5 k6 k7 k8 k9 k10 k11 k12 k13 k14 k15 cv (.ref 27)) (some (.long res)) (hP g0 g1 g2 g3 g4 g5 g6 g7 g8 g9 g10 g11 g12 g13 g14 g15 g16 g17 g18 g19 g20 g21 g22 g23 g24 g25 g26 a0 a1 a2 a3 a4 a5 a6 a7 a8 a9 a10 a11 a12 a13 a14 a15 a16 a17 a18 a19 a20 a21 a22 a23 b0 w0 k0 k1 k2 k3 k4 k5 k6 k7 k8 k9 k10 k11 k12 k13 k14 k15 cv (.ref 27)) := by
  unfold e_hP_X9_packed at h
  refine xMet_of (pl := [some (.ref 1028), none, none, none]) (by decide) (Nat.le_of_ble_eq_true rfl) rfl (Nat.le_of_ble_eq_true rfl) ?_
  refine x_lconst (0 : Int64) dX9_packed_0 (by decide) ?_
  refine x_lstore_n (pl' := [some (.ref 1028), some (.long (0 : Int64)), none, none]) dX9_packed_1 (by decide) rfl ?_
  refine x_iconst (0 : Int32) dX9_packed_2 (by decide) ?_
  refine x_istore_n (pl' := [some (.ref 1028), some (.long (0 : Int64)), none, some (.int (0 : Int32))]) dX9_packed_3 (by decide) rfl ?_
  refine x_weak (pl2 := [some (.ref 1028), some (.long (0 : Int64)), none, some (.int (0 : Int32))]) ⟨rfl, rfl, rfl, trivial⟩ ?_
  refine lp_hP_X9_packed_13_4 d _  res _ (fun l1_4 l3_4 h => ?_) 200000 (0 : Int64) (0 : Int32) h
  refine x_lload_n dX9_packed_36 rfl ?_
  cases h
  exact x_lret2 dX9_packed_37 rfl rfl
set_option maxRecDepth 100000 in
set_option maxHeartbeats 4000000 in
theorem t_hP_X9_isWord_13 {g0 g1 g2 g3 g4 g5 g6 g7 g8 g9 g10 g11 g12 g13 g14 g15 g16 g17 g18 g19 g20 g21 g22 g23 g24 g25 g26 : Int32} {a0 a1 a2 a3 a4 a5 a6 a7 a8 a9 a10 a11 a12 a13 a14 a15 a16 a17 a18 a19 a20 a21 a22 a23 : (Nat → Int32)} {b0 : (Nat → Int64)} {w0 : Int64} {k0 k1 k2 k3 k4 k5 k6 k7 k8 k9 k10 k11 k12 k13 k14 k15 : xC} {cv : Value}  (res : Int32) (h : e_hP_X9_isWord g6 w0 (xsy 28)  = some res) (d : Nat) : xMet xks YX9_isWord (d + 6) 0 0 [.ref 0, .ref 1028] (hP g0 g1 g2 g3 g4 g5 g6 g7 g8 g9 g10 g11 g12 g13 g14 g15 g16 g17 g18 g19 g20 g21 g22 g23 g24 g25 g26 a0 a1 a2 a3 a4 a5 a6 a7 a8 a9 a10 a11 a12 a13 a14 a15 a16 a17 a18 a19 a20 a21 a22 a23 b0 w0 k0 k1 k2 k3 k4 k5 k6 k7 k8 k9 k10 k11 k12 k13 k14 k15 cv (.ref 27)) (some (.int res)) (hP g0 g1 g2 g3 g4 g5 g6 g7 g8 g9 g10 g11 g12 g13 g14 g15 g16 g17 g18 g19 g20 g21 g22 g23 g24 g25 g26 a0 a1 a2 a3 a4 a5 a6 a7 a8 a9 a10 a11 a12 a13 a14 a15 a16 a17 a18 a19 a20 a21 a22 a23 b0 w0 k0 k1 k2 k3 k4 k5 k6 k7 k8 k9 k10 k11 k12 k13 k14 k15 cv (.ref 27)) := by
  unfold e_hP_X9_isWord at h
  refine xMet_of (pl := [some (.ref 0), some (.ref 1028)]) (by decide) (Nat.le_of_ble_eq_true rfl) rfl (Nat.le_of_ble_eq_true rfl) ?_
  refine x_aload_n dX9_isWord_0 rfl ?_
  refine x_get fX9_77 dX9_isWord_1 rfl rfl rfl ?_
  refine x_iconst (2 : Int32) dX9_isWord_4 (by decide) ?_
  refine x_icmp_ne 24 dX9_isWord_5 (by decide) (fun q => ?_) (fun q => ?_)
  · have h := xif_f q h
    refine x_iconst (0 : Int32) dX9_isWord_24 (by decide) ?_
    cases h
    exact x_zret2 dX9_isWord_25 rfl rfl rfl
  · have h := xif_t q h
    refine x_aload_n dX9_isWord_8 rfl ?_
    refine x_get fX9_93 dX9_isWord_9 rfl rfl rfl ?_
    refine x_aload_n dX9_isWord_12 rfl ?_
    obtain ⟨z13, y13, h⟩ := xbind h
    refine x_callS (t_hP_X9_packed_13  z13 y13 (d + 0)) kX9_109 dX9_isWord_13 rfl rfl (Nat.le_of_ble_eq_true rfl) (Nat.le_of_ble_eq_true rfl) rfl rfl (Or.inl rfl) ?_
    refine x_lcmp dX9_isWord_16 ?_
    refine x_if_ne 24 dX9_isWord_17 (by decide) (fun q => ?_) (fun q => ?_)
    · have h := xif_f q h
      refine x_iconst (0 : Int32) dX9_isWord_24 (by decide) ?_
      cases h
      exact x_zret2 dX9_isWord_25 rfl rfl rfl
    · have h := xif_t q h
      refine x_iconst (1 : Int32) dX9_isWord_20 (by decide) ?_
      refine x_goto 25 dX9_isWord_21 (by decide) ?_
      cases h
      exact x_zret2 dX9_isWord_25 rfl rfl rfl
set_option maxRecDepth 100000 in
set_option maxHeartbeats 4000000 in
theorem lp_hP_X9_packed_14_4 {g0 g1 g2 g3 g4 g5 g6 g7 g8 g9 g10 g11 g12 g13 g14 g15 g16 g17 g18 g19 g20 g21 g22 g23 g24 g25 g26 : Int32} {a0 a1 a2 a3 a4 a5 a6 a7 a8 a9 a10 a11 a12 a13 a14 a15 a16 a17 a18 a19 a20 a21 a22 a23 : (Nat → Int32)} {b0 : (Nat → Int64)} {w0 : Int64} {k0 k1 k2 k3 k4 k5 k6 k7 k8 k9 k10 k11 k12 k13 k14 k15 : xC} {cv : Value} (d n0 : Nat)  (res : Int64) (K : Int64 → Int32 → Option (Int64)) (hK : ∀ (l1_4 : Int64) (l3_4 : Int32), K l1_4 l3_4 = some res → xW xks YX9_packed (d + 5) 0 0 n0 (xZ 0 0 n0 (some (.long res)) (hP g0 g1 g2 g3 g4 g5 g6 g7 g8 g9 g10 g11 g12 g13 g14 g15 g16 g17 g18 g19 g20 g21 g22 g23 g24 g25 g26 a0 a1 a2 a3 a4 a5 a6 a7 a8 a9 a10 a11 a12 a13 a14 a15 a16 a17 a18 a19 a20 a21 a22 a23 b0 w0 k0 k1 k2 k3 k4 k5 k6 k7 k8 k9 k10 k11 k12 k13 k14 k15 cv (.ref 27))) 0 0 36 [none, some (.long l1_4), none, none] [] (hP g0 g1 g2 g3 g4 g5 g6 g7 g8 g9 g10 g11 g12 g13 g14 g15 g16 g17 g18 g19 g20 g21 g22 g23 g24 g25 g26 a0 a1 a2 a3 a4 a5 a6 a7 a8 a9 a10 a11 a12 a13 a14 a15 a16 a17 a18 a19 a20 a21 a22 a23 b0 w0 k0 k1 k2 k3 k4 k5 k6 k7 k8 k9 k10 k11 k12 k13 k14 k15 cv (.ref 27))) : ∀ (n : Nat) (l1_4 : Int64) (l3_4 : Int32), L_hP_X9_packed_4 (xsy 29)  K n l1_4 l3_4 = some res → xW xks YX9_packed (d + 5) 0 0 n0 (xZ 0 0 n0 (some (.long res)) (hP g0 g1 g2 g3 g4 g5 g6 g7 g8 g9 g10 g11 g12 g13 g14 g15 g16 g17 g18 g19 g20 g21 g22 g23 g24 g25 g26 a0 a1 a2 a3 a4 a5 a6 a7 a8 a9 a10 a11 a12 a13 a14 a15 a16 a17 a18 a19 a20 a21 a22 a23 b0 w0 k0 k1 k2 k3 k4 k5 k6 k7 k8 k9 k10 k11 k12 k13 k14 k15 cv (.ref 27))) 0 0 4 [some (.ref 1029), some (.long l1_4), none, some (.int l3_4)] [] (hP g0 g1 g2 g3 g4 g5 g6 g7 g8 g9 g10 g11 g12 g13 g14 g15 g16 g17 g18 g19 g20 g21 g22 g23 g24 g25 g26 a0 a1 a2 a3 a4 a5 a6 a7 a8 a9 a10 a11 a12 a13 a14 a15 a16 a17 a18 a19 a20 a21 a22 a23 b0 w0 k0 k1 k2 k3 k4 k5 k6 k7 k8 k9 k10 k11 k12 k13 k14 k15 cv (.ref 27)) := by
  intro n
  induction n with
  | zero =>
    intro l1_4 l3_4 h
    cases (show (none : Option (Int64)) = some res from h)
  | succ n4 ih4 =>
    intro l1_4 l3_4 h
    unfold L_hP_X9_packed_4 at h
    refine x_iload_n dX9_packed_4 rfl ?_
    refine x_aload_n dX9_packed_5 rfl ?_
    refine x_slen (k := 29) (s := xsy 29) rfl rfl (Nat.le_of_ble_eq_true rfl) kX9_65 dX9_packed_6 (Nat.le_of_ble_eq_true rfl) ?_
    refine x_icmp_ge 36 dX9_packed_9 (by decide) (fun q => ?_) (fun q => ?_)
    · have h := xif_t q h
      refine x_weak (pl2 := [none, some (.long l1_4), none, none]) ⟨rfl, trivial⟩ ?_
      exact hK l1_4 l3_4 h
    · have h := xif_f q h
      refine x_ldc2 iX9_71 dX9_packed_12 ?_
      refine x_lload_n dX9_packed_15 rfl ?_
      refine x_lmul dX9_packed_16 ?_
      refine x_aload_n dX9_packed_17 rfl ?_
      refine x_iload_n dX9_packed_18 rfl ?_
      obtain ⟨q19, h⟩ := xix_of h
      refine x_schar (k := 29) (s := xsy 29) rfl rfl q19 (Nat.le_of_ble_eq_true rfl) kX9_73 dX9_packed_19 (Nat.le_of_ble_eq_true rfl) ?_
      refine x_bipush (97 : Int32) dX9_packed_22 (by decide) ?_
      refine x_isub dX9_packed_24 ?_
      refine x_iconst (1 : Int32) dX9_packed_25 (by decide) ?_
      refine x_iadd dX9_packed_26 ?_
      refine x_i2l dX9_packed_27 ?_
      refine x_ladd dX9_packed_28 ?_
      refine x_lstore_n (pl' := [some (.ref 1029), some (.long (((32 : Int64) * l1_4) + (((xch (xsy 29) l3_4) - (97 : Int32)) + (1 : Int32)).toInt64)), none, some (.int l3_4)]) dX9_packed_29 (by decide) rfl ?_
      refine x_iincK (1 : Int32) (pl' := [some (.ref 1029), some (.long (((32 : Int64) * l1_4) + (((xch (xsy 29) l3_4) - (97 : Int32)) + (1 : Int32)).toInt64)), none, some (.int (l3_4 + (1 : Int32)))]) dX9_packed_30 rfl (by decide) (by decide) rfl ?_
      refine x_goto 4 dX9_packed_33 (by decide) ?_
      refine x_weak (pl2 := [some (.ref 1029), some (.long (((32 : Int64) * l1_4) + (((xch (xsy 29) l3_4) - (97 : Int32)) + (1 : Int32)).toInt64)), none, some (.int (l3_4 + (1 : Int32)))]) ⟨rfl, rfl, rfl, trivial⟩ ?_
      exact ih4 (((32 : Int64) * l1_4) + (((xch (xsy 29) l3_4) - (97 : Int32)) + (1 : Int32)).toInt64) (l3_4 + (1 : Int32)) h
set_option maxRecDepth 100000 in
set_option maxHeartbeats 4000000 in
theorem t_hP_X9_packed_14 {g0 g1 g2 g3 g4 g5 g6 g7 g8 g9 g10 g11 g12 g13 g14 g15 g16 g17 g18 g19 g20 g21 g22 g23 g24 g25 g26 : Int32} {a0 a1 a2 a3 a4 a5 a6 a7 a8 a9 a10 a11 a12 a13 a14 a15 a16 a17 a18 a19 a20 a21 a22 a23 : (Nat → Int32)} {b0 : (Nat → Int64)} {w0 : Int64} {k0 k1 k2 k3 k4 k5 k6 k7 k8 k9 k10 k11 k12 k13 k14 k15 : xC} {cv : Value}  (res : Int64) (h : e_hP_X9_packed (xsy 29)  = some res) (d : Nat) : xMet xks YX9_packed (d + 5) 0 0 [.ref 1029] (hP g0 g1 g2 g3 g4 g5 g6 g7 g8 g9 g10 g11 g12 g13 g14 g15 g16 g17 g18 g19 g20 g21 g22 g23 g24 g25 g26 a0 a1 a2 a3 a4 a5 a6 a7 a8 a9 a10 a11 a12 a13 a14 a15 a16 a17 a18 a19 a20 a21 a22 a23 b0 w0 k0 k1 k2 k3 k4 k5 k6 k7 k8 k9 k10 k11 k12 k13 k14 k15 cv (.ref 27)) (some (.long res)) (hP g0 g1 g2 g3 g4 g5 g6 g7 g8 g9 g10 g11 g12 g13 g14 g15 g16 g17 g18 g19 g20 g21 g22 g23 g24 g25 g26 a0 a1 a2 a3 a4 a5 a6 a7 a8 a9 a10 a11 a12 a13 a14 a15 a16 a17 a18 a19 a20 a21 a22 a23 b0 w0 k0 k1 k2 k3 k4 k5 k6 k7 k8 k9 k10 k11 k12 k13 k14 k15 cv (.ref 27)) := by
  unfold e_hP_X9_packed at h
  refine xMet_of (pl := [some (.ref 1029), none, none, none]) (by decide) (Nat.le_of_ble_eq_true rfl) rfl (Nat.le_of_ble_eq_true rfl) ?_
  refine x_lconst (0 : Int64) dX9_packed_0 (by decide) ?_
  refine x_lstore_n (pl' := [some (.ref 1029), some (.long (0 : Int64)), none, none]) dX9_packed_1 (by decide) rfl ?_
  refine x_iconst (0 : Int32) dX9_packed_2 (by decide) ?_
  refine x_istore_n (pl' := [some (.ref 1029), some (.long (0 : Int64)), none, some (.int (0 : Int32))]) dX9_packed_3 (by decide) rfl ?_
  refine x_weak (pl2 := [some (.ref 1029), some (.long (0 : Int64)), none, some (.int (0 : Int32))]) ⟨rfl, rfl, rfl, trivial⟩ ?_
  refine lp_hP_X9_packed_14_4 d _  res _ (fun l1_4 l3_4 h => ?_) 200000 (0 : Int64) (0 : Int32) h
  refine x_lload_n dX9_packed_36 rfl ?_
  cases h
  exact x_lret2 dX9_packed_37 rfl rfl
set_option maxRecDepth 100000 in
set_option maxHeartbeats 4000000 in
theorem t_hP_X9_isWord_14 {g0 g1 g2 g3 g4 g5 g6 g7 g8 g9 g10 g11 g12 g13 g14 g15 g16 g17 g18 g19 g20 g21 g22 g23 g24 g25 g26 : Int32} {a0 a1 a2 a3 a4 a5 a6 a7 a8 a9 a10 a11 a12 a13 a14 a15 a16 a17 a18 a19 a20 a21 a22 a23 : (Nat → Int32)} {b0 : (Nat → Int64)} {w0 : Int64} {k0 k1 k2 k3 k4 k5 k6 k7 k8 k9 k10 k11 k12 k13 k14 k15 : xC} {cv : Value}  (res : Int32) (h : e_hP_X9_isWord g6 w0 (xsy 29)  = some res) (d : Nat) : xMet xks YX9_isWord (d + 6) 0 0 [.ref 0, .ref 1029] (hP g0 g1 g2 g3 g4 g5 g6 g7 g8 g9 g10 g11 g12 g13 g14 g15 g16 g17 g18 g19 g20 g21 g22 g23 g24 g25 g26 a0 a1 a2 a3 a4 a5 a6 a7 a8 a9 a10 a11 a12 a13 a14 a15 a16 a17 a18 a19 a20 a21 a22 a23 b0 w0 k0 k1 k2 k3 k4 k5 k6 k7 k8 k9 k10 k11 k12 k13 k14 k15 cv (.ref 27)) (some (.int res)) (hP g0 g1 g2 g3 g4 g5 g6 g7 g8 g9 g10 g11 g12 g13 g14 g15 g16 g17 g18 g19 g20 g21 g22 g23 g24 g25 g26 a0 a1 a2 a3 a4 a5 a6 a7 a8 a9 a10 a11 a12 a13 a14 a15 a16 a17 a18 a19 a20 a21 a22 a23 b0 w0 k0 k1 k2 k3 k4 k5 k6 k7 k8 k9 k10 k11 k12 k13 k14 k15 cv (.ref 27)) := by
  unfold e_hP_X9_isWord at h
  refine xMet_of (pl := [some (.ref 0), some (.ref 1029)]) (by decide) (Nat.le_of_ble_eq_true rfl) rfl (Nat.le_of_ble_eq_true rfl) ?_
  refine x_aload_n dX9_isWord_0 rfl ?_
  refine x_get fX9_77 dX9_isWord_1 rfl rfl rfl ?_
  refine x_iconst (2 : Int32) dX9_isWord_4 (by decide) ?_
  refine x_icmp_ne 24 dX9_isWord_5 (by decide) (fun q => ?_) (fun q => ?_)
  · have h := xif_f q h
    refine x_iconst (0 : Int32) dX9_isWord_24 (by decide) ?_
    cases h
    exact x_zret2 dX9_isWord_25 rfl rfl rfl
  · have h := xif_t q h
    refine x_aload_n dX9_isWord_8 rfl ?_
    refine x_get fX9_93 dX9_isWord_9 rfl rfl rfl ?_
    refine x_aload_n dX9_isWord_12 rfl ?_
    obtain ⟨z13, y13, h⟩ := xbind h
    refine x_callS (t_hP_X9_packed_14  z13 y13 (d + 0)) kX9_109 dX9_isWord_13 rfl rfl (Nat.le_of_ble_eq_true rfl) (Nat.le_of_ble_eq_true rfl) rfl rfl (Or.inl rfl) ?_
    refine x_lcmp dX9_isWord_16 ?_
    refine x_if_ne 24 dX9_isWord_17 (by decide) (fun q => ?_) (fun q => ?_)
    · have h := xif_f q h
      refine x_iconst (0 : Int32) dX9_isWord_24 (by decide) ?_
      cases h
      exact x_zret2 dX9_isWord_25 rfl rfl rfl
    · have h := xif_t q h
      refine x_iconst (1 : Int32) dX9_isWord_20 (by decide) ?_
      refine x_goto 25 dX9_isWord_21 (by decide) ?_
      cases h
      exact x_zret2 dX9_isWord_25 rfl rfl rfl
set_option maxRecDepth 100000 in
set_option maxHeartbeats 4000000 in
theorem t_hP_X9_needs_2 {g0 g1 g2 g3 g4 g5 g6 g7 g8 g9 g10 g11 g12 g13 g14 g15 g16 g17 g18 g19 g20 g21 g22 g23 g24 g25 g26 : Int32} {a0 a1 a2 a3 a4 a5 a6 a7 a8 a9 a10 a11 a12 a13 a14 a15 a16 a17 a18 a19 a20 a21 a22 a23 : (Nat → Int32)} {b0 : (Nat → Int64)} {w0 : Int64} {k0 k1 k2 k3 k4 k5 k6 k7 k8 k9 k10 k11 k12 k13 k14 k15 : xC} {cv : Value}  (res : Int32 × Int32 × Int32 × Int32 × Int64 × Int32 × Int32) (h : e_hP_X9_needs g6 w0 g5 g4 a0 g7 g8 g9 g10 (xsy 29)  = some res) (d : Nat) : xMet xks YX9_needs (d + 7) 0 0 [.ref 0, .ref 1029] (hP g0 g1 g2 g3 g4 g5 g6 g7 g8 g9 g10 g11 g12 g13 g14 g15 g16 g17 g18 g19 g20 g21 g22 g23 g24 g25 g26 a0 a1 a2 a3 a4 a5 a6 a7 a8 a9 a10 a11 a12 a13 a14 a15 a16 a17 a18 a19 a20 a21 a22 a23 b0 w0 k0 k1 k2 k3 k4 k5 k6 k7 k8 k9 k10 k11 k12 k13 k14 k15 cv (.ref 27)) none (hP g0 g1 g2 g3 g4 res.2.2.1 res.2.1 res.1 res.2.2.2.1 res.2.2.2.2.2.1 res.2.2.2.2.2.2 g11 g12 g13 g14 g15 g16 g17 g18 g19 g20 g21 g22 g23 g24 g25 g26 a0 a1 a2 a3 a4 a5 a6 a7 a8 a9 a10 a11 a12 a13 a14 a15 a16 a17 a18 a19 a20 a21 a22 a23 b0 res.2.2.2.2.1 k0 k1 k2 k3 k4 k5 k6 k7 k8 k9 k10 k11 k12 k13 k14 k15 cv (.ref 27)) := by
  unfold e_hP_X9_needs at h
  refine xMet_of (pl := [some (.ref 0), some (.ref 1029)]) (by decide) (Nat.le_of_ble_eq_true rfl) rfl (Nat.le_of_ble_eq_true rfl) ?_
  refine x_aload_n dX9_needs_0 rfl ?_
  refine x_aload_n dX9_needs_1 rfl ?_
  obtain ⟨z2, y2, h⟩ := xbind h
  refine x_callV (t_hP_X9_isWord_14  z2 y2 (d + 0)) kX9_116 dX9_needs_2 rfl rfl rfl rfl rfl (Nat.le_of_ble_eq_true rfl) (Nat.le_of_ble_eq_true rfl) rfl rfl (Or.inl rfl) ?_
  refine x_if_ne 13 dX9_needs_5 (by decide) (fun q => ?_) (fun q => ?_)
  · have h := xif_f q h
    refine x_aload_n dX9_needs_13 rfl ?_
    obtain ⟨z14, y14, h⟩ := xbind h
    refine x_callV (t_hP_X9_goesOn  z14 y14 (d + 4)) kX9_113 dX9_needs_14 rfl rfl rfl rfl rfl (Nat.le_of_ble_eq_true rfl) (Nat.le_of_ble_eq_true rfl) rfl rfl (Or.inl rfl) ?_
    cases h
    exact x_vret2 dX9_needs_17 rfl rfl
  · have h := xif_t q h
    refine x_aload_n dX9_needs_8 rfl ?_
    refine x_iconst (1 : Int32) dX9_needs_9 (by decide) ?_
    obtain ⟨z10, y10, h⟩ := xbind h
    refine x_callV (t_hP_X9_flaw (1 : Int32) z10 y10 (d + 5)) kX9_120 dX9_needs_10 rfl rfl rfl rfl rfl (Nat.le_of_ble_eq_true rfl) (Nat.le_of_ble_eq_true rfl) rfl rfl (Or.inl rfl) ?_
    refine x_aload_n dX9_needs_13 rfl ?_
    obtain ⟨z14, y14, h⟩ := xbind h
    refine x_callV (t_hP_X9_goesOn  z14 y14 (d + 4)) kX9_113 dX9_needs_14 rfl rfl rfl rfl rfl (Nat.le_of_ble_eq_true rfl) (Nat.le_of_ble_eq_true rfl) rfl rfl (Or.inl rfl) ?_
    cases h
    exact x_vret2 dX9_needs_17 rfl rfl
set_option maxRecDepth 100000 in
set_option maxHeartbeats 4000000 in
theorem t_hP_X9_readPart_2 {g0 g1 g2 g3 g4 g5 g6 g7 g8 g9 g10 g11 g12 g13 g14 g15 g16 g17 g18 g19 g20 g21 g22 g23 g24 g25 g26 : Int32} {a0 a1 a2 a3 a4 a5 a6 a7 a8 a9 a10 a11 a12 a13 a14 a15 a16 a17 a18 a19 a20 a21 a22 a23 : (Nat → Int32)} {b0 : (Nat → Int64)} {w0 : Int64} {k0 k1 k2 k3 k4 k5 k6 k7 k8 k9 k10 k11 k12 k13 k14 k15 : xC} {cv : Value} (x2 : Int32) (x3 : Int32) (res : Int32 × Int32 × Int32 × Int32 × Int32 × Int64 × Int32 × Int32) (h : e_hP_X9_readPart g6 w0 g5 g4 a0 g7 g8 g9 g10 (xsy 29) x2 x3 = some res) (d : Nat) : xMet xks YX9_readPart (d + 8) 0 0 [.ref 0, .ref 1029, .int x2, .int x3] (hP g0 g1 g2 g3 g4 g5 g6 g7 g8 g9 g10 g11 g12 g13 g14 g15 g16 g17 g18 g19 g20 g21 g22 g23 g24 g25 g26 a0 a1 a2 a3 a4 a5 a6 a7 a8 a9 a10 a11 a12 a13 a14 a15 a16 a17 a18 a19 a20 a21 a22 a23 b0 w0 k0 k1 k2 k3 k4 k5 k6 k7 k8 k9 k10 k11 k12 k13 k14 k15 cv (.ref 27)) (some (.int res.1)) (hP g0 g1 g2 g3 g4 res.2.2.2.1 res.2.2.1 res.2.1 res.2.2.2.2.1 res.2.2.2.2.2.2.1 res.2.2.2.2.2.2.2 g11 g12 g13 g14 g15 g16 g17 g18 g19 g20 g21 g22 g23 g24 g25 g26 a0 a1 a2 a3 a4 a5 a6 a7 a8 a9 a10 a11 a12 a13 a14 a15 a16 a17 a18 a19 a20 a21 a22 a23 b0 res.2.2.2.2.2.1 k0 k1 k2 k3 k4 k5 k6 k7 k8 k9 k10 k11 k12 k13 k14 k15 cv (.ref 27)) := by
  unfold e_hP_X9_readPart at h
  refine xMet_of (pl := [some (.ref 0), some (.ref 1029), some (.int x2), some (.int x3)]) (by decide) (Nat.le_of_ble_eq_true rfl) rfl (Nat.le_of_ble_eq_true rfl) ?_
  refine x_aload_n dX9_readPart_0 rfl ?_
  refine x_aload_n dX9_readPart_1 rfl ?_
  obtain ⟨z2, y2, h⟩ := xbind h
  refine x_callV (t_hP_X9_needs_2  z2 y2 (d + 0)) kX9_128 dX9_readPart_2 rfl rfl rfl rfl rfl (Nat.le_of_ble_eq_true rfl) (Nat.le_of_ble_eq_true rfl) rfl rfl (Or.inl rfl) ?_
  refine x_aload_n dX9_readPart_5 rfl ?_
  refine x_iload_n dX9_readPart_6 rfl ?_
  refine x_iload_n dX9_readPart_7 rfl ?_
  obtain ⟨z8, y8, h⟩ := xbind h
  refine x_callV (t_hP_X9_readWhole x2 x3 z8 y8 (d + 4)) kX9_132 dX9_readPart_8 rfl rfl rfl rfl rfl (Nat.le_of_ble_eq_true rfl) (Nat.le_of_ble_eq_true rfl) rfl rfl (Or.inl rfl) ?_
  cases h
  exact x_iret2 dX9_readPart_11 rfl rfl
set_option maxRecDepth 100000 in
set_option maxHeartbeats 4000000 in
theorem lp_hP_X9_packed_15_4 {g0 g1 g2 g3 g4 g5 g6 g7 g8 g9 g10 g11 g12 g13 g14 g15 g16 g17 g18 g19 g20 g21 g22 g23 g24 g25 g26 : Int32} {a0 a1 a2 a3 a4 a5 a6 a7 a8 a9 a10 a11 a12 a13 a14 a15 a16 a17 a18 a19 a20 a21 a22 a23 : (Nat → Int32)} {b0 : (Nat → Int64)} {w0 : Int64} {k0 k1 k2 k3 k4 k5 k6 k7 k8 k9 k10 k11 k12 k13 k14 k15 : xC} {cv : Value} (d n0 : Nat)  (res : Int64) (K : Int64 → Int32 → Option (Int64)) (hK : ∀ (l1_4 : Int64) (l3_4 : Int32), K l1_4 l3_4 = some res → xW xks YX9_packed (d + 5) 0 0 n0 (xZ 0 0 n0 (some (.long res)) (hP g0 g1 g2 g3 g4 g5 g6 g7 g8 g9 g10 g11 g12 g13 g14 g15 g16 g17 g18 g19 g20 g21 g22 g23 g24 g25 g26 a0 a1 a2 a3 a4 a5 a6 a7 a8 a9 a10 a11 a12 a13 a14 a15 a16 a17 a18 a19 a20 a21 a22 a23 b0 w0 k0 k1 k2 k3 k4 k5 k6 k7 k8 k9 k10 k11 k12 k13 k14 k15 cv (.ref 27))) 0 0 36 [none, some (.long l1_4), none, none] [] (hP g0 g1 g2 g3 g4 g5 g6 g7 g8 g9 g10 g11 g12 g13 g14 g15 g16 g17 g18 g19 g20 g21 g22 g23 g24 g25 g26 a0 a1 a2 a3 a4 a5 a6 a7 a8 a9 a10 a11 a12 a13 a14 a15 a16 a17 a18 a19 a20 a21 a22 a23 b0 w0 k0 k1 k2 k3 k4 k5 k6 k7 k8 k9 k10 k11 k12 k13 k14 k15 cv (.ref 27))) : ∀ (n : Nat) (l1_4 : Int64) (l3_4 : Int32), L_hP_X9_packed_4 (xsy 30)  K n l1_4 l3_4 = some res → xW xks YX9_packed (d + 5) 0 0 n0 (xZ 0 0 n0 (some (.long res)) (hP g0 g1 g2 g3 g4 g5 g6 g7 g8 g9 g10 g11 g12 g13 g14 g15 g16 g17 g18 g19 g20 g21 g22 g23 g24 g25 g26 a0 a1 a2 a3 a4 a5 a6 a7 a8 a9 a10 a11 a12 a13 a14 a15 a16 a17 a18 a19 a20 a21 a22 a23 b0 w0 k0 k1 k2 k3 k4 k5 k6 k7 k8 k9 k10 k11 k12 k13 k14 k15 cv (.ref 27))) 0 0 4 [some (.ref 1030), some (.long l1_4), none, some (.int l3_4)] [] (hP g0 g1 g2 g3 g4 g5 g6 g7 g8 g9 g10 g11 g12 g13 g14 g15 g16 g17 g18 g19 g20 g21 g22 g23 g24 g25 g26 a0 a1 a2 a3 a4 a5 a6 a7 a8 a9 a10 a11 a12 a13 a14 a15 a16 a17 a18 a19 a20 a21 a22 a23 b0 w0 k0 k1 k2 k3 k4 k5 k6 k7 k8 k9 k10 k11 k12 k13 k14 k15 cv (.ref 27)) := by
  intro n
  induction n with
  | zero =>
    intro l1_4 l3_4 h
    cases (show (none : Option (Int64)) = some res from h)
  | succ n4 ih4 =>
    intro l1_4 l3_4 h
    unfold L_hP_X9_packed_4 at h
    refine x_iload_n dX9_packed_4 rfl ?_
    refine x_aload_n dX9_packed_5 rfl ?_
    refine x_slen (k := 30) (s := xsy 30) rfl rfl (Nat.le_of_ble_eq_true rfl) kX9_65 dX9_packed_6 (Nat.le_of_ble_eq_true rfl) ?_
    refine x_icmp_ge 36 dX9_packed_9 (by decide) (fun q => ?_) (fun q => ?_)
    · have h := xif_t q h
      refine x_weak (pl2 := [none, some (.long l1_4), none, none]) ⟨rfl, trivial⟩ ?_
      exact hK l1_4 l3_4 h
    · have h := xif_f q h
      refine x_ldc2 iX9_71 dX9_packed_12 ?_
      refine x_lload_n dX9_packed_15 rfl ?_
      refine x_lmul dX9_packed_16 ?_
      refine x_aload_n dX9_packed_17 rfl ?_
      refine x_iload_n dX9_packed_18 rfl ?_
      obtain ⟨q19, h⟩ := xix_of h
      refine x_schar (k := 30) (s := xsy 30) rfl rfl q19 (Nat.le_of_ble_eq_true rfl) kX9_73 dX9_packed_19 (Nat.le_of_ble_eq_true rfl) ?_
      refine x_bipush (97 : Int32) dX9_packed_22 (by decide) ?_
      refine x_isub dX9_packed_24 ?_
      refine x_iconst (1 : Int32) dX9_packed_25 (by decide) ?_
      refine x_iadd dX9_packed_26 ?_
      refine x_i2l dX9_packed_27 ?_
      refine x_ladd dX9_packed_28 ?_
      refine x_lstore_n (pl' := [some (.ref 1030), some (.long (((32 : Int64) * l1_4) + (((xch (xsy 30) l3_4) - (97 : Int32)) + (1 : Int32)).toInt64)), none, some (.int l3_4)]) dX9_packed_29 (by decide) rfl ?_
      refine x_iincK (1 : Int32) (pl' := [some (.ref 1030), some (.long (((32 : Int64) * l1_4) + (((xch (xsy 30) l3_4) - (97 : Int32)) + (1 : Int32)).toInt64)), none, some (.int (l3_4 + (1 : Int32)))]) dX9_packed_30 rfl (by decide) (by decide) rfl ?_
      refine x_goto 4 dX9_packed_33 (by decide) ?_
      refine x_weak (pl2 := [some (.ref 1030), some (.long (((32 : Int64) * l1_4) + (((xch (xsy 30) l3_4) - (97 : Int32)) + (1 : Int32)).toInt64)), none, some (.int (l3_4 + (1 : Int32)))]) ⟨rfl, rfl, rfl, trivial⟩ ?_
      exact ih4 (((32 : Int64) * l1_4) + (((xch (xsy 30) l3_4) - (97 : Int32)) + (1 : Int32)).toInt64) (l3_4 + (1 : Int32)) h
set_option maxRecDepth 100000 in
set_option maxHeartbeats 4000000 in
theorem t_hP_X9_packed_15 {g0 g1 g2 g3 g4 g5 g6 g7 g8 g9 g10 g11 g12 g13 g14 g15 g16 g17 g18 g19 g20 g21 g22 g23 g24 g25 g26 : Int32} {a0 a1 a2 a3 a4 a5 a6 a7 a8 a9 a10 a11 a12 a13 a14 a15 a16 a17 a18 a19 a20 a21 a22 a23 : (Nat → Int32)} {b0 : (Nat → Int64)} {w0 : Int64} {k0 k1 k2 k3 k4 k5 k6 k7 k8 k9 k10 k11 k12 k13 k14 k15 : xC} {cv : Value}  (res : Int64) (h : e_hP_X9_packed (xsy 30)  = some res) (d : Nat) : xMet xks YX9_packed (d + 5) 0 0 [.ref 1030] (hP g0 g1 g2 g3 g4 g5 g6 g7 g8 g9 g10 g11 g12 g13 g14 g15 g16 g17 g18 g19 g20 g21 g22 g23 g24 g25 g26 a0 a1 a2 a3 a4 a5 a6 a7 a8 a9 a10 a11 a12 a13 a14 a15 a16 a17 a18 a19 a20 a21 a22 a23 b0 w0 k0 k1 k2 k3 k4 k5 k6 k7 k8 k9 k10 k11 k12 k13 k14 k15 cv (.ref 27)) (some (.long res)) (hP g0 g1 g2 g3 g4 g5 g6 g7 g8 g9 g10 g11 g12 g13 g14 g15 g16 g17 g18 g19 g20 g21 g22 g23 g24 g25 g26 a0 a1 a2 a3 a4 a5 a6 a7 a8 a9 a10 a11 a12 a13 a14 a15 a16 a17 a18 a19 a20 a21 a22 a23 b0 w0 k0 k1 k2 k3 k4 k5 k6 k7 k8 k9 k10 k11 k12 k13 k14 k15 cv (.ref 27)) := by
  unfold e_hP_X9_packed at h
  refine xMet_of (pl := [some (.ref 1030), none, none, none]) (by decide) (Nat.le_of_ble_eq_true rfl) rfl (Nat.le_of_ble_eq_true rfl) ?_
  refine x_lconst (0 : Int64) dX9_packed_0 (by decide) ?_
  refine x_lstore_n (pl' := [some (.ref 1030), some (.long (0 : Int64)), none, none]) dX9_packed_1 (by decide) rfl ?_
  refine x_iconst (0 : Int32) dX9_packed_2 (by decide) ?_
  refine x_istore_n (pl' := [some (.ref 1030), some (.long (0 : Int64)), none, some (.int (0 : Int32))]) dX9_packed_3 (by decide) rfl ?_
  refine x_weak (pl2 := [some (.ref 1030), some (.long (0 : Int64)), none, some (.int (0 : Int32))]) ⟨rfl, rfl, rfl, trivial⟩ ?_
  refine lp_hP_X9_packed_15_4 d _  res _ (fun l1_4 l3_4 h => ?_) 200000 (0 : Int64) (0 : Int32) h
  refine x_lload_n dX9_packed_36 rfl ?_
  cases h
  exact x_lret2 dX9_packed_37 rfl rfl
set_option maxRecDepth 100000 in
set_option maxHeartbeats 4000000 in
theorem t_hP_X9_isWord_15 {g0 g1 g2 g3 g4 g5 g6 g7 g8 g9 g10 g11 g12 g13 g14 g15 g16 g17 g18 g19 g20 g21 g22 g23 g24 g25 g26 : Int32} {a0 a1 a2 a3 a4 a5 a6 a7 a8 a9 a10 a11 a12 a13 a14 a15 a16 a17 a18 a19 a20 a21 a22 a23 : (Nat → Int32)} {b0 : (Nat → Int64)} {w0 : Int64} {k0 k1 k2 k3 k4 k5 k6 k7 k8 k9 k10 k11 k12 k13 k14 k15 : xC} {cv : Value}  (res : Int32) (h : e_hP_X9_isWord g6 w0 (xsy 30)  = some res) (d : Nat) : xMet xks YX9_isWord (d + 6) 0 0 [.ref 0, .ref 1030] (hP g0 g1 g2 g3 g4 g5 g6 g7 g8 g9 g10 g11 g12 g13 g14 g15 g16 g17 g18 g19 g20 g21 g22 g23 g24 g25 g26 a0 a1 a2 a3 a4 a5 a6 a7 a8 a9 a10 a11 a12 a13 a14 a15 a16 a17 a18 a19 a20 a21 a22 a23 b0 w0 k0 k1 k2 k3 k4 k5 k6 k7 k8 k9 k10 k11 k12 k13 k14 k15 cv (.ref 27)) (some (.int res)) (hP g0 g1 g2 g3 g4 g5 g6 g7 g8 g9 g10 g11 g12 g13 g14 g15 g16 g17 g18 g19 g20 g21 g22 g23 g24 g25 g26 a0 a1 a2 a3 a4 a5 a6 a7 a8 a9 a10 a11 a12 a13 a14 a15 a16 a17 a18 a19 a20 a21 a22 a23 b0 w0 k0 k1 k2 k3 k4 k5 k6 k7 k8 k9 k10 k11 k12 k13 k14 k15 cv (.ref 27)) := by
  unfold e_hP_X9_isWord at h
  refine xMet_of (pl := [some (.ref 0), some (.ref 1030)]) (by decide) (Nat.le_of_ble_eq_true rfl) rfl (Nat.le_of_ble_eq_true rfl) ?_
  refine x_aload_n dX9_isWord_0 rfl ?_
  refine x_get fX9_77 dX9_isWord_1 rfl rfl rfl ?_
  refine x_iconst (2 : Int32) dX9_isWord_4 (by decide) ?_
  refine x_icmp_ne 24 dX9_isWord_5 (by decide) (fun q => ?_) (fun q => ?_)
  · have h := xif_f q h
    refine x_iconst (0 : Int32) dX9_isWord_24 (by decide) ?_
    cases h
    exact x_zret2 dX9_isWord_25 rfl rfl rfl
  · have h := xif_t q h
    refine x_aload_n dX9_isWord_8 rfl ?_
    refine x_get fX9_93 dX9_isWord_9 rfl rfl rfl ?_
    refine x_aload_n dX9_isWord_12 rfl ?_
    obtain ⟨z13, y13, h⟩ := xbind h
    refine x_callS (t_hP_X9_packed_15  z13 y13 (d + 0)) kX9_109 dX9_isWord_13 rfl rfl (Nat.le_of_ble_eq_true rfl) (Nat.le_of_ble_eq_true rfl) rfl rfl (Or.inl rfl) ?_
    refine x_lcmp dX9_isWord_16 ?_
    refine x_if_ne 24 dX9_isWord_17 (by decide) (fun q => ?_) (fun q => ?_)
    · have h := xif_f q h
      refine x_iconst (0 : Int32) dX9_isWord_24 (by decide) ?_
      cases h
      exact x_zret2 dX9_isWord_25 rfl rfl rfl
    · have h := xif_t q h
      refine x_iconst (1 : Int32) dX9_isWord_20 (by decide) ?_
      refine x_goto 25 dX9_isWord_21 (by decide) ?_
      cases h
      exact x_zret2 dX9_isWord_25 rfl rfl rfl
set_option maxRecDepth 100000 in
set_option maxHeartbeats 4000000 in
theorem t_hP_X9_needs_3 {g0 g1 g2 g3 g4 g5 g6 g7 g8 g9 g10 g11 g12 g13 g14 g15 g16 g17 g18 g19 g20 g21 g22 g23 g24 g25 g26 : Int32} {a0 a1 a2 a3 a4 a5 a6 a7 a8 a9 a10 a11 a12 a13 a14 a15 a16 a17 a18 a19 a20 a21 a22 a23 : (Nat → Int32)} {b0 : (Nat → Int64)} {w0 : Int64} {k0 k1 k2 k3 k4 k5 k6 k7 k8 k9 k10 k11 k12 k13 k14 k15 : xC} {cv : Value}  (res : Int32 × Int32 × Int32 × Int32 × Int64 × Int32 × Int32) (h : e_hP_X9_needs g6 w0 g5 g4 a0 g7 g8 g9 g10 (xsy 30)  = some res) (d : Nat) : xMet xks YX9_needs (d + 7) 0 0 [.ref 0, .ref 1030] (hP g0 g1 g2 g3 g4 g5 g6 g7 g8 g9 g10 g11 g12 g13 g14 g15 g16 g17 g18 g19 g20 g21 g22 g23 g24 g25 g26 a0 a1 a2 a3 a4 a5 a6 a7 a8 a9 a10 a11 a12 a13 a14 a15 a16 a17 a18 a19 a20 a21 a22 a23 b0 w0 k0 k1 k2 k3 k4 k5 k6 k7 k8 k9 k10 k11 k12 k13 k14 k15 cv (.ref 27)) none (hP g0 g1 g2 g3 g4 res.2.2.1 res.2.1 res.1 res.2.2.2.1 res.2.2.2.2.2.1 res.2.2.2.2.2.2 g11 g12 g13 g14 g15 g16 g17 g18 g19 g20 g21 g22 g23 g24 g25 g26 a0 a1 a2 a3 a4 a5 a6 a7 a8 a9 a10 a11 a12 a13 a14 a15 a16 a17 a18 a19 a20 a21 a22 a23 b0 res.2.2.2.2.1 k0 k1 k2 k3 k4 k5 k6 k7 k8 k9 k10 k11 k12 k13 k14 k15 cv (.ref 27)) := by
  unfold e_hP_X9_needs at h
  refine xMet_of (pl := [some (.ref 0), some (.ref 1030)]) (by decide) (Nat.le_of_ble_eq_true rfl) rfl (Nat.le_of_ble_eq_true rfl) ?_
  refine x_aload_n dX9_needs_0 rfl ?_
  refine x_aload_n dX9_needs_1 rfl ?_
  obtain ⟨z2, y2, h⟩ := xbind h
  refine x_callV (t_hP_X9_isWord_15  z2 y2 (d + 0)) kX9_116 dX9_needs_2 rfl rfl rfl rfl rfl (Nat.le_of_ble_eq_true rfl) (Nat.le_of_ble_eq_true rfl) rfl rfl (Or.inl rfl) ?_
  refine x_if_ne 13 dX9_needs_5 (by decide) (fun q => ?_) (fun q => ?_)
  · have h := xif_f q h
    refine x_aload_n dX9_needs_13 rfl ?_
    obtain ⟨z14, y14, h⟩ := xbind h
    refine x_callV (t_hP_X9_goesOn  z14 y14 (d + 4)) kX9_113 dX9_needs_14 rfl rfl rfl rfl rfl (Nat.le_of_ble_eq_true rfl) (Nat.le_of_ble_eq_true rfl) rfl rfl (Or.inl rfl) ?_
    cases h
    exact x_vret2 dX9_needs_17 rfl rfl
  · have h := xif_t q h
    refine x_aload_n dX9_needs_8 rfl ?_
    refine x_iconst (1 : Int32) dX9_needs_9 (by decide) ?_
    obtain ⟨z10, y10, h⟩ := xbind h
    refine x_callV (t_hP_X9_flaw (1 : Int32) z10 y10 (d + 5)) kX9_120 dX9_needs_10 rfl rfl rfl rfl rfl (Nat.le_of_ble_eq_true rfl) (Nat.le_of_ble_eq_true rfl) rfl rfl (Or.inl rfl) ?_
    refine x_aload_n dX9_needs_13 rfl ?_
    obtain ⟨z14, y14, h⟩ := xbind h
    refine x_callV (t_hP_X9_goesOn  z14 y14 (d + 4)) kX9_113 dX9_needs_14 rfl rfl rfl rfl rfl (Nat.le_of_ble_eq_true rfl) (Nat.le_of_ble_eq_true rfl) rfl rfl (Or.inl rfl) ?_
    cases h
    exact x_vret2 dX9_needs_17 rfl rfl
set_option maxRecDepth 100000 in
set_option maxHeartbeats 4000000 in
theorem t_hP_X9_readPart_3 {g0 g1 g2 g3 g4 g5 g6 g7 g8 g9 g10 g11 g12 g13 g14 g15 g16 g17 g18 g19 g20 g21 g22 g23 g24 g25 g26 : Int32} {a0 a1 a2 a3 a4 a5 a6 a7 a8 a9 a10 a11 a12 a13 a14 a15 a16 a17 a18 a19 a20 a21 a22 a23 : (Nat → Int32)} {b0 : (Nat → Int64)} {w0 : Int64} {k0 k1 k2 k3 k4 k5 k6 k7 k8 k9 k10 k11 k12 k13 k14 k15 : xC} {cv : Value} (x2 : Int32) (x3 : Int32) (res : Int32 × Int32 × Int32 × Int32 × Int32 × Int64 × Int32 × Int32) (h : e_hP_X9_readPart g6 w0 g5 g4 a0 g7 g8 g9 g10 (xsy 30) x2 x3 = some res) (d : Nat) : xMet xks YX9_readPart (d + 8) 0 0 [.ref 0, .ref 1030, .int x2, .int x3] (hP g0 g1 g2 g3 g4 g5 g6 g7 g8 g9 g10 g11 g12 g13 g14 g15 g16 g17 g18 g19 g20 g21 g22 g23 g24 g25 g26 a0 a1 a2 a3 a4 a5 a6 a7 a8 a9 a10 a11 a12 a13 a14 a15 a16 a17 a18 a19 a20 a21 a22 a23 b0 w0 k0 k1 k2 k3 k4 k5 k6 k7 k8 k9 k10 k11 k12 k13 k14 k15 cv (.ref 27)) (some (.int res.1)) (hP g0 g1 g2 g3 g4 res.2.2.2.1 res.2.2.1 res.2.1 res.2.2.2.2.1 res.2.2.2.2.2.2.1 res.2.2.2.2.2.2.2 g11 g12 g13 g14 g15 g16 g17 g18 g19 g20 g21 g22 g23 g24 g25 g26 a0 a1 a2 a3 a4 a5 a6 a7 a8 a9 a10 a11 a12 a13 a14 a15 a16 a17 a18 a19 a20 a21 a22 a23 b0 res.2.2.2.2.2.1 k0 k1 k2 k3 k4 k5 k6 k7 k8 k9 k10 k11 k12 k13 k14 k15 cv (.ref 27)) := by
  unfold e_hP_X9_readPart at h
  refine xMet_of (pl := [some (.ref 0), some (.ref 1030), some (.int x2), some (.int x3)]) (by decide) (Nat.le_of_ble_eq_true rfl) rfl (Nat.le_of_ble_eq_true rfl) ?_
  refine x_aload_n dX9_readPart_0 rfl ?_
  refine x_aload_n dX9_readPart_1 rfl ?_
  obtain ⟨z2, y2, h⟩ := xbind h
  refine x_callV (t_hP_X9_needs_3  z2 y2 (d + 0)) kX9_128 dX9_readPart_2 rfl rfl rfl rfl rfl (Nat.le_of_ble_eq_true rfl) (Nat.le_of_ble_eq_true rfl) rfl rfl (Or.inl rfl) ?_
  refine x_aload_n dX9_readPart_5 rfl ?_
  refine x_iload_n dX9_readPart_6 rfl ?_
  refine x_iload_n dX9_readPart_7 rfl ?_
  obtain ⟨z8, y8, h⟩ := xbind h
  refine x_callV (t_hP_X9_readWhole x2 x3 z8 y8 (d + 4)) kX9_132 dX9_readPart_8 rfl rfl rfl rfl rfl (Nat.le_of_ble_eq_true rfl) (Nat.le_of_ble_eq_true rfl) rfl rfl (Or.inl rfl) ?_
  cases h
  exact x_iret2 dX9_readPart_11 rfl rfl
set_option maxRecDepth 100000 in
set_option maxHeartbeats 4000000 in
theorem lp_hP_X9_packed_16_4 {g0 g1 g2 g3 g4 g5 g6 g7 g8 g9 g10 g11 g12 g13 g14 g15 g16 g17 g18 g19 g20 g21 g22 g23 g24 g25 g26 : Int32} {a0 a1 a2 a3 a4 a5 a6 a7 a8 a9 a10 a11 a12 a13 a14 a15 a16 a17 a18 a19 a20 a21 a22 a23 : (Nat → Int32)} {b0 : (Nat → Int64)} {w0 : Int64} {k0 k1 k2 k3 k4 k5 k6 k7 k8 k9 k10 k11 k12 k13 k14 k15 : xC} {cv : Value} (d n0 : Nat)  (res : Int64) (K : Int64 → Int32 → Option (Int64)) (hK : ∀ (l1_4 : Int64) (l3_4 : Int32), K l1_4 l3_4 = some res → xW xks YX9_packed (d + 5) 0 0 n0 (xZ 0 0 n0 (some (.long res)) (hP g0 g1 g2 g3 g4 g5 g6 g7 g8 g9 g10 g11 g12 g13 g14 g15 g16 g17 g18 g19 g20 g21 g22 g23 g24 g25 g26 a0 a1 a2 a3 a4 a5 a6 a7 a8 a9 a10 a11 a12 a13 a14 a15 a16 a17 a18 a19 a20 a21 a22 a23 b0 w0 k0 k1 k2 k3 k4 k5 k6 k7 k8 k9 k10 k11 k12 k13 k14 k15 cv (.ref 27))) 0 0 36 [none, some (.long l1_4), none, none] [] (hP g0 g1 g2 g3 g4 g5 g6 g7 g8 g9 g10 g11 g12 g13 g14 g15 g16 g17 g18 g19 g20 g21 g22 g23 g24 g25 g26 a0 a1 a2 a3 a4 a5 a6 a7 a8 a9 a10 a11 a12 a13 a14 a15 a16 a17 a18 a19 a20 a21 a22 a23 b0 w0 k0 k1 k2 k3 k4 k5 k6 k7 k8 k9 k10 k11 k12 k13 k14 k15 cv (.ref 27))) : ∀ (n : Nat) (l1_4 : Int64) (l3_4 : Int32), L_hP_X9_packed_4 (xsy 31)  K n l1_4 l3_4 = some res → xW xks YX9_packed (d + 5) 0 0 n0 (xZ 0 0 n0 (some (.long res)) (hP g0 g1 g2 g3 g4 g5 g6 g7 g8 g9 g10 g11 g12 g13 g14 g15 g16 g17 g18 g19 g20 g21 g22 g23 g24 g25 g26 a0 a1 a2 a3 a4 a5 a6 a7 a8 a9 a10 a11 a12 a13 a14 a15 a16 a17 a18 a19 a20 a21 a22 a23 b0 w0 k0 k1 k2 k3 k4 k5 k6 k7 k8 k9 k10 k11 k12 k13 k14 k15 cv (.ref 27))) 0 0 4 [some (.ref 1031), some (.long l1_4), none, some (.int l3_4)] [] (hP g0 g1 g2 g3 g4 g5 g6 g7 g8 g9 g10 g11 g12 g13 g14 g15 g16 g17 g18 g19 g20 g21 g22 g23 g24 g25 g26 a0 a1 a2 a3 a4 a5 a6 a7 a8 a9 a10 a11 a12 a13 a14 a15 a16 a17 a18 a19 a20 a21 a22 a23 b0 w0 k0 k1 k2 k3 k4 k5 k6 k7 k8 k9 k10 k11 k12 k13 k14 k15 cv (.ref 27)) := by
  intro n
  induction n with
  | zero =>
    intro l1_4 l3_4 h
    cases (show (none : Option (Int64)) = some res from h)
  | succ n4 ih4 =>
    intro l1_4 l3_4 h
    unfold L_hP_X9_packed_4 at h
    refine x_iload_n dX9_packed_4 rfl ?_
    refine x_aload_n dX9_packed_5 rfl ?_
    refine x_slen (k := 31) (s := xsy 31) rfl rfl (Nat.le_of_ble_eq_true rfl) kX9_65 dX9_packed_6 (Nat.le_of_ble_eq_true rfl) ?_
    refine x_icmp_ge 36 dX9_packed_9 (by decide) (fun q => ?_) (fun q => ?_)
    · have h := xif_t q h
      refine x_weak (pl2 := [none, some (.long l1_4), none, none]) ⟨rfl, trivial⟩ ?_
      exact hK l1_4 l3_4 h
    · have h := xif_f q h
      refine x_ldc2 iX9_71 dX9_packed_12 ?_
      refine x_lload_n dX9_packed_15 rfl ?_
      refine x_lmul dX9_packed_16 ?_
      refine x_aload_n dX9_packed_17 rfl ?_
      refine x_iload_n dX9_packed_18 rfl ?_
      obtain ⟨q19, h⟩ := xix_of h
      refine x_schar (k := 31) (s := xsy 31) rfl rfl q19 (Nat.le_of_ble_eq_true rfl) kX9_73 dX9_packed_19 (Nat.le_of_ble_eq_true rfl) ?_
      refine x_bipush (97 : Int32) dX9_packed_22 (by decide) ?_
      refine x_isub dX9_packed_24 ?_
      refine x_iconst (1 : Int32) dX9_packed_25 (by decide) ?_
      refine x_iadd dX9_packed_26 ?_
      refine x_i2l dX9_packed_27 ?_
      refine x_ladd dX9_packed_28 ?_
      refine x_lstore_n (pl' := [some (.ref 1031), some (.long (((32 : Int64) * l1_4) + (((xch (xsy 31) l3_4) - (97 : Int32)) + (1 : Int32)).toInt64)), none, some (.int l3_4)]) dX9_packed_29 (by decide) rfl ?_
      refine x_iincK (1 : Int32) (pl' := [some (.ref 1031), some (.long (((32 : Int64) * l1_4) + (((xch (xsy 31) l3_4) - (97 : Int32)) + (1 : Int32)).toInt64)), none, some (.int (l3_4 + (1 : Int32)))]) dX9_packed_30 rfl (by decide) (by decide) rfl ?_
      refine x_goto 4 dX9_packed_33 (by decide) ?_
      refine x_weak (pl2 := [some (.ref 1031), some (.long (((32 : Int64) * l1_4) + (((xch (xsy 31) l3_4) - (97 : Int32)) + (1 : Int32)).toInt64)), none, some (.int (l3_4 + (1 : Int32)))]) ⟨rfl, rfl, rfl, trivial⟩ ?_
      exact ih4 (((32 : Int64) * l1_4) + (((xch (xsy 31) l3_4) - (97 : Int32)) + (1 : Int32)).toInt64) (l3_4 + (1 : Int32)) h
set_option maxRecDepth 100000 in
set_option maxHeartbeats 4000000 in
theorem t_hP_X9_packed_16 {g0 g1 g2 g3 g4 g5 g6 g7 g8 g9 g10 g11 g12 g13 g14 g15 g16 g17 g18 g19 g20 g21 g22 g23 g24 g25 g26 : Int32} {a0 a1 a2 a3 a4 a5 a6 a7 a8 a9 a10 a11 a12 a13 a14 a15 a16 a17 a18 a19 a20 a21 a22 a23 : (Nat → Int32)} {b0 : (Nat → Int64)} {w0 : Int64} {k0 k1 k2 k3 k4 k5 k6 k7 k8 k9 k10 k11 k12 k13 k14 k15 : xC} {cv : Value}  (res : Int64) (h : e_hP_X9_packed (xsy 31)  = some res) (d : Nat) : xMet xks YX9_packed (d + 5) 0 0 [.ref 1031] (hP g0 g1 g2 g3 g4 g5 g6 g7 g8 g9 g10 g11 g12 g13 g14 g15 g16 g17 g18 g19 g20 g21 g22 g23 g24 g25 g26 a0 a1 a2 a3 a4 a5 a6 a7 a8 a9 a10 a11 a12 a13 a14 a15 a16 a17 a18 a19 a20 a21 a22 a23 b0 w0 k0 k1 k2 k3 k4 k5 k6 k7 k8 k9 k10 k11 k12 k13 k14 k15 cv (.ref 27)) (some (.long res)) (hP g0 g1 g2 g3 g4 g5 g6 g7 g8 g9 g10 g11 g12 g13 g14 g15 g16 g17 g18 g19 g20 g21 g22 g23 g24 g25 g26 a0 a1 a2 a3 a4 a5 a6 a7 a8 a9 a10 a11 a12 a13 a14 a15 a16 a17 a18 a19 a20 a21 a22 a23 b0 w0 k0 k1 k2 k3 k4 k5 k6 k7 k8 k9 k10 k11 k12 k13 k14 k15 cv (.ref 27)) := by
  unfold e_hP_X9_packed at h
  refine xMet_of (pl := [some (.ref 1031), none, none, none]) (by decide) (Nat.le_of_ble_eq_true rfl) rfl (Nat.le_of_ble_eq_true rfl) ?_
  refine x_lconst (0 : Int64) dX9_packed_0 (by decide) ?_
  refine x_lstore_n (pl' := [some (.ref 1031), some (.long (0 : Int64)), none, none]) dX9_packed_1 (by decide) rfl ?_
  refine x_iconst (0 : Int32) dX9_packed_2 (by decide) ?_
  refine x_istore_n (pl' := [some (.ref 1031), some (.long (0 : Int64)), none, some (.int (0 : Int32))]) dX9_packed_3 (by decide) rfl ?_
  refine x_weak (pl2 := [some (.ref 1031), some (.long (0 : Int64)), none, some (.int (0 : Int32))]) ⟨rfl, rfl, rfl, trivial⟩ ?_
  refine lp_hP_X9_packed_16_4 d _  res _ (fun l1_4 l3_4 h => ?_) 200000 (0 : Int64) (0 : Int32) h
  refine x_lload_n dX9_packed_36 rfl ?_
  cases h
  exact x_lret2 dX9_packed_37 rfl rfl
set_option maxRecDepth 100000 in
set_option maxHeartbeats 4000000 in
theorem t_hP_X9_isWord_16 {g0 g1 g2 g3 g4 g5 g6 g7 g8 g9 g10 g11 g12 g13 g14 g15 g16 g17 g18 g19 g20 g21 g22 g23 g24 g25 g26 : Int32} {a0 a1 a2 a3 a4 a5 a6 a7 a8 a9 a10 a11 a12 a13 a14 a15 a16 a17 a18 a19 a20 a21 a22 a23 : (Nat → Int32)} {b0 : (Nat → Int64)} {w0 : Int64} {k0 k1 k2 k3 k4 k5 k6 k7 k8 k9 k10 k11 k12 k13 k14 k15 : xC} {cv : Value}  (res : Int32) (h : e_hP_X9_isWord g6 w0 (xsy 31)  = some res) (d : Nat) : xMet xks YX9_isWord (d + 6) 0 0 [.ref 0, .ref 1031] (hP g0 g1 g2 g3 g4 g5 g6 g7 g8 g9 g10 g11 g12 g13 g14 g15 g16 g17 g18 g19 g20 g21 g22 g23 g24 g25 g26 a0 a1 a2 a3 a4 a5 a6 a7 a8 a9 a10 a11 a12 a13 a14 a15 a16 a17 a18 a19 a20 a21 a22 a23 b0 w0 k0 k1 k2 k3 k4 k5 k6 k7 k8 k9 k10 k11 k12 k13 k14 k15 cv (.ref 27)) (some (.int res)) (hP g0 g1 g2 g3 g4 g5 g6 g7 g8 g9 g10 g11 g12 g13 g14 g15 g16 g17 g18 g19 g20 g21 g22 g23 g24 g25 g26 a0 a1 a2 a3 a4 a5 a6 a7 a8 a9 a10 a11 a12 a13 a14 a15 a16 a17 a18 a19 a20 a21 a22 a23 b0 w0 k0 k1 k2 k3 k4 k5 k6 k7 k8 k9 k10 k11 k12 k13 k14 k15 cv (.ref 27)) := by
  unfold e_hP_X9_isWord at h
  refine xMet_of (pl := [some (.ref 0), some (.ref 1031)]) (by decide) (Nat.le_of_ble_eq_true rfl) rfl (Nat.le_of_ble_eq_true rfl) ?_
  refine x_aload_n dX9_isWord_0 rfl ?_
  refine x_get fX9_77 dX9_isWord_1 rfl rfl rfl ?_
  refine x_iconst (2 : Int32) dX9_isWord_4 (by decide) ?_
  refine x_icmp_ne 24 dX9_isWord_5 (by decide) (fun q => ?_) (fun q => ?_)
  · have h := xif_f q h
    refine x_iconst (0 : Int32) dX9_isWord_24 (by decide) ?_
    cases h
    exact x_zret2 dX9_isWord_25 rfl rfl rfl
  · have h := xif_t q h
    refine x_aload_n dX9_isWord_8 rfl ?_
    refine x_get fX9_93 dX9_isWord_9 rfl rfl rfl ?_
    refine x_aload_n dX9_isWord_12 rfl ?_
    obtain ⟨z13, y13, h⟩ := xbind h
    refine x_callS (t_hP_X9_packed_16  z13 y13 (d + 0)) kX9_109 dX9_isWord_13 rfl rfl (Nat.le_of_ble_eq_true rfl) (Nat.le_of_ble_eq_true rfl) rfl rfl (Or.inl rfl) ?_
    refine x_lcmp dX9_isWord_16 ?_
    refine x_if_ne 24 dX9_isWord_17 (by decide) (fun q => ?_) (fun q => ?_)
    · have h := xif_f q h
      refine x_iconst (0 : Int32) dX9_isWord_24 (by decide) ?_
      cases h
      exact x_zret2 dX9_isWord_25 rfl rfl rfl
    · have h := xif_t q h
      refine x_iconst (1 : Int32) dX9_isWord_20 (by decide) ?_
      refine x_goto 25 dX9_isWord_21 (by decide) ?_
      cases h
      exact x_zret2 dX9_isWord_25 rfl rfl rfl
noncomputable def e_hP_X9_names (p0 : Int32) (p1 : (Nat → Int64)) (p2 : (Nat → Int32)) (p3 : (Nat → Int32)) (x1 : Int64) (x3 : Int32) (x4 : Int32) : Option ((Nat → Int64) × (Nat → Int32) × (Nat → Int32) × Int32) :=
  (xix p0 11 (xix p0 11 (xix p0 11 (some ((vp_updL p1 p0.toNatClampNeg x1), (upd p2 p0.toNatClampNeg x3), (upd p3 p0.toNatClampNeg x4), (p0 + (1 : Int32)))))))
set_option maxRecDepth 100000 in
set_option maxHeartbeats 4000000 in
theorem t_hP_X9_names {g0 g1 g2 g3 g4 g5 g6 g7 g8 g9 g10 g11 g12 g13 g14 g15 g16 g17 g18 g19 g20 g21 g22 g23 g24 g25 g26 : Int32} {a0 a1 a2 a3 a4 a5 a6 a7 a8 a9 a10 a11 a12 a13 a14 a15 a16 a17 a18 a19 a20 a21 a22 a23 : (Nat → Int32)} {b0 : (Nat → Int64)} {w0 : Int64} {k0 k1 k2 k3 k4 k5 k6 k7 k8 k9 k10 k11 k12 k13 k14 k15 : xC} {cv : Value} (x1 : Int64) (x3 : Int32) (x4 : Int32) (res : (Nat → Int64) × (Nat → Int32) × (Nat → Int32) × Int32) (h : e_hP_X9_names g26 b0 a22 a23 x1 x3 x4 = some res) (d : Nat) : xMet xks YX9_names (d + 1) 0 0 [.ref 0, .long x1, .int x3, .int x4] (hP g0 g1 g2 g3 g4 g5 g6 g7 g8 g9 g10 g11 g12 g13 g14 g15 g16 g17 g18 g19 g20 g21 g22 g23 g24 g25 g26 a0 a1 a2 a3 a4 a5 a6 a7 a8 a9 a10 a11 a12 a13 a14 a15 a16 a17 a18 a19 a20 a21 a22 a23 b0 w0 k0 k1 k2 k3 k4 k5 k6 k7 k8 k9 k10 k11 k12 k13 k14 k15 cv (.ref 27)) none (hP g0 g1 g2 g3 g4 g5 g6 g7 g8 g9 g10 g11 g12 g13 g14 g15 g16 g17 g18 g19 g20 g21 g22 g23 g24 g25 res.2.2.2 a0 a1 a2 a3 a4 a5 a6 a7 a8 a9 a10 a11 a12 a13 a14 a15 a16 a17 a18 a19 a20 a21 res.2.1 res.2.2.1 res.1 w0 k0 k1 k2 k3 k4 k5 k6 k7 k8 k9 k10 k11 k12 k13 k14 k15 cv (.ref 27)) := by
  unfold e_hP_X9_names at h
  refine xMet_of (pl := [some (.ref 0), some (.long x1), none, some (.int x3), some (.int x4)]) (by decide) (Nat.le_of_ble_eq_true rfl) rfl (Nat.le_of_ble_eq_true rfl) ?_
  refine x_aload_n dX9_names_0 rfl ?_
  refine x_get fX9_152 dX9_names_1 rfl rfl rfl ?_
  refine x_get fX9_169 dX9_names_4 rfl rfl rfl ?_
  refine x_aload_n dX9_names_7 rfl ?_
  refine x_get fX9_152 dX9_names_8 rfl rfl rfl ?_
  refine x_get fX9_173 dX9_names_11 rfl rfl rfl ?_
  refine x_lload_n dX9_names_14 rfl ?_
  obtain ⟨q15, h⟩ := xix_of h
  refine x_last (h2 := (hP g0 g1 g2 g3 g4 g5 g6 g7 g8 g9 g10 g11 g12 g13 g14 g15 g16 g17 g18 g19 g20 g21 g22 g23 g24 g25 g26 a0 a1 a2 a3 a4 a5 a6 a7 a8 a9 a10 a11 a12 a13 a14 a15 a16 a17 a18 a19 a20 a21 a22 a23 (vp_updL b0 g26.toNatClampNeg x1) w0 k0 k1 k2 k3 k4 k5 k6 k7 k8 k9 k10 k11 k12 k13 k14 k15 cv (.ref 27))) dX9_names_15 rfl q15 rfl ?_
  refine x_aload_n dX9_names_16 rfl ?_
  refine x_get fX9_152 dX9_names_17 rfl rfl rfl ?_
  refine x_get fX9_176 dX9_names_20 rfl rfl rfl ?_
  refine x_aload_n dX9_names_23 rfl ?_
  refine x_get fX9_152 dX9_names_24 rfl rfl rfl ?_
  refine x_get fX9_173 dX9_names_27 rfl rfl rfl ?_
  refine x_iload_n dX9_names_30 rfl ?_
  obtain ⟨q31, h⟩ := xix_of h
  refine x_iast (h2 := (hP g0 g1 g2 g3 g4 g5 g6 g7 g8 g9 g10 g11 g12 g13 g14 g15 g16 g17 g18 g19 g20 g21 g22 g23 g24 g25 g26 a0 a1 a2 a3 a4 a5 a6 a7 a8 a9 a10 a11 a12 a13 a14 a15 a16 a17 a18 a19 a20 a21 (upd a22 g26.toNatClampNeg x3) a23 (vp_updL b0 g26.toNatClampNeg x1) w0 k0 k1 k2 k3 k4 k5 k6 k7 k8 k9 k10 k11 k12 k13 k14 k15 cv (.ref 27))) dX9_names_31 rfl q31 rfl ?_
  refine x_aload_n dX9_names_32 rfl ?_
  refine x_get fX9_152 dX9_names_33 rfl rfl rfl ?_
  refine x_get fX9_179 dX9_names_36 rfl rfl rfl ?_
  refine x_aload_n dX9_names_39 rfl ?_
  refine x_get fX9_152 dX9_names_40 rfl rfl rfl ?_
  refine x_get fX9_173 dX9_names_43 rfl rfl rfl ?_
  refine x_iload dX9_names_46 rfl ?_
  obtain ⟨q48, h⟩ := xix_of h
  refine x_iast (h2 := (hP g0 g1 g2 g3 g4 g5 g6 g7 g8 g9 g10 g11 g12 g13 g14 g15 g16 g17 g18 g19 g20 g21 g22 g23 g24 g25 g26 a0 a1 a2 a3 a4 a5 a6 a7 a8 a9 a10 a11 a12 a13 a14 a15 a16 a17 a18 a19 a20 a21 (upd a22 g26.toNatClampNeg x3) (upd a23 g26.toNatClampNeg x4) (vp_updL b0 g26.toNatClampNeg x1) w0 k0 k1 k2 k3 k4 k5 k6 k7 k8 k9 k10 k11 k12 k13 k14 k15 cv (.ref 27))) dX9_names_48 rfl q48 rfl ?_
  refine x_aload_n dX9_names_49 rfl ?_
  refine x_get fX9_152 dX9_names_50 rfl rfl rfl ?_
  refine x_dup dX9_names_53 rfl ?_
  refine x_get fX9_173 dX9_names_54 rfl rfl rfl ?_
  refine x_iconst (1 : Int32) dX9_names_57 (by decide) ?_
  refine x_iadd dX9_names_58 ?_
  refine x_put (h2 := (hP g0 g1 g2 g3 g4 g5 g6 g7 g8 g9 g10 g11 g12 g13 g14 g15 g16 g17 g18 g19 g20 g21 g22 g23 g24 g25 (g26 + (1 : Int32)) a0 a1 a2 a3 a4 a5 a6 a7 a8 a9 a10 a11 a12 a13 a14 a15 a16 a17 a18 a19 a20 a21 (upd a22 g26.toNatClampNeg x3) (upd a23 g26.toNatClampNeg x4) (vp_updL b0 g26.toNatClampNeg x1) w0 k0 k1 k2 k3 k4 k5 k6 k7 k8 k9 k10 k11 k12 k13 k14 k15 cv (.ref 27))) fX9_173 dX9_names_59 rfl rfl (Nat.le_of_ble_eq_true rfl : 7 + 1 ≤ _) (fun α => ⟨rfl, rfl⟩) rfl ?_
  cases h
  exact x_vret2 dX9_names_62 rfl rfl
noncomputable def J_hP_X9_readUmbrella_136 (p0 : Int32) (p1 : Int32) (p2 : Int32) (p3 : Int32) (p4 : Int32) (p5 : (Nat → Int32)) (p6 : Int32) (p7 : Int32) (p8 : Int64) (p9 : Int32) (p10 : Int32) (p11 : Int32) (p12 : (Nat → Int64)) (p13 : (Nat → Int32)) (p14 : (Nat → Int32)) (p15 : (Nat → Int32)) (p16 : (Nat → Int32)) (p17 : (Nat → Int32)) (p18 : (Nat → Int32)) (f1 : Int64) (f3 : Int32) (f4 : Int32) (f5 : Int32) (f6 : Int32) : Option (Int32 × Int32 × Int32 × Int32 × Int64 × Int32 × Int32 × (Nat → Int64) × (Nat → Int32) × (Nat → Int32) × Int32 × (Nat → Int32) × (Nat → Int32) × (Nat → Int32) × (Nat → Int32) × Int32) :=
  if p2 = (5 : Int32) then some (p6, p2, p3, p7, p8, p9, p10, p12, p13, p14, p11, p15, p16, p17, p18, p0) else ((e_hP_X9_names p11 p12 p13 p14 f1 (1 : Int32) p0).bind fun z159 => xix p0 5 (xix p0 5 (xix p0 5 (xix p0 5 (some (p6, p2, p3, p7, p8, p9, p10, z159.1, z159.2.1, z159.2.2.1, z159.2.2.2, (upd p15 p0.toNatClampNeg f3), (upd p16 p0.toNatClampNeg f4), (upd p17 p0.toNatClampNeg f5), (upd p18 p0.toNatClampNeg f6), (p0 + (1 : Int32))))))))
noncomputable def J_hP_X9_readUmbrella_83 (p0 : Int32) (p1 : Int32) (p2 : Int32) (p3 : Int32) (p4 : Int32) (p5 : (Nat → Int32)) (p6 : Int32) (p7 : Int32) (p8 : Int64) (p9 : Int32) (p10 : Int32) (p11 : Int32) (p12 : (Nat → Int64)) (p13 : (Nat → Int32)) (p14 : (Nat → Int32)) (p15 : (Nat → Int32)) (p16 : (Nat → Int32)) (p17 : (Nat → Int32)) (p18 : (Nat → Int32)) (f1 : Int64) (f3 : Int32) : Option (Int32 × Int32 × Int32 × Int32 × Int64 × Int32 × Int32 × (Nat → Int64) × (Nat → Int32) × (Nat → Int32) × Int32 × (Nat → Int32) × (Nat → Int32) × (Nat → Int32) × (Nat → Int32) × Int32) :=
  ((e_hP_X9_goesOn p2 p3 p4 p5 p6 p7 p8).bind fun z84 => (e_hP_X9_readPart z84.2.1 z84.2.2.2.2 z84.2.2.1 p4 p5 z84.1 z84.2.2.2.1 p9 p10 (xsy 29) (0 : Int32) (99 : Int32)).bind fun z94 => (e_hP_X9_readPart z94.2.2.1 z94.2.2.2.2.2.1 z94.2.2.2.1 p4 p5 z94.2.1 z94.2.2.2.2.1 z94.2.2.2.2.2.2.1 z94.2.2.2.2.2.2.2 (xsy 30) (4 : Int32) (12 : Int32)).bind fun z106 => (e_hP_X9_isWord z106.2.2.1 z106.2.2.2.2.2.1 (xsy 31)).bind fun z119 => if z119 = (0 : Int32) then J_hP_X9_readUmbrella_136 p0 p1 z106.2.2.1 z106.2.2.2.1 p4 p5 z106.2.1 z106.2.2.2.2.1 z106.2.2.2.2.2.1 z106.2.2.2.2.2.2.1 z106.2.2.2.2.2.2.2 p11 p12 p13 p14 p15 p16 p17 p18 f1 f3 z94.1 z106.1 (-2 : Int32) else ((e_hP_X9_goesOn z106.2.2.1 z106.2.2.2.1 p4 p5 z106.2.1 z106.2.2.2.2.1 z106.2.2.2.2.2.1).bind fun z126 => (e_hP_X9_readKnown z126.2.1 z126.2.2.2.2 p11 p12 z106.2.2.2.2.2.2.1 z126.1 z106.2.2.2.2.2.2.2 p14 p13 z126.2.2.1 p4 p5 z126.2.2.2.1 (0 : Int32)).bind fun z131 => J_hP_X9_readUmbrella_136 p0 p1 z131.2.2.2.1 z131.2.2.2.2.2.1 p4 p5 z131.2.2.2.2.1 z131.2.2.2.2.2.2.1 z131.2.2.2.2.2.2.2 z131.2.1 z131.2.2.1 p11 p12 p13 p14 p15 p16 p17 p18 f1 f3 z94.1 z106.1 z131.1))
noncomputable def J_hP_X9_readUmbrella_72 (p0 : Int32) (p1 : Int32) (p2 : Int32) (p3 : Int32) (p4 : Int32) (p5 : (Nat → Int32)) (p6 : Int32) (p7 : Int32) (p8 : Int64) (p9 : Int32) (p10 : Int32) (p11 : Int32) (p12 : (Nat → Int64)) (p13 : (Nat → Int32)) (p14 : (Nat → Int32)) (p15 : (Nat → Int32)) (p16 : (Nat → Int32)) (p17 : (Nat → Int32)) (p18 : (Nat → Int32)) (f1 : Int64) (u0 : Int32) : Option (Int32 × Int32 × Int32 × Int32 × Int64 × Int32 × Int32 × (Nat → Int64) × (Nat → Int32) × (Nat → Int32) × Int32 × (Nat → Int32) × (Nat → Int32) × (Nat → Int32) × (Nat → Int32) × Int32) :=
  if u0 = (-1 : Int32) then ((e_hP_X9_flaw p2 p9 p6 p10 (1 : Int32)).bind fun z80 => J_hP_X9_readUmbrella_83 p0 p1 z80.2.2 p3 p4 p5 p6 p7 p8 z80.1 z80.2.1 p11 p12 p13 p14 p15 p16 p17 p18 f1 u0) else J_hP_X9_readUmbrella_83 p0 p1 p2 p3 p4 p5 p6 p7 p8 p9 p10 p11 p12 p13 p14 p15 p16 p17 p18 f1 u0
noncomputable def e_hP_X9_readUmbrella (p0 : Int32) (p1 : Int32) (p2 : Int32) (p3 : Int32) (p4 : Int32) (p5 : (Nat → Int32)) (p6 : Int32) (p7 : Int32) (p8 : Int64) (p9 : Int32) (p10 : Int32) (p11 : Int32) (p12 : (Nat → Int64)) (p13 : (Nat → Int32)) (p14 : (Nat → Int32)) (p15 : (Nat → Int32)) (p16 : (Nat → Int32)) (p17 : (Nat → Int32)) (p18 : (Nat → Int32))  : Option (Int32 × Int32 × Int32 × Int32 × Int64 × Int32 × Int32 × (Nat → Int64) × (Nat → Int32) × (Nat → Int32) × Int32 × (Nat → Int32) × (Nat → Int32) × (Nat → Int32) × (Nat → Int32) × Int32) :=
  ((e_hP_X9_lineBegins p1 p2 p3 p4 p5 p6 p7 p8 p9 p10 p0 (5 : Int32)).bind fun z9 => (e_hP_X9_readFresh z9.2.1 z9.2.2.2.2.1 p11 p12 z9.2.2.1 p4 p5 z9.1 z9.2.2.2.1 z9.2.2.2.2.2.1 z9.2.2.2.2.2.2).bind fun z13 => (e_hP_X9_isWord z13.2.2.1 z13.2.2.2.2.2.1 (xsy 25)).bind fun z20 => if z20 = (0 : Int32) then ((e_hP_X9_isWord z13.2.2.1 z13.2.2.2.2.2.1 (xsy 26)).bind fun z33 => if z33 = (0 : Int32) then ((e_hP_X9_isWord z13.2.2.1 z13.2.2.2.2.2.1 (xsy 27)).bind fun z47 => if z47 = (0 : Int32) then ((e_hP_X9_isWord z13.2.2.1 z13.2.2.2.2.2.1 (xsy 28)).bind fun z61 => if z61 = (0 : Int32) then J_hP_X9_readUmbrella_72 p0 p1 z13.2.2.1 z13.2.2.2.1 p4 p5 z13.2.1 z13.2.2.2.2.1 z13.2.2.2.2.2.1 z13.2.2.2.2.2.2.1 z13.2.2.2.2.2.2.2 p11 p12 p13 p14 p15 p16 p17 p18 z13.1 (-1 : Int32) else J_hP_X9_readUmbrella_72 p0 p1 z13.2.2.1 z13.2.2.2.1 p4 p5 z13.2.1 z13.2.2.2.2.1 z13.2.2.2.2.2.1 z13.2.2.2.2.2.2.1 z13.2.2.2.2.2.2.2 p11 p12 p13 p14 p15 p16 p17 p18 z13.1 (3 : Int32)) else J_hP_X9_readUmbrella_72 p0 p1 z13.2.2.1 z13.2.2.2.1 p4 p5 z13.2.1 z13.2.2.2.2.1 z13.2.2.2.2.2.1 z13.2.2.2.2.2.2.1 z13.2.2.2.2.2.2.2 p11 p12 p13 p14 p15 p16 p17 p18 z13.1 (2 : Int32)) else J_hP_X9_readUmbrella_72 p0 p1 z13.2.2.1 z13.2.2.2.1 p4 p5 z13.2.1 z13.2.2.2.2.1 z13.2.2.2.2.2.1 z13.2.2.2.2.2.2.1 z13.2.2.2.2.2.2.2 p11 p12 p13 p14 p15 p16 p17 p18 z13.1 (1 : Int32)) else J_hP_X9_readUmbrella_72 p0 p1 z13.2.2.1 z13.2.2.2.1 p4 p5 z13.2.1 z13.2.2.2.2.1 z13.2.2.2.2.2.1 z13.2.2.2.2.2.2.1 z13.2.2.2.2.2.2.2 p11 p12 p13 p14 p15 p16 p17 p18 z13.1 (0 : Int32))
set_option maxRecDepth 100000 in
set_option maxHeartbeats 4000000 in
theorem jn_hP_X9_readUmbrella_136 {g0 g1 g2 g3 g4 g5 g6 g7 g8 g9 g10 g11 g12 g13 g14 g15 g16 g17 g18 g19 g20 g21 g22 g23 g24 g25 g26 : Int32} {a0 a1 a2 a3 a4 a5 a6 a7 a8 a9 a10 a11 a12 a13 a14 a15 a16 a17 a18 a19 a20 a21 a22 a23 : (Nat → Int32)} {b0 : (Nat → Int64)} {w0 : Int64} {k0 k1 k2 k3 k4 k5 k6 k7 k8 k9 k10 k11 k12 k13 k14 k15 : xC} {cv : Value} (d n0 : Nat) (f1 : Int64) (f3 : Int32) (f4 : Int32) (f5 : Int32) (f6 : Int32) (res : Int32 × Int32 × Int32 × Int32 × Int64 × Int32 × Int32 × (Nat → Int64) × (Nat → Int32) × (Nat → Int32) × Int32 × (Nat → Int32) × (Nat → Int32) × (Nat → Int32) × (Nat → Int32) × Int32) (h : J_hP_X9_readUmbrella_136 g23 g19 g6 g5 g4 a0 g7 g8 w0 g9 g10 g26 b0 a22 a23 a11 a12 a13 a14 f1 f3 f4 f5 f6 = some res) : xW xks YX9_readUmbrella (d + 10) 0 0 n0 (xZ 0 0 n0 none (hP g0 g1 g2 g3 g4 res.2.2.1 res.2.1 res.1 res.2.2.2.1 res.2.2.2.2.2.1 res.2.2.2.2.2.2.1 g11 g12 g13 g14 g15 g16 g17 g18 g19 g20 g21 g22 res.2.2.2.2.2.2.2.2.2.2.2.2.2.2.2 g24 g25 res.2.2.2.2.2.2.2.2.2.2.1 a0 a1 a2 a3 a4 a5 a6 a7 a8 a9 a10 res.2.2.2.2.2.2.2.2.2.2.2.1 res.2.2.2.2.2.2.2.2.2.2.2.2.1 res.2.2.2.2.2.2.2.2.2.2.2.2.2.1 res.2.2.2.2.2.2.2.2.2.2.2.2.2.2.1 a15 a16 a17 a18 a19 a20 a21 res.2.2.2.2.2.2.2.2.1 res.2.2.2.2.2.2.2.2.2.1 res.2.2.2.2.2.2.2.1 res.2.2.2.2.1 k0 k1 k2 k3 k4 k5 k6 k7 k8 k9 k10 k11 k12 k13 k14 k15 cv (.ref 27))) 0 0 136 [some (.ref 0), some (.long f1), none, some (.int f3), some (.int f4), some (.int f5), some (.int f6), none] [] (hP g0 g1 g2 g3 g4 g5 g6 g7 g8 g9 g10 g11 g12 g13 g14 g15 g16 g17 g18 g19 g20 g21 g22 g23 g24 g25 g26 a0 a1 a2 a3 a4 a5 a6 a7 a8 a9 a10 a11 a12 a13 a14 a15 a16 a17 a18 a19 a20 a21 a22 a23 b0 w0 k0 k1 k2 k3 k4 k5 k6 k7 k8 k9 k10 k11 k12 k13 k14 k15 cv (.ref 27)) := by
  unfold J_hP_X9_readUmbrella_136 at h
  refine x_aload_n dX9_readUmbrella_136 rfl ?_
  refine x_get fX9_77 dX9_readUmbrella_137 rfl rfl rfl ?_
  refine x_iconst (5 : Int32) dX9_readUmbrella_140 (by decide) ?_
  refine x_icmp_ne 145 dX9_readUmbrella_141 (by decide) (fun q => ?_) (fun q => ?_)
  · have h := xif_f q h
    refine x_aload_n dX9_readUmbrella_145 rfl ?_
    refine x_get fX9_152 dX9_readUmbrella_146 rfl rfl rfl ?_
    refine x_get fX9_194 dX9_readUmbrella_149 rfl rfl rfl ?_
    refine x_istore (pl' := [some (.ref 0), some (.long f1), none, some (.int f3), some (.int f4), some (.int f5), some (.int f6), some (.int g23)]) dX9_readUmbrella_152 (by decide) rfl ?_
    refine x_aload_n dX9_readUmbrella_154 rfl ?_
    refine x_lload_n dX9_readUmbrella_155 rfl ?_
    refine x_iconst (1 : Int32) dX9_readUmbrella_156 (by decide) ?_
    refine x_iload dX9_readUmbrella_157 rfl ?_
    obtain ⟨z159, y159, h⟩ := xbind h
    refine x_callV (t_hP_X9_names f1 (1 : Int32) g23 z159 y159 (d + 8)) kX9_248 dX9_readUmbrella_159 rfl rfl rfl rfl rfl (Nat.le_of_ble_eq_true rfl) (Nat.le_of_ble_eq_true rfl) rfl rfl (Or.inl rfl) ?_
    refine x_aload_n dX9_readUmbrella_162 rfl ?_
    refine x_get fX9_152 dX9_readUmbrella_163 rfl rfl rfl ?_
    refine x_get fX9_270 dX9_readUmbrella_166 rfl rfl rfl ?_
    refine x_iload dX9_readUmbrella_169 rfl ?_
    refine x_iload_n dX9_readUmbrella_171 rfl ?_
    obtain ⟨q172, h⟩ := xix_of h
    refine x_iast (h2 := (hP g0 g1 g2 g3 g4 g5 g6 g7 g8 g9 g10 g11 g12 g13 g14 g15 g16 g17 g18 g19 g20 g21 g22 g23 g24 g25 z159.2.2.2 a0 a1 a2 a3 a4 a5 a6 a7 a8 a9 a10 (upd a11 g23.toNatClampNeg f3) a12 a13 a14 a15 a16 a17 a18 a19 a20 a21 z159.2.1 z159.2.2.1 z159.1 w0 k0 k1 k2 k3 k4 k5 k6 k7 k8 k9 k10 k11 k12 k13 k14 k15 cv (.ref 27))) dX9_readUmbrella_172 rfl q172 rfl ?_
    refine x_aload_n dX9_readUmbrella_173 rfl ?_
    refine x_get fX9_152 dX9_readUmbrella_174 rfl rfl rfl ?_
    refine x_get fX9_273 dX9_readUmbrella_177 rfl rfl rfl ?_
    refine x_iload dX9_readUmbrella_180 rfl ?_
    refine x_iload dX9_readUmbrella_182 rfl ?_
    obtain ⟨q184, h⟩ := xix_of h
    refine x_iast (h2 := (hP g0 g1 g2 g3 g4 g5 g6 g7 g8 g9 g10 g11 g12 g13 g14 g15 g16 g17 g18 g19 g20 g21 g22 g23 g24 g25 z159.2.2.2 a0 a1 a2 a3 a4 a5 a6 a7 a8 a9 a10 (upd a11 g23.toNatClampNeg f3) (upd a12 g23.toNatClampNeg f4) a13 a14 a15 a16 a17 a18 a19 a20 a21 z159.2.1 z159.2.2.1 z159.1 w0 k0 k1 k2 k3 k4 k5 k6 k7 k8 k9 k10 k11 k12 k13 k14 k15 cv (.ref 27))) dX9_readUmbrella_184 rfl q184 rfl ?_
    refine x_aload_n dX9_readUmbrella_185 rfl ?_
    refine x_get fX9_152 dX9_readUmbrella_186 rfl rfl rfl ?_
    refine x_get fX9_275 dX9_readUmbrella_189 rfl rfl rfl ?_
    refine x_iload dX9_readUmbrella_192 rfl ?_
    refine x_iload dX9_readUmbrella_194 rfl ?_
    obtain ⟨q196, h⟩ := xix_of h
    refine x_iast (h2 := (hP g0 g1 g2 g3 g4 g5 g6 g7 g8 g9 g10 g11 g12 g13 g14 g15 g16 g17 g18 g19 g20 g21 g22 g23 g24 g25 z159.2.2.2 a0 a1 a2 a3 a4 a5 a6 a7 a8 a9 a10 (upd a11 g23.toNatClampNeg f3) (upd a12 g23.toNatClampNeg f4) (upd a13 g23.toNatClampNeg f5) a14 a15 a16 a17 a18 a19 a20 a21 z159.2.1 z159.2.2.1 z159.1 w0 k0 k1 k2 k3 k4 k5 k6 k7 k8 k9 k10 k11 k12 k13 k14 k15 cv (.ref 27))) dX9_readUmbrella_196 rfl q196 rfl ?_
    refine x_aload_n dX9_readUmbrella_197 rfl ?_
    refine x_get fX9_152 dX9_readUmbrella_198 rfl rfl rfl ?_
    refine x_get fX9_277 dX9_readUmbrella_201 rfl rfl rfl ?_
    refine x_iload dX9_readUmbrella_204 rfl ?_
    refine x_iload dX9_readUmbrella_206 rfl ?_
    obtain ⟨q208, h⟩ := xix_of h
    refine x_iast (h2 := (hP g0 g1 g2 g3 g4 g5 g6 g7 g8 g9 g10 g11 g12 g13 g14 g15 g16 g17 g18 g19 g20 g21 g22 g23 g24 g25 z159.2.2.2 a0 a1 a2 a3 a4 a5 a6 a7 a8 a9 a10 (upd a11 g23.toNatClampNeg f3) (upd a12 g23.toNatClampNeg f4) (upd a13 g23.toNatClampNeg f5) (upd a14 g23.toNatClampNeg f6) a15 a16 a17 a18 a19 a20 a21 z159.2.1 z159.2.2.1 z159.1 w0 k0 k1 k2 k3 k4 k5 k6 k7 k8 k9 k10 k11 k12 k13 k14 k15 cv (.ref 27))) dX9_readUmbrella_208 rfl q208 rfl ?_
    refine x_aload_n dX9_readUmbrella_209 rfl ?_
    refine x_get fX9_152 dX9_readUmbrella_210 rfl rfl rfl ?_
    refine x_dup dX9_readUmbrella_213 rfl ?_
    refine x_get fX9_194 dX9_readUmbrella_214 rfl rfl rfl ?_
    refine x_iconst (1 : Int32) dX9_readUmbrella_217 (by decide) ?_
    refine x_iadd dX9_readUmbrella_218 ?_
    refine x_put (h2 := (hP g0 g1 g2 g3 g4 g5 g6 g7 g8 g9 g10 g11 g12 g13 g14 g15 g16 g17 g18 g19 g20 g21 g22 (g23 + (1 : Int32)) g24 g25 z159.2.2.2 a0 a1 a2 a3 a4 a5 a6 a7 a8 a9 a10 (upd a11 g23.toNatClampNeg f3) (upd a12 g23.toNatClampNeg f4) (upd a13 g23.toNatClampNeg f5) (upd a14 g23.toNatClampNeg f6) a15 a16 a17 a18 a19 a20 a21 z159.2.1 z159.2.2.1 z159.1 w0 k0 k1 k2 k3 k4 k5 k6 k7 k8 k9 k10 k11 k12 k13 k14 k15 cv (.ref 27))) fX9_194 dX9_readUmbrella_219 rfl rfl (Nat.le_of_ble_eq_true rfl : 4 + 1 ≤ _) (fun α => ⟨rfl, rfl⟩) rfl ?_
    cases h
    exact x_vret2 dX9_readUmbrella_222 rfl rfl
  · have h := xif_t q h
    cases h
    exact x_vret2 dX9_readUmbrella_144 rfl rfl
set_option maxRecDepth 100000 in
set_option maxHeartbeats 4000000 in
theorem jn_hP_X9_readUmbrella_83 {g0 g1 g2 g3 g4 g5 g6 g7 g8 g9 g10 g11 g12 g13 g14 g15 g16 g17 g18 g19 g20 g21 g22 g23 g24 g25 g26 : Int32} {a0 a1 a2 a3 a4 a5 a6 a7 a8 a9 a10 a11 a12 a13 a14 a15 a16 a17 a18 a19 a20 a21 a22 a23 : (Nat → Int32)} {b0 : (Nat → Int64)} {w0 : Int64} {k0 k1 k2 k3 k4 k5 k6 k7 k8 k9 k10 k11 k12 k13 k14 k15 : xC} {cv : Value} (d n0 : Nat) (f1 : Int64) (f3 : Int32) (res : Int32 × Int32 × Int32 × Int32 × Int64 × Int32 × Int32 × (Nat → Int64) × (Nat → Int32) × (Nat → Int32) × Int32 × (Nat → Int32) × (Nat → Int32) × (Nat → Int32) × (Nat → Int32) × Int32) (h : J_hP_X9_readUmbrella_83 g23 g19 g6 g5 g4 a0 g7 g8 w0 g9 g10 g26 b0 a22 a23 a11 a12 a13 a14 f1 f3 = some res) : xW xks YX9_readUmbrella (d + 10) 0 0 n0 (xZ 0 0 n0 none (hP g0 g1 g2 g3 g4 res.2.2.1 res.2.1 res.1 res.2.2.2.1 res.2.2.2.2.2.1 res.2.2.2.2.2.2.1 g11 g12 g13 g14 g15 g16 g17 g18 g19 g20 g21 g22 res.2.2.2.2.2.2.2.2.2.2.2.2.2.2.2 g24 g25 res.2.2.2.2.2.2.2.2.2.2.1 a0 a1 a2 a3 a4 a5 a6 a7 a8 a9 a10 res.2.2.2.2.2.2.2.2.2.2.2.1 res.2.2.2.2.2.2.2.2.2.2.2.2.1 res.2.2.2.2.2.2.2.2.2.2.2.2.2.1 res.2.2.2.2.2.2.2.2.2.2.2.2.2.2.1 a15 a16 a17 a18 a19 a20 a21 res.2.2.2.2.2.2.2.2.1 res.2.2.2.2.2.2.2.2.2.1 res.2.2.2.2.2.2.2.1 res.2.2.2.2.1 k0 k1 k2 k3 k4 k5 k6 k7 k8 k9 k10 k11 k12 k13 k14 k15 cv (.ref 27))) 0 0 83 [some (.ref 0), some (.long f1), none, some (.int f3), none, none, none, none] [] (hP g0 g1 g2 g3 g4 g5 g6 g7 g8 g9 g10 g11 g12 g13 g14 g15 g16 g17 g18 g19 g20 g21 g22 g23 g24 g25 g26 a0 a1 a2 a3 a4 a5 a6 a7 a8 a9 a10 a11 a12 a13 a14 a15 a16 a17 a18 a19 a20 a21 a22 a23 b0 w0 k0 k1 k2 k3 k4 k5 k6 k7 k8 k9 k10 k11 k12 k13 k14 k15 cv (.ref 27)) := by
  unfold J_hP_X9_readUmbrella_83 at h
  refine x_aload_n dX9_readUmbrella_83 rfl ?_
  obtain ⟨z84, y84, h⟩ := xbind h
  refine x_callV (t_hP_X9_goesOn  z84 y84 (d + 7)) kX9_113 dX9_readUmbrella_84 rfl rfl rfl rfl rfl (Nat.le_of_ble_eq_true rfl) (Nat.le_of_ble_eq_true rfl) rfl rfl (Or.inl rfl) ?_
  refine x_aload_n dX9_readUmbrella_87 rfl ?_
  refine x_ldcSW (k := 29) rfl rfl rfl dX9_readUmbrella_88 ?_
  refine x_iconst (0 : Int32) dX9_readUmbrella_91 (by decide) ?_
  refine x_bipush (99 : Int32) dX9_readUmbrella_92 (by decide) ?_
  obtain ⟨z94, y94, h⟩ := xbind h
  refine x_callV (t_hP_X9_readPart_2 (0 : Int32) (99 : Int32) z94 y94 (d + 1)) kX9_222 dX9_readUmbrella_94 rfl rfl rfl rfl rfl (Nat.le_of_ble_eq_true rfl) (Nat.le_of_ble_eq_true rfl) rfl rfl (Or.inl rfl) ?_
  refine x_istore (pl' := [some (.ref 0), some (.long f1), none, some (.int f3), some (.int z94.1), none, none, none]) dX9_readUmbrella_97 (by decide) rfl ?_
  refine x_aload_n dX9_readUmbrella_99 rfl ?_
  refine x_ldcSW (k := 30) rfl rfl rfl dX9_readUmbrella_100 ?_
  refine x_iconst (4 : Int32) dX9_readUmbrella_103 (by decide) ?_
  refine x_bipush (12 : Int32) dX9_readUmbrella_104 (by decide) ?_
  obtain ⟨z106, y106, h⟩ := xbind h
  refine x_callV (t_hP_X9_readPart_3 (4 : Int32) (12 : Int32) z106 y106 (d + 1)) kX9_222 dX9_readUmbrella_106 rfl rfl rfl rfl rfl (Nat.le_of_ble_eq_true rfl) (Nat.le_of_ble_eq_true rfl) rfl rfl (Or.inl rfl) ?_
  refine x_istore (pl' := [some (.ref 0), some (.long f1), none, some (.int f3), some (.int z94.1), some (.int z106.1), none, none]) dX9_readUmbrella_109 (by decide) rfl ?_
  refine x_bipush (-2 : Int32) dX9_readUmbrella_111 (by decide) ?_
  refine x_istore (pl' := [some (.ref 0), some (.long f1), none, some (.int f3), some (.int z94.1), some (.int z106.1), some (.int (-2 : Int32)), none]) dX9_readUmbrella_113 (by decide) rfl ?_
  refine x_aload_n dX9_readUmbrella_115 rfl ?_
  refine x_ldcSW (k := 31) rfl rfl rfl dX9_readUmbrella_116 ?_
  obtain ⟨z119, y119, h⟩ := xbind h
  refine x_callV (t_hP_X9_isWord_16  z119 y119 (d + 3)) kX9_116 dX9_readUmbrella_119 rfl rfl rfl rfl rfl (Nat.le_of_ble_eq_true rfl) (Nat.le_of_ble_eq_true rfl) rfl rfl (Or.inl rfl) ?_
  refine x_if_eq 136 dX9_readUmbrella_122 (by decide) (fun q => ?_) (fun q => ?_)
  · have h := xif_t q h
    refine x_weak (pl2 := [some (.ref 0), some (.long f1), none, some (.int f3), some (.int z94.1), some (.int z106.1), some (.int (-2 : Int32)), none]) ⟨rfl, rfl, rfl, rfl, rfl, rfl, trivial⟩ ?_
    exact jn_hP_X9_readUmbrella_136 d _ f1 f3 z94.1 z106.1 (-2 : Int32) res h
  · have h := xif_f q h
    refine x_aload_n dX9_readUmbrella_125 rfl ?_
    obtain ⟨z126, y126, h⟩ := xbind h
    refine x_callV (t_hP_X9_goesOn  z126 y126 (d + 7)) kX9_113 dX9_readUmbrella_126 rfl rfl rfl rfl rfl (Nat.le_of_ble_eq_true rfl) (Nat.le_of_ble_eq_true rfl) rfl rfl (Or.inl rfl) ?_
    refine x_aload_n dX9_readUmbrella_129 rfl ?_
    refine x_iconst (0 : Int32) dX9_readUmbrella_130 (by decide) ?_
    obtain ⟨z131, y131, h⟩ := xbind h
    refine x_callV (t_hP_X9_readKnown (0 : Int32) z131 y131 (d + 0)) kX9_267 dX9_readUmbrella_131 rfl rfl rfl rfl rfl (Nat.le_of_ble_eq_true rfl) (Nat.le_of_ble_eq_true rfl) rfl rfl (Or.inl rfl) ?_
    refine x_istore (pl' := [some (.ref 0), some (.long f1), none, some (.int f3), some (.int z94.1), some (.int z106.1), some (.int z131.1), none]) dX9_readUmbrella_134 (by decide) rfl ?_
    refine x_weak (pl2 := [some (.ref 0), some (.long f1), none, some (.int f3), some (.int z94.1), some (.int z106.1), some (.int z131.1), none]) ⟨rfl, rfl, rfl, rfl, rfl, rfl, trivial⟩ ?_
    exact jn_hP_X9_readUmbrella_136 d _ f1 f3 z94.1 z106.1 z131.1 res h
set_option maxRecDepth 100000 in
set_option maxHeartbeats 4000000 in
theorem jn_hP_X9_readUmbrella_72 {g0 g1 g2 g3 g4 g5 g6 g7 g8 g9 g10 g11 g12 g13 g14 g15 g16 g17 g18 g19 g20 g21 g22 g23 g24 g25 g26 : Int32} {a0 a1 a2 a3 a4 a5 a6 a7 a8 a9 a10 a11 a12 a13 a14 a15 a16 a17 a18 a19 a20 a21 a22 a23 : (Nat → Int32)} {b0 : (Nat → Int64)} {w0 : Int64} {k0 k1 k2 k3 k4 k5 k6 k7 k8 k9 k10 k11 k12 k13 k14 k15 : xC} {cv : Value} (d n0 : Nat) (f1 : Int64) (u0 : Int32) (res : Int32 × Int32 × Int32 × Int32 × Int64 × Int32 × Int32 × (Nat → Int64) × (Nat → Int32) × (Nat → Int32) × Int32 × (Nat → Int32) × (Nat → Int32) × (Nat → Int32) × (Nat → Int32) × Int32) (h : J_hP_X9_readUmbrella_72 g23 g19 g6 g5 g4 a0 g7 g8 w0 g9 g10 g26 b0 a22 a23 a11 a12 a13 a14 f1 u0 = some res) : xW xks YX9_readUmbrella (d + 10) 0 0 n0 (xZ 0 0 n0 none (hP g0 g1 g2 g3 g4 res.2.2.1 res.2.1 res.1 res.2.2.2.1 res.2.2.2.2.2.1 res.2.2.2.2.2.2.1 g11 g12 g13 g14 g15 g16 g17 g18 g19 g20 g21 g22 res.2.2.2.2.2.2.2.2.2.2.2.2.2.2.2 g24 g25 res.2.2.2.2.2.2.2.2.2.2.1 a0 a1 a2 a3 a4 a5 a6 a7 a8 a9 a10 res.2.2.2.2.2.2.2.2.2.2.2.1 res.2.2.2.2.2.2.2.2.2.2.2.2.1 res.2.2.2.2.2.2.2.2.2.2.2.2.2.1 res.2.2.2.2.2.2.2.2.2.2.2.2.2.2.1 a15 a16 a17 a18 a19 a20 a21 res.2.2.2.2.2.2.2.2.1 res.2.2.2.2.2.2.2.2.2.1 res.2.2.2.2.2.2.2.1 res.2.2.2.2.1 k0 k1 k2 k3 k4 k5 k6 k7 k8 k9 k10 k11 k12 k13 k14 k15 cv (.ref 27))) 0 0 72 [some (.ref 0), some (.long f1), none, none, none, none, none, none] [.int u0] (hP g0 g1 g2 g3 g4 g5 g6 g7 g8 g9 g10 g11 g12 g13 g14 g15 g16 g17 g18 g19 g20 g21 g22 g23 g24 g25 g26 a0 a1 a2 a3 a4 a5 a6 a7 a8 a9 a10 a11 a12 a13 a14 a15 a16 a17 a18 a19 a20 a21 a22 a23 b0 w0 k0 k1 k2 k3 k4 k5 k6 k7 k8 k9 k10 k11 k12 k13 k14 k15 cv (.ref 27)) := by
  unfold J_hP_X9_readUmbrella_72 at h
  refine x_istore_n (pl' := [some (.ref 0), some (.long f1), none, some (.int u0), none, none, none, none]) dX9_readUmbrella_72 (by decide) rfl ?_
  refine x_iload_n dX9_readUmbrella_73 rfl ?_
  refine x_iconst (-1 : Int32) dX9_readUmbrella_74 (by decide) ?_
  refine x_icmp_ne 83 dX9_readUmbrella_75 (by decide) (fun q => ?_) (fun q => ?_)
  · have h := xif_f q h
    refine x_weak (pl2 := [some (.ref 0), some (.long f1), none, some (.int u0), none, none, none, none]) ⟨rfl, rfl, rfl, trivial⟩ ?_
    exact jn_hP_X9_readUmbrella_83 d _ f1 u0 res h
  · have h := xif_t q h
    refine x_aload_n dX9_readUmbrella_78 rfl ?_
    refine x_iconst (1 : Int32) dX9_readUmbrella_79 (by decide) ?_
    obtain ⟨z80, y80, h⟩ := xbind h
    refine x_callV (t_hP_X9_flaw (1 : Int32) z80 y80 (d + 8)) kX9_120 dX9_readUmbrella_80 rfl rfl rfl rfl rfl (Nat.le_of_ble_eq_true rfl) (Nat.le_of_ble_eq_true rfl) rfl rfl (Or.inl rfl) ?_
    refine x_weak (pl2 := [some (.ref 0), some (.long f1), none, some (.int u0), none, none, none, none]) ⟨rfl, rfl, rfl, trivial⟩ ?_
    exact jn_hP_X9_readUmbrella_83 d _ f1 u0 res h
set_option maxRecDepth 100000 in
set_option maxHeartbeats 4000000 in
theorem t_hP_X9_readUmbrella {g0 g1 g2 g3 g4 g5 g6 g7 g8 g9 g10 g11 g12 g13 g14 g15 g16 g17 g18 g19 g20 g21 g22 g23 g24 g25 g26 : Int32} {a0 a1 a2 a3 a4 a5 a6 a7 a8 a9 a10 a11 a12 a13 a14 a15 a16 a17 a18 a19 a20 a21 a22 a23 : (Nat → Int32)} {b0 : (Nat → Int64)} {w0 : Int64} {k0 k1 k2 k3 k4 k5 k6 k7 k8 k9 k10 k11 k12 k13 k14 k15 : xC} {cv : Value}  (res : Int32 × Int32 × Int32 × Int32 × Int64 × Int32 × Int32 × (Nat → Int64) × (Nat → Int32) × (Nat → Int32) × Int32 × (Nat → Int32) × (Nat → Int32) × (Nat → Int32) × (Nat → Int32) × Int32) (h : e_hP_X9_readUmbrella g23 g19 g6 g5 g4 a0 g7 g8 w0 g9 g10 g26 b0 a22 a23 a11 a12 a13 a14  = some res) (d : Nat) : xMet xks YX9_readUmbrella (d + 10) 0 0 [.ref 0] (hP g0 g1 g2 g3 g4 g5 g6 g7 g8 g9 g10 g11 g12 g13 g14 g15 g16 g17 g18 g19 g20 g21 g22 g23 g24 g25 g26 a0 a1 a2 a3 a4 a5 a6 a7 a8 a9 a10 a11 a12 a13 a14 a15 a16 a17 a18 a19 a20 a21 a22 a23 b0 w0 k0 k1 k2 k3 k4 k5 k6 k7 k8 k9 k10 k11 k12 k13 k14 k15 cv (.ref 27)) none (hP g0 g1 g2 g3 g4 res.2.2.1 res.2.1 res.1 res.2.2.2.1 res.2.2.2.2.2.1 res.2.2.2.2.2.2.1 g11 g12 g13 g14 g15 g16 g17 g18 g19 g20 g21 g22 res.2.2.2.2.2.2.2.2.2.2.2.2.2.2.2 g24 g25 res.2.2.2.2.2.2.2.2.2.2.1 a0 a1 a2 a3 a4 a5 a6 a7 a8 a9 a10 res.2.2.2.2.2.2.2.2.2.2.2.1 res.2.2.2.2.2.2.2.2.2.2.2.2.1 res.2.2.2.2.2.2.2.2.2.2.2.2.2.1 res.2.2.2.2.2.2.2.2.2.2.2.2.2.2.1 a15 a16 a17 a18 a19 a20 a21 res.2.2.2.2.2.2.2.2.1 res.2.2.2.2.2.2.2.2.2.1 res.2.2.2.2.2.2.2.1 res.2.2.2.2.1 k0 k1 k2 k3 k4 k5 k6 k7 k8 k9 k10 k11 k12 k13 k14 k15 cv (.ref 27)) := by
  unfold e_hP_X9_readUmbrella at h
  refine xMet_of (pl := [some (.ref 0), none, none, none, none, none, none, none]) (by decide) (Nat.le_of_ble_eq_true rfl) rfl (Nat.le_of_ble_eq_true rfl) ?_
  refine x_aload_n dX9_readUmbrella_0 rfl ?_
  refine x_aload_n dX9_readUmbrella_1 rfl ?_
  refine x_get fX9_152 dX9_readUmbrella_2 rfl rfl rfl ?_
  refine x_get fX9_194 dX9_readUmbrella_5 rfl rfl rfl ?_
  refine x_iconst (5 : Int32) dX9_readUmbrella_8 (by decide) ?_
  obtain ⟨z9, y9, h⟩ := xbind h
  refine x_callV (t_hP_X9_lineBegins g23 (5 : Int32) z9 y9 (d + 6)) kX9_234 dX9_readUmbrella_9 rfl rfl rfl rfl rfl (Nat.le_of_ble_eq_true rfl) (Nat.le_of_ble_eq_true rfl) rfl rfl (Or.inl rfl) ?_
  refine x_aload_n dX9_readUmbrella_12 rfl ?_
  obtain ⟨z13, y13, h⟩ := xbind h
  refine x_callV (t_hP_X9_readFresh  z13 y13 (d + 1)) kX9_238 dX9_readUmbrella_13 rfl rfl rfl rfl rfl (Nat.le_of_ble_eq_true rfl) (Nat.le_of_ble_eq_true rfl) rfl rfl (Or.inl rfl) ?_
  refine x_lstore_n (pl' := [some (.ref 0), some (.long z13.1), none, none, none, none, none, none]) dX9_readUmbrella_16 (by decide) rfl ?_
  refine x_aload_n dX9_readUmbrella_17 rfl ?_
  refine x_ldcS (k := 25) rfl rfl rfl dX9_readUmbrella_18 ?_
  obtain ⟨z20, y20, h⟩ := xbind h
  refine x_callV (t_hP_X9_isWord_10  z20 y20 (d + 3)) kX9_116 dX9_readUmbrella_20 rfl rfl rfl rfl rfl (Nat.le_of_ble_eq_true rfl) (Nat.le_of_ble_eq_true rfl) rfl rfl (Or.inl rfl) ?_
  refine x_if_eq 30 dX9_readUmbrella_23 (by decide) (fun q => ?_) (fun q => ?_)
  · have h := xif_t q h
    refine x_aload_n dX9_readUmbrella_30 rfl ?_
    refine x_ldcS (k := 26) rfl rfl rfl dX9_readUmbrella_31 ?_
    obtain ⟨z33, y33, h⟩ := xbind h
    refine x_callV (t_hP_X9_isWord_11  z33 y33 (d + 3)) kX9_116 dX9_readUmbrella_33 rfl rfl rfl rfl rfl (Nat.le_of_ble_eq_true rfl) (Nat.le_of_ble_eq_true rfl) rfl rfl (Or.inl rfl) ?_
    refine x_if_eq 43 dX9_readUmbrella_36 (by decide) (fun q => ?_) (fun q => ?_)
    · have h := xif_t q h
      refine x_aload_n dX9_readUmbrella_43 rfl ?_
      refine x_ldcSW (k := 27) rfl rfl rfl dX9_readUmbrella_44 ?_
      obtain ⟨z47, y47, h⟩ := xbind h
      refine x_callV (t_hP_X9_isWord_12  z47 y47 (d + 3)) kX9_116 dX9_readUmbrella_47 rfl rfl rfl rfl rfl (Nat.le_of_ble_eq_true rfl) (Nat.le_of_ble_eq_true rfl) rfl rfl (Or.inl rfl) ?_
      refine x_if_eq 57 dX9_readUmbrella_50 (by decide) (fun q => ?_) (fun q => ?_)
      · have h := xif_t q h
        refine x_aload_n dX9_readUmbrella_57 rfl ?_
        refine x_ldcSW (k := 28) rfl rfl rfl dX9_readUmbrella_58 ?_
        obtain ⟨z61, y61, h⟩ := xbind h
        refine x_callV (t_hP_X9_isWord_13  z61 y61 (d + 3)) kX9_116 dX9_readUmbrella_61 rfl rfl rfl rfl rfl (Nat.le_of_ble_eq_true rfl) (Nat.le_of_ble_eq_true rfl) rfl rfl (Or.inl rfl) ?_
        refine x_if_eq 71 dX9_readUmbrella_64 (by decide) (fun q => ?_) (fun q => ?_)
        · have h := xif_t q h
          refine x_iconst (-1 : Int32) dX9_readUmbrella_71 (by decide) ?_
          refine x_weak (pl2 := [some (.ref 0), some (.long z13.1), none, none, none, none, none, none]) ⟨rfl, rfl, trivial⟩ ?_
          exact jn_hP_X9_readUmbrella_72 d _ z13.1 (-1 : Int32) res h
        · have h := xif_f q h
          refine x_iconst (3 : Int32) dX9_readUmbrella_67 (by decide) ?_
          refine x_goto 72 dX9_readUmbrella_68 (by decide) ?_
          refine x_weak (pl2 := [some (.ref 0), some (.long z13.1), none, none, none, none, none, none]) ⟨rfl, rfl, trivial⟩ ?_
          exact jn_hP_X9_readUmbrella_72 d _ z13.1 (3 : Int32) res h
      · have h := xif_f q h
        refine x_iconst (2 : Int32) dX9_readUmbrella_53 (by decide) ?_
        refine x_goto 72 dX9_readUmbrella_54 (by decide) ?_
        refine x_weak (pl2 := [some (.ref 0), some (.long z13.1), none, none, none, none, none, none]) ⟨rfl, rfl, trivial⟩ ?_
        exact jn_hP_X9_readUmbrella_72 d _ z13.1 (2 : Int32) res h
    · have h := xif_f q h
      refine x_iconst (1 : Int32) dX9_readUmbrella_39 (by decide) ?_
      refine x_goto 72 dX9_readUmbrella_40 (by decide) ?_
      refine x_weak (pl2 := [some (.ref 0), some (.long z13.1), none, none, none, none, none, none]) ⟨rfl, rfl, trivial⟩ ?_
      exact jn_hP_X9_readUmbrella_72 d _ z13.1 (1 : Int32) res h
  · have h := xif_f q h
    refine x_iconst (0 : Int32) dX9_readUmbrella_26 (by decide) ?_
    refine x_goto 72 dX9_readUmbrella_27 (by decide) ?_
    refine x_weak (pl2 := [some (.ref 0), some (.long z13.1), none, none, none, none, none, none]) ⟨rfl, rfl, trivial⟩ ?_
    exact jn_hP_X9_readUmbrella_72 d _ z13.1 (0 : Int32) res h
