noncomputable def hP (g0 g1 g2 g3 g4 g5 g6 g7 g8 g9 g10 g11 g12 g13 g14 g15 g16 g17 g18 g19 g20 g21 g22 g23 g24 g25 g26 : Int32) (a0 a1 a2 a3 a4 a5 a6 a7 a8 a9 a10 a11 a12 a13 a14 a15 a16 a17 a18 a19 a20 a21 a22 a23 : (Nat → Int32)) (b0 : (Nat → Int64)) (w0 : Int64) (k0 k1 k2 k3 k4 k5 k6 k7 k8 k9 k10 k11 k12 k13 k14 k15 : xC) (c0 c1 : Value) : xH := [
  .inr (9, [.int g0, .int g1, .int g2, c0, c1, .ref 1, .int g3, .int g4, .int g5, .int g6, .int g7, .int g8, .int g9, .int g10, .long w0, .ref 2, .ref 3, .ref 4, .ref 5, .int g11, .int g12, .int g13, .ref 6, .ref 7, .int g14, .int g15, .ref 8, .ref 9, .ref 10, .int g16, .int g17, .int g18]),
  .inl (2, 1000, .inl a0),
  .inl (0, 11, .inl a1),
  .inl (0, 11, .inl a2),
  .inl (0, 176, .inl a3),
  .inl (0, 33, .inl a4),
  .inl (0, 3, .inl a5),
  .inl (0, 3, .inl a6),
  .inl (0, 6, .inl a7),
  .inl (0, 6, .inl a8),
  .inl (0, 5, .inl a9),
  k0,
  k1,
  k2,
  k3,
  k4,
  k5,
  k6,
  k7,
  k8,
  k9,
  k10,
  k11,
  k12,
  k13,
  k14,
  k15,
  .inr (8, [.int g19, .int g20, .int g21, .int g22, .int g23, .int g24, .int g25, .int g26, .ref 28, .ref 29, .ref 30, .ref 31, .ref 32, .ref 33, .ref 34, .ref 35, .ref 36, .ref 37, .ref 38, .ref 39, .ref 40, .ref 41, .ref 42]),
  .inl (0, 6, .inl a10),
  .inl (0, 5, .inl a11),
  .inl (0, 5, .inl a12),
  .inl (0, 5, .inl a13),
  .inl (0, 5, .inl a14),
  .inl (0, 16, .inl a15),
  .inl (0, 16, .inl a16),
  .inl (0, 16, .inl a17),
  .inl (0, 16, .inl a18),
  .inl (0, 6, .inl a19),
  .inl (0, 6, .inl a20),
  .inl (0, 6, .inl a21),
  .inl (1, 11, .inr (.inl b0)),
  .inl (0, 11, .inl a22),
  .inl (0, 11, .inl a23)]
noncomputable def e_hP_X9_byteAt (p0 : Int32) (p1 : (Nat → Int32)) (x1 : Int32) : Option (Int32) :=
  if p0 ≤ x1 then some (-1 : Int32) else (xix x1 1000 (some ((p1 x1.toNatClampNeg) &&& (255 : Int32))))
set_option maxRecDepth 100000 in
set_option maxHeartbeats 4000000 in
theorem t_hP_X9_byteAt {g0 g1 g2 g3 g4 g5 g6 g7 g8 g9 g10 g11 g12 g13 g14 g15 g16 g17 g18 g19 g20 g21 g22 g23 g24 g25 g26 : Int32} {a0 a1 a2 a3 a4 a5 a6 a7 a8 a9 a10 a11 a12 a13 a14 a15 a16 a17 a18 a19 a20 a21 a22 a23 : (Nat → Int32)} {b0 : (Nat → Int64)} {w0 : Int64} {k0 k1 k2 k3 k4 k5 k6 k7 k8 k9 k10 k11 k12 k13 k14 k15 : xC} {cv : Value} (x1 : Int32) (res : Int32) (h : e_hP_X9_byteAt g4 a0 x1 = some res) (d : Nat) : xMet xks YX9_byteAt (d + 1) 0 0 [.ref 0, .int x1] (hP g0 g1 g2 g3 g4 g5 g6 g7 g8 g9 g10 g11 g12 g13 g14 g15 g16 g17 g18 g19 g20 g21 g22 g23 g24 g25 g26 a0 a1 a2 a3 a4 a5 a6 a7 a8 a9 a10 a11 a12 a13 a14 a15 a16 a17 a18 a19 a20 a21 a22 a23 b0 w0 k0 k1 k2 k3 k4 k5 k6 k7 k8 k9 k10 k11 k12 k13 k14 k15 cv (.ref 27)) (some (.int res)) (hP g0 g1 g2 g3 g4 g5 g6 g7 g8 g9 g10 g11 g12 g13 g14 g15 g16 g17 g18 g19 g20 g21 g22 g23 g24 g25 g26 a0 a1 a2 a3 a4 a5 a6 a7 a8 a9 a10 a11 a12 a13 a14 a15 a16 a17 a18 a19 a20 a21 a22 a23 b0 w0 k0 k1 k2 k3 k4 k5 k6 k7 k8 k9 k10 k11 k12 k13 k14 k15 cv (.ref 27)) := by
  unfold e_hP_X9_byteAt at h
  refine xMet_of (pl := [some (.ref 0), some (.int x1)]) (by decide) (Nat.le_of_ble_eq_true rfl) rfl (Nat.le_of_ble_eq_true rfl) ?_
  refine x_iload_n dX9_byteAt_0 rfl ?_
  refine x_aload_n dX9_byteAt_1 rfl ?_
  refine x_get fX9_62 dX9_byteAt_2 rfl rfl rfl ?_
  refine x_icmp_ge 21 dX9_byteAt_5 (by decide) (fun q => ?_) (fun q => ?_)
  · have h := xif_t q h
    refine x_iconst (-1 : Int32) dX9_byteAt_21 (by decide) ?_
    cases h
    exact x_iret2 dX9_byteAt_22 rfl rfl
  · have h := xif_f q h
    refine x_aload_n dX9_byteAt_8 rfl ?_
    refine x_get fX9_13 dX9_byteAt_9 rfl rfl rfl ?_
    refine x_iload_n dX9_byteAt_12 rfl ?_
    obtain ⟨q13, h⟩ := xix_of h
    refine x_bald dX9_byteAt_13 rfl q13 ?_
    refine x_sipush (255 : Int32) dX9_byteAt_14 (by decide) ?_
    refine x_iand dX9_byteAt_17 ?_
    refine x_goto 22 dX9_byteAt_18 (by decide) ?_
    cases h
    exact x_iret2 dX9_byteAt_22 rfl rfl
noncomputable def e_hP_X9_isLetter  (x0 : Int32) : Option (Int32) :=
  if x0 < (97 : Int32) then some (0 : Int32) else if (122 : Int32) < x0 then some (0 : Int32) else some (1 : Int32)
set_option maxRecDepth 100000 in
set_option maxHeartbeats 4000000 in
theorem t_hP_X9_isLetter {g0 g1 g2 g3 g4 g5 g6 g7 g8 g9 g10 g11 g12 g13 g14 g15 g16 g17 g18 g19 g20 g21 g22 g23 g24 g25 g26 : Int32} {a0 a1 a2 a3 a4 a5 a6 a7 a8 a9 a10 a11 a12 a13 a14 a15 a16 a17 a18 a19 a20 a21 a22 a23 : (Nat → Int32)} {b0 : (Nat → Int64)} {w0 : Int64} {k0 k1 k2 k3 k4 k5 k6 k7 k8 k9 k10 k11 k12 k13 k14 k15 : xC} {cv : Value} (x0 : Int32) (res : Int32) (h : e_hP_X9_isLetter  x0 = some res) (d : Nat) : xMet xks YX9_isLetter (d + 1) 0 0 [.int x0] (hP g0 g1 g2 g3 g4 g5 g6 g7 g8 g9 g10 g11 g12 g13 g14 g15 g16 g17 g18 g19 g20 g21 g22 g23 g24 g25 g26 a0 a1 a2 a3 a4 a5 a6 a7 a8 a9 a10 a11 a12 a13 a14 a15 a16 a17 a18 a19 a20 a21 a22 a23 b0 w0 k0 k1 k2 k3 k4 k5 k6 k7 k8 k9 k10 k11 k12 k13 k14 k15 cv (.ref 27)) (some (.int res)) (hP g0 g1 g2 g3 g4 g5 g6 g7 g8 g9 g10 g11 g12 g13 g14 g15 g16 g17 g18 g19 g20 g21 g22 g23 g24 g25 g26 a0 a1 a2 a3 a4 a5 a6 a7 a8 a9 a10 a11 a12 a13 a14 a15 a16 a17 a18 a19 a20 a21 a22 a23 b0 w0 k0 k1 k2 k3 k4 k5 k6 k7 k8 k9 k10 k11 k12 k13 k14 k15 cv (.ref 27)) := by
  unfold e_hP_X9_isLetter at h
  refine xMet_of (pl := [some (.int x0)]) (by decide) (Nat.le_of_ble_eq_true rfl) rfl (Nat.le_of_ble_eq_true rfl) ?_
  refine x_iload_n dX9_isLetter_0 rfl ?_
  refine x_bipush (97 : Int32) dX9_isLetter_1 (by decide) ?_
  refine x_icmp_lt 16 dX9_isLetter_3 (by decide) (fun q => ?_) (fun q => ?_)
  · have h := xif_t q h
    refine x_iconst (0 : Int32) dX9_isLetter_16 (by decide) ?_
    cases h
    exact x_zret2 dX9_isLetter_17 rfl rfl rfl
  · have h := xif_f q h
    refine x_iload_n dX9_isLetter_6 rfl ?_
    refine x_bipush (122 : Int32) dX9_isLetter_7 (by decide) ?_
    refine x_icmp_gt 16 dX9_isLetter_9 (by decide) (fun q => ?_) (fun q => ?_)
    · have h := xif_t q h
      refine x_iconst (0 : Int32) dX9_isLetter_16 (by decide) ?_
      cases h
      exact x_zret2 dX9_isLetter_17 rfl rfl rfl
    · have h := xif_f q h
      refine x_iconst (1 : Int32) dX9_isLetter_12 (by decide) ?_
      refine x_goto 17 dX9_isLetter_13 (by decide) ?_
      cases h
      exact x_zret2 dX9_isLetter_17 rfl rfl rfl
noncomputable def e_hP_X9_isDigit  (x0 : Int32) : Option (Int32) :=
  if x0 < (48 : Int32) then some (0 : Int32) else if (57 : Int32) < x0 then some (0 : Int32) else some (1 : Int32)
set_option maxRecDepth 100000 in
set_option maxHeartbeats 4000000 in
theorem t_hP_X9_isDigit {g0 g1 g2 g3 g4 g5 g6 g7 g8 g9 g10 g11 g12 g13 g14 g15 g16 g17 g18 g19 g20 g21 g22 g23 g24 g25 g26 : Int32} {a0 a1 a2 a3 a4 a5 a6 a7 a8 a9 a10 a11 a12 a13 a14 a15 a16 a17 a18 a19 a20 a21 a22 a23 : (Nat → Int32)} {b0 : (Nat → Int64)} {w0 : Int64} {k0 k1 k2 k3 k4 k5 k6 k7 k8 k9 k10 k11 k12 k13 k14 k15 : xC} {cv : Value} (x0 : Int32) (res : Int32) (h : e_hP_X9_isDigit  x0 = some res) (d : Nat) : xMet xks YX9_isDigit (d + 1) 0 0 [.int x0] (hP g0 g1 g2 g3 g4 g5 g6 g7 g8 g9 g10 g11 g12 g13 g14 g15 g16 g17 g18 g19 g20 g21 g22 g23 g24 g25 g26 a0 a1 a2 a3 a4 a5 a6 a7 a8 a9 a10 a11 a12 a13 a14 a15 a16 a17 a18 a19 a20 a21 a22 a23 b0 w0 k0 k1 k2 k3 k4 k5 k6 k7 k8 k9 k10 k11 k12 k13 k14 k15 cv (.ref 27)) (some (.int res)) (hP g0 g1 g2 g3 g4 g5 g6 g7 g8 g9 g10 g11 g12 g13 g14 g15 g16 g17 g18 g19 g20 g21 g22 g23 g24 g25 g26 a0 a1 a2 a3 a4 a5 a6 a7 a8 a9 a10 a11 a12 a13 a14 a15 a16 a17 a18 a19 a20 a21 a22 a23 b0 w0 k0 k1 k2 k3 k4 k5 k6 k7 k8 k9 k10 k11 k12 k13 k14 k15 cv (.ref 27)) := by
  unfold e_hP_X9_isDigit at h
  refine xMet_of (pl := [some (.int x0)]) (by decide) (Nat.le_of_ble_eq_true rfl) rfl (Nat.le_of_ble_eq_true rfl) ?_
  refine x_iload_n dX9_isDigit_0 rfl ?_
  refine x_bipush (48 : Int32) dX9_isDigit_1 (by decide) ?_
  refine x_icmp_lt 16 dX9_isDigit_3 (by decide) (fun q => ?_) (fun q => ?_)
  · have h := xif_t q h
    refine x_iconst (0 : Int32) dX9_isDigit_16 (by decide) ?_
    cases h
    exact x_zret2 dX9_isDigit_17 rfl rfl rfl
  · have h := xif_f q h
    refine x_iload_n dX9_isDigit_6 rfl ?_
    refine x_bipush (57 : Int32) dX9_isDigit_7 (by decide) ?_
    refine x_icmp_gt 16 dX9_isDigit_9 (by decide) (fun q => ?_) (fun q => ?_)
    · have h := xif_t q h
      refine x_iconst (0 : Int32) dX9_isDigit_16 (by decide) ?_
      cases h
      exact x_zret2 dX9_isDigit_17 rfl rfl rfl
    · have h := xif_f q h
      refine x_iconst (1 : Int32) dX9_isDigit_12 (by decide) ?_
      refine x_goto 17 dX9_isDigit_13 (by decide) ?_
      cases h
      exact x_zret2 dX9_isDigit_17 rfl rfl rfl
noncomputable def L_hP_X9_goesOn_9 (p0 : Int32) (p2 : Int32) (p3 : (Nat → Int32)) (p4 : Int32) (p5 : Int32) (p6 : Int64)   (K : Int32 → Option (Int32 × Int32 × Int32 × Int32 × Int64)) : Nat → Int32 → Option (Int32 × Int32 × Int32 × Int32 × Int64)
  | 0, _ => none
  | n9 + 1, mg5_9 => ((e_hP_X9_byteAt p2 p3 mg5_9).bind fun z14 => if z14 = (32 : Int32) then L_hP_X9_goesOn_9 p0 p2 p3 p4 p5 p6  K n9 (mg5_9 + (1 : Int32)) else K mg5_9)
noncomputable def L_hP_X9_goesOn_173 (p0 : Int32) (p2 : Int32) (p3 : (Nat → Int32)) (p4 : Int32) (p6 : Int64)   (K : Int32 → Int32 → Int32 → Option (Int32 × Int32 × Int32 × Int32 × Int64)) : Nat → Int32 → Int32 → Int32 → Option (Int32 × Int32 × Int32 × Int32 × Int64)
  | 0, _, _, _ => none
  | n173 + 1, l2_173, mg8_173, mg5_173 => ((e_hP_X9_byteAt p2 p3 mg5_173).bind fun z178 => (e_hP_X9_isDigit z178).bind fun z181 => if z181 = (0 : Int32) then K l2_173 mg8_173 mg5_173 else if (2 : Int32) ≤ l2_173 then L_hP_X9_goesOn_173 p0 p2 p3 p4 p6  K n173 (l2_173 + (1 : Int32)) mg8_173 (mg5_173 + (1 : Int32)) else ((e_hP_X9_byteAt p2 p3 mg5_173).bind fun z205 => L_hP_X9_goesOn_173 p0 p2 p3 p4 p6  K n173 (l2_173 + (1 : Int32)) ((((10 : Int32) * mg8_173) + z205) - (48 : Int32)) (mg5_173 + (1 : Int32))))
noncomputable def L_hP_X9_goesOn_84 (p0 : Int32) (p2 : Int32) (p3 : (Nat → Int32)) (p4 : Int32) (p5 : Int32)   (K : Int32 → Int64 → Int32 → Option (Int32 × Int32 × Int32 × Int32 × Int64)) : Nat → Int32 → Int64 → Int32 → Option (Int32 × Int32 × Int32 × Int32 × Int64)
  | 0, _, _, _ => none
  | n84 + 1, l2_84, mw0_84, mg5_84 => ((e_hP_X9_byteAt p2 p3 mg5_84).bind fun z89 => (e_hP_X9_isLetter z89).bind fun z92 => if z92 = (0 : Int32) then K l2_84 mw0_84 mg5_84 else if (8 : Int32) ≤ l2_84 then L_hP_X9_goesOn_84 p0 p2 p3 p4 p5  K n84 (l2_84 + (1 : Int32)) mw0_84 (mg5_84 + (1 : Int32)) else ((e_hP_X9_byteAt p2 p3 mg5_84).bind fun z118 => L_hP_X9_goesOn_84 p0 p2 p3 p4 p5  K n84 (l2_84 + (1 : Int32)) (((32 : Int64) * mw0_84) + ((z118 - (97 : Int32)) + (1 : Int32)).toInt64) (mg5_84 + (1 : Int32))))
noncomputable def e_hP_X9_goesOn (p0 : Int32) (p1 : Int32) (p2 : Int32) (p3 : (Nat → Int32)) (p4 : Int32) (p5 : Int32) (p6 : Int64)  : Option (Int32 × Int32 × Int32 × Int32 × Int64) :=
  if p0 = (5 : Int32) then some (p4, p0, p1, p5, p6) else L_hP_X9_goesOn_9 p0 p2 p3 p4 p5 p6  (fun mg5_9 => ((e_hP_X9_byteAt p2 p3 mg5_9).bind fun z53 => if z53 = (-1 : Int32) then some (mg5_9, (1 : Int32), mg5_9, p5, p6) else ((e_hP_X9_isLetter z53).bind fun z73 => if z73 = (0 : Int32) then ((e_hP_X9_isDigit z53).bind fun z162 => if z162 = (0 : Int32) then if z53 = (59 : Int32) then some (mg5_9, (4 : Int32), (mg5_9 + (1 : Int32)), p5, p6) else some (mg5_9, (0 : Int32), mg5_9, p5, p6) else L_hP_X9_goesOn_173 (0 : Int32) p2 p3 mg5_9 p6  (fun l2_173 mg8_173 mg5_173 => if (2 : Int32) < l2_173 then some (mg5_9, (0 : Int32), mg5_173, mg8_173, p6) else some (mg5_9, (3 : Int32), mg5_173, mg8_173, p6)) 200000 (0 : Int32) (0 : Int32) mg5_9) else L_hP_X9_goesOn_84 (0 : Int32) p2 p3 mg5_9 p5  (fun l2_84 mw0_84 mg5_84 => if (8 : Int32) < l2_84 then some (mg5_9, (0 : Int32), mg5_84, p5, mw0_84) else some (mg5_9, (2 : Int32), mg5_84, p5, mw0_84)) 200000 (0 : Int32) (0 : Int64) mg5_9))) 200000 p1
set_option maxRecDepth 100000 in
set_option maxHeartbeats 4000000 in
theorem lp_hP_X9_goesOn_9 {g0 g1 g2 g3 g4 g6 g7 g8 g9 g10 g11 g12 g13 g14 g15 g16 g17 g18 g19 g20 g21 g22 g23 g24 g25 g26 : Int32} {a0 a1 a2 a3 a4 a5 a6 a7 a8 a9 a10 a11 a12 a13 a14 a15 a16 a17 a18 a19 a20 a21 a22 a23 : (Nat → Int32)} {b0 : (Nat → Int64)} {w0 : Int64} {k0 k1 k2 k3 k4 k5 k6 k7 k8 k9 k10 k11 k12 k13 k14 k15 : xC} {cv : Value} (d n0 : Nat)  (res : Int32 × Int32 × Int32 × Int32 × Int64) (K : Int32 → Option (Int32 × Int32 × Int32 × Int32 × Int64)) (hK : ∀ (mg5_9 : Int32), K mg5_9 = some res → xW xks YX9_goesOn (d + 2) 0 0 n0 (xZ 0 0 n0 none (hP g0 g1 g2 g3 g4 res.2.2.1 res.2.1 res.1 res.2.2.2.1 g9 g10 g11 g12 g13 g14 g15 g16 g17 g18 g19 g20 g21 g22 g23 g24 g25 g26 a0 a1 a2 a3 a4 a5 a6 a7 a8 a9 a10 a11 a12 a13 a14 a15 a16 a17 a18 a19 a20 a21 a22 a23 b0 res.2.2.2.2 k0 k1 k2 k3 k4 k5 k6 k7 k8 k9 k10 k11 k12 k13 k14 k15 cv (.ref 27))) 0 0 35 [some (.ref 0), none, none] [] (hP g0 g1 g2 g3 g4 mg5_9 g6 g7 g8 g9 g10 g11 g12 g13 g14 g15 g16 g17 g18 g19 g20 g21 g22 g23 g24 g25 g26 a0 a1 a2 a3 a4 a5 a6 a7 a8 a9 a10 a11 a12 a13 a14 a15 a16 a17 a18 a19 a20 a21 a22 a23 b0 w0 k0 k1 k2 k3 k4 k5 k6 k7 k8 k9 k10 k11 k12 k13 k14 k15 cv (.ref 27))) : ∀ (n : Nat) (mg5_9 : Int32), L_hP_X9_goesOn_9 g6 g4 a0 g7 g8 w0  K n mg5_9 = some res → xW xks YX9_goesOn (d + 2) 0 0 n0 (xZ 0 0 n0 none (hP g0 g1 g2 g3 g4 res.2.2.1 res.2.1 res.1 res.2.2.2.1 g9 g10 g11 g12 g13 g14 g15 g16 g17 g18 g19 g20 g21 g22 g23 g24 g25 g26 a0 a1 a2 a3 a4 a5 a6 a7 a8 a9 a10 a11 a12 a13 a14 a15 a16 a17 a18 a19 a20 a21 a22 a23 b0 res.2.2.2.2 k0 k1 k2 k3 k4 k5 k6 k7 k8 k9 k10 k11 k12 k13 k14 k15 cv (.ref 27))) 0 0 9 [some (.ref 0), none, none] [] (hP g0 g1 g2 g3 g4 mg5_9 g6 g7 g8 g9 g10 g11 g12 g13 g14 g15 g16 g17 g18 g19 g20 g21 g22 g23 g24 g25 g26 a0 a1 a2 a3 a4 a5 a6 a7 a8 a9 a10 a11 a12 a13 a14 a15 a16 a17 a18 a19 a20 a21 a22 a23 b0 w0 k0 k1 k2 k3 k4 k5 k6 k7 k8 k9 k10 k11 k12 k13 k14 k15 cv (.ref 27)) := by
  intro n
  induction n with
  | zero =>
    intro mg5_9 h
    cases (show (none : Option (Int32 × Int32 × Int32 × Int32 × Int64)) = some res from h)
  | succ n9 ih9 =>
    intro mg5_9 h
    unfold L_hP_X9_goesOn_9 at h
    refine x_aload_n dX9_goesOn_9 rfl ?_
    refine x_aload_n dX9_goesOn_10 rfl ?_
    refine x_get fX9_80 dX9_goesOn_11 rfl rfl rfl ?_
    obtain ⟨z14, y14, h⟩ := xbind h
    refine x_callV (t_hP_X9_byteAt mg5_9 z14 y14 (d + 0)) kX9_83 dX9_goesOn_14 rfl rfl rfl rfl rfl (Nat.le_of_ble_eq_true rfl) (Nat.le_of_ble_eq_true rfl) rfl rfl (Or.inl rfl) ?_
    refine x_bipush (32 : Int32) dX9_goesOn_17 (by decide) ?_
    refine x_icmp_ne 35 dX9_goesOn_19 (by decide) (fun q => ?_) (fun q => ?_)
    · have h := xif_f q h
      refine x_weak (pl2 := [some (.ref 0), none, none]) ⟨rfl, trivial⟩ ?_
      exact hK mg5_9 h
    · have h := xif_t q h
      refine x_aload_n dX9_goesOn_22 rfl ?_
      refine x_dup dX9_goesOn_23 rfl ?_
      refine x_get fX9_80 dX9_goesOn_24 rfl rfl rfl ?_
      refine x_iconst (1 : Int32) dX9_goesOn_27 (by decide) ?_
      refine x_iadd dX9_goesOn_28 ?_
      refine x_put (h2 := (hP g0 g1 g2 g3 g4 (mg5_9 + (1 : Int32)) g6 g7 g8 g9 g10 g11 g12 g13 g14 g15 g16 g17 g18 g19 g20 g21 g22 g23 g24 g25 g26 a0 a1 a2 a3 a4 a5 a6 a7 a8 a9 a10 a11 a12 a13 a14 a15 a16 a17 a18 a19 a20 a21 a22 a23 b0 w0 k0 k1 k2 k3 k4 k5 k6 k7 k8 k9 k10 k11 k12 k13 k14 k15 cv (.ref 27))) fX9_80 dX9_goesOn_29 rfl rfl (Nat.le_of_ble_eq_true rfl : 8 + 1 ≤ _) (fun α => ⟨rfl, rfl⟩) rfl ?_
      refine x_goto 9 dX9_goesOn_32 (by decide) ?_
      refine x_weak (pl2 := [some (.ref 0), none, none]) ⟨rfl, trivial⟩ ?_
      exact ih9 (mg5_9 + (1 : Int32)) h
set_option maxRecDepth 100000 in
set_option maxHeartbeats 4000000 in
theorem lp_hP_X9_goesOn_173 {g0 g1 g2 g3 g4 g6 g7 g9 g10 g11 g12 g13 g14 g15 g16 g17 g18 g19 g20 g21 g22 g23 g24 g25 g26 : Int32} {a0 a1 a2 a3 a4 a5 a6 a7 a8 a9 a10 a11 a12 a13 a14 a15 a16 a17 a18 a19 a20 a21 a22 a23 : (Nat → Int32)} {b0 : (Nat → Int64)} {w0 : Int64} {k0 k1 k2 k3 k4 k5 k6 k7 k8 k9 k10 k11 k12 k13 k14 k15 : xC} {cv : Value} (d n0 : Nat)  (res : Int32 × Int32 × Int32 × Int32 × Int64) (K : Int32 → Int32 → Int32 → Option (Int32 × Int32 × Int32 × Int32 × Int64)) (hK : ∀ (l2_173 : Int32) (mg8_173 : Int32) (mg5_173 : Int32), K l2_173 mg8_173 mg5_173 = some res → xW xks YX9_goesOn (d + 2) 0 0 n0 (xZ 0 0 n0 none (hP g0 g1 g2 g3 g4 res.2.2.1 res.2.1 res.1 res.2.2.2.1 g9 g10 g11 g12 g13 g14 g15 g16 g17 g18 g19 g20 g21 g22 g23 g24 g25 g26 a0 a1 a2 a3 a4 a5 a6 a7 a8 a9 a10 a11 a12 a13 a14 a15 a16 a17 a18 a19 a20 a21 a22 a23 b0 res.2.2.2.2 k0 k1 k2 k3 k4 k5 k6 k7 k8 k9 k10 k11 k12 k13 k14 k15 cv (.ref 27))) 0 0 231 [some (.ref 0), none, some (.int l2_173)] [] (hP g0 g1 g2 g3 g4 mg5_173 g6 g7 mg8_173 g9 g10 g11 g12 g13 g14 g15 g16 g17 g18 g19 g20 g21 g22 g23 g24 g25 g26 a0 a1 a2 a3 a4 a5 a6 a7 a8 a9 a10 a11 a12 a13 a14 a15 a16 a17 a18 a19 a20 a21 a22 a23 b0 w0 k0 k1 k2 k3 k4 k5 k6 k7 k8 k9 k10 k11 k12 k13 k14 k15 cv (.ref 27))) : ∀ (n : Nat) (l2_173 : Int32) (mg8_173 : Int32) (mg5_173 : Int32), L_hP_X9_goesOn_173 g6 g4 a0 g7 w0  K n l2_173 mg8_173 mg5_173 = some res → xW xks YX9_goesOn (d + 2) 0 0 n0 (xZ 0 0 n0 none (hP g0 g1 g2 g3 g4 res.2.2.1 res.2.1 res.1 res.2.2.2.1 g9 g10 g11 g12 g13 g14 g15 g16 g17 g18 g19 g20 g21 g22 g23 g24 g25 g26 a0 a1 a2 a3 a4 a5 a6 a7 a8 a9 a10 a11 a12 a13 a14 a15 a16 a17 a18 a19 a20 a21 a22 a23 b0 res.2.2.2.2 k0 k1 k2 k3 k4 k5 k6 k7 k8 k9 k10 k11 k12 k13 k14 k15 cv (.ref 27))) 0 0 173 [some (.ref 0), none, some (.int l2_173)] [] (hP g0 g1 g2 g3 g4 mg5_173 g6 g7 mg8_173 g9 g10 g11 g12 g13 g14 g15 g16 g17 g18 g19 g20 g21 g22 g23 g24 g25 g26 a0 a1 a2 a3 a4 a5 a6 a7 a8 a9 a10 a11 a12 a13 a14 a15 a16 a17 a18 a19 a20 a21 a22 a23 b0 w0 k0 k1 k2 k3 k4 k5 k6 k7 k8 k9 k10 k11 k12 k13 k14 k15 cv (.ref 27)) := by
  intro n
  induction n with
  | zero =>
    intro l2_173 mg8_173 mg5_173 h
    cases (show (none : Option (Int32 × Int32 × Int32 × Int32 × Int64)) = some res from h)
  | succ n173 ih173 =>
    intro l2_173 mg8_173 mg5_173 h
    unfold L_hP_X9_goesOn_173 at h
    refine x_aload_n dX9_goesOn_173 rfl ?_
    refine x_aload_n dX9_goesOn_174 rfl ?_
    refine x_get fX9_80 dX9_goesOn_175 rfl rfl rfl ?_
    obtain ⟨z178, y178, h⟩ := xbind h
    refine x_callV (t_hP_X9_byteAt mg5_173 z178 y178 (d + 0)) kX9_83 dX9_goesOn_178 rfl rfl rfl rfl rfl (Nat.le_of_ble_eq_true rfl) (Nat.le_of_ble_eq_true rfl) rfl rfl (Or.inl rfl) ?_
    obtain ⟨z181, y181, h⟩ := xbind h
    refine x_callS (t_hP_X9_isDigit z178 z181 y181 (d + 0)) kX9_97 dX9_goesOn_181 rfl rfl (Nat.le_of_ble_eq_true rfl) (Nat.le_of_ble_eq_true rfl) rfl rfl (Or.inl rfl) ?_
    refine x_if_eq 231 dX9_goesOn_184 (by decide) (fun q => ?_) (fun q => ?_)
    · have h := xif_t q h
      refine x_weak (pl2 := [some (.ref 0), none, some (.int l2_173)]) ⟨rfl, rfl, trivial⟩ ?_
      exact hK l2_173 mg8_173 mg5_173 h
    · have h := xif_f q h
      refine x_iload_n dX9_goesOn_187 rfl ?_
      refine x_iconst (2 : Int32) dX9_goesOn_188 (by decide) ?_
      refine x_icmp_ge 215 dX9_goesOn_189 (by decide) (fun q => ?_) (fun q => ?_)
      · have h := xif_t q h
        refine x_iincK (1 : Int32) (pl' := [some (.ref 0), none, some (.int (l2_173 + (1 : Int32)))]) dX9_goesOn_215 rfl (by decide) (by decide) rfl ?_
        refine x_aload_n dX9_goesOn_218 rfl ?_
        refine x_dup dX9_goesOn_219 rfl ?_
        refine x_get fX9_80 dX9_goesOn_220 rfl rfl rfl ?_
        refine x_iconst (1 : Int32) dX9_goesOn_223 (by decide) ?_
        refine x_iadd dX9_goesOn_224 ?_
        refine x_put (h2 := (hP g0 g1 g2 g3 g4 (mg5_173 + (1 : Int32)) g6 g7 mg8_173 g9 g10 g11 g12 g13 g14 g15 g16 g17 g18 g19 g20 g21 g22 g23 g24 g25 g26 a0 a1 a2 a3 a4 a5 a6 a7 a8 a9 a10 a11 a12 a13 a14 a15 a16 a17 a18 a19 a20 a21 a22 a23 b0 w0 k0 k1 k2 k3 k4 k5 k6 k7 k8 k9 k10 k11 k12 k13 k14 k15 cv (.ref 27))) fX9_80 dX9_goesOn_225 rfl rfl (Nat.le_of_ble_eq_true rfl : 8 + 1 ≤ _) (fun α => ⟨rfl, rfl⟩) rfl ?_
        refine x_goto 173 dX9_goesOn_228 (by decide) ?_
        refine x_weak (pl2 := [some (.ref 0), none, some (.int (l2_173 + (1 : Int32)))]) ⟨rfl, rfl, trivial⟩ ?_
        exact ih173 (l2_173 + (1 : Int32)) mg8_173 (mg5_173 + (1 : Int32)) h
      · have h := xif_f q h
        refine x_aload_n dX9_goesOn_192 rfl ?_
        refine x_bipush (10 : Int32) dX9_goesOn_193 (by decide) ?_
        refine x_aload_n dX9_goesOn_195 rfl ?_
        refine x_get fX9_100 dX9_goesOn_196 rfl rfl rfl ?_
        refine x_imul dX9_goesOn_199 ?_
        refine x_aload_n dX9_goesOn_200 rfl ?_
        refine x_aload_n dX9_goesOn_201 rfl ?_
        refine x_get fX9_80 dX9_goesOn_202 rfl rfl rfl ?_
        obtain ⟨z205, y205, h⟩ := xbind h
        refine x_callV (t_hP_X9_byteAt mg5_173 z205 y205 (d + 0)) kX9_83 dX9_goesOn_205 rfl rfl rfl rfl rfl (Nat.le_of_ble_eq_true rfl) (Nat.le_of_ble_eq_true rfl) rfl rfl (Or.inl rfl) ?_
        refine x_iadd dX9_goesOn_208 ?_
        refine x_bipush (48 : Int32) dX9_goesOn_209 (by decide) ?_
        refine x_isub dX9_goesOn_211 ?_
        refine x_put (h2 := (hP g0 g1 g2 g3 g4 mg5_173 g6 g7 ((((10 : Int32) * mg8_173) + z205) - (48 : Int32)) g9 g10 g11 g12 g13 g14 g15 g16 g17 g18 g19 g20 g21 g22 g23 g24 g25 g26 a0 a1 a2 a3 a4 a5 a6 a7 a8 a9 a10 a11 a12 a13 a14 a15 a16 a17 a18 a19 a20 a21 a22 a23 b0 w0 k0 k1 k2 k3 k4 k5 k6 k7 k8 k9 k10 k11 k12 k13 k14 k15 cv (.ref 27))) fX9_100 dX9_goesOn_212 rfl rfl (Nat.le_of_ble_eq_true rfl : 11 + 1 ≤ _) (fun α => ⟨rfl, rfl⟩) rfl ?_
        refine x_iincK (1 : Int32) (pl' := [some (.ref 0), none, some (.int (l2_173 + (1 : Int32)))]) dX9_goesOn_215 rfl (by decide) (by decide) rfl ?_
        refine x_aload_n dX9_goesOn_218 rfl ?_
        refine x_dup dX9_goesOn_219 rfl ?_
        refine x_get fX9_80 dX9_goesOn_220 rfl rfl rfl ?_
        refine x_iconst (1 : Int32) dX9_goesOn_223 (by decide) ?_
        refine x_iadd dX9_goesOn_224 ?_
        refine x_put (h2 := (hP g0 g1 g2 g3 g4 (mg5_173 + (1 : Int32)) g6 g7 ((((10 : Int32) * mg8_173) + z205) - (48 : Int32)) g9 g10 g11 g12 g13 g14 g15 g16 g17 g18 g19 g20 g21 g22 g23 g24 g25 g26 a0 a1 a2 a3 a4 a5 a6 a7 a8 a9 a10 a11 a12 a13 a14 a15 a16 a17 a18 a19 a20 a21 a22 a23 b0 w0 k0 k1 k2 k3 k4 k5 k6 k7 k8 k9 k10 k11 k12 k13 k14 k15 cv (.ref 27))) fX9_80 dX9_goesOn_225 rfl rfl (Nat.le_of_ble_eq_true rfl : 8 + 1 ≤ _) (fun α => ⟨rfl, rfl⟩) rfl ?_
        refine x_goto 173 dX9_goesOn_228 (by decide) ?_
        refine x_weak (pl2 := [some (.ref 0), none, some (.int (l2_173 + (1 : Int32)))]) ⟨rfl, rfl, trivial⟩ ?_
        exact ih173 (l2_173 + (1 : Int32)) ((((10 : Int32) * mg8_173) + z205) - (48 : Int32)) (mg5_173 + (1 : Int32)) h
set_option maxRecDepth 100000 in
set_option maxHeartbeats 4000000 in
theorem lp_hP_X9_goesOn_84 {g0 g1 g2 g3 g4 g6 g7 g8 g9 g10 g11 g12 g13 g14 g15 g16 g17 g18 g19 g20 g21 g22 g23 g24 g25 g26 : Int32} {a0 a1 a2 a3 a4 a5 a6 a7 a8 a9 a10 a11 a12 a13 a14 a15 a16 a17 a18 a19 a20 a21 a22 a23 : (Nat → Int32)} {b0 : (Nat → Int64)} {k0 k1 k2 k3 k4 k5 k6 k7 k8 k9 k10 k11 k12 k13 k14 k15 : xC} {cv : Value} (d n0 : Nat)  (res : Int32 × Int32 × Int32 × Int32 × Int64) (K : Int32 → Int64 → Int32 → Option (Int32 × Int32 × Int32 × Int32 × Int64)) (hK : ∀ (l2_84 : Int32) (mw0_84 : Int64) (mg5_84 : Int32), K l2_84 mw0_84 mg5_84 = some res → xW xks YX9_goesOn (d + 2) 0 0 n0 (xZ 0 0 n0 none (hP g0 g1 g2 g3 g4 res.2.2.1 res.2.1 res.1 res.2.2.2.1 g9 g10 g11 g12 g13 g14 g15 g16 g17 g18 g19 g20 g21 g22 g23 g24 g25 g26 a0 a1 a2 a3 a4 a5 a6 a7 a8 a9 a10 a11 a12 a13 a14 a15 a16 a17 a18 a19 a20 a21 a22 a23 b0 res.2.2.2.2 k0 k1 k2 k3 k4 k5 k6 k7 k8 k9 k10 k11 k12 k13 k14 k15 cv (.ref 27))) 0 0 147 [some (.ref 0), none, some (.int l2_84)] [] (hP g0 g1 g2 g3 g4 mg5_84 g6 g7 g8 g9 g10 g11 g12 g13 g14 g15 g16 g17 g18 g19 g20 g21 g22 g23 g24 g25 g26 a0 a1 a2 a3 a4 a5 a6 a7 a8 a9 a10 a11 a12 a13 a14 a15 a16 a17 a18 a19 a20 a21 a22 a23 b0 mw0_84 k0 k1 k2 k3 k4 k5 k6 k7 k8 k9 k10 k11 k12 k13 k14 k15 cv (.ref 27))) : ∀ (n : Nat) (l2_84 : Int32) (mw0_84 : Int64) (mg5_84 : Int32), L_hP_X9_goesOn_84 g6 g4 a0 g7 g8  K n l2_84 mw0_84 mg5_84 = some res → xW xks YX9_goesOn (d + 2) 0 0 n0 (xZ 0 0 n0 none (hP g0 g1 g2 g3 g4 res.2.2.1 res.2.1 res.1 res.2.2.2.1 g9 g10 g11 g12 g13 g14 g15 g16 g17 g18 g19 g20 g21 g22 g23 g24 g25 g26 a0 a1 a2 a3 a4 a5 a6 a7 a8 a9 a10 a11 a12 a13 a14 a15 a16 a17 a18 a19 a20 a21 a22 a23 b0 res.2.2.2.2 k0 k1 k2 k3 k4 k5 k6 k7 k8 k9 k10 k11 k12 k13 k14 k15 cv (.ref 27))) 0 0 84 [some (.ref 0), none, some (.int l2_84)] [] (hP g0 g1 g2 g3 g4 mg5_84 g6 g7 g8 g9 g10 g11 g12 g13 g14 g15 g16 g17 g18 g19 g20 g21 g22 g23 g24 g25 g26 a0 a1 a2 a3 a4 a5 a6 a7 a8 a9 a10 a11 a12 a13 a14 a15 a16 a17 a18 a19 a20 a21 a22 a23 b0 mw0_84 k0 k1 k2 k3 k4 k5 k6 k7 k8 k9 k10 k11 k12 k13 k14 k15 cv (.ref 27)) := by
  intro n
  induction n with
  | zero =>
    intro l2_84 mw0_84 mg5_84 h
    cases (show (none : Option (Int32 × Int32 × Int32 × Int32 × Int64)) = some res from h)
  | succ n84 ih84 =>
    intro l2_84 mw0_84 mg5_84 h
    unfold L_hP_X9_goesOn_84 at h
    refine x_aload_n dX9_goesOn_84 rfl ?_
    refine x_aload_n dX9_goesOn_85 rfl ?_
    refine x_get fX9_80 dX9_goesOn_86 rfl rfl rfl ?_
    obtain ⟨z89, y89, h⟩ := xbind h
    refine x_callV (t_hP_X9_byteAt mg5_84 z89 y89 (d + 0)) kX9_83 dX9_goesOn_89 rfl rfl rfl rfl rfl (Nat.le_of_ble_eq_true rfl) (Nat.le_of_ble_eq_true rfl) rfl rfl (Or.inl rfl) ?_
    obtain ⟨z92, y92, h⟩ := xbind h
    refine x_callS (t_hP_X9_isLetter z89 z92 y92 (d + 0)) kX9_89 dX9_goesOn_92 rfl rfl (Nat.le_of_ble_eq_true rfl) (Nat.le_of_ble_eq_true rfl) rfl rfl (Or.inl rfl) ?_
    refine x_if_eq 147 dX9_goesOn_95 (by decide) (fun q => ?_) (fun q => ?_)
    · have h := xif_t q h
      refine x_weak (pl2 := [some (.ref 0), none, some (.int l2_84)]) ⟨rfl, rfl, trivial⟩ ?_
      exact hK l2_84 mw0_84 mg5_84 h
    · have h := xif_f q h
      refine x_iload_n dX9_goesOn_98 rfl ?_
      refine x_bipush (8 : Int32) dX9_goesOn_99 (by decide) ?_
      refine x_icmp_ge 131 dX9_goesOn_101 (by decide) (fun q => ?_) (fun q => ?_)
      · have h := xif_t q h
        refine x_iincK (1 : Int32) (pl' := [some (.ref 0), none, some (.int (l2_84 + (1 : Int32)))]) dX9_goesOn_131 rfl (by decide) (by decide) rfl ?_
        refine x_aload_n dX9_goesOn_134 rfl ?_
        refine x_dup dX9_goesOn_135 rfl ?_
        refine x_get fX9_80 dX9_goesOn_136 rfl rfl rfl ?_
        refine x_iconst (1 : Int32) dX9_goesOn_139 (by decide) ?_
        refine x_iadd dX9_goesOn_140 ?_
        refine x_put (h2 := (hP g0 g1 g2 g3 g4 (mg5_84 + (1 : Int32)) g6 g7 g8 g9 g10 g11 g12 g13 g14 g15 g16 g17 g18 g19 g20 g21 g22 g23 g24 g25 g26 a0 a1 a2 a3 a4 a5 a6 a7 a8 a9 a10 a11 a12 a13 a14 a15 a16 a17 a18 a19 a20 a21 a22 a23 b0 mw0_84 k0 k1 k2 k3 k4 k5 k6 k7 k8 k9 k10 k11 k12 k13 k14 k15 cv (.ref 27))) fX9_80 dX9_goesOn_141 rfl rfl (Nat.le_of_ble_eq_true rfl : 8 + 1 ≤ _) (fun α => ⟨rfl, rfl⟩) rfl ?_
        refine x_goto 84 dX9_goesOn_144 (by decide) ?_
        refine x_weak (pl2 := [some (.ref 0), none, some (.int (l2_84 + (1 : Int32)))]) ⟨rfl, rfl, trivial⟩ ?_
        exact ih84 (l2_84 + (1 : Int32)) mw0_84 (mg5_84 + (1 : Int32)) h
      · have h := xif_f q h
        refine x_aload_n dX9_goesOn_104 rfl ?_
        refine x_ldc2 iX9_71 dX9_goesOn_105 ?_
        refine x_aload_n dX9_goesOn_108 rfl ?_
        refine x_get fX9_93 dX9_goesOn_109 rfl rfl rfl ?_
        refine x_lmul dX9_goesOn_112 ?_
        refine x_aload_n dX9_goesOn_113 rfl ?_
        refine x_aload_n dX9_goesOn_114 rfl ?_
        refine x_get fX9_80 dX9_goesOn_115 rfl rfl rfl ?_
        obtain ⟨z118, y118, h⟩ := xbind h
        refine x_callV (t_hP_X9_byteAt mg5_84 z118 y118 (d + 0)) kX9_83 dX9_goesOn_118 rfl rfl rfl rfl rfl (Nat.le_of_ble_eq_true rfl) (Nat.le_of_ble_eq_true rfl) rfl rfl (Or.inl rfl) ?_
        refine x_bipush (97 : Int32) dX9_goesOn_121 (by decide) ?_
        refine x_isub dX9_goesOn_123 ?_
        refine x_iconst (1 : Int32) dX9_goesOn_124 (by decide) ?_
        refine x_iadd dX9_goesOn_125 ?_
        refine x_i2l dX9_goesOn_126 ?_
        refine x_ladd dX9_goesOn_127 ?_
        refine x_put (h2 := (hP g0 g1 g2 g3 g4 mg5_84 g6 g7 g8 g9 g10 g11 g12 g13 g14 g15 g16 g17 g18 g19 g20 g21 g22 g23 g24 g25 g26 a0 a1 a2 a3 a4 a5 a6 a7 a8 a9 a10 a11 a12 a13 a14 a15 a16 a17 a18 a19 a20 a21 a22 a23 b0 (((32 : Int64) * mw0_84) + ((z118 - (97 : Int32)) + (1 : Int32)).toInt64) k0 k1 k2 k3 k4 k5 k6 k7 k8 k9 k10 k11 k12 k13 k14 k15 cv (.ref 27))) fX9_93 dX9_goesOn_128 rfl rfl (Nat.le_of_ble_eq_true rfl : 14 + 1 ≤ _) (fun α => ⟨rfl, rfl⟩) rfl ?_
        refine x_iincK (1 : Int32) (pl' := [some (.ref 0), none, some (.int (l2_84 + (1 : Int32)))]) dX9_goesOn_131 rfl (by decide) (by decide) rfl ?_
        refine x_aload_n dX9_goesOn_134 rfl ?_
        refine x_dup dX9_goesOn_135 rfl ?_
        refine x_get fX9_80 dX9_goesOn_136 rfl rfl rfl ?_
        refine x_iconst (1 : Int32) dX9_goesOn_139 (by decide) ?_
        refine x_iadd dX9_goesOn_140 ?_
        refine x_put (h2 := (hP g0 g1 g2 g3 g4 (mg5_84 + (1 : Int32)) g6 g7 g8 g9 g10 g11 g12 g13 g14 g15 g16 g17 g18 g19 g20 g21 g22 g23 g24 g25 g26 a0 a1 a2 a3 a4 a5 a6 a7 a8 a9 a10 a11 a12 a13 a14 a15 a16 a17 a18 a19 a20 a21 a22 a23 b0 (((32 : Int64) * mw0_84) + ((z118 - (97 : Int32)) + (1 : Int32)).toInt64) k0 k1 k2 k3 k4 k5 k6 k7 k8 k9 k10 k11 k12 k13 k14 k15 cv (.ref 27))) fX9_80 dX9_goesOn_141 rfl rfl (Nat.le_of_ble_eq_true rfl : 8 + 1 ≤ _) (fun α => ⟨rfl, rfl⟩) rfl ?_
        refine x_goto 84 dX9_goesOn_144 (by decide) ?_
        refine x_weak (pl2 := [some (.ref 0), none, some (.int (l2_84 + (1 : Int32)))]) ⟨rfl, rfl, trivial⟩ ?_
        exact ih84 (l2_84 + (1 : Int32)) (((32 : Int64) * mw0_84) + ((z118 - (97 : Int32)) + (1 : Int32)).toInt64) (mg5_84 + (1 : Int32)) h
set_option maxRecDepth 100000 in
set_option maxHeartbeats 4000000 in
theorem t_hP_X9_goesOn {g0 g1 g2 g3 g4 g5 g6 g7 g8 g9 g10 g11 g12 g13 g14 g15 g16 g17 g18 g19 g20 g21 g22 g23 g24 g25 g26 : Int32} {a0 a1 a2 a3 a4 a5 a6 a7 a8 a9 a10 a11 a12 a13 a14 a15 a16 a17 a18 a19 a20 a21 a22 a23 : (Nat → Int32)} {b0 : (Nat → Int64)} {w0 : Int64} {k0 k1 k2 k3 k4 k5 k6 k7 k8 k9 k10 k11 k12 k13 k14 k15 : xC} {cv : Value}  (res : Int32 × Int32 × Int32 × Int32 × Int64) (h : e_hP_X9_goesOn g6 g5 g4 a0 g7 g8 w0  = some res) (d : Nat) : xMet xks YX9_goesOn (d + 2) 0 0 [.ref 0] (hP g0 g1 g2 g3 g4 g5 g6 g7 g8 g9 g10 g11 g12 g13 g14 g15 g16 g17 g18 g19 g20 g21 g22 g23 g24 g25 g26 a0 a1 a2 a3 a4 a5 a6 a7 a8 a9 a10 a11 a12 a13 a14 a15 a16 a17 a18 a19 a20 a21 a22 a23 b0 w0 k0 k1 k2 k3 k4 k5 k6 k7 k8 k9 k10 k11 k12 k13 k14 k15 cv (.ref 27)) none (hP g0 g1 g2 g3 g4 res.2.2.1 res.2.1 res.1 res.2.2.2.1 g9 g10 g11 g12 g13 g14 g15 g16 g17 g18 g19 g20 g21 g22 g23 g24 g25 g26 a0 a1 a2 a3 a4 a5 a6 a7 a8 a9 a10 a11 a12 a13 a14 a15 a16 a17 a18 a19 a20 a21 a22 a23 b0 res.2.2.2.2 k0 k1 k2 k3 k4 k5 k6 k7 k8 k9 k10 k11 k12 k13 k14 k15 cv (.ref 27)) := by
  unfold e_hP_X9_goesOn at h
  refine xMet_of (pl := [some (.ref 0), none, none]) (by decide) (Nat.le_of_ble_eq_true rfl) rfl (Nat.le_of_ble_eq_true rfl) ?_
  refine x_aload_n dX9_goesOn_0 rfl ?_
  refine x_get fX9_77 dX9_goesOn_1 rfl rfl rfl ?_
  refine x_iconst (5 : Int32) dX9_goesOn_4 (by decide) ?_
  refine x_icmp_ne 9 dX9_goesOn_5 (by decide) (fun q => ?_) (fun q => ?_)
  · have h := xif_f q h
    refine x_weak (pl2 := [some (.ref 0), none, none]) ⟨rfl, trivial⟩ ?_
    refine lp_hP_X9_goesOn_9 d _  res _ (fun mg5_9 h => ?_) 200000 g5 h
    refine x_aload_n dX9_goesOn_35 rfl ?_
    refine x_aload_n dX9_goesOn_36 rfl ?_
    refine x_get fX9_80 dX9_goesOn_37 rfl rfl rfl ?_
    refine x_put (h2 := (hP g0 g1 g2 g3 g4 mg5_9 g6 mg5_9 g8 g9 g10 g11 g12 g13 g14 g15 g16 g17 g18 g19 g20 g21 g22 g23 g24 g25 g26 a0 a1 a2 a3 a4 a5 a6 a7 a8 a9 a10 a11 a12 a13 a14 a15 a16 a17 a18 a19 a20 a21 a22 a23 b0 w0 k0 k1 k2 k3 k4 k5 k6 k7 k8 k9 k10 k11 k12 k13 k14 k15 cv (.ref 27))) fX9_86 dX9_goesOn_40 rfl rfl (Nat.le_of_ble_eq_true rfl : 10 + 1 ≤ _) (fun α => ⟨rfl, rfl⟩) rfl ?_
    refine x_aload_n dX9_goesOn_43 rfl ?_
    refine x_iconst (0 : Int32) dX9_goesOn_44 (by decide) ?_
    refine x_put (h2 := (hP g0 g1 g2 g3 g4 mg5_9 (0 : Int32) mg5_9 g8 g9 g10 g11 g12 g13 g14 g15 g16 g17 g18 g19 g20 g21 g22 g23 g24 g25 g26 a0 a1 a2 a3 a4 a5 a6 a7 a8 a9 a10 a11 a12 a13 a14 a15 a16 a17 a18 a19 a20 a21 a22 a23 b0 w0 k0 k1 k2 k3 k4 k5 k6 k7 k8 k9 k10 k11 k12 k13 k14 k15 cv (.ref 27))) fX9_77 dX9_goesOn_45 rfl rfl (Nat.le_of_ble_eq_true rfl : 9 + 1 ≤ _) (fun α => ⟨rfl, rfl⟩) rfl ?_
    refine x_aload_n dX9_goesOn_48 rfl ?_
    refine x_aload_n dX9_goesOn_49 rfl ?_
    refine x_get fX9_80 dX9_goesOn_50 rfl rfl rfl ?_
    obtain ⟨z53, y53, h⟩ := xbind h
    refine x_callV (t_hP_X9_byteAt mg5_9 z53 y53 (d + 0)) kX9_83 dX9_goesOn_53 rfl rfl rfl rfl rfl (Nat.le_of_ble_eq_true rfl) (Nat.le_of_ble_eq_true rfl) rfl rfl (Or.inl rfl) ?_
    refine x_istore_n (pl' := [some (.ref 0), some (.int z53), none]) dX9_goesOn_56 (by decide) rfl ?_
    refine x_iconst (0 : Int32) dX9_goesOn_57 (by decide) ?_
    refine x_istore_n (pl' := [some (.ref 0), some (.int z53), some (.int (0 : Int32))]) dX9_goesOn_58 (by decide) rfl ?_
    refine x_iload_n dX9_goesOn_59 rfl ?_
    refine x_iconst (-1 : Int32) dX9_goesOn_60 (by decide) ?_
    refine x_icmp_ne 72 dX9_goesOn_61 (by decide) (fun q => ?_) (fun q => ?_)
    · have h := xif_f q h
      refine x_iload_n dX9_goesOn_72 rfl ?_
      obtain ⟨z73, y73, h⟩ := xbind h
      refine x_callS (t_hP_X9_isLetter z53 z73 y73 (d + 0)) kX9_89 dX9_goesOn_73 rfl rfl (Nat.le_of_ble_eq_true rfl) (Nat.le_of_ble_eq_true rfl) rfl rfl (Or.inl rfl) ?_
      refine x_if_eq 161 dX9_goesOn_76 (by decide) (fun q => ?_) (fun q => ?_)
      · have h := xif_t q h
        refine x_iload_n dX9_goesOn_161 rfl ?_
        obtain ⟨z162, y162, h⟩ := xbind h
        refine x_callS (t_hP_X9_isDigit z53 z162 y162 (d + 0)) kX9_97 dX9_goesOn_162 rfl rfl (Nat.le_of_ble_eq_true rfl) (Nat.le_of_ble_eq_true rfl) rfl rfl (Or.inl rfl) ?_
        refine x_if_eq 244 dX9_goesOn_165 (by decide) (fun q => ?_) (fun q => ?_)
        · have h := xif_t q h
          refine x_iload_n dX9_goesOn_244 rfl ?_
          refine x_bipush (59 : Int32) dX9_goesOn_245 (by decide) ?_
          refine x_icmp_ne 265 dX9_goesOn_247 (by decide) (fun q => ?_) (fun q => ?_)
          · have h := xif_f q h
            cases h
            exact x_vret2 dX9_goesOn_265 rfl rfl
          · have h := xif_t q h
            refine x_aload_n dX9_goesOn_250 rfl ?_
            refine x_iconst (4 : Int32) dX9_goesOn_251 (by decide) ?_
            refine x_put (h2 := (hP g0 g1 g2 g3 g4 mg5_9 (4 : Int32) mg5_9 g8 g9 g10 g11 g12 g13 g14 g15 g16 g17 g18 g19 g20 g21 g22 g23 g24 g25 g26 a0 a1 a2 a3 a4 a5 a6 a7 a8 a9 a10 a11 a12 a13 a14 a15 a16 a17 a18 a19 a20 a21 a22 a23 b0 w0 k0 k1 k2 k3 k4 k5 k6 k7 k8 k9 k10 k11 k12 k13 k14 k15 cv (.ref 27))) fX9_77 dX9_goesOn_252 rfl rfl (Nat.le_of_ble_eq_true rfl : 9 + 1 ≤ _) (fun α => ⟨rfl, rfl⟩) rfl ?_
            refine x_aload_n dX9_goesOn_255 rfl ?_
            refine x_dup dX9_goesOn_256 rfl ?_
            refine x_get fX9_80 dX9_goesOn_257 rfl rfl rfl ?_
            refine x_iconst (1 : Int32) dX9_goesOn_260 (by decide) ?_
            refine x_iadd dX9_goesOn_261 ?_
            refine x_put (h2 := (hP g0 g1 g2 g3 g4 (mg5_9 + (1 : Int32)) (4 : Int32) mg5_9 g8 g9 g10 g11 g12 g13 g14 g15 g16 g17 g18 g19 g20 g21 g22 g23 g24 g25 g26 a0 a1 a2 a3 a4 a5 a6 a7 a8 a9 a10 a11 a12 a13 a14 a15 a16 a17 a18 a19 a20 a21 a22 a23 b0 w0 k0 k1 k2 k3 k4 k5 k6 k7 k8 k9 k10 k11 k12 k13 k14 k15 cv (.ref 27))) fX9_80 dX9_goesOn_262 rfl rfl (Nat.le_of_ble_eq_true rfl : 8 + 1 ≤ _) (fun α => ⟨rfl, rfl⟩) rfl ?_
            cases h
            exact x_vret2 dX9_goesOn_265 rfl rfl
        · have h := xif_f q h
          refine x_aload_n dX9_goesOn_168 rfl ?_
          refine x_iconst (0 : Int32) dX9_goesOn_169 (by decide) ?_
          refine x_put (h2 := (hP g0 g1 g2 g3 g4 mg5_9 (0 : Int32) mg5_9 (0 : Int32) g9 g10 g11 g12 g13 g14 g15 g16 g17 g18 g19 g20 g21 g22 g23 g24 g25 g26 a0 a1 a2 a3 a4 a5 a6 a7 a8 a9 a10 a11 a12 a13 a14 a15 a16 a17 a18 a19 a20 a21 a22 a23 b0 w0 k0 k1 k2 k3 k4 k5 k6 k7 k8 k9 k10 k11 k12 k13 k14 k15 cv (.ref 27))) fX9_100 dX9_goesOn_170 rfl rfl (Nat.le_of_ble_eq_true rfl : 11 + 1 ≤ _) (fun α => ⟨rfl, rfl⟩) rfl ?_
          refine x_weak (pl2 := [some (.ref 0), none, some (.int (0 : Int32))]) ⟨rfl, rfl, trivial⟩ ?_
          refine lp_hP_X9_goesOn_173 d _  res _ (fun l2_173 mg8_173 mg5_173 h => ?_) 200000 (0 : Int32) (0 : Int32) mg5_9 h
          refine x_iload_n dX9_goesOn_231 rfl ?_
          refine x_iconst (2 : Int32) dX9_goesOn_232 (by decide) ?_
          refine x_icmp_gt 265 dX9_goesOn_233 (by decide) (fun q => ?_) (fun q => ?_)
          · have h := xif_t q h
            cases h
            exact x_vret2 dX9_goesOn_265 rfl rfl
          · have h := xif_f q h
            refine x_aload_n dX9_goesOn_236 rfl ?_
            refine x_iconst (3 : Int32) dX9_goesOn_237 (by decide) ?_
            refine x_put (h2 := (hP g0 g1 g2 g3 g4 mg5_173 (3 : Int32) mg5_9 mg8_173 g9 g10 g11 g12 g13 g14 g15 g16 g17 g18 g19 g20 g21 g22 g23 g24 g25 g26 a0 a1 a2 a3 a4 a5 a6 a7 a8 a9 a10 a11 a12 a13 a14 a15 a16 a17 a18 a19 a20 a21 a22 a23 b0 w0 k0 k1 k2 k3 k4 k5 k6 k7 k8 k9 k10 k11 k12 k13 k14 k15 cv (.ref 27))) fX9_77 dX9_goesOn_238 rfl rfl (Nat.le_of_ble_eq_true rfl : 9 + 1 ≤ _) (fun α => ⟨rfl, rfl⟩) rfl ?_
            refine x_goto 265 dX9_goesOn_241 (by decide) ?_
            cases h
            exact x_vret2 dX9_goesOn_265 rfl rfl
      · have h := xif_f q h
        refine x_aload_n dX9_goesOn_79 rfl ?_
        refine x_lconst (0 : Int64) dX9_goesOn_80 (by decide) ?_
        refine x_put (h2 := (hP g0 g1 g2 g3 g4 mg5_9 (0 : Int32) mg5_9 g8 g9 g10 g11 g12 g13 g14 g15 g16 g17 g18 g19 g20 g21 g22 g23 g24 g25 g26 a0 a1 a2 a3 a4 a5 a6 a7 a8 a9 a10 a11 a12 a13 a14 a15 a16 a17 a18 a19 a20 a21 a22 a23 b0 (0 : Int64) k0 k1 k2 k3 k4 k5 k6 k7 k8 k9 k10 k11 k12 k13 k14 k15 cv (.ref 27))) fX9_93 dX9_goesOn_81 rfl rfl (Nat.le_of_ble_eq_true rfl : 14 + 1 ≤ _) (fun α => ⟨rfl, rfl⟩) rfl ?_
        refine x_weak (pl2 := [some (.ref 0), none, some (.int (0 : Int32))]) ⟨rfl, rfl, trivial⟩ ?_
        refine lp_hP_X9_goesOn_84 d _  res _ (fun l2_84 mw0_84 mg5_84 h => ?_) 200000 (0 : Int32) (0 : Int64) mg5_9 h
        refine x_iload_n dX9_goesOn_147 rfl ?_
        refine x_bipush (8 : Int32) dX9_goesOn_148 (by decide) ?_
        refine x_icmp_gt 265 dX9_goesOn_150 (by decide) (fun q => ?_) (fun q => ?_)
        · have h := xif_t q h
          cases h
          exact x_vret2 dX9_goesOn_265 rfl rfl
        · have h := xif_f q h
          refine x_aload_n dX9_goesOn_153 rfl ?_
          refine x_iconst (2 : Int32) dX9_goesOn_154 (by decide) ?_
          refine x_put (h2 := (hP g0 g1 g2 g3 g4 mg5_84 (2 : Int32) mg5_9 g8 g9 g10 g11 g12 g13 g14 g15 g16 g17 g18 g19 g20 g21 g22 g23 g24 g25 g26 a0 a1 a2 a3 a4 a5 a6 a7 a8 a9 a10 a11 a12 a13 a14 a15 a16 a17 a18 a19 a20 a21 a22 a23 b0 mw0_84 k0 k1 k2 k3 k4 k5 k6 k7 k8 k9 k10 k11 k12 k13 k14 k15 cv (.ref 27))) fX9_77 dX9_goesOn_155 rfl rfl (Nat.le_of_ble_eq_true rfl : 9 + 1 ≤ _) (fun α => ⟨rfl, rfl⟩) rfl ?_
          refine x_goto 265 dX9_goesOn_158 (by decide) ?_
          cases h
          exact x_vret2 dX9_goesOn_265 rfl rfl
    · have h := xif_t q h
      refine x_aload_n dX9_goesOn_64 rfl ?_
      refine x_iconst (1 : Int32) dX9_goesOn_65 (by decide) ?_
      refine x_put (h2 := (hP g0 g1 g2 g3 g4 mg5_9 (1 : Int32) mg5_9 g8 g9 g10 g11 g12 g13 g14 g15 g16 g17 g18 g19 g20 g21 g22 g23 g24 g25 g26 a0 a1 a2 a3 a4 a5 a6 a7 a8 a9 a10 a11 a12 a13 a14 a15 a16 a17 a18 a19 a20 a21 a22 a23 b0 w0 k0 k1 k2 k3 k4 k5 k6 k7 k8 k9 k10 k11 k12 k13 k14 k15 cv (.ref 27))) fX9_77 dX9_goesOn_66 rfl rfl (Nat.le_of_ble_eq_true rfl : 9 + 1 ≤ _) (fun α => ⟨rfl, rfl⟩) rfl ?_
      refine x_goto 265 dX9_goesOn_69 (by decide) ?_
      cases h
      exact x_vret2 dX9_goesOn_265 rfl rfl
  · have h := xif_t q h
    cases h
    exact x_vret2 dX9_goesOn_8 rfl rfl
noncomputable def e_hP_X9_flaw (p0 : Int32) (p1 : Int32) (p2 : Int32) (p3 : Int32) (x1 : Int32) : Option (Int32 × Int32 × Int32) :=
  if p0 = (5 : Int32) then some (p1, p3, p0) else some (x1, p2, (5 : Int32))
set_option maxRecDepth 100000 in
set_option maxHeartbeats 4000000 in
theorem t_hP_X9_flaw {g0 g1 g2 g3 g4 g5 g6 g7 g8 g9 g10 g11 g12 g13 g14 g15 g16 g17 g18 g19 g20 g21 g22 g23 g24 g25 g26 : Int32} {a0 a1 a2 a3 a4 a5 a6 a7 a8 a9 a10 a11 a12 a13 a14 a15 a16 a17 a18 a19 a20 a21 a22 a23 : (Nat → Int32)} {b0 : (Nat → Int64)} {w0 : Int64} {k0 k1 k2 k3 k4 k5 k6 k7 k8 k9 k10 k11 k12 k13 k14 k15 : xC} {cv : Value} (x1 : Int32) (res : Int32 × Int32 × Int32) (h : e_hP_X9_flaw g6 g9 g7 g10 x1 = some res) (d : Nat) : xMet xks YX9_flaw (d + 1) 0 0 [.ref 0, .int x1] (hP g0 g1 g2 g3 g4 g5 g6 g7 g8 g9 g10 g11 g12 g13 g14 g15 g16 g17 g18 g19 g20 g21 g22 g23 g24 g25 g26 a0 a1 a2 a3 a4 a5 a6 a7 a8 a9 a10 a11 a12 a13 a14 a15 a16 a17 a18 a19 a20 a21 a22 a23 b0 w0 k0 k1 k2 k3 k4 k5 k6 k7 k8 k9 k10 k11 k12 k13 k14 k15 cv (.ref 27)) none (hP g0 g1 g2 g3 g4 g5 res.2.2 g7 g8 res.1 res.2.1 g11 g12 g13 g14 g15 g16 g17 g18 g19 g20 g21 g22 g23 g24 g25 g26 a0 a1 a2 a3 a4 a5 a6 a7 a8 a9 a10 a11 a12 a13 a14 a15 a16 a17 a18 a19 a20 a21 a22 a23 b0 w0 k0 k1 k2 k3 k4 k5 k6 k7 k8 k9 k10 k11 k12 k13 k14 k15 cv (.ref 27)) := by
  unfold e_hP_X9_flaw at h
  refine xMet_of (pl := [some (.ref 0), some (.int x1)]) (by decide) (Nat.le_of_ble_eq_true rfl) rfl (Nat.le_of_ble_eq_true rfl) ?_
  refine x_aload_n dX9_flaw_0 rfl ?_
  refine x_get fX9_77 dX9_flaw_1 rfl rfl rfl ?_
  refine x_iconst (5 : Int32) dX9_flaw_4 (by decide) ?_
  refine x_icmp_ne 9 dX9_flaw_5 (by decide) (fun q => ?_) (fun q => ?_)
  · have h := xif_f q h
    refine x_aload_n dX9_flaw_9 rfl ?_
    refine x_iload_n dX9_flaw_10 rfl ?_
    refine x_put (h2 := (hP g0 g1 g2 g3 g4 g5 g6 g7 g8 x1 g10 g11 g12 g13 g14 g15 g16 g17 g18 g19 g20 g21 g22 g23 g24 g25 g26 a0 a1 a2 a3 a4 a5 a6 a7 a8 a9 a10 a11 a12 a13 a14 a15 a16 a17 a18 a19 a20 a21 a22 a23 b0 w0 k0 k1 k2 k3 k4 k5 k6 k7 k8 k9 k10 k11 k12 k13 k14 k15 cv (.ref 27))) fX9_103 dX9_flaw_11 rfl rfl (Nat.le_of_ble_eq_true rfl : 12 + 1 ≤ _) (fun α => ⟨rfl, rfl⟩) rfl ?_
    refine x_aload_n dX9_flaw_14 rfl ?_
    refine x_aload_n dX9_flaw_15 rfl ?_
    refine x_get fX9_86 dX9_flaw_16 rfl rfl rfl ?_
    refine x_put (h2 := (hP g0 g1 g2 g3 g4 g5 g6 g7 g8 x1 g7 g11 g12 g13 g14 g15 g16 g17 g18 g19 g20 g21 g22 g23 g24 g25 g26 a0 a1 a2 a3 a4 a5 a6 a7 a8 a9 a10 a11 a12 a13 a14 a15 a16 a17 a18 a19 a20 a21 a22 a23 b0 w0 k0 k1 k2 k3 k4 k5 k6 k7 k8 k9 k10 k11 k12 k13 k14 k15 cv (.ref 27))) fX9_106 dX9_flaw_19 rfl rfl (Nat.le_of_ble_eq_true rfl : 13 + 1 ≤ _) (fun α => ⟨rfl, rfl⟩) rfl ?_
    refine x_aload_n dX9_flaw_22 rfl ?_
    refine x_iconst (5 : Int32) dX9_flaw_23 (by decide) ?_
    refine x_put (h2 := (hP g0 g1 g2 g3 g4 g5 (5 : Int32) g7 g8 x1 g7 g11 g12 g13 g14 g15 g16 g17 g18 g19 g20 g21 g22 g23 g24 g25 g26 a0 a1 a2 a3 a4 a5 a6 a7 a8 a9 a10 a11 a12 a13 a14 a15 a16 a17 a18 a19 a20 a21 a22 a23 b0 w0 k0 k1 k2 k3 k4 k5 k6 k7 k8 k9 k10 k11 k12 k13 k14 k15 cv (.ref 27))) fX9_77 dX9_flaw_24 rfl rfl (Nat.le_of_ble_eq_true rfl : 9 + 1 ≤ _) (fun α => ⟨rfl, rfl⟩) rfl ?_
    cases h
    exact x_vret2 dX9_flaw_27 rfl rfl
  · have h := xif_t q h
    cases h
    exact x_vret2 dX9_flaw_8 rfl rfl
noncomputable def L_hP_X9_packed_4  (s0 : List Int32)  (K : Int64 → Int32 → Option (Int64)) : Nat → Int64 → Int32 → Option (Int64)
  | 0, _, _ => none
  | n4 + 1, l1_4, l3_4 => if (Int32.ofNat s0.length) ≤ l3_4 then K l1_4 l3_4 else (xix l3_4 s0.length (L_hP_X9_packed_4 s0  K n4 (((32 : Int64) * l1_4) + (((xch s0 l3_4) - (97 : Int32)) + (1 : Int32)).toInt64) (l3_4 + (1 : Int32))))
noncomputable def e_hP_X9_packed (s0 : (List Int32))  : Option (Int64) :=
  L_hP_X9_packed_4 s0  (fun l1_4 l3_4 => some l1_4) 200000 (0 : Int64) (0 : Int32)
set_option maxRecDepth 100000 in
set_option maxHeartbeats 4000000 in
theorem lp_hP_X9_packed_4 {g0 g1 g2 g3 g4 g5 g6 g7 g8 g9 g10 g11 g12 g13 g14 g15 g16 g17 g18 g19 g20 g21 g22 g23 g24 g25 g26 : Int32} {a0 a1 a2 a3 a4 a5 a6 a7 a8 a9 a10 a11 a12 a13 a14 a15 a16 a17 a18 a19 a20 a21 a22 a23 : (Nat → Int32)} {b0 : (Nat → Int64)} {w0 : Int64} {k0 k1 k2 k3 k4 k5 k6 k7 k8 k9 k10 k11 k12 k13 k14 k15 : xC} {cv : Value} (d n0 : Nat)  (res : Int64) (K : Int64 → Int32 → Option (Int64)) (hK : ∀ (l1_4 : Int64) (l3_4 : Int32), K l1_4 l3_4 = some res → xW xks YX9_packed (d + 5) 0 0 n0 (xZ 0 0 n0 (some (.long res)) (hP g0 g1 g2 g3 g4 g5 g6 g7 g8 g9 g10 g11 g12 g13 g14 g15 g16 g17 g18 g19 g20 g21 g22 g23 g24 g25 g26 a0 a1 a2 a3 a4 a5 a6 a7 a8 a9 a10 a11 a12 a13 a14 a15 a16 a17 a18 a19 a20 a21 a22 a23 b0 w0 k0 k1 k2 k3 k4 k5 k6 k7 k8 k9 k10 k11 k12 k13 k14 k15 cv (.ref 27))) 0 0 36 [none, some (.long l1_4), none, none] [] (hP g0 g1 g2 g3 g4 g5 g6 g7 g8 g9 g10 g11 g12 g13 g14 g15 g16 g17 g18 g19 g20 g21 g22 g23 g24 g25 g26 a0 a1 a2 a3 a4 a5 a6 a7 a8 a9 a10 a11 a12 a13 a14 a15 a16 a17 a18 a19 a20 a21 a22 a23 b0 w0 k0 k1 k2 k3 k4 k5 k6 k7 k8 k9 k10 k11 k12 k13 k14 k15 cv (.ref 27))) : ∀ (n : Nat) (l1_4 : Int64) (l3_4 : Int32), L_hP_X9_packed_4 (xsy 11)  K n l1_4 l3_4 = some res → xW xks YX9_packed (d + 5) 0 0 n0 (xZ 0 0 n0 (some (.long res)) (hP g0 g1 g2 g3 g4 g5 g6 g7 g8 g9 g10 g11 g12 g13 g14 g15 g16 g17 g18 g19 g20 g21 g22 g23 g24 g25 g26 a0 a1 a2 a3 a4 a5 a6 a7 a8 a9 a10 a11 a12 a13 a14 a15 a16 a17 a18 a19 a20 a21 a22 a23 b0 w0 k0 k1 k2 k3 k4 k5 k6 k7 k8 k9 k10 k11 k12 k13 k14 k15 cv (.ref 27))) 0 0 4 [some (.ref 1011), some (.long l1_4), none, some (.int l3_4)] [] (hP g0 g1 g2 g3 g4 g5 g6 g7 g8 g9 g10 g11 g12 g13 g14 g15 g16 g17 g18 g19 g20 g21 g22 g23 g24 g25 g26 a0 a1 a2 a3 a4 a5 a6 a7 a8 a9 a10 a11 a12 a13 a14 a15 a16 a17 a18 a19 a20 a21 a22 a23 b0 w0 k0 k1 k2 k3 k4 k5 k6 k7 k8 k9 k10 k11 k12 k13 k14 k15 cv (.ref 27)) := by
  intro n
  induction n with
  | zero =>
    intro l1_4 l3_4 h
    cases (show (none : Option (Int64)) = some res from h)
  | succ n4 ih4 =>
    intro l1_4 l3_4 h
    unfold L_hP_X9_packed_4 at h
    refine x_iload_n dX9_packed_4 rfl ?_
    refine x_aload_n dX9_packed_5 rfl ?_
    refine x_slen (k := 11) (s := xsy 11) rfl rfl (Nat.le_of_ble_eq_true rfl) kX9_65 dX9_packed_6 (Nat.le_of_ble_eq_true rfl) ?_
    refine x_icmp_ge 36 dX9_packed_9 (by decide) (fun q => ?_) (fun q => ?_)
    · have h := xif_t q h
      refine x_weak (pl2 := [none, some (.long l1_4), none, none]) ⟨rfl, trivial⟩ ?_
      exact hK l1_4 l3_4 h
    · have h := xif_f q h
      refine x_ldc2 iX9_71 dX9_packed_12 ?_
      refine x_lload_n dX9_packed_15 rfl ?_
      refine x_lmul dX9_packed_16 ?_
      refine x_aload_n dX9_packed_17 rfl ?_
      refine x_iload_n dX9_packed_18 rfl ?_
      obtain ⟨q19, h⟩ := xix_of h
      refine x_schar (k := 11) (s := xsy 11) rfl rfl q19 (Nat.le_of_ble_eq_true rfl) kX9_73 dX9_packed_19 (Nat.le_of_ble_eq_true rfl) ?_
      refine x_bipush (97 : Int32) dX9_packed_22 (by decide) ?_
      refine x_isub dX9_packed_24 ?_
      refine x_iconst (1 : Int32) dX9_packed_25 (by decide) ?_
      refine x_iadd dX9_packed_26 ?_
      refine x_i2l dX9_packed_27 ?_
      refine x_ladd dX9_packed_28 ?_
      refine x_lstore_n (pl' := [some (.ref 1011), some (.long (((32 : Int64) * l1_4) + (((xch (xsy 11) l3_4) - (97 : Int32)) + (1 : Int32)).toInt64)), none, some (.int l3_4)]) dX9_packed_29 (by decide) rfl ?_
      refine x_iincK (1 : Int32) (pl' := [some (.ref 1011), some (.long (((32 : Int64) * l1_4) + (((xch (xsy 11) l3_4) - (97 : Int32)) + (1 : Int32)).toInt64)), none, some (.int (l3_4 + (1 : Int32)))]) dX9_packed_30 rfl (by decide) (by decide) rfl ?_
      refine x_goto 4 dX9_packed_33 (by decide) ?_
      refine x_weak (pl2 := [some (.ref 1011), some (.long (((32 : Int64) * l1_4) + (((xch (xsy 11) l3_4) - (97 : Int32)) + (1 : Int32)).toInt64)), none, some (.int (l3_4 + (1 : Int32)))]) ⟨rfl, rfl, rfl, trivial⟩ ?_
      exact ih4 (((32 : Int64) * l1_4) + (((xch (xsy 11) l3_4) - (97 : Int32)) + (1 : Int32)).toInt64) (l3_4 + (1 : Int32)) h
set_option maxRecDepth 100000 in
set_option maxHeartbeats 4000000 in
theorem t_hP_X9_packed {g0 g1 g2 g3 g4 g5 g6 g7 g8 g9 g10 g11 g12 g13 g14 g15 g16 g17 g18 g19 g20 g21 g22 g23 g24 g25 g26 : Int32} {a0 a1 a2 a3 a4 a5 a6 a7 a8 a9 a10 a11 a12 a13 a14 a15 a16 a17 a18 a19 a20 a21 a22 a23 : (Nat → Int32)} {b0 : (Nat → Int64)} {w0 : Int64} {k0 k1 k2 k3 k4 k5 k6 k7 k8 k9 k10 k11 k12 k13 k14 k15 : xC} {cv : Value}  (res : Int64) (h : e_hP_X9_packed (xsy 11)  = some res) (d : Nat) : xMet xks YX9_packed (d + 5) 0 0 [.ref 1011] (hP g0 g1 g2 g3 g4 g5 g6 g7 g8 g9 g10 g11 g12 g13 g14 g15 g16 g17 g18 g19 g20 g21 g22 g23 g24 g25 g26 a0 a1 a2 a3 a4 a5 a6 a7 a8 a9 a10 a11 a12 a13 a14 a15 a16 a17 a18 a19 a20 a21 a22 a23 b0 w0 k0 k1 k2 k3 k4 k5 k6 k7 k8 k9 k10 k11 k12 k13 k14 k15 cv (.ref 27)) (some (.long res)) (hP g0 g1 g2 g3 g4 g5 g6 g7 g8 g9 g10 g11 g12 g13 g14 g15 g16 g17 g18 g19 g20 g21 g22 g23 g24 g25 g26 a0 a1 a2 a3 a4 a5 a6 a7 a8 a9 a10 a11 a12 a13 a14 a15 a16 a17 a18 a19 a20 a21 a22 a23 b0 w0 k0 k1 k2 k3 k4 k5 k6 k7 k8 k9 k10 k11 k12 k13 k14 k15 cv (.ref 27)) := by
  unfold e_hP_X9_packed at h
  refine xMet_of (pl := [some (.ref 1011), none, none, none]) (by decide) (Nat.le_of_ble_eq_true rfl) rfl (Nat.le_of_ble_eq_true rfl) ?_
  refine x_lconst (0 : Int64) dX9_packed_0 (by decide) ?_
  refine x_lstore_n (pl' := [some (.ref 1011), some (.long (0 : Int64)), none, none]) dX9_packed_1 (by decide) rfl ?_
  refine x_iconst (0 : Int32) dX9_packed_2 (by decide) ?_
  refine x_istore_n (pl' := [some (.ref 1011), some (.long (0 : Int64)), none, some (.int (0 : Int32))]) dX9_packed_3 (by decide) rfl ?_
  refine x_weak (pl2 := [some (.ref 1011), some (.long (0 : Int64)), none, some (.int (0 : Int32))]) ⟨rfl, rfl, rfl, trivial⟩ ?_
  refine lp_hP_X9_packed_4 d _  res _ (fun l1_4 l3_4 h => ?_) 200000 (0 : Int64) (0 : Int32) h
  refine x_lload_n dX9_packed_36 rfl ?_
  cases h
  exact x_lret2 dX9_packed_37 rfl rfl
noncomputable def e_hP_X9_isWord (p0 : Int32) (p1 : Int64) (s0 : (List Int32))  : Option (Int32) :=
  if p0 = (2 : Int32) then ((e_hP_X9_packed s0).bind fun z13 => if (lg_cmp p1 z13) = (0 : Int32) then some (1 : Int32) else some (0 : Int32)) else some (0 : Int32)
set_option maxRecDepth 100000 in
set_option maxHeartbeats 4000000 in
theorem t_hP_X9_isWord {g0 g1 g2 g3 g4 g5 g6 g7 g8 g9 g10 g11 g12 g13 g14 g15 g16 g17 g18 g19 g20 g21 g22 g23 g24 g25 g26 : Int32} {a0 a1 a2 a3 a4 a5 a6 a7 a8 a9 a10 a11 a12 a13 a14 a15 a16 a17 a18 a19 a20 a21 a22 a23 : (Nat → Int32)} {b0 : (Nat → Int64)} {w0 : Int64} {k0 k1 k2 k3 k4 k5 k6 k7 k8 k9 k10 k11 k12 k13 k14 k15 : xC} {cv : Value}  (res : Int32) (h : e_hP_X9_isWord g6 w0 (xsy 11)  = some res) (d : Nat) : xMet xks YX9_isWord (d + 6) 0 0 [.ref 0, .ref 1011] (hP g0 g1 g2 g3 g4 g5 g6 g7 g8 g9 g10 g11 g12 g13 g14 g15 g16 g17 g18 g19 g20 g21 g22 g23 g24 g25 g26 a0 a1 a2 a3 a4 a5 a6 a7 a8 a9 a10 a11 a12 a13 a14 a15 a16 a17 a18 a19 a20 a21 a22 a23 b0 w0 k0 k1 k2 k3 k4 k5 k6 k7 k8 k9 k10 k11 k12 k13 k14 k15 cv (.ref 27)) (some (.int res)) (hP g0 g1 g2 g3 g4 g5 g6 g7 g8 g9 g10 g11 g12 g13 g14 g15 g16 g17 g18 g19 g20 g21 g22 g23 g24 g25 g26 a0 a1 a2 a3 a4 a5 a6 a7 a8 a9 a10 a11 a12 a13 a14 a15 a16 a17 a18 a19 a20 a21 a22 a23 b0 w0 k0 k1 k2 k3 k4 k5 k6 k7 k8 k9 k10 k11 k12 k13 k14 k15 cv (.ref 27)) := by
  unfold e_hP_X9_isWord at h
  refine xMet_of (pl := [some (.ref 0), some (.ref 1011)]) (by decide) (Nat.le_of_ble_eq_true rfl) rfl (Nat.le_of_ble_eq_true rfl) ?_
  refine x_aload_n dX9_isWord_0 rfl ?_
  refine x_get fX9_77 dX9_isWord_1 rfl rfl rfl ?_
  refine x_iconst (2 : Int32) dX9_isWord_4 (by decide) ?_
  refine x_icmp_ne 24 dX9_isWord_5 (by decide) (fun q => ?_) (fun q => ?_)
  · have h := xif_f q h
    refine x_iconst (0 : Int32) dX9_isWord_24 (by decide) ?_
    cases h
    exact x_zret2 dX9_isWord_25 rfl rfl rfl
  · have h := xif_t q h
    refine x_aload_n dX9_isWord_8 rfl ?_
    refine x_get fX9_93 dX9_isWord_9 rfl rfl rfl ?_
    refine x_aload_n dX9_isWord_12 rfl ?_
    obtain ⟨z13, y13, h⟩ := xbind h
    refine x_callS (t_hP_X9_packed  z13 y13 (d + 0)) kX9_109 dX9_isWord_13 rfl rfl (Nat.le_of_ble_eq_true rfl) (Nat.le_of_ble_eq_true rfl) rfl rfl (Or.inl rfl) ?_
    refine x_lcmp dX9_isWord_16 ?_
    refine x_if_ne 24 dX9_isWord_17 (by decide) (fun q => ?_) (fun q => ?_)
    · have h := xif_f q h
      refine x_iconst (0 : Int32) dX9_isWord_24 (by decide) ?_
      cases h
      exact x_zret2 dX9_isWord_25 rfl rfl rfl
    · have h := xif_t q h
      refine x_iconst (1 : Int32) dX9_isWord_20 (by decide) ?_
      refine x_goto 25 dX9_isWord_21 (by decide) ?_
      cases h
      exact x_zret2 dX9_isWord_25 rfl rfl rfl
set_option maxRecDepth 100000 in
set_option maxHeartbeats 4000000 in
theorem lp_hP_X9_packed_2_4 {g0 g1 g2 g3 g4 g5 g6 g7 g8 g9 g10 g11 g12 g13 g14 g15 g16 g17 g18 g19 g20 g21 g22 g23 g24 g25 g26 : Int32} {a0 a1 a2 a3 a4 a5 a6 a7 a8 a9 a10 a11 a12 a13 a14 a15 a16 a17 a18 a19 a20 a21 a22 a23 : (Nat → Int32)} {b0 : (Nat → Int64)} {w0 : Int64} {k0 k1 k2 k3 k4 k5 k6 k7 k8 k9 k10 k11 k12 k13 k14 k15 : xC} {cv : Value} (d n0 : Nat)  (res : Int64) (K : Int64 → Int32 → Option (Int64)) (hK : ∀ (l1_4 : Int64) (l3_4 : Int32), K l1_4 l3_4 = some res → xW xks YX9_packed (d + 5) 0 0 n0 (xZ 0 0 n0 (some (.long res)) (hP g0 g1 g2 g3 g4 g5 g6 g7 g8 g9 g10 g11 g12 g13 g14 g15 g16 g17 g18 g19 g20 g21 g22 g23 g24 g25 g26 a0 a1 a2 a3 a4 a5 a6 a7 a8 a9 a10 a11 a12 a13 a14 a15 a16 a17 a18 a19 a20 a21 a22 a23 b0 w0 k0 k1 k2 k3 k4 k5 k6 k7 k8 k9 k10 k11 k12 k13 k14 k15 cv (.ref 27))) 0 0 36 [none, some (.long l1_4), none, none] [] (hP g0 g1 g2 g3 g4 g5 g6 g7 g8 g9 g10 g11 g12 g13 g14 g15 g16 g17 g18 g19 g20 g21 g22 g23 g24 g25 g26 a0 a1 a2 a3 a4 a5 a6 a7 a8 a9 a10 a11 a12 a13 a14 a15 a16 a17 a18 a19 a20 a21 a22 a23 b0 w0 k0 k1 k2 k3 k4 k5 k6 k7 k8 k9 k10 k11 k12 k13 k14 k15 cv (.ref 27))) : ∀ (n : Nat) (l1_4 : Int64) (l3_4 : Int32), L_hP_X9_packed_4 (xsy 12)  K n l1_4 l3_4 = some res → xW xks YX9_packed (d + 5) 0 0 n0 (xZ 0 0 n0 (some (.long res)) (hP g0 g1 g2 g3 g4 g5 g6 g7 g8 g9 g10 g11 g12 g13 g14 g15 g16 g17 g18 g19 g20 g21 g22 g23 g24 g25 g26 a0 a1 a2 a3 a4 a5 a6 a7 a8 a9 a10 a11 a12 a13 a14 a15 a16 a17 a18 a19 a20 a21 a22 a23 b0 w0 k0 k1 k2 k3 k4 k5 k6 k7 k8 k9 k10 k11 k12 k13 k14 k15 cv (.ref 27))) 0 0 4 [some (.ref 1012), some (.long l1_4), none, some (.int l3_4)] [] (hP g0 g1 g2 g3 g4 g5 g6 g7 g8 g9 g10 g11 g12 g13 g14 g15 g16 g17 g18 g19 g20 g21 g22 g23 g24 g25 g26 a0 a1 a2 a3 a4 a5 a6 a7 a8 a9 a10 a11 a12 a13 a14 a15 a16 a17 a18 a19 a20 a21 a22 a23 b0 w0 k0 k1 k2 k3 k4 k5 k6 k7 k8 k9 k10 k11 k12 k13 k14 k15 cv (.ref 27)) := by
  intro n
  induction n with
  | zero =>
    intro l1_4 l3_4 h
    cases (show (none : Option (Int64)) = some res from h)
  | succ n4 ih4 =>
    intro l1_4 l3_4 h
    unfold L_hP_X9_packed_4 at h
    refine x_iload_n dX9_packed_4 rfl ?_
    refine x_aload_n dX9_packed_5 rfl ?_
    refine x_slen (k := 12) (s := xsy 12) rfl rfl (Nat.le_of_ble_eq_true rfl) kX9_65 dX9_packed_6 (Nat.le_of_ble_eq_true rfl) ?_
    refine x_icmp_ge 36 dX9_packed_9 (by decide) (fun q => ?_) (fun q => ?_)
    · have h := xif_t q h
      refine x_weak (pl2 := [none, some (.long l1_4), none, none]) ⟨rfl, trivial⟩ ?_
      exact hK l1_4 l3_4 h
    · have h := xif_f q h
      refine x_ldc2 iX9_71 dX9_packed_12 ?_
      refine x_lload_n dX9_packed_15 rfl ?_
      refine x_lmul dX9_packed_16 ?_
      refine x_aload_n dX9_packed_17 rfl ?_
      refine x_iload_n dX9_packed_18 rfl ?_
      obtain ⟨q19, h⟩ := xix_of h
      refine x_schar (k := 12) (s := xsy 12) rfl rfl q19 (Nat.le_of_ble_eq_true rfl) kX9_73 dX9_packed_19 (Nat.le_of_ble_eq_true rfl) ?_
      refine x_bipush (97 : Int32) dX9_packed_22 (by decide) ?_
      refine x_isub dX9_packed_24 ?_
      refine x_iconst (1 : Int32) dX9_packed_25 (by decide) ?_
      refine x_iadd dX9_packed_26 ?_
      refine x_i2l dX9_packed_27 ?_
      refine x_ladd dX9_packed_28 ?_
      refine x_lstore_n (pl' := [some (.ref 1012), some (.long (((32 : Int64) * l1_4) + (((xch (xsy 12) l3_4) - (97 : Int32)) + (1 : Int32)).toInt64)), none, some (.int l3_4)]) dX9_packed_29 (by decide) rfl ?_
      refine x_iincK (1 : Int32) (pl' := [some (.ref 1012), some (.long (((32 : Int64) * l1_4) + (((xch (xsy 12) l3_4) - (97 : Int32)) + (1 : Int32)).toInt64)), none, some (.int (l3_4 + (1 : Int32)))]) dX9_packed_30 rfl (by decide) (by decide) rfl ?_
      refine x_goto 4 dX9_packed_33 (by decide) ?_
      refine x_weak (pl2 := [some (.ref 1012), some (.long (((32 : Int64) * l1_4) + (((xch (xsy 12) l3_4) - (97 : Int32)) + (1 : Int32)).toInt64)), none, some (.int (l3_4 + (1 : Int32)))]) ⟨rfl, rfl, rfl, trivial⟩ ?_
      exact ih4 (((32 : Int64) * l1_4) + (((xch (xsy 12) l3_4) - (97 : Int32)) + (1 : Int32)).toInt64) (l3_4 + (1 : Int32)) h
set_option maxRecDepth 100000 in
set_option maxHeartbeats 4000000 in
theorem t_hP_X9_packed_2 {g0 g1 g2 g3 g4 g5 g6 g7 g8 g9 g10 g11 g12 g13 g14 g15 g16 g17 g18 g19 g20 g21 g22 g23 g24 g25 g26 : Int32} {a0 a1 a2 a3 a4 a5 a6 a7 a8 a9 a10 a11 a12 a13 a14 a15 a16 a17 a18 a19 a20 a21 a22 a23 : (Nat → Int32)} {b0 : (Nat → Int64)} {w0 : Int64} {k0 k1 k2 k3 k4 k5 k6 k7 k8 k9 k10 k11 k12 k13 k14 k15 : xC} {cv : Value}  (res : Int64) (h : e_hP_X9_packed (xsy 12)  = some res) (d : Nat) : xMet xks YX9_packed (d + 5) 0 0 [.ref 1012] (hP g0 g1 g2 g3 g4 g5 g6 g7 g8 g9 g10 g11 g12 g13 g14 g15 g16 g17 g18 g19 g20 g21 g22 g23 g24 g25 g26 a0 a1 a2 a3 a4 a5 a6 a7 a8 a9 a10 a11 a12 a13 a14 a15 a16 a17 a18 a19 a20 a21 a22 a23 b0 w0 k0 k1 k2 k3 k4 k5 k6 k7 k8 k9 k10 k11 k12 k13 k14 k15 cv (.ref 27)) (some (.long res)) (hP g0 g1 g2 g3 g4 g5 g6 g7 g8 g9 g10 g11 g12 g13 g14 g15 g16 g17 g18 g19 g20 g21 g22 g23 g24 g25 g26 a0 a1 a2 a3 a4 a5 a6 a7 a8 a9 a10 a11 a12 a13 a14 a15 a16 a17 a18 a19 a20 a21 a22 a23 b0 w0 k0 k1 k2 k3 k4 k5 k6 k7 k8 k9 k10 k11 k12 k13 k14 k15 cv (.ref 27)) := by
  unfold e_hP_X9_packed at h
  refine xMet_of (pl := [some (.ref 1012), none, none, none]) (by decide) (Nat.le_of_ble_eq_true rfl) rfl (Nat.le_of_ble_eq_true rfl) ?_
  refine x_lconst (0 : Int64) dX9_packed_0 (by decide) ?_
  refine x_lstore_n (pl' := [some (.ref 1012), some (.long (0 : Int64)), none, none]) dX9_packed_1 (by decide) rfl ?_
  refine x_iconst (0 : Int32) dX9_packed_2 (by decide) ?_
  refine x_istore_n (pl' := [some (.ref 1012), some (.long (0 : Int64)), none, some (.int (0 : Int32))]) dX9_packed_3 (by decide) rfl ?_
  refine x_weak (pl2 := [some (.ref 1012), some (.long (0 : Int64)), none, some (.int (0 : Int32))]) ⟨rfl, rfl, rfl, trivial⟩ ?_
  refine lp_hP_X9_packed_2_4 d _  res _ (fun l1_4 l3_4 h => ?_) 200000 (0 : Int64) (0 : Int32) h
  refine x_lload_n dX9_packed_36 rfl ?_
  cases h
  exact x_lret2 dX9_packed_37 rfl rfl
set_option maxRecDepth 100000 in
set_option maxHeartbeats 4000000 in
theorem t_hP_X9_isWord_2 {g0 g1 g2 g3 g4 g5 g6 g7 g8 g9 g10 g11 g12 g13 g14 g15 g16 g17 g18 g19 g20 g21 g22 g23 g24 g25 g26 : Int32} {a0 a1 a2 a3 a4 a5 a6 a7 a8 a9 a10 a11 a12 a13 a14 a15 a16 a17 a18 a19 a20 a21 a22 a23 : (Nat → Int32)} {b0 : (Nat → Int64)} {w0 : Int64} {k0 k1 k2 k3 k4 k5 k6 k7 k8 k9 k10 k11 k12 k13 k14 k15 : xC} {cv : Value}  (res : Int32) (h : e_hP_X9_isWord g6 w0 (xsy 12)  = some res) (d : Nat) : xMet xks YX9_isWord (d + 6) 0 0 [.ref 0, .ref 1012] (hP g0 g1 g2 g3 g4 g5 g6 g7 g8 g9 g10 g11 g12 g13 g14 g15 g16 g17 g18 g19 g20 g21 g22 g23 g24 g25 g26 a0 a1 a2 a3 a4 a5 a6 a7 a8 a9 a10 a11 a12 a13 a14 a15 a16 a17 a18 a19 a20 a21 a22 a23 b0 w0 k0 k1 k2 k3 k4 k5 k6 k7 k8 k9 k10 k11 k12 k13 k14 k15 cv (.ref 27)) (some (.int res)) (hP g0 g1 g2 g3 g4 g5 g6 g7 g8 g9 g10 g11 g12 g13 g14 g15 g16 g17 g18 g19 g20 g21 g22 g23 g24 g25 g26 a0 a1 a2 a3 a4 a5 a6 a7 a8 a9 a10 a11 a12 a13 a14 a15 a16 a17 a18 a19 a20 a21 a22 a23 b0 w0 k0 k1 k2 k3 k4 k5 k6 k7 k8 k9 k10 k11 k12 k13 k14 k15 cv (.ref 27)) := by
  unfold e_hP_X9_isWord at h
  refine xMet_of (pl := [some (.ref 0), some (.ref 1012)]) (by decide) (Nat.le_of_ble_eq_true rfl) rfl (Nat.le_of_ble_eq_true rfl) ?_
  refine x_aload_n dX9_isWord_0 rfl ?_
  refine x_get fX9_77 dX9_isWord_1 rfl rfl rfl ?_
  refine x_iconst (2 : Int32) dX9_isWord_4 (by decide) ?_
  refine x_icmp_ne 24 dX9_isWord_5 (by decide) (fun q => ?_) (fun q => ?_)
  · have h := xif_f q h
    refine x_iconst (0 : Int32) dX9_isWord_24 (by decide) ?_
    cases h
    exact x_zret2 dX9_isWord_25 rfl rfl rfl
  · have h := xif_t q h
    refine x_aload_n dX9_isWord_8 rfl ?_
    refine x_get fX9_93 dX9_isWord_9 rfl rfl rfl ?_
    refine x_aload_n dX9_isWord_12 rfl ?_
    obtain ⟨z13, y13, h⟩ := xbind h
    refine x_callS (t_hP_X9_packed_2  z13 y13 (d + 0)) kX9_109 dX9_isWord_13 rfl rfl (Nat.le_of_ble_eq_true rfl) (Nat.le_of_ble_eq_true rfl) rfl rfl (Or.inl rfl) ?_
    refine x_lcmp dX9_isWord_16 ?_
    refine x_if_ne 24 dX9_isWord_17 (by decide) (fun q => ?_) (fun q => ?_)
    · have h := xif_f q h
      refine x_iconst (0 : Int32) dX9_isWord_24 (by decide) ?_
      cases h
      exact x_zret2 dX9_isWord_25 rfl rfl rfl
    · have h := xif_t q h
      refine x_iconst (1 : Int32) dX9_isWord_20 (by decide) ?_
      refine x_goto 25 dX9_isWord_21 (by decide) ?_
      cases h
      exact x_zret2 dX9_isWord_25 rfl rfl rfl
set_option maxRecDepth 100000 in
set_option maxHeartbeats 4000000 in
theorem lp_hP_X9_packed_3_4 {g0 g1 g2 g3 g4 g5 g6 g7 g8 g9 g10 g11 g12 g13 g14 g15 g16 g17 g18 g19 g20 g21 g22 g23 g24 g25 g26 : Int32} {a0 a1 a2 a3 a4 a5 a6 a7 a8 a9 a10 a11 a12 a13 a14 a15 a16 a17 a18 a19 a20 a21 a22 a23 : (Nat → Int32)} {b0 : (Nat → Int64)} {w0 : Int64} {k0 k1 k2 k3 k4 k5 k6 k7 k8 k9 k10 k11 k12 k13 k14 k15 : xC} {cv : Value} (d n0 : Nat)  (res : Int64) (K : Int64 → Int32 → Option (Int64)) (hK : ∀ (l1_4 : Int64) (l3_4 : Int32), K l1_4 l3_4 = some res → xW xks YX9_packed (d + 5) 0 0 n0 (xZ 0 0 n0 (some (.long res)) (hP g0 g1 g2 g3 g4 g5 g6 g7 g8 g9 g10 g11 g12 g13 g14 g15 g16 g17 g18 g19 g20 g21 g22 g23 g24 g25 g26 a0 a1 a2 a3 a4 a5 a6 a7 a8 a9 a10 a11 a12 a13 a14 a15 a16 a17 a18 a19 a20 a21 a22 a23 b0 w0 k0 k1 k2 k3 k4 k5 k6 k7 k8 k9 k10 k11 k12 k13 k14 k15 cv (.ref 27))) 0 0 36 [none, some (.long l1_4), none, none] [] (hP g0 g1 g2 g3 g4 g5 g6 g7 g8 g9 g10 g11 g12 g13 g14 g15 g16 g17 g18 g19 g20 g21 g22 g23 g24 g25 g26 a0 a1 a2 a3 a4 a5 a6 a7 a8 a9 a10 a11 a12 a13 a14 a15 a16 a17 a18 a19 a20 a21 a22 a23 b0 w0 k0 k1 k2 k3 k4 k5 k6 k7 k8 k9 k10 k11 k12 k13 k14 k15 cv (.ref 27))) : ∀ (n : Nat) (l1_4 : Int64) (l3_4 : Int32), L_hP_X9_packed_4 (xsy 13)  K n l1_4 l3_4 = some res → xW xks YX9_packed (d + 5) 0 0 n0 (xZ 0 0 n0 (some (.long res)) (hP g0 g1 g2 g3 g4 g5 g6 g7 g8 g9 g10 g11 g12 g13 g14 g15 g16 g17 g18 g19 g20 g21 g22 g23 g24 g25 g26 a0 a1 a2 a3 a4 a5 a6 a7 a8 a9 a10 a11 a12 a13 a14 a15 a16 a17 a18 a19 a20 a21 a22 a23 b0 w0 k0 k1 k2 k3 k4 k5 k6 k7 k8 k9 k10 k11 k12 k13 k14 k15 cv (.ref 27))) 0 0 4 [some (.ref 1013), some (.long l1_4), none, some (.int l3_4)] [] (hP g0 g1 g2 g3 g4 g5 g6 g7 g8 g9 g10 g11 g12 g13 g14 g15 g16 g17 g18 g19 g20 g21 g22 g23 g24 g25 g26 a0 a1 a2 a3 a4 a5 a6 a7 a8 a9 a10 a11 a12 a13 a14 a15 a16 a17 a18 a19 a20 a21 a22 a23 b0 w0 k0 k1 k2 k3 k4 k5 k6 k7 k8 k9 k10 k11 k12 k13 k14 k15 cv (.ref 27)) := by
  intro n
  induction n with
  | zero =>
    intro l1_4 l3_4 h
    cases (show (none : Option (Int64)) = some res from h)
  | succ n4 ih4 =>
    intro l1_4 l3_4 h
    unfold L_hP_X9_packed_4 at h
    refine x_iload_n dX9_packed_4 rfl ?_
    refine x_aload_n dX9_packed_5 rfl ?_
    refine x_slen (k := 13) (s := xsy 13) rfl rfl (Nat.le_of_ble_eq_true rfl) kX9_65 dX9_packed_6 (Nat.le_of_ble_eq_true rfl) ?_
    refine x_icmp_ge 36 dX9_packed_9 (by decide) (fun q => ?_) (fun q => ?_)
    · have h := xif_t q h
      refine x_weak (pl2 := [none, some (.long l1_4), none, none]) ⟨rfl, trivial⟩ ?_
      exact hK l1_4 l3_4 h
    · have h := xif_f q h
      refine x_ldc2 iX9_71 dX9_packed_12 ?_
      refine x_lload_n dX9_packed_15 rfl ?_
      refine x_lmul dX9_packed_16 ?_
      refine x_aload_n dX9_packed_17 rfl ?_
      refine x_iload_n dX9_packed_18 rfl ?_
      obtain ⟨q19, h⟩ := xix_of h
      refine x_schar (k := 13) (s := xsy 13) rfl rfl q19 (Nat.le_of_ble_eq_true rfl) kX9_73 dX9_packed_19 (Nat.le_of_ble_eq_true rfl) ?_
      refine x_bipush (97 : Int32) dX9_packed_22 (by decide) ?_
      refine x_isub dX9_packed_24 ?_
      refine x_iconst (1 : Int32) dX9_packed_25 (by decide) ?_
      refine x_iadd dX9_packed_26 ?_
      refine x_i2l dX9_packed_27 ?_
      refine x_ladd dX9_packed_28 ?_
      refine x_lstore_n (pl' := [some (.ref 1013), some (.long (((32 : Int64) * l1_4) + (((xch (xsy 13) l3_4) - (97 : Int32)) + (1 : Int32)).toInt64)), none, some (.int l3_4)]) dX9_packed_29 (by decide) rfl ?_
      refine x_iincK (1 : Int32) (pl' := [some (.ref 1013), some (.long (((32 : Int64) * l1_4) + (((xch (xsy 13) l3_4) - (97 : Int32)) + (1 : Int32)).toInt64)), none, some (.int (l3_4 + (1 : Int32)))]) dX9_packed_30 rfl (by decide) (by decide) rfl ?_
      refine x_goto 4 dX9_packed_33 (by decide) ?_
      refine x_weak (pl2 := [some (.ref 1013), some (.long (((32 : Int64) * l1_4) + (((xch (xsy 13) l3_4) - (97 : Int32)) + (1 : Int32)).toInt64)), none, some (.int (l3_4 + (1 : Int32)))]) ⟨rfl, rfl, rfl, trivial⟩ ?_
      exact ih4 (((32 : Int64) * l1_4) + (((xch (xsy 13) l3_4) - (97 : Int32)) + (1 : Int32)).toInt64) (l3_4 + (1 : Int32)) h
set_option maxRecDepth 100000 in
set_option maxHeartbeats 4000000 in
theorem t_hP_X9_packed_3 {g0 g1 g2 g3 g4 g5 g6 g7 g8 g9 g10 g11 g12 g13 g14 g15 g16 g17 g18 g19 g20 g21 g22 g23 g24 g25 g26 : Int32} {a0 a1 a2 a3 a4 a5 a6 a7 a8 a9 a10 a11 a12 a13 a14 a15 a16 a17 a18 a19 a20 a21 a22 a23 : (Nat → Int32)} {b0 : (Nat → Int64)} {w0 : Int64} {k0 k1 k2 k3 k4 k5 k6 k7 k8 k9 k10 k11 k12 k13 k14 k15 : xC} {cv : Value}  (res : Int64) (h : e_hP_X9_packed (xsy 13)  = some res) (d : Nat) : xMet xks YX9_packed (d + 5) 0 0 [.ref 1013] (hP g0 g1 g2 g3 g4 g5 g6 g7 g8 g9 g10 g11 g12 g13 g14 g15 g16 g17 g18 g19 g20 g21 g22 g23 g24 g25 g26 a0 a1 a2 a3 a4 a5 a6 a7 a8 a9 a10 a11 a12 a13 a14 a15 a16 a17 a18 a19 a20 a21 a22 a23 b0 w0 k0 k1 k2 k3 k4 k5 k6 k7 k8 k9 k10 k11 k12 k13 k14 k15 cv (.ref 27)) (some (.long res)) (hP g0 g1 g2 g3 g4 g5 g6 g7 g8 g9 g10 g11 g12 g13 g14 g15 g16 g17 g18 g19 g20 g21 g22 g23 g24 g25 g26 a0 a1 a2 a3 a4 a5 a6 a7 a8 a9 a10 a11 a12 a13 a14 a15 a16 a17 a18 a19 a20 a21 a22 a23 b0 w0 k0 k1 k2 k3 k4 k5 k6 k7 k8 k9 k10 k11 k12 k13 k14 k15 cv (.ref 27)) := by
  unfold e_hP_X9_packed at h
  refine xMet_of (pl := [some (.ref 1013), none, none, none]) (by decide) (Nat.le_of_ble_eq_true rfl) rfl (Nat.le_of_ble_eq_true rfl) ?_
  refine x_lconst (0 : Int64) dX9_packed_0 (by decide) ?_
  refine x_lstore_n (pl' := [some (.ref 1013), some (.long (0 : Int64)), none, none]) dX9_packed_1 (by decide) rfl ?_
  refine x_iconst (0 : Int32) dX9_packed_2 (by decide) ?_
  refine x_istore_n (pl' := [some (.ref 1013), some (.long (0 : Int64)), none, some (.int (0 : Int32))]) dX9_packed_3 (by decide) rfl ?_
  refine x_weak (pl2 := [some (.ref 1013), some (.long (0 : Int64)), none, some (.int (0 : Int32))]) ⟨rfl, rfl, rfl, trivial⟩ ?_
  refine lp_hP_X9_packed_3_4 d _  res _ (fun l1_4 l3_4 h => ?_) 200000 (0 : Int64) (0 : Int32) h
  refine x_lload_n dX9_packed_36 rfl ?_
  cases h
  exact x_lret2 dX9_packed_37 rfl rfl
set_option maxRecDepth 100000 in
set_option maxHeartbeats 4000000 in
theorem t_hP_X9_isWord_3 {g0 g1 g2 g3 g4 g5 g6 g7 g8 g9 g10 g11 g12 g13 g14 g15 g16 g17 g18 g19 g20 g21 g22 g23 g24 g25 g26 : Int32} {a0 a1 a2 a3 a4 a5 a6 a7 a8 a9 a10 a11 a12 a13 a14 a15 a16 a17 a18 a19 a20 a21 a22 a23 : (Nat → Int32)} {b0 : (Nat → Int64)} {w0 : Int64} {k0 k1 k2 k3 k4 k5 k6 k7 k8 k9 k10 k11 k12 k13 k14 k15 : xC} {cv : Value}  (res : Int32) (h : e_hP_X9_isWord g6 w0 (xsy 13)  = some res) (d : Nat) : xMet xks YX9_isWord (d + 6) 0 0 [.ref 0, .ref 1013] (hP g0 g1 g2 g3 g4 g5 g6 g7 g8 g9 g10 g11 g12 g13 g14 g15 g16 g17 g18 g19 g20 g21 g22 g23 g24 g25 g26 a0 a1 a2 a3 a4 a5 a6 a7 a8 a9 a10 a11 a12 a13 a14 a15 a16 a17 a18 a19 a20 a21 a22 a23 b0 w0 k0 k1 k2 k3 k4 k5 k6 k7 k8 k9 k10 k11 k12 k13 k14 k15 cv (.ref 27)) (some (.int res)) (hP g0 g1 g2 g3 g4 g5 g6 g7 g8 g9 g10 g11 g12 g13 g14 g15 g16 g17 g18 g19 g20 g21 g22 g23 g24 g25 g26 a0 a1 a2 a3 a4 a5 a6 a7 a8 a9 a10 a11 a12 a13 a14 a15 a16 a17 a18 a19 a20 a21 a22 a23 b0 w0 k0 k1 k2 k3 k4 k5 k6 k7 k8 k9 k10 k11 k12 k13 k14 k15 cv (.ref 27)) := by
  unfold e_hP_X9_isWord at h
  refine xMet_of (pl := [some (.ref 0), some (.ref 1013)]) (by decide) (Nat.le_of_ble_eq_true rfl) rfl (Nat.le_of_ble_eq_true rfl) ?_
  refine x_aload_n dX9_isWord_0 rfl ?_
  refine x_get fX9_77 dX9_isWord_1 rfl rfl rfl ?_
  refine x_iconst (2 : Int32) dX9_isWord_4 (by decide) ?_
  refine x_icmp_ne 24 dX9_isWord_5 (by decide) (fun q => ?_) (fun q => ?_)
  · have h := xif_f q h
    refine x_iconst (0 : Int32) dX9_isWord_24 (by decide) ?_
    cases h
    exact x_zret2 dX9_isWord_25 rfl rfl rfl
  · have h := xif_t q h
    refine x_aload_n dX9_isWord_8 rfl ?_
    refine x_get fX9_93 dX9_isWord_9 rfl rfl rfl ?_
    refine x_aload_n dX9_isWord_12 rfl ?_
    obtain ⟨z13, y13, h⟩ := xbind h
    refine x_callS (t_hP_X9_packed_3  z13 y13 (d + 0)) kX9_109 dX9_isWord_13 rfl rfl (Nat.le_of_ble_eq_true rfl) (Nat.le_of_ble_eq_true rfl) rfl rfl (Or.inl rfl) ?_
    refine x_lcmp dX9_isWord_16 ?_
    refine x_if_ne 24 dX9_isWord_17 (by decide) (fun q => ?_) (fun q => ?_)
    · have h := xif_f q h
      refine x_iconst (0 : Int32) dX9_isWord_24 (by decide) ?_
      cases h
      exact x_zret2 dX9_isWord_25 rfl rfl rfl
    · have h := xif_t q h
      refine x_iconst (1 : Int32) dX9_isWord_20 (by decide) ?_
      refine x_goto 25 dX9_isWord_21 (by decide) ?_
      cases h
      exact x_zret2 dX9_isWord_25 rfl rfl rfl
set_option maxRecDepth 100000 in
set_option maxHeartbeats 4000000 in
theorem lp_hP_X9_packed_4_4 {g0 g1 g2 g3 g4 g5 g6 g7 g8 g9 g10 g11 g12 g13 g14 g15 g16 g17 g18 g19 g20 g21 g22 g23 g24 g25 g26 : Int32} {a0 a1 a2 a3 a4 a5 a6 a7 a8 a9 a10 a11 a12 a13 a14 a15 a16 a17 a18 a19 a20 a21 a22 a23 : (Nat → Int32)} {b0 : (Nat → Int64)} {w0 : Int64} {k0 k1 k2 k3 k4 k5 k6 k7 k8 k9 k10 k11 k12 k13 k14 k15 : xC} {cv : Value} (d n0 : Nat)  (res : Int64) (K : Int64 → Int32 → Option (Int64)) (hK : ∀ (l1_4 : Int64) (l3_4 : Int32), K l1_4 l3_4 = some res → xW xks YX9_packed (d + 5) 0 0 n0 (xZ 0 0 n0 (some (.long res)) (hP g0 g1 g2 g3 g4 g5 g6 g7 g8 g9 g10 g11 g12 g13 g14 g15 g16 g17 g18 g19 g20 g21 g22 g23 g24 g25 g26 a0 a1 a2 a3 a4 a5 a6 a7 a8 a9 a10 a11 a12 a13 a14 a15 a16 a17 a18 a19 a20 a21 a22 a23 b0 w0 k0 k1 k2 k3 k4 k5 k6 k7 k8 k9 k10 k11 k12 k13 k14 k15 cv (.ref 27))) 0 0 36 [none, some (.long l1_4), none, none] [] (hP g0 g1 g2 g3 g4 g5 g6 g7 g8 g9 g10 g11 g12 g13 g14 g15 g16 g17 g18 g19 g20 g21 g22 g23 g24 g25 g26 a0 a1 a2 a3 a4 a5 a6 a7 a8 a9 a10 a11 a12 a13 a14 a15 a16 a17 a18 a19 a20 a21 a22 a23 b0 w0 k0 k1 k2 k3 k4 k5 k6 k7 k8 k9 k10 k11 k12 k13 k14 k15 cv (.ref 27))) : ∀ (n : Nat) (l1_4 : Int64) (l3_4 : Int32), L_hP_X9_packed_4 (xsy 14)  K n l1_4 l3_4 = some res → xW xks YX9_packed (d + 5) 0 0 n0 (xZ 0 0 n0 (some (.long res)) (hP g0 g1 g2 g3 g4 g5 g6 g7 g8 g9 g10 g11 g12 g13 g14 g15 g16 g17 g18 g19 g20 g21 g22 g23 g24 g25 g26 a0 a1 a2 a3 a4 a5 a6 a7 a8 a9 a10 a11 a12 a13 a14 a15 a16 a17 a18 a19 a20 a21 a22 a23 b0 w0 k0 k1 k2 k3 k4 k5 k6 k7 k8 k9 k10 k11 k12 k13 k14 k15 cv (.ref 27))) 0 0 4 [some (.ref 1014), some (.long l1_4), none, some (.int l3_4)] [] (hP g0 g1 g2 g3 g4 g5 g6 g7 g8 g9 g10 g11 g12 g13 g14 g15 g16 g17 g18 g19 g20 g21 g22 g23 g24 g25 g26 a0 a1 a2 a3 a4 a5 a6 a7 a8 a9 a10 a11 a12 a13 a14 a15 a16 a17 a18 a19 a20 a21 a22 a23 b0 w0 k0 k1 k2 k3 k4 k5 k6 k7 k8 k9 k10 k11 k12 k13 k14 k15 cv (.ref 27)) := by
  intro n
  induction n with
  | zero =>
    intro l1_4 l3_4 h
    cases (show (none : Option (Int64)) = some res from h)
  | succ n4 ih4 =>
    intro l1_4 l3_4 h
    unfold L_hP_X9_packed_4 at h
    refine x_iload_n dX9_packed_4 rfl ?_
    refine x_aload_n dX9_packed_5 rfl ?_
    refine x_slen (k := 14) (s := xsy 14) rfl rfl (Nat.le_of_ble_eq_true rfl) kX9_65 dX9_packed_6 (Nat.le_of_ble_eq_true rfl) ?_
    refine x_icmp_ge 36 dX9_packed_9 (by decide) (fun q => ?_) (fun q => ?_)
    · have h := xif_t q h
      refine x_weak (pl2 := [none, some (.long l1_4), none, none]) ⟨rfl, trivial⟩ ?_
      exact hK l1_4 l3_4 h
    · have h := xif_f q h
      refine x_ldc2 iX9_71 dX9_packed_12 ?_
      refine x_lload_n dX9_packed_15 rfl ?_
      refine x_lmul dX9_packed_16 ?_
      refine x_aload_n dX9_packed_17 rfl ?_
      refine x_iload_n dX9_packed_18 rfl ?_
      obtain ⟨q19, h⟩ := xix_of h
      refine x_schar (k := 14) (s := xsy 14) rfl rfl q19 (Nat.le_of_ble_eq_true rfl) kX9_73 dX9_packed_19 (Nat.le_of_ble_eq_true rfl) ?_
      refine x_bipush (97 : Int32) dX9_packed_22 (by decide) ?_
      refine x_isub dX9_packed_24 ?_
      refine x_iconst (1 : Int32) dX9_packed_25 (by decide) ?_
      refine x_iadd dX9_packed_26 ?_
      refine x_i2l dX9_packed_27 ?_
      refine x_ladd dX9_packed_28 ?_
      refine x_lstore_n (pl' := [some (.ref 1014), some (.long (((32 : Int64) * l1_4) + (((xch (xsy 14) l3_4) - (97 : Int32)) + (1 : Int32)).toInt64)), none, some (.int l3_4)]) dX9_packed_29 (by decide) rfl ?_
      refine x_iincK (1 : Int32) (pl' := [some (.ref 1014), some (.long (((32 : Int64) * l1_4) + (((xch (xsy 14) l3_4) - (97 : Int32)) + (1 : Int32)).toInt64)), none, some (.int (l3_4 + (1 : Int32)))]) dX9_packed_30 rfl (by decide) (by decide) rfl ?_
      refine x_goto 4 dX9_packed_33 (by decide) ?_
      refine x_weak (pl2 := [some (.ref 1014), some (.long (((32 : Int64) * l1_4) + (((xch (xsy 14) l3_4) - (97 : Int32)) + (1 : Int32)).toInt64)), none, some (.int (l3_4 + (1 : Int32)))]) ⟨rfl, rfl, rfl, trivial⟩ ?_
      exact ih4 (((32 : Int64) * l1_4) + (((xch (xsy 14) l3_4) - (97 : Int32)) + (1 : Int32)).toInt64) (l3_4 + (1 : Int32)) h
set_option maxRecDepth 100000 in
set_option maxHeartbeats 4000000 in
theorem t_hP_X9_packed_4 {g0 g1 g2 g3 g4 g5 g6 g7 g8 g9 g10 g11 g12 g13 g14 g15 g16 g17 g18 g19 g20 g21 g22 g23 g24 g25 g26 : Int32} {a0 a1 a2 a3 a4 a5 a6 a7 a8 a9 a10 a11 a12 a13 a14 a15 a16 a17 a18 a19 a20 a21 a22 a23 : (Nat → Int32)} {b0 : (Nat → Int64)} {w0 : Int64} {k0 k1 k2 k3 k4 k5 k6 k7 k8 k9 k10 k11 k12 k13 k14 k15 : xC} {cv : Value}  (res : Int64) (h : e_hP_X9_packed (xsy 14)  = some res) (d : Nat) : xMet xks YX9_packed (d + 5) 0 0 [.ref 1014] (hP g0 g1 g2 g3 g4 g5 g6 g7 g8 g9 g10 g11 g12 g13 g14 g15 g16 g17 g18 g19 g20 g21 g22 g23 g24 g25 g26 a0 a1 a2 a3 a4 a5 a6 a7 a8 a9 a10 a11 a12 a13 a14 a15 a16 a17 a18 a19 a20 a21 a22 a23 b0 w0 k0 k1 k2 k3 k4 k5 k6 k7 k8 k9 k10 k11 k12 k13 k14 k15 cv (.ref 27)) (some (.long res)) (hP g0 g1 g2 g3 g4 g5 g6 g7 g8 g9 g10 g11 g12 g13 g14 g15 g16 g17 g18 g19 g20 g21 g22 g23 g24 g25 g26 a0 a1 a2 a3 a4 a5 a6 a7 a8 a9 a10 a11 a12 a13 a14 a15 a16 a17 a18 a19 a20 a21 a22 a23 b0 w0 k0 k1 k2 k3 k4 k5 k6 k7 k8 k9 k10 k11 k12 k13 k14 k15 cv (.ref 27)) := by
  unfold e_hP_X9_packed at h
  refine xMet_of (pl := [some (.ref 1014), none, none, none]) (by decide) (Nat.le_of_ble_eq_true rfl) rfl (Nat.le_of_ble_eq_true rfl) ?_
  refine x_lconst (0 : Int64) dX9_packed_0 (by decide) ?_
  refine x_lstore_n (pl' := [some (.ref 1014), some (.long (0 : Int64)), none, none]) dX9_packed_1 (by decide) rfl ?_
  refine x_iconst (0 : Int32) dX9_packed_2 (by decide) ?_
  refine x_istore_n (pl' := [some (.ref 1014), some (.long (0 : Int64)), none, some (.int (0 : Int32))]) dX9_packed_3 (by decide) rfl ?_
  refine x_weak (pl2 := [some (.ref 1014), some (.long (0 : Int64)), none, some (.int (0 : Int32))]) ⟨rfl, rfl, rfl, trivial⟩ ?_
  refine lp_hP_X9_packed_4_4 d _  res _ (fun l1_4 l3_4 h => ?_) 200000 (0 : Int64) (0 : Int32) h
  refine x_lload_n dX9_packed_36 rfl ?_
  cases h
  exact x_lret2 dX9_packed_37 rfl rfl
set_option maxRecDepth 100000 in
set_option maxHeartbeats 4000000 in
theorem t_hP_X9_isWord_4 {g0 g1 g2 g3 g4 g5 g6 g7 g8 g9 g10 g11 g12 g13 g14 g15 g16 g17 g18 g19 g20 g21 g22 g23 g24 g25 g26 : Int32} {a0 a1 a2 a3 a4 a5 a6 a7 a8 a9 a10 a11 a12 a13 a14 a15 a16 a17 a18 a19 a20 a21 a22 a23 : (Nat → Int32)} {b0 : (Nat → Int64)} {w0 : Int64} {k0 k1 k2 k3 k4 k5 k6 k7 k8 k9 k10 k11 k12 k13 k14 k15 : xC} {cv : Value}  (res : Int32) (h : e_hP_X9_isWord g6 w0 (xsy 14)  = some res) (d : Nat) : xMet xks YX9_isWord (d + 6) 0 0 [.ref 0, .ref 1014] (hP g0 g1 g2 g3 g4 g5 g6 g7 g8 g9 g10 g11 g12 g13 g14 g15 g16 g17 g18 g19 g20 g21 g22 g23 g24 g25 g26 a0 a1 a2 a3 a4 a5 a6 a7 a8 a9 a10 a11 a12 a13 a14 a15 a16 a17 a18 a19 a20 a21 a22 a23 b0 w0 k0 k1 k2 k3 k4 k5 k6 k7 k8 k9 k10 k11 k12 k13 k14 k15 cv (.ref 27)) (some (.int res)) (hP g0 g1 g2 g3 g4 g5 g6 g7 g8 g9 g10 g11 g12 g13 g14 g15 g16 g17 g18 g19 g20 g21 g22 g23 g24 g25 g26 a0 a1 a2 a3 a4 a5 a6 a7 a8 a9 a10 a11 a12 a13 a14 a15 a16 a17 a18 a19 a20 a21 a22 a23 b0 w0 k0 k1 k2 k3 k4 k5 k6 k7 k8 k9 k10 k11 k12 k13 k14 k15 cv (.ref 27)) := by
  unfold e_hP_X9_isWord at h
  refine xMet_of (pl := [some (.ref 0), some (.ref 1014)]) (by decide) (Nat.le_of_ble_eq_true rfl) rfl (Nat.le_of_ble_eq_true rfl) ?_
  refine x_aload_n dX9_isWord_0 rfl ?_
  refine x_get fX9_77 dX9_isWord_1 rfl rfl rfl ?_
  refine x_iconst (2 : Int32) dX9_isWord_4 (by decide) ?_
  refine x_icmp_ne 24 dX9_isWord_5 (by decide) (fun q => ?_) (fun q => ?_)
  · have h := xif_f q h
    refine x_iconst (0 : Int32) dX9_isWord_24 (by decide) ?_
    cases h
    exact x_zret2 dX9_isWord_25 rfl rfl rfl
  · have h := xif_t q h
    refine x_aload_n dX9_isWord_8 rfl ?_
    refine x_get fX9_93 dX9_isWord_9 rfl rfl rfl ?_
    refine x_aload_n dX9_isWord_12 rfl ?_
    obtain ⟨z13, y13, h⟩ := xbind h
    refine x_callS (t_hP_X9_packed_4  z13 y13 (d + 0)) kX9_109 dX9_isWord_13 rfl rfl (Nat.le_of_ble_eq_true rfl) (Nat.le_of_ble_eq_true rfl) rfl rfl (Or.inl rfl) ?_
    refine x_lcmp dX9_isWord_16 ?_
    refine x_if_ne 24 dX9_isWord_17 (by decide) (fun q => ?_) (fun q => ?_)
    · have h := xif_f q h
      refine x_iconst (0 : Int32) dX9_isWord_24 (by decide) ?_
      cases h
      exact x_zret2 dX9_isWord_25 rfl rfl rfl
    · have h := xif_t q h
      refine x_iconst (1 : Int32) dX9_isWord_20 (by decide) ?_
      refine x_goto 25 dX9_isWord_21 (by decide) ?_
      cases h
      exact x_zret2 dX9_isWord_25 rfl rfl rfl
set_option maxRecDepth 100000 in
set_option maxHeartbeats 4000000 in
theorem lp_hP_X9_packed_5_4 {g0 g1 g2 g3 g4 g5 g6 g7 g8 g9 g10 g11 g12 g13 g14 g15 g16 g17 g18 g19 g20 g21 g22 g23 g24 g25 g26 : Int32} {a0 a1 a2 a3 a4 a5 a6 a7 a8 a9 a10 a11 a12 a13 a14 a15 a16 a17 a18 a19 a20 a21 a22 a23 : (Nat → Int32)} {b0 : (Nat → Int64)} {w0 : Int64} {k0 k1 k2 k3 k4 k5 k6 k7 k8 k9 k10 k11 k12 k13 k14 k15 : xC} {cv : Value} (d n0 : Nat)  (res : Int64) (K : Int64 → Int32 → Option (Int64)) (hK : ∀ (l1_4 : Int64) (l3_4 : Int32), K l1_4 l3_4 = some res → xW xks YX9_packed (d + 5) 0 0 n0 (xZ 0 0 n0 (some (.long res)) (hP g0 g1 g2 g3 g4 g5 g6 g7 g8 g9 g10 g11 g12 g13 g14 g15 g16 g17 g18 g19 g20 g21 g22 g23 g24 g25 g26 a0 a1 a2 a3 a4 a5 a6 a7 a8 a9 a10 a11 a12 a13 a14 a15 a16 a17 a18 a19 a20 a21 a22 a23 b0 w0 k0 k1 k2 k3 k4 k5 k6 k7 k8 k9 k10 k11 k12 k13 k14 k15 cv (.ref 27))) 0 0 36 [none, some (.long l1_4), none, none] [] (hP g0 g1 g2 g3 g4 g5 g6 g7 g8 g9 g10 g11 g12 g13 g14 g15 g16 g17 g18 g19 g20 g21 g22 g23 g24 g25 g26 a0 a1 a2 a3 a4 a5 a6 a7 a8 a9 a10 a11 a12 a13 a14 a15 a16 a17 a18 a19 a20 a21 a22 a23 b0 w0 k0 k1 k2 k3 k4 k5 k6 k7 k8 k9 k10 k11 k12 k13 k14 k15 cv (.ref 27))) : ∀ (n : Nat) (l1_4 : Int64) (l3_4 : Int32), L_hP_X9_packed_4 (xsy 15)  K n l1_4 l3_4 = some res → xW xks YX9_packed (d + 5) 0 0 n0 (xZ 0 0 n0 (some (.long res)) (hP g0 g1 g2 g3 g4 g5 g6 g7 g8 g9 g10 g11 g12 g13 g14 g15 g16 g17 g18 g19 g20 g21 g22 g23 g24 g25 g26 a0 a1 a2 a3 a4 a5 a6 a7 a8 a9 a10 a11 a12 a13 a14 a15 a16 a17 a18 a19 a20 a21 a22 a23 b0 w0 k0 k1 k2 k3 k4 k5 k6 k7 k8 k9 k10 k11 k12 k13 k14 k15 cv (.ref 27))) 0 0 4 [some (.ref 1015), some (.long l1_4), none, some (.int l3_4)] [] (hP g0 g1 g2 g3 g4 g5 g6 g7 g8 g9 g10 g11 g12 g13 g14 g15 g16 g17 g18 g19 g20 g21 g22 g23 g24 g25 g26 a0 a1 a2 a3 a4 a5 a6 a7 a8 a9 a10 a11 a12 a13 a14 a15 a16 a17 a18 a19 a20 a21 a22 a23 b0 w0 k0 k1 k2 k3 k4 k5 k6 k7 k8 k9 k10 k11 k12 k13 k14 k15 cv (.ref 27)) := by
  intro n
  induction n with
  | zero =>
    intro l1_4 l3_4 h
    cases (show (none : Option (Int64)) = some res from h)
  | succ n4 ih4 =>
    intro l1_4 l3_4 h
    unfold L_hP_X9_packed_4 at h
    refine x_iload_n dX9_packed_4 rfl ?_
    refine x_aload_n dX9_packed_5 rfl ?_
    refine x_slen (k := 15) (s := xsy 15) rfl rfl (Nat.le_of_ble_eq_true rfl) kX9_65 dX9_packed_6 (Nat.le_of_ble_eq_true rfl) ?_
    refine x_icmp_ge 36 dX9_packed_9 (by decide) (fun q => ?_) (fun q => ?_)
    · have h := xif_t q h
      refine x_weak (pl2 := [none, some (.long l1_4), none, none]) ⟨rfl, trivial⟩ ?_
      exact hK l1_4 l3_4 h
    · have h := xif_f q h
      refine x_ldc2 iX9_71 dX9_packed_12 ?_
      refine x_lload_n dX9_packed_15 rfl ?_
      refine x_lmul dX9_packed_16 ?_
      refine x_aload_n dX9_packed_17 rfl ?_
      refine x_iload_n dX9_packed_18 rfl ?_
      obtain ⟨q19, h⟩ := xix_of h
      refine x_schar (k := 15) (s := xsy 15) rfl rfl q19 (Nat.le_of_ble_eq_true rfl) kX9_73 dX9_packed_19 (Nat.le_of_ble_eq_true rfl) ?_
      refine x_bipush (97 : Int32) dX9_packed_22 (by decide) ?_
      refine x_isub dX9_packed_24 ?_
      refine x_iconst (1 : Int32) dX9_packed_25 (by decide) ?_
      refine x_iadd dX9_packed_26 ?_
      refine x_i2l dX9_packed_27 ?_
      refine x_ladd dX9_packed_28 ?_
      refine x_lstore_n (pl' := [some (.ref 1015), some (.long (((32 : Int64) * l1_4) + (((xch (xsy 15) l3_4) - (97 : Int32)) + (1 : Int32)).toInt64)), none, some (.int l3_4)]) dX9_packed_29 (by decide) rfl ?_
      refine x_iincK (1 : Int32) (pl' := [some (.ref 1015), some (.long (((32 : Int64) * l1_4) + (((xch (xsy 15) l3_4) - (97 : Int32)) + (1 : Int32)).toInt64)), none, some (.int (l3_4 + (1 : Int32)))]) dX9_packed_30 rfl (by decide) (by decide) rfl ?_
      refine x_goto 4 dX9_packed_33 (by decide) ?_
      refine x_weak (pl2 := [some (.ref 1015), some (.long (((32 : Int64) * l1_4) + (((xch (xsy 15) l3_4) - (97 : Int32)) + (1 : Int32)).toInt64)), none, some (.int (l3_4 + (1 : Int32)))]) ⟨rfl, rfl, rfl, trivial⟩ ?_
      exact ih4 (((32 : Int64) * l1_4) + (((xch (xsy 15) l3_4) - (97 : Int32)) + (1 : Int32)).toInt64) (l3_4 + (1 : Int32)) h
set_option maxRecDepth 100000 in
set_option maxHeartbeats 4000000 in
theorem t_hP_X9_packed_5 {g0 g1 g2 g3 g4 g5 g6 g7 g8 g9 g10 g11 g12 g13 g14 g15 g16 g17 g18 g19 g20 g21 g22 g23 g24 g25 g26 : Int32} {a0 a1 a2 a3 a4 a5 a6 a7 a8 a9 a10 a11 a12 a13 a14 a15 a16 a17 a18 a19 a20 a21 a22 a23 : (Nat → Int32)} {b0 : (Nat → Int64)} {w0 : Int64} {k0 k1 k2 k3 k4 k5 k6 k7 k8 k9 k10 k11 k12 k13 k14 k15 : xC} {cv : Value}  (res : Int64) (h : e_hP_X9_packed (xsy 15)  = some res) (d : Nat) : xMet xks YX9_packed (d + 5) 0 0 [.ref 1015] (hP g0 g1 g2 g3 g4 g5 g6 g7 g8 g9 g10 g11 g12 g13 g14 g15 g16 g17 g18 g19 g20 g21 g22 g23 g24 g25 g26 a0 a1 a2 a3 a4 a5 a6 a7 a8 a9 a10 a11 a12 a13 a14 a15 a16 a17 a18 a19 a20 a21 a22 a23 b0 w0 k0 k1 k2 k3 k4 k5 k6 k7 k8 k9 k10 k11 k12 k13 k14 k15 cv (.ref 27)) (some (.long res)) (hP g0 g1 g2 g3 g4 g5 g6 g7 g8 g9 g10 g11 g12 g13 g14 g15 g16 g17 g18 g19 g20 g21 g22 g23 g24 g25 g26 a0 a1 a2 a3 a4 a5 a6 a7 a8 a9 a10 a11 a12 a13 a14 a15 a16 a17 a18 a19 a20 a21 a22 a23 b0 w0 k0 k1 k2 k3 k4 k5 k6 k7 k8 k9 k10 k11 k12 k13 k14 k15 cv (.ref 27)) := by
  unfold e_hP_X9_packed at h
  refine xMet_of (pl := [some (.ref 1015), none, none, none]) (by decide) (Nat.le_of_ble_eq_true rfl) rfl (Nat.le_of_ble_eq_true rfl) ?_
  refine x_lconst (0 : Int64) dX9_packed_0 (by decide) ?_
  refine x_lstore_n (pl' := [some (.ref 1015), some (.long (0 : Int64)), none, none]) dX9_packed_1 (by decide) rfl ?_
  refine x_iconst (0 : Int32) dX9_packed_2 (by decide) ?_
  refine x_istore_n (pl' := [some (.ref 1015), some (.long (0 : Int64)), none, some (.int (0 : Int32))]) dX9_packed_3 (by decide) rfl ?_
  refine x_weak (pl2 := [some (.ref 1015), some (.long (0 : Int64)), none, some (.int (0 : Int32))]) ⟨rfl, rfl, rfl, trivial⟩ ?_
  refine lp_hP_X9_packed_5_4 d _  res _ (fun l1_4 l3_4 h => ?_) 200000 (0 : Int64) (0 : Int32) h
  refine x_lload_n dX9_packed_36 rfl ?_
  cases h
  exact x_lret2 dX9_packed_37 rfl rfl
set_option maxRecDepth 100000 in
set_option maxHeartbeats 4000000 in
theorem t_hP_X9_isWord_5 {g0 g1 g2 g3 g4 g5 g6 g7 g8 g9 g10 g11 g12 g13 g14 g15 g16 g17 g18 g19 g20 g21 g22 g23 g24 g25 g26 : Int32} {a0 a1 a2 a3 a4 a5 a6 a7 a8 a9 a10 a11 a12 a13 a14 a15 a16 a17 a18 a19 a20 a21 a22 a23 : (Nat → Int32)} {b0 : (Nat → Int64)} {w0 : Int64} {k0 k1 k2 k3 k4 k5 k6 k7 k8 k9 k10 k11 k12 k13 k14 k15 : xC} {cv : Value}  (res : Int32) (h : e_hP_X9_isWord g6 w0 (xsy 15)  = some res) (d : Nat) : xMet xks YX9_isWord (d + 6) 0 0 [.ref 0, .ref 1015] (hP g0 g1 g2 g3 g4 g5 g6 g7 g8 g9 g10 g11 g12 g13 g14 g15 g16 g17 g18 g19 g20 g21 g22 g23 g24 g25 g26 a0 a1 a2 a3 a4 a5 a6 a7 a8 a9 a10 a11 a12 a13 a14 a15 a16 a17 a18 a19 a20 a21 a22 a23 b0 w0 k0 k1 k2 k3 k4 k5 k6 k7 k8 k9 k10 k11 k12 k13 k14 k15 cv (.ref 27)) (some (.int res)) (hP g0 g1 g2 g3 g4 g5 g6 g7 g8 g9 g10 g11 g12 g13 g14 g15 g16 g17 g18 g19 g20 g21 g22 g23 g24 g25 g26 a0 a1 a2 a3 a4 a5 a6 a7 a8 a9 a10 a11 a12 a13 a14 a15 a16 a17 a18 a19 a20 a21 a22 a23 b0 w0 k0 k1 k2 k3 k4 k5 k6 k7 k8 k9 k10 k11 k12 k13 k14 k15 cv (.ref 27)) := by
  unfold e_hP_X9_isWord at h
  refine xMet_of (pl := [some (.ref 0), some (.ref 1015)]) (by decide) (Nat.le_of_ble_eq_true rfl) rfl (Nat.le_of_ble_eq_true rfl) ?_
  refine x_aload_n dX9_isWord_0 rfl ?_
  refine x_get fX9_77 dX9_isWord_1 rfl rfl rfl ?_
  refine x_iconst (2 : Int32) dX9_isWord_4 (by decide) ?_
  refine x_icmp_ne 24 dX9_isWord_5 (by decide) (fun q => ?_) (fun q => ?_)
  · have h := xif_f q h
    refine x_iconst (0 : Int32) dX9_isWord_24 (by decide) ?_
    cases h
    exact x_zret2 dX9_isWord_25 rfl rfl rfl
  · have h := xif_t q h
    refine x_aload_n dX9_isWord_8 rfl ?_
    refine x_get fX9_93 dX9_isWord_9 rfl rfl rfl ?_
    refine x_aload_n dX9_isWord_12 rfl ?_
    obtain ⟨z13, y13, h⟩ := xbind h
    refine x_callS (t_hP_X9_packed_5  z13 y13 (d + 0)) kX9_109 dX9_isWord_13 rfl rfl (Nat.le_of_ble_eq_true rfl) (Nat.le_of_ble_eq_true rfl) rfl rfl (Or.inl rfl) ?_
    refine x_lcmp dX9_isWord_16 ?_
    refine x_if_ne 24 dX9_isWord_17 (by decide) (fun q => ?_) (fun q => ?_)
    · have h := xif_f q h
      refine x_iconst (0 : Int32) dX9_isWord_24 (by decide) ?_
      cases h
      exact x_zret2 dX9_isWord_25 rfl rfl rfl
    · have h := xif_t q h
      refine x_iconst (1 : Int32) dX9_isWord_20 (by decide) ?_
      refine x_goto 25 dX9_isWord_21 (by decide) ?_
      cases h
      exact x_zret2 dX9_isWord_25 rfl rfl rfl
set_option maxRecDepth 100000 in
set_option maxHeartbeats 4000000 in
theorem lp_hP_X9_packed_6_4 {g0 g1 g2 g3 g4 g5 g6 g7 g8 g9 g10 g11 g12 g13 g14 g15 g16 g17 g18 g19 g20 g21 g22 g23 g24 g25 g26 : Int32} {a0 a1 a2 a3 a4 a5 a6 a7 a8 a9 a10 a11 a12 a13 a14 a15 a16 a17 a18 a19 a20 a21 a22 a23 : (Nat → Int32)} {b0 : (Nat → Int64)} {w0 : Int64} {k0 k1 k2 k3 k4 k5 k6 k7 k8 k9 k10 k11 k12 k13 k14 k15 : xC} {cv : Value} (d n0 : Nat)  (res : Int64) (K : Int64 → Int32 → Option (Int64)) (hK : ∀ (l1_4 : Int64) (l3_4 : Int32), K l1_4 l3_4 = some res → xW xks YX9_packed (d + 5) 0 0 n0 (xZ 0 0 n0 (some (.long res)) (hP g0 g1 g2 g3 g4 g5 g6 g7 g8 g9 g10 g11 g12 g13 g14 g15 g16 g17 g18 g19 g20 g21 g22 g23 g24 g25 g26 a0 a1 a2 a3 a4 a5 a6 a7 a8 a9 a10 a11 a12 a13 a14 a15 a16 a17 a18 a19 a20 a21 a22 a23 b0 w0 k0 k1 k2 k3 k4 k5 k6 k7 k8 k9 k10 k11 k12 k13 k14 k15 cv (.ref 27))) 0 0 36 [none, some (.long l1_4), none, none] [] (hP g0 g1 g2 g3 g4 g5 g6 g7 g8 g9 g10 g11 g12 g13 g14 g15 g16 g17 g18 g19 g20 g21 g22 g23 g24 g25 g26 a0 a1 a2 a3 a4 a5 a6 a7 a8 a9 a10 a11 a12 a13 a14 a15 a16 a17 a18 a19 a20 a21 a22 a23 b0 w0 k0 k1 k2 k3 k4 k5 k6 k7 k8 k9 k10 k11 k12 k13 k14 k15 cv (.ref 27))) : ∀ (n : Nat) (l1_4 : Int64) (l3_4 : Int32), L_hP_X9_packed_4 (xsy 16)  K n l1_4 l3_4 = some res → xW xks YX9_packed (d + 5) 0 0 n0 (xZ 0 0 n0 (some (.long res)) (hP g0 g1 g2 g3 g4 g5 g6 g7 g8 g9 g10 g11 g12 g13 g14 g15 g16 g17 g18 g19 g20 g21 g22 g23 g24 g25 g26 a0 a1 a2 a3 a4 a5 a6 a7 a8 a9 a10 a11 a12 a13 a14 a15 a16 a17 a18 a19 a20 a21 a22 a23 b0 w0 k0 k1 k2 k3 k4 k5 k6 k7 k8 k9 k10 k11 k12 k13 k14 k15 cv (.ref 27))) 0 0 4 [some (.ref 1016), some (.long l1_4), none, some (.int l3_4)] [] (hP g0 g1 g2 g3 g4 g5 g6 g7 g8 g9 g10 g11 g12 g13 g14 g15 g16 g17 g18 g19 g20 g21 g22 g23 g24 g25 g26 a0 a1 a2 a3 a4 a5 a6 a7 a8 a9 a10 a11 a12 a13 a14 a15 a16 a17 a18 a19 a20 a21 a22 a23 b0 w0 k0 k1 k2 k3 k4 k5 k6 k7 k8 k9 k10 k11 k12 k13 k14 k15 cv (.ref 27)) := by
  intro n
  induction n with
  | zero =>
    intro l1_4 l3_4 h
    cases (show (none : Option (Int64)) = some res from h)
  | succ n4 ih4 =>
    intro l1_4 l3_4 h
    unfold L_hP_X9_packed_4 at h
    refine x_iload_n dX9_packed_4 rfl ?_
    refine x_aload_n dX9_packed_5 rfl ?_
    refine x_slen (k := 16) (s := xsy 16) rfl rfl (Nat.le_of_ble_eq_true rfl) kX9_65 dX9_packed_6 (Nat.le_of_ble_eq_true rfl) ?_
    refine x_icmp_ge 36 dX9_packed_9 (by decide) (fun q => ?_) (fun q => ?_)
    · have h := xif_t q h
      refine x_weak (pl2 := [none, some (.long l1_4), none, none]) ⟨rfl, trivial⟩ ?_
      exact hK l1_4 l3_4 h
    · have h := xif_f q h
      refine x_ldc2 iX9_71 dX9_packed_12 ?_
      refine x_lload_n dX9_packed_15 rfl ?_
      refine x_lmul dX9_packed_16 ?_
      refine x_aload_n dX9_packed_17 rfl ?_
      refine x_iload_n dX9_packed_18 rfl ?_
      obtain ⟨q19, h⟩ := xix_of h
      refine x_schar (k := 16) (s := xsy 16) rfl rfl q19 (Nat.le_of_ble_eq_true rfl) kX9_73 dX9_packed_19 (Nat.le_of_ble_eq_true rfl) ?_
      refine x_bipush (97 : Int32) dX9_packed_22 (by decide) ?_
      refine x_isub dX9_packed_24 ?_
      refine x_iconst (1 : Int32) dX9_packed_25 (by decide) ?_
      refine x_iadd dX9_packed_26 ?_
      refine x_i2l dX9_packed_27 ?_
      refine x_ladd dX9_packed_28 ?_
      refine x_lstore_n (pl' := [some (.ref 1016), some (.long (((32 : Int64) * l1_4) + (((xch (xsy 16) l3_4) - (97 : Int32)) + (1 : Int32)).toInt64)), none, some (.int l3_4)]) dX9_packed_29 (by decide) rfl ?_
      refine x_iincK (1 : Int32) (pl' := [some (.ref 1016), some (.long (((32 : Int64) * l1_4) + (((xch (xsy 16) l3_4) - (97 : Int32)) + (1 : Int32)).toInt64)), none, some (.int (l3_4 + (1 : Int32)))]) dX9_packed_30 rfl (by decide) (by decide) rfl ?_
      refine x_goto 4 dX9_packed_33 (by decide) ?_
      refine x_weak (pl2 := [some (.ref 1016), some (.long (((32 : Int64) * l1_4) + (((xch (xsy 16) l3_4) - (97 : Int32)) + (1 : Int32)).toInt64)), none, some (.int (l3_4 + (1 : Int32)))]) ⟨rfl, rfl, rfl, trivial⟩ ?_
      exact ih4 (((32 : Int64) * l1_4) + (((xch (xsy 16) l3_4) - (97 : Int32)) + (1 : Int32)).toInt64) (l3_4 + (1 : Int32)) h
set_option maxRecDepth 100000 in
set_option maxHeartbeats 4000000 in
theorem t_hP_X9_packed_6 {g0 g1 g2 g3 g4 g5 g6 g7 g8 g9 g10 g11 g12 g13 g14 g15 g16 g17 g18 g19 g20 g21 g22 g23 g24 g25 g26 : Int32} {a0 a1 a2 a3 a4 a5 a6 a7 a8 a9 a10 a11 a12 a13 a14 a15 a16 a17 a18 a19 a20 a21 a22 a23 : (Nat → Int32)} {b0 : (Nat → Int64)} {w0 : Int64} {k0 k1 k2 k3 k4 k5 k6 k7 k8 k9 k10 k11 k12 k13 k14 k15 : xC} {cv : Value}  (res : Int64) (h : e_hP_X9_packed (xsy 16)  = some res) (d : Nat) : xMet xks YX9_packed (d + 5) 0 0 [.ref 1016] (hP g0 g1 g2 g3 g4 g5 g6 g7 g8 g9 g10 g11 g12 g13 g14 g15 g16 g17 g18 g19 g20 g21 g22 g23 g24 g25 g26 a0 a1 a2 a3 a4 a5 a6 a7 a8 a9 a10 a11 a12 a13 a14 a15 a16 a17 a18 a19 a20 a21 a22 a23 b0 w0 k0 k1 k2 k3 k4 k5 k6 k7 k8 k9 k10 k11 k12 k13 k14 k15 cv (.ref 27)) (some (.long res)) (hP g0 g1 g2 g3 g4 g5 g6 g7 g8 g9 g10 g11 g12 g13 g14 g15 g16 g17 g18 g19 g20 g21 g22 g23 g24 g25 g26 a0 a1 a2 a3 a4 a5 a6 a7 a8 a9 a10 a11 a12 a13 a14 a15 a16 a17 a18 a19 a20 a21 a22 a23 b0 w0 k0 k1 k2 k3 k4 k5 k6 k7 k8 k9 k10 k11 k12 k13 k14 k15 cv (.ref 27)) := by
  unfold e_hP_X9_packed at h
  refine xMet_of (pl := [some (.ref 1016), none, none, none]) (by decide) (Nat.le_of_ble_eq_true rfl) rfl (Nat.le_of_ble_eq_true rfl) ?_
  refine x_lconst (0 : Int64) dX9_packed_0 (by decide) ?_
  refine x_lstore_n (pl' := [some (.ref 1016), some (.long (0 : Int64)), none, none]) dX9_packed_1 (by decide) rfl ?_
  refine x_iconst (0 : Int32) dX9_packed_2 (by decide) ?_
  refine x_istore_n (pl' := [some (.ref 1016), some (.long (0 : Int64)), none, some (.int (0 : Int32))]) dX9_packed_3 (by decide) rfl ?_
  refine x_weak (pl2 := [some (.ref 1016), some (.long (0 : Int64)), none, some (.int (0 : Int32))]) ⟨rfl, rfl, rfl, trivial⟩ ?_
  refine lp_hP_X9_packed_6_4 d _  res _ (fun l1_4 l3_4 h => ?_) 200000 (0 : Int64) (0 : Int32) h
  refine x_lload_n dX9_packed_36 rfl ?_
  cases h
  exact x_lret2 dX9_packed_37 rfl rfl
set_option maxRecDepth 100000 in
set_option maxHeartbeats 4000000 in
theorem t_hP_X9_isWord_6 {g0 g1 g2 g3 g4 g5 g6 g7 g8 g9 g10 g11 g12 g13 g14 g15 g16 g17 g18 g19 g20 g21 g22 g23 g24 g25 g26 : Int32} {a0 a1 a2 a3 a4 a5 a6 a7 a8 a9 a10 a11 a12 a13 a14 a15 a16 a17 a18 a19 a20 a21 a22 a23 : (Nat → Int32)} {b0 : (Nat → Int64)} {w0 : Int64} {k0 k1 k2 k3 k4 k5 k6 k7 k8 k9 k10 k11 k12 k13 k14 k15 : xC} {cv : Value}  (res : Int32) (h : e_hP_X9_isWord g6 w0 (xsy 16)  = some res) (d : Nat) : xMet xks YX9_isWord (d + 6) 0 0 [.ref 0, .ref 1016] (hP g0 g1 g2 g3 g4 g5 g6 g7 g8 g9 g10 g11 g12 g13 g14 g15 g16 g17 g18 g19 g20 g21 g22 g23 g24 g25 g26 a0 a1 a2 a3 a4 a5 a6 a7 a8 a9 a10 a11 a12 a13 a14 a15 a16 a17 a18 a19 a20 a21 a22 a23 b0 w0 k0 k1 k2 k3 k4 k5 k6 k7 k8 k9 k10 k11 k12 k13 k14 k15 cv (.ref 27)) (some (.int res)) (hP g0 g1 g2 g3 g4 g5 g6 g7 g8 g9 g10 g11 g12 g13 g14 g15 g16 g17 g18 g19 g20 g21 g22 g23 g24 g25 g26 a0 a1 a2 a3 a4 a5 a6 a7 a8 a9 a10 a11 a12 a13 a14 a15 a16 a17 a18 a19 a20 a21 a22 a23 b0 w0 k0 k1 k2 k3 k4 k5 k6 k7 k8 k9 k10 k11 k12 k13 k14 k15 cv (.ref 27)) := by
  unfold e_hP_X9_isWord at h
  refine xMet_of (pl := [some (.ref 0), some (.ref 1016)]) (by decide) (Nat.le_of_ble_eq_true rfl) rfl (Nat.le_of_ble_eq_true rfl) ?_
  refine x_aload_n dX9_isWord_0 rfl ?_
  refine x_get fX9_77 dX9_isWord_1 rfl rfl rfl ?_
  refine x_iconst (2 : Int32) dX9_isWord_4 (by decide) ?_
  refine x_icmp_ne 24 dX9_isWord_5 (by decide) (fun q => ?_) (fun q => ?_)
  · have h := xif_f q h
    refine x_iconst (0 : Int32) dX9_isWord_24 (by decide) ?_
    cases h
    exact x_zret2 dX9_isWord_25 rfl rfl rfl
  · have h := xif_t q h
    refine x_aload_n dX9_isWord_8 rfl ?_
    refine x_get fX9_93 dX9_isWord_9 rfl rfl rfl ?_
    refine x_aload_n dX9_isWord_12 rfl ?_
    obtain ⟨z13, y13, h⟩ := xbind h
    refine x_callS (t_hP_X9_packed_6  z13 y13 (d + 0)) kX9_109 dX9_isWord_13 rfl rfl (Nat.le_of_ble_eq_true rfl) (Nat.le_of_ble_eq_true rfl) rfl rfl (Or.inl rfl) ?_
    refine x_lcmp dX9_isWord_16 ?_
    refine x_if_ne 24 dX9_isWord_17 (by decide) (fun q => ?_) (fun q => ?_)
    · have h := xif_f q h
      refine x_iconst (0 : Int32) dX9_isWord_24 (by decide) ?_
      cases h
      exact x_zret2 dX9_isWord_25 rfl rfl rfl
    · have h := xif_t q h
      refine x_iconst (1 : Int32) dX9_isWord_20 (by decide) ?_
      refine x_goto 25 dX9_isWord_21 (by decide) ?_
      cases h
      exact x_zret2 dX9_isWord_25 rfl rfl rfl
set_option maxRecDepth 100000 in
set_option maxHeartbeats 4000000 in
theorem lp_hP_X9_packed_7_4 {g0 g1 g2 g3 g4 g5 g6 g7 g8 g9 g10 g11 g12 g13 g14 g15 g16 g17 g18 g19 g20 g21 g22 g23 g24 g25 g26 : Int32} {a0 a1 a2 a3 a4 a5 a6 a7 a8 a9 a10 a11 a12 a13 a14 a15 a16 a17 a18 a19 a20 a21 a22 a23 : (Nat → Int32)} {b0 : (Nat → Int64)} {w0 : Int64} {k0 k1 k2 k3 k4 k5 k6 k7 k8 k9 k10 k11 k12 k13 k14 k15 : xC} {cv : Value} (d n0 : Nat)  (res : Int64) (K : Int64 → Int32 → Option (Int64)) (hK : ∀ (l1_4 : Int64) (l3_4 : Int32), K l1_4 l3_4 = some res → xW xks YX9_packed (d + 5) 0 0 n0 (xZ 0 0 n0 (some (.long res)) (hP g0 g1 g2 g3 g4 g5 g6 g7 g8 g9 g10 g11 g12 g13 g14 g15 g16 g17 g18 g19 g20 g21 g22 g23 g24 g25 g26 a0 a1 a2 a3 a4 a5 a6 a7 a8 a9 a10 a11 a12 a13 a14 a15 a16 a17 a18 a19 a20 a21 a22 a23 b0 w0 k0 k1 k2 k3 k4 k5 k6 k7 k8 k9 k10 k11 k12 k13 k14 k15 cv (.ref 27))) 0 0 36 [none, some (.long l1_4), none, none] [] (hP g0 g1 g2 g3 g4 g5 g6 g7 g8 g9 g10 g11 g12 g13 g14 g15 g16 g17 g18 g19 g20 g21 g22 g23 g24 g25 g26 a0 a1 a2 a3 a4 a5 a6 a7 a8 a9 a10 a11 a12 a13 a14 a15 a16 a17 a18 a19 a20 a21 a22 a23 b0 w0 k0 k1 k2 k3 k4 k5 k6 k7 k8 k9 k10 k11 k12 k13 k14 k15 cv (.ref 27))) : ∀ (n : Nat) (l1_4 : Int64) (l3_4 : Int32), L_hP_X9_packed_4 (xsy 17)  K n l1_4 l3_4 = some res → xW xks YX9_packed (d + 5) 0 0 n0 (xZ 0 0 n0 (some (.long res)) (hP g0 g1 g2 g3 g4 g5 g6 g7 g8 g9 g10 g11 g12 g13 g14 g15 g16 g17 g18 g19 g20 g21 g22 g23 g24 g25 g26 a0 a1 a2 a3 a4 a5 a6 a7 a8 a9 a10 a11 a12 a13 a14 a15 a16 a17 a18 a19 a20 a21 a22 a23 b0 w0 k0 k1 k2 k3 k4 k5 k6 k7 k8 k9 k10 k11 k12 k13 k14 k15 cv (.ref 27))) 0 0 4 [some (.ref 1017), some (.long l1_4), none, some (.int l3_4)] [] (hP g0 g1 g2 g3 g4 g5 g6 g7 g8 g9 g10 g11 g12 g13 g14 g15 g16 g17 g18 g19 g20 g21 g22 g23 g24 g25 g26 a0 a1 a2 a3 a4 a5 a6 a7 a8 a9 a10 a11 a12 a13 a14 a15 a16 a17 a18 a19 a20 a21 a22 a23 b0 w0 k0 k1 k2 k3 k4 k5 k6 k7 k8 k9 k10 k11 k12 k13 k14 k15 cv (.ref 27)) := by
  intro n
  induction n with
  | zero =>
    intro l1_4 l3_4 h
    cases (show (none : Option (Int64)) = some res from h)
  | succ n4 ih4 =>
    intro l1_4 l3_4 h
    unfold L_hP_X9_packed_4 at h
    refine x_iload_n dX9_packed_4 rfl ?_
    refine x_aload_n dX9_packed_5 rfl ?_
    refine x_slen (k := 17) (s := xsy 17) rfl rfl (Nat.le_of_ble_eq_true rfl) kX9_65 dX9_packed_6 (Nat.le_of_ble_eq_true rfl) ?_
    refine x_icmp_ge 36 dX9_packed_9 (by decide) (fun q => ?_) (fun q => ?_)
    · have h := xif_t q h
      refine x_weak (pl2 := [none, some (.long l1_4), none, none]) ⟨rfl, trivial⟩ ?_
      exact hK l1_4 l3_4 h
    · have h := xif_f q h
      refine x_ldc2 iX9_71 dX9_packed_12 ?_
      refine x_lload_n dX9_packed_15 rfl ?_
      refine x_lmul dX9_packed_16 ?_
      refine x_aload_n dX9_packed_17 rfl ?_
      refine x_iload_n dX9_packed_18 rfl ?_
      obtain ⟨q19, h⟩ := xix_of h
      refine x_schar (k := 17) (s := xsy 17) rfl rfl q19 (Nat.le_of_ble_eq_true rfl) kX9_73 dX9_packed_19 (Nat.le_of_ble_eq_true rfl) ?_
      refine x_bipush (97 : Int32) dX9_packed_22 (by decide) ?_
      refine x_isub dX9_packed_24 ?_
      refine x_iconst (1 : Int32) dX9_packed_25 (by decide) ?_
      refine x_iadd dX9_packed_26 ?_
      refine x_i2l dX9_packed_27 ?_
      refine x_ladd dX9_packed_28 ?_
      refine x_lstore_n (pl' := [some (.ref 1017), some (.long (((32 : Int64) * l1_4) + (((xch (xsy 17) l3_4) - (97 : Int32)) + (1 : Int32)).toInt64)), none, some (.int l3_4)]) dX9_packed_29 (by decide) rfl ?_
      refine x_iincK (1 : Int32) (pl' := [some (.ref 1017), some (.long (((32 : Int64) * l1_4) + (((xch (xsy 17) l3_4) - (97 : Int32)) + (1 : Int32)).toInt64)), none, some (.int (l3_4 + (1 : Int32)))]) dX9_packed_30 rfl (by decide) (by decide) rfl ?_
      refine x_goto 4 dX9_packed_33 (by decide) ?_
      refine x_weak (pl2 := [some (.ref 1017), some (.long (((32 : Int64) * l1_4) + (((xch (xsy 17) l3_4) - (97 : Int32)) + (1 : Int32)).toInt64)), none, some (.int (l3_4 + (1 : Int32)))]) ⟨rfl, rfl, rfl, trivial⟩ ?_
      exact ih4 (((32 : Int64) * l1_4) + (((xch (xsy 17) l3_4) - (97 : Int32)) + (1 : Int32)).toInt64) (l3_4 + (1 : Int32)) h
set_option maxRecDepth 100000 in
set_option maxHeartbeats 4000000 in
theorem t_hP_X9_packed_7 {g0 g1 g2 g3 g4 g5 g6 g7 g8 g9 g10 g11 g12 g13 g14 g15 g16 g17 g18 g19 g20 g21 g22 g23 g24 g25 g26 : Int32} {a0 a1 a2 a3 a4 a5 a6 a7 a8 a9 a10 a11 a12 a13 a14 a15 a16 a17 a18 a19 a20 a21 a22 a23 : (Nat → Int32)} {b0 : (Nat → Int64)} {w0 : Int64} {k0 k1 k2 k3 k4 k5 k6 k7 k8 k9 k10 k11 k12 k13 k14 k15 : xC} {cv : Value}  (res : Int64) (h : e_hP_X9_packed (xsy 17)  = some res) (d : Nat) : xMet xks YX9_packed (d + 5) 0 0 [.ref 1017] (hP g0 g1 g2 g3 g4 g5 g6 g7 g8 g9 g10 g11 g12 g13 g14 g15 g16 g17 g18 g19 g20 g21 g22 g23 g24 g25 g26 a0 a1 a2 a3 a4 a5 a6 a7 a8 a9 a10 a11 a12 a13 a14 a15 a16 a17 a18 a19 a20 a21 a22 a23 b0 w0 k0 k1 k2 k3 k4 k5 k6 k7 k8 k9 k10 k11 k12 k13 k14 k15 cv (.ref 27)) (some (.long res)) (hP g0 g1 g2 g3 g4 g5 g6 g7 g8 g9 g10 g11 g12 g13 g14 g15 g16 g17 g18 g19 g20 g21 g22 g23 g24 g25 g26 a0 a1 a2 a3 a4 a5 a6 a7 a8 a9 a10 a11 a12 a13 a14 a15 a16 a17 a18 a19 a20 a21 a22 a23 b0 w0 k0 k1 k2 k3 k4 k5 k6 k7 k8 k9 k10 k11 k12 k13 k14 k15 cv (.ref 27)) := by
  unfold e_hP_X9_packed at h
  refine xMet_of (pl := [some (.ref 1017), none, none, none]) (by decide) (Nat.le_of_ble_eq_true rfl) rfl (Nat.le_of_ble_eq_true rfl) ?_
  refine x_lconst (0 : Int64) dX9_packed_0 (by decide) ?_
  refine x_lstore_n (pl' := [some (.ref 1017), some (.long (0 : Int64)), none, none]) dX9_packed_1 (by decide) rfl ?_
  refine x_iconst (0 : Int32) dX9_packed_2 (by decide) ?_
  refine x_istore_n (pl' := [some (.ref 1017), some (.long (0 : Int64)), none, some (.int (0 : Int32))]) dX9_packed_3 (by decide) rfl ?_
  refine x_weak (pl2 := [some (.ref 1017), some (.long (0 : Int64)), none, some (.int (0 : Int32))]) ⟨rfl, rfl, rfl, trivial⟩ ?_
  refine lp_hP_X9_packed_7_4 d _  res _ (fun l1_4 l3_4 h => ?_) 200000 (0 : Int64) (0 : Int32) h
  refine x_lload_n dX9_packed_36 rfl ?_
  cases h
  exact x_lret2 dX9_packed_37 rfl rfl
set_option maxRecDepth 100000 in
set_option maxHeartbeats 4000000 in
theorem t_hP_X9_isWord_7 {g0 g1 g2 g3 g4 g5 g6 g7 g8 g9 g10 g11 g12 g13 g14 g15 g16 g17 g18 g19 g20 g21 g22 g23 g24 g25 g26 : Int32} {a0 a1 a2 a3 a4 a5 a6 a7 a8 a9 a10 a11 a12 a13 a14 a15 a16 a17 a18 a19 a20 a21 a22 a23 : (Nat → Int32)} {b0 : (Nat → Int64)} {w0 : Int64} {k0 k1 k2 k3 k4 k5 k6 k7 k8 k9 k10 k11 k12 k13 k14 k15 : xC} {cv : Value}  (res : Int32) (h : e_hP_X9_isWord g6 w0 (xsy 17)  = some res) (d : Nat) : xMet xks YX9_isWord (d + 6) 0 0 [.ref 0, .ref 1017] (hP g0 g1 g2 g3 g4 g5 g6 g7 g8 g9 g10 g11 g12 g13 g14 g15 g16 g17 g18 g19 g20 g21 g22 g23 g24 g25 g26 a0 a1 a2 a3 a4 a5 a6 a7 a8 a9 a10 a11 a12 a13 a14 a15 a16 a17 a18 a19 a20 a21 a22 a23 b0 w0 k0 k1 k2 k3 k4 k5 k6 k7 k8 k9 k10 k11 k12 k13 k14 k15 cv (.ref 27)) (some (.int res)) (hP g0 g1 g2 g3 g4 g5 g6 g7 g8 g9 g10 g11 g12 g13 g14 g15 g16 g17 g18 g19 g20 g21 g22 g23 g24 g25 g26 a0 a1 a2 a3 a4 a5 a6 a7 a8 a9 a10 a11 a12 a13 a14 a15 a16 a17 a18 a19 a20 a21 a22 a23 b0 w0 k0 k1 k2 k3 k4 k5 k6 k7 k8 k9 k10 k11 k12 k13 k14 k15 cv (.ref 27)) := by
  unfold e_hP_X9_isWord at h
  refine xMet_of (pl := [some (.ref 0), some (.ref 1017)]) (by decide) (Nat.le_of_ble_eq_true rfl) rfl (Nat.le_of_ble_eq_true rfl) ?_
  refine x_aload_n dX9_isWord_0 rfl ?_
  refine x_get fX9_77 dX9_isWord_1 rfl rfl rfl ?_
  refine x_iconst (2 : Int32) dX9_isWord_4 (by decide) ?_
  refine x_icmp_ne 24 dX9_isWord_5 (by decide) (fun q => ?_) (fun q => ?_)
  · have h := xif_f q h
    refine x_iconst (0 : Int32) dX9_isWord_24 (by decide) ?_
    cases h
    exact x_zret2 dX9_isWord_25 rfl rfl rfl
  · have h := xif_t q h
    refine x_aload_n dX9_isWord_8 rfl ?_
    refine x_get fX9_93 dX9_isWord_9 rfl rfl rfl ?_
    refine x_aload_n dX9_isWord_12 rfl ?_
    obtain ⟨z13, y13, h⟩ := xbind h
    refine x_callS (t_hP_X9_packed_7  z13 y13 (d + 0)) kX9_109 dX9_isWord_13 rfl rfl (Nat.le_of_ble_eq_true rfl) (Nat.le_of_ble_eq_true rfl) rfl rfl (Or.inl rfl) ?_
    refine x_lcmp dX9_isWord_16 ?_
    refine x_if_ne 24 dX9_isWord_17 (by decide) (fun q => ?_) (fun q => ?_)
    · have h := xif_f q h
      refine x_iconst (0 : Int32) dX9_isWord_24 (by decide) ?_
      cases h
      exact x_zret2 dX9_isWord_25 rfl rfl rfl
    · have h := xif_t q h
      refine x_iconst (1 : Int32) dX9_isWord_20 (by decide) ?_
      refine x_goto 25 dX9_isWord_21 (by decide) ?_
      cases h
      exact x_zret2 dX9_isWord_25 rfl rfl rfl
set_option maxRecDepth 100000 in
set_option maxHeartbeats 4000000 in
theorem lp_hP_X9_packed_8_4 {g0 g1 g2 g3 g4 g5 g6 g7 g8 g9 g10 g11 g12 g13 g14 g15 g16 g17 g18 g19 g20 g21 g22 g23 g24 g25 g26 : Int32} {a0 a1 a2 a3 a4 a5 a6 a7 a8 a9 a10 a11 a12 a13 a14 a15 a16 a17 a18 a19 a20 a21 a22 a23 : (Nat → Int32)} {b0 : (Nat → Int64)} {w0 : Int64} {k0 k1 k2 k3 k4 k5 k6 k7 k8 k9 k10 k11 k12 k13 k14 k15 : xC} {cv : Value} (d n0 : Nat)  (res : Int64) (K : Int64 → Int32 → Option (Int64)) (hK : ∀ (l1_4 : Int64) (l3_4 : Int32), K l1_4 l3_4 = some res → xW xks YX9_packed (d + 5) 0 0 n0 (xZ 0 0 n0 (some (.long res)) (hP g0 g1 g2 g3 g4 g5 g6 g7 g8 g9 g10 g11 g12 g13 g14 g15 g16 g17 g18 g19 g20 g21 g22 g23 g24 g25 g26 a0 a1 a2 a3 a4 a5 a6 a7 a8 a9 a10 a11 a12 a13 a14 a15 a16 a17 a18 a19 a20 a21 a22 a23 b0 w0 k0 k1 k2 k3 k4 k5 k6 k7 k8 k9 k10 k11 k12 k13 k14 k15 cv (.ref 27))) 0 0 36 [none, some (.long l1_4), none, none] [] (hP g0 g1 g2 g3 g4 g5 g6 g7 g8 g9 g10 g11 g12 g13 g14 g15 g16 g17 g18 g19 g20 g21 g22 g23 g24 g25 g26 a0 a1 a2 a3 a4 a5 a6 a7 a8 a9 a10 a11 a12 a13 a14 a15 a16 a17 a18 a19 a20 a21 a22 a23 b0 w0 k0 k1 k2 k3 k4 k5 k6 k7 k8 k9 k10 k11 k12 k13 k14 k15 cv (.ref 27))) : ∀ (n : Nat) (l1_4 : Int64) (l3_4 : Int32), L_hP_X9_packed_4 (xsy 18)  K n l1_4 l3_4 = some res → xW xks YX9_packed (d + 5) 0 0 n0 (xZ 0 0 n0 (some (.long res)) (hP g0 g1 g2 g3 g4 g5 g6 g7 g8 g9 g10 g11 g12 g13 g14 g15 g16 g17 g18 g19 g20 g21 g22 g23 g24 g25 g26 a0 a1 a2 a3 a4 a5 a6 a7 a8 a9 a10 a11 a12 a13 a14 a15 a16 a17 a18 a19 a20 a21 a22 a23 b0 w0 k0 k1 k2 k3 k4 k5 k6 k7 k8 k9 k10 k11 k12 k13 k14 k15 cv (.ref 27))) 0 0 4 [some (.ref 1018), some (.long l1_4), none, some (.int l3_4)] [] (hP g0 g1 g2 g3 g4 g5 g6 g7 g8 g9 g10 g11 g12 g13 g14 g15 g16 g17 g18 g19 g20 g21 g22 g23 g24 g25 g26 a0 a1 a2 a3 a4 a5 a6 a7 a8 a9 a10 a11 a12 a13 a14 a15 a16 a17 a18 a19 a20 a21 a22 a23 b0 w0 k0 k1 k2 k3 k4 k5 k6 k7 k8 k9 k10 k11 k12 k13 k14 k15 cv (.ref 27)) := by
  intro n
  induction n with
  | zero =>
    intro l1_4 l3_4 h
    cases (show (none : Option (Int64)) = some res from h)
  | succ n4 ih4 =>
    intro l1_4 l3_4 h
    unfold L_hP_X9_packed_4 at h
    refine x_iload_n dX9_packed_4 rfl ?_
    refine x_aload_n dX9_packed_5 rfl ?_
    refine x_slen (k := 18) (s := xsy 18) rfl rfl (Nat.le_of_ble_eq_true rfl) kX9_65 dX9_packed_6 (Nat.le_of_ble_eq_true rfl) ?_
    refine x_icmp_ge 36 dX9_packed_9 (by decide) (fun q => ?_) (fun q => ?_)
    · have h := xif_t q h
      refine x_weak (pl2 := [none, some (.long l1_4), none, none]) ⟨rfl, trivial⟩ ?_
      exact hK l1_4 l3_4 h
    · have h := xif_f q h
      refine x_ldc2 iX9_71 dX9_packed_12 ?_
      refine x_lload_n dX9_packed_15 rfl ?_
      refine x_lmul dX9_packed_16 ?_
      refine x_aload_n dX9_packed_17 rfl ?_
      refine x_iload_n dX9_packed_18 rfl ?_
      obtain ⟨q19, h⟩ := xix_of h
      refine x_schar (k := 18) (s := xsy 18) rfl rfl q19 (Nat.le_of_ble_eq_true rfl) kX9_73 dX9_packed_19 (Nat.le_of_ble_eq_true rfl) ?_
      refine x_bipush (97 : Int32) dX9_packed_22 (by decide) ?_
      refine x_isub dX9_packed_24 ?_
      refine x_iconst (1 : Int32) dX9_packed_25 (by decide) ?_
      refine x_iadd dX9_packed_26 ?_
      refine x_i2l dX9_packed_27 ?_
      refine x_ladd dX9_packed_28 ?_
      refine x_lstore_n (pl' := [some (.ref 1018), some (.long (((32 : Int64) * l1_4) + (((xch (xsy 18) l3_4) - (97 : Int32)) + (1 : Int32)).toInt64)), none, some (.int l3_4)]) dX9_packed_29 (by decide) rfl ?_
      refine x_iincK (1 : Int32) (pl' := [some (.ref 1018), some (.long (((32 : Int64) * l1_4) + (((xch (xsy 18) l3_4) - (97 : Int32)) + (1 : Int32)).toInt64)), none, some (.int (l3_4 + (1 : Int32)))]) dX9_packed_30 rfl (by decide) (by decide) rfl ?_
      refine x_goto 4 dX9_packed_33 (by decide) ?_
      refine x_weak (pl2 := [some (.ref 1018), some (.long (((32 : Int64) * l1_4) + (((xch (xsy 18) l3_4) - (97 : Int32)) + (1 : Int32)).toInt64)), none, some (.int (l3_4 + (1 : Int32)))]) ⟨rfl, rfl, rfl, trivial⟩ ?_
      exact ih4 (((32 : Int64) * l1_4) + (((xch (xsy 18) l3_4) - (97 : Int32)) + (1 : Int32)).toInt64) (l3_4 + (1 : Int32)) h
set_option maxRecDepth 100000 in
set_option maxHeartbeats 4000000 in
theorem t_hP_X9_packed_8 {g0 g1 g2 g3 g4 g5 g6 g7 g8 g9 g10 g11 g12 g13 g14 g15 g16 g17 g18 g19 g20 g21 g22 g23 g24 g25 g26 : Int32} {a0 a1 a2 a3 a4 a5 a6 a7 a8 a9 a10 a11 a12 a13 a14 a15 a16 a17 a18 a19 a20 a21 a22 a23 : (Nat → Int32)} {b0 : (Nat → Int64)} {w0 : Int64} {k0 k1 k2 k3 k4 k5 k6 k7 k8 k9 k10 k11 k12 k13 k14 k15 : xC} {cv : Value}  (res : Int64) (h : e_hP_X9_packed (xsy 18)  = some res) (d : Nat) : xMet xks YX9_packed (d + 5) 0 0 [.ref 1018] (hP g0 g1 g2 g3 g4 g5 g6 g7 g8 g9 g10 g11 g12 g13 g14 g15 g16 g17 g18 g19 g20 g21 g22 g23 g24 g25 g26 a0 a1 a2 a3 a4 a5 a6 a7 a8 a9 a10 a11 a12 a13 a14 a15 a16 a17 a18 a19 a20 a21 a22 a23 b0 w0 k0 k1 k2 k3 k4 k5 k6 k7 k8 k9 k10 k11 k12 k13 k14 k15 cv (.ref 27)) (some (.long res)) (hP g0 g1 g2 g3 g4 g5 g6 g7 g8 g9 g10 g11 g12 g13 g14 g15 g16 g17 g18 g19 g20 g21 g22 g23 g24 g25 g26 a0 a1 a2 a3 a4 a5 a6 a7 a8 a9 a10 a11 a12 a13 a14 a15 a16 a17 a18 a19 a20 a21 a22 a23 b0 w0 k0 k1 k2 k3 k4 k5 k6 k7 k8 k9 k10 k11 k12 k13 k14 k15 cv (.ref 27)) := by
  unfold e_hP_X9_packed at h
  refine xMet_of (pl := [some (.ref 1018), none, none, none]) (by decide) (Nat.le_of_ble_eq_true rfl) rfl (Nat.le_of_ble_eq_true rfl) ?_
  refine x_lconst (0 : Int64) dX9_packed_0 (by decide) ?_
  refine x_lstore_n (pl' := [some (.ref 1018), some (.long (0 : Int64)), none, none]) dX9_packed_1 (by decide) rfl ?_
  refine x_iconst (0 : Int32) dX9_packed_2 (by decide) ?_
  refine x_istore_n (pl' := [some (.ref 1018), some (.long (0 : Int64)), none, some (.int (0 : Int32))]) dX9_packed_3 (by decide) rfl ?_
  refine x_weak (pl2 := [some (.ref 1018), some (.long (0 : Int64)), none, some (.int (0 : Int32))]) ⟨rfl, rfl, rfl, trivial⟩ ?_
  refine lp_hP_X9_packed_8_4 d _  res _ (fun l1_4 l3_4 h => ?_) 200000 (0 : Int64) (0 : Int32) h
  refine x_lload_n dX9_packed_36 rfl ?_
  cases h
  exact x_lret2 dX9_packed_37 rfl rfl
set_option maxRecDepth 100000 in
set_option maxHeartbeats 4000000 in
theorem t_hP_X9_isWord_8 {g0 g1 g2 g3 g4 g5 g6 g7 g8 g9 g10 g11 g12 g13 g14 g15 g16 g17 g18 g19 g20 g21 g22 g23 g24 g25 g26 : Int32} {a0 a1 a2 a3 a4 a5 a6 a7 a8 a9 a10 a11 a12 a13 a14 a15 a16 a17 a18 a19 a20 a21 a22 a23 : (Nat → Int32)} {b0 : (Nat → Int64)} {w0 : Int64} {k0 k1 k2 k3 k4 k5 k6 k7 k8 k9 k10 k11 k12 k13 k14 k15 : xC} {cv : Value}  (res : Int32) (h : e_hP_X9_isWord g6 w0 (xsy 18)  = some res) (d : Nat) : xMet xks YX9_isWord (d + 6) 0 0 [.ref 0, .ref 1018] (hP g0 g1 g2 g3 g4 g5 g6 g7 g8 g9 g10 g11 g12 g13 g14 g15 g16 g17 g18 g19 g20 g21 g22 g23 g24 g25 g26 a0 a1 a2 a3 a4 a5 a6 a7 a8 a9 a10 a11 a12 a13 a14 a15 a16 a17 a18 a19 a20 a21 a22 a23 b0 w0 k0 k1 k2 k3 k4 k5 k6 k7 k8 k9 k10 k11 k12 k13 k14 k15 cv (.ref 27)) (some (.int res)) (hP g0 g1 g2 g3 g4 g5 g6 g7 g8 g9 g10 g11 g12 g13 g14 g15 g16 g17 g18 g19 g20 g21 g22 g23 g24 g25 g26 a0 a1 a2 a3 a4 a5 a6 a7 a8 a9 a10 a11 a12 a13 a14 a15 a16 a17 a18 a19 a20 a21 a22 a23 b0 w0 k0 k1 k2 k3 k4 k5 k6 k7 k8 k9 k10 k11 k12 k13 k14 k15 cv (.ref 27)) := by
  unfold e_hP_X9_isWord at h
  refine xMet_of (pl := [some (.ref 0), some (.ref 1018)]) (by decide) (Nat.le_of_ble_eq_true rfl) rfl (Nat.le_of_ble_eq_true rfl) ?_
  refine x_aload_n dX9_isWord_0 rfl ?_
  refine x_get fX9_77 dX9_isWord_1 rfl rfl rfl ?_
  refine x_iconst (2 : Int32) dX9_isWord_4 (by decide) ?_
  refine x_icmp_ne 24 dX9_isWord_5 (by decide) (fun q => ?_) (fun q => ?_)
  · have h := xif_f q h
    refine x_iconst (0 : Int32) dX9_isWord_24 (by decide) ?_
    cases h
    exact x_zret2 dX9_isWord_25 rfl rfl rfl
  · have h := xif_t q h
    refine x_aload_n dX9_isWord_8 rfl ?_
    refine x_get fX9_93 dX9_isWord_9 rfl rfl rfl ?_
    refine x_aload_n dX9_isWord_12 rfl ?_
    obtain ⟨z13, y13, h⟩ := xbind h
    refine x_callS (t_hP_X9_packed_8  z13 y13 (d + 0)) kX9_109 dX9_isWord_13 rfl rfl (Nat.le_of_ble_eq_true rfl) (Nat.le_of_ble_eq_true rfl) rfl rfl (Or.inl rfl) ?_
    refine x_lcmp dX9_isWord_16 ?_
    refine x_if_ne 24 dX9_isWord_17 (by decide) (fun q => ?_) (fun q => ?_)
    · have h := xif_f q h
      refine x_iconst (0 : Int32) dX9_isWord_24 (by decide) ?_
      cases h
      exact x_zret2 dX9_isWord_25 rfl rfl rfl
    · have h := xif_t q h
      refine x_iconst (1 : Int32) dX9_isWord_20 (by decide) ?_
      refine x_goto 25 dX9_isWord_21 (by decide) ?_
      cases h
      exact x_zret2 dX9_isWord_25 rfl rfl rfl
noncomputable def e_hP_X9_lineBegins (p0 : Int32) (p1 : Int32) (p2 : Int32) (p3 : Int32) (p4 : (Nat → Int32)) (p5 : Int32) (p6 : Int32) (p7 : Int64) (p8 : Int32) (p9 : Int32) (x1 : Int32) (x2 : Int32) : Option (Int32 × Int32 × Int32 × Int32 × Int64 × Int32 × Int32) :=
  if x1 = x2 then ((e_hP_X9_flaw p1 p8 p5 p9 (5 : Int32)).bind fun z7 => if p0 = (0 : Int32) then ((e_hP_X9_flaw z7.2.2 z7.1 p5 z7.2.1 (6 : Int32)).bind fun z23 => (e_hP_X9_goesOn z23.2.2 p2 p3 p4 p5 p6 p7).bind fun z27 => some (z27.1, z27.2.1, z27.2.2.1, z27.2.2.2.1, z27.2.2.2.2, z23.1, z23.2.1)) else ((e_hP_X9_goesOn z7.2.2 p2 p3 p4 p5 p6 p7).bind fun z27 => some (z27.1, z27.2.1, z27.2.2.1, z27.2.2.2.1, z27.2.2.2.2, z7.1, z7.2.1))) else if p0 = (0 : Int32) then ((e_hP_X9_flaw p1 p8 p5 p9 (6 : Int32)).bind fun z23 => (e_hP_X9_goesOn z23.2.2 p2 p3 p4 p5 p6 p7).bind fun z27 => some (z27.1, z27.2.1, z27.2.2.1, z27.2.2.2.1, z27.2.2.2.2, z23.1, z23.2.1)) else ((e_hP_X9_goesOn p1 p2 p3 p4 p5 p6 p7).bind fun z27 => some (z27.1, z27.2.1, z27.2.2.1, z27.2.2.2.1, z27.2.2.2.2, p8, p9))
set_option maxRecDepth 100000 in
set_option maxHeartbeats 4000000 in
theorem t_hP_X9_lineBegins {g0 g1 g2 g3 g4 g5 g6 g7 g8 g9 g10 g11 g12 g13 g14 g15 g16 g17 g18 g19 g20 g21 g22 g23 g24 g25 g26 : Int32} {a0 a1 a2 a3 a4 a5 a6 a7 a8 a9 a10 a11 a12 a13 a14 a15 a16 a17 a18 a19 a20 a21 a22 a23 : (Nat → Int32)} {b0 : (Nat → Int64)} {w0 : Int64} {k0 k1 k2 k3 k4 k5 k6 k7 k8 k9 k10 k11 k12 k13 k14 k15 : xC} {cv : Value} (x1 : Int32) (x2 : Int32) (res : Int32 × Int32 × Int32 × Int32 × Int64 × Int32 × Int32) (h : e_hP_X9_lineBegins g19 g6 g5 g4 a0 g7 g8 w0 g9 g10 x1 x2 = some res) (d : Nat) : xMet xks YX9_lineBegins (d + 3) 0 0 [.ref 0, .int x1, .int x2] (hP g0 g1 g2 g3 g4 g5 g6 g7 g8 g9 g10 g11 g12 g13 g14 g15 g16 g17 g18 g19 g20 g21 g22 g23 g24 g25 g26 a0 a1 a2 a3 a4 a5 a6 a7 a8 a9 a10 a11 a12 a13 a14 a15 a16 a17 a18 a19 a20 a21 a22 a23 b0 w0 k0 k1 k2 k3 k4 k5 k6 k7 k8 k9 k10 k11 k12 k13 k14 k15 cv (.ref 27)) none (hP g0 g1 g2 g3 g4 res.2.2.1 res.2.1 res.1 res.2.2.2.1 res.2.2.2.2.2.1 res.2.2.2.2.2.2 g11 g12 g13 g14 g15 g16 g17 g18 g19 g20 g21 g22 g23 g24 g25 g26 a0 a1 a2 a3 a4 a5 a6 a7 a8 a9 a10 a11 a12 a13 a14 a15 a16 a17 a18 a19 a20 a21 a22 a23 b0 res.2.2.2.2.1 k0 k1 k2 k3 k4 k5 k6 k7 k8 k9 k10 k11 k12 k13 k14 k15 cv (.ref 27)) := by
  unfold e_hP_X9_lineBegins at h
  refine xMet_of (pl := [some (.ref 0), some (.int x1), some (.int x2)]) (by decide) (Nat.le_of_ble_eq_true rfl) rfl (Nat.le_of_ble_eq_true rfl) ?_
  refine x_iload_n dX9_lineBegins_0 rfl ?_
  refine x_iload_n dX9_lineBegins_1 rfl ?_
  refine x_icmp_ne 10 dX9_lineBegins_2 (by decide) (fun q => ?_) (fun q => ?_)
  · have h := xif_f q h
    refine x_aload_n dX9_lineBegins_10 rfl ?_
    refine x_get fX9_152 dX9_lineBegins_11 rfl rfl rfl ?_
    refine x_get fX9_156 dX9_lineBegins_14 rfl rfl rfl ?_
    refine x_if_ne 26 dX9_lineBegins_17 (by decide) (fun q => ?_) (fun q => ?_)
    · have h := xif_f q h
      refine x_aload_n dX9_lineBegins_26 rfl ?_
      obtain ⟨z27, y27, h⟩ := xbind h
      refine x_callV (t_hP_X9_goesOn  z27 y27 (d + 0)) kX9_113 dX9_lineBegins_27 rfl rfl rfl rfl rfl (Nat.le_of_ble_eq_true rfl) (Nat.le_of_ble_eq_true rfl) rfl rfl (Or.inl rfl) ?_
      cases h
      exact x_vret2 dX9_lineBegins_30 rfl rfl
    · have h := xif_t q h
      refine x_aload_n dX9_lineBegins_20 rfl ?_
      refine x_bipush (6 : Int32) dX9_lineBegins_21 (by decide) ?_
      obtain ⟨z23, y23, h⟩ := xbind h
      refine x_callV (t_hP_X9_flaw (6 : Int32) z23 y23 (d + 1)) kX9_120 dX9_lineBegins_23 rfl rfl rfl rfl rfl (Nat.le_of_ble_eq_true rfl) (Nat.le_of_ble_eq_true rfl) rfl rfl (Or.inl rfl) ?_
      refine x_aload_n dX9_lineBegins_26 rfl ?_
      obtain ⟨z27, y27, h⟩ := xbind h
      refine x_callV (t_hP_X9_goesOn  z27 y27 (d + 0)) kX9_113 dX9_lineBegins_27 rfl rfl rfl rfl rfl (Nat.le_of_ble_eq_true rfl) (Nat.le_of_ble_eq_true rfl) rfl rfl (Or.inl rfl) ?_
      cases h
      exact x_vret2 dX9_lineBegins_30 rfl rfl
  · have h := xif_t q h
    refine x_aload_n dX9_lineBegins_5 rfl ?_
    refine x_iconst (5 : Int32) dX9_lineBegins_6 (by decide) ?_
    obtain ⟨z7, y7, h⟩ := xbind h
    refine x_callV (t_hP_X9_flaw (5 : Int32) z7 y7 (d + 1)) kX9_120 dX9_lineBegins_7 rfl rfl rfl rfl rfl (Nat.le_of_ble_eq_true rfl) (Nat.le_of_ble_eq_true rfl) rfl rfl (Or.inl rfl) ?_
    refine x_aload_n dX9_lineBegins_10 rfl ?_
    refine x_get fX9_152 dX9_lineBegins_11 rfl rfl rfl ?_
    refine x_get fX9_156 dX9_lineBegins_14 rfl rfl rfl ?_
    refine x_if_ne 26 dX9_lineBegins_17 (by decide) (fun q => ?_) (fun q => ?_)
    · have h := xif_f q h
      refine x_aload_n dX9_lineBegins_26 rfl ?_
      obtain ⟨z27, y27, h⟩ := xbind h
      refine x_callV (t_hP_X9_goesOn  z27 y27 (d + 0)) kX9_113 dX9_lineBegins_27 rfl rfl rfl rfl rfl (Nat.le_of_ble_eq_true rfl) (Nat.le_of_ble_eq_true rfl) rfl rfl (Or.inl rfl) ?_
      cases h
      exact x_vret2 dX9_lineBegins_30 rfl rfl
    · have h := xif_t q h
      refine x_aload_n dX9_lineBegins_20 rfl ?_
      refine x_bipush (6 : Int32) dX9_lineBegins_21 (by decide) ?_
      obtain ⟨z23, y23, h⟩ := xbind h
      refine x_callV (t_hP_X9_flaw (6 : Int32) z23 y23 (d + 1)) kX9_120 dX9_lineBegins_23 rfl rfl rfl rfl rfl (Nat.le_of_ble_eq_true rfl) (Nat.le_of_ble_eq_true rfl) rfl rfl (Or.inl rfl) ?_
      refine x_aload_n dX9_lineBegins_26 rfl ?_
      obtain ⟨z27, y27, h⟩ := xbind h
      refine x_callV (t_hP_X9_goesOn  z27 y27 (d + 0)) kX9_113 dX9_lineBegins_27 rfl rfl rfl rfl rfl (Nat.le_of_ble_eq_true rfl) (Nat.le_of_ble_eq_true rfl) rfl rfl (Or.inl rfl) ?_
      cases h
      exact x_vret2 dX9_lineBegins_30 rfl rfl
noncomputable def e_hP_X9_isName (p0 : Int32) (p1 : Int64)  : Option (Int32) :=
  if p0 = (2 : Int32) then ((e_hP_X9_isWord p0 p1 (xsy 11)).bind fun z11 => if z11 = (0 : Int32) then ((e_hP_X9_isWord p0 p1 (xsy 12)).bind fun z20 => if z20 = (0 : Int32) then ((e_hP_X9_isWord p0 p1 (xsy 13)).bind fun z29 => if z29 = (0 : Int32) then ((e_hP_X9_isWord p0 p1 (xsy 14)).bind fun z38 => if z38 = (0 : Int32) then ((e_hP_X9_isWord p0 p1 (xsy 15)).bind fun z49 => if z49 = (0 : Int32) then ((e_hP_X9_isWord p0 p1 (xsy 16)).bind fun z58 => if z58 = (0 : Int32) then ((e_hP_X9_isWord p0 p1 (xsy 17)).bind fun z67 => if z67 = (0 : Int32) then ((e_hP_X9_isWord p0 p1 (xsy 18)).bind fun z76 => if z76 = (0 : Int32) then some (1 : Int32) else some (0 : Int32)) else some (0 : Int32)) else some (0 : Int32)) else some (0 : Int32)) else some (0 : Int32)) else some (0 : Int32)) else some (0 : Int32)) else some (0 : Int32)) else some (0 : Int32)
set_option maxRecDepth 100000 in
set_option maxHeartbeats 4000000 in
theorem t_hP_X9_isName {g0 g1 g2 g3 g4 g5 g6 g7 g8 g9 g10 g11 g12 g13 g14 g15 g16 g17 g18 g19 g20 g21 g22 g23 g24 g25 g26 : Int32} {a0 a1 a2 a3 a4 a5 a6 a7 a8 a9 a10 a11 a12 a13 a14 a15 a16 a17 a18 a19 a20 a21 a22 a23 : (Nat → Int32)} {b0 : (Nat → Int64)} {w0 : Int64} {k0 k1 k2 k3 k4 k5 k6 k7 k8 k9 k10 k11 k12 k13 k14 k15 : xC} {cv : Value}  (res : Int32) (h : e_hP_X9_isName g6 w0  = some res) (d : Nat) : xMet xks YX9_isName (d + 7) 0 0 [.ref 0] (hP g0 g1 g2 g3 g4 g5 g6 g7 g8 g9 g10 g11 g12 g13 g14 g15 g16 g17 g18 g19 g20 g21 g22 g23 g24 g25 g26 a0 a1 a2 a3 a4 a5 a6 a7 a8 a9 a10 a11 a12 a13 a14 a15 a16 a17 a18 a19 a20 a21 a22 a23 b0 w0 k0 k1 k2 k3 k4 k5 k6 k7 k8 k9 k10 k11 k12 k13 k14 k15 cv (.ref 27)) (some (.int res)) (hP g0 g1 g2 g3 g4 g5 g6 g7 g8 g9 g10 g11 g12 g13 g14 g15 g16 g17 g18 g19 g20 g21 g22 g23 g24 g25 g26 a0 a1 a2 a3 a4 a5 a6 a7 a8 a9 a10 a11 a12 a13 a14 a15 a16 a17 a18 a19 a20 a21 a22 a23 b0 w0 k0 k1 k2 k3 k4 k5 k6 k7 k8 k9 k10 k11 k12 k13 k14 k15 cv (.ref 27)) := by
  unfold e_hP_X9_isName at h
  refine xMet_of (pl := [some (.ref 0)]) (by decide) (Nat.le_of_ble_eq_true rfl) rfl (Nat.le_of_ble_eq_true rfl) ?_
  refine x_aload_n dX9_isName_0 rfl ?_
  refine x_get fX9_77 dX9_isName_1 rfl rfl rfl ?_
  refine x_iconst (2 : Int32) dX9_isName_4 (by decide) ?_
  refine x_icmp_ne 44 dX9_isName_5 (by decide) (fun q => ?_) (fun q => ?_)
  · have h := xif_f q h
    refine x_iconst (0 : Int32) dX9_isName_44 (by decide) ?_
    cases h
    exact x_zret2 dX9_isName_45 rfl rfl rfl
  · have h := xif_t q h
    refine x_aload_n dX9_isName_8 rfl ?_
    refine x_ldcS (k := 11) rfl rfl rfl dX9_isName_9 ?_
    obtain ⟨z11, y11, h⟩ := xbind h
    refine x_callV (t_hP_X9_isWord  z11 y11 (d + 0)) kX9_116 dX9_isName_11 rfl rfl rfl rfl rfl (Nat.le_of_ble_eq_true rfl) (Nat.le_of_ble_eq_true rfl) rfl rfl (Or.inl rfl) ?_
    refine x_if_ne 44 dX9_isName_14 (by decide) (fun q => ?_) (fun q => ?_)
    · have h := xif_f q h
      refine x_iconst (0 : Int32) dX9_isName_44 (by decide) ?_
      cases h
      exact x_zret2 dX9_isName_45 rfl rfl rfl
    · have h := xif_t q h
      refine x_aload_n dX9_isName_17 rfl ?_
      refine x_ldcS (k := 12) rfl rfl rfl dX9_isName_18 ?_
      obtain ⟨z20, y20, h⟩ := xbind h
      refine x_callV (t_hP_X9_isWord_2  z20 y20 (d + 0)) kX9_116 dX9_isName_20 rfl rfl rfl rfl rfl (Nat.le_of_ble_eq_true rfl) (Nat.le_of_ble_eq_true rfl) rfl rfl (Or.inl rfl) ?_
      refine x_if_ne 44 dX9_isName_23 (by decide) (fun q => ?_) (fun q => ?_)
      · have h := xif_f q h
        refine x_iconst (0 : Int32) dX9_isName_44 (by decide) ?_
        cases h
        exact x_zret2 dX9_isName_45 rfl rfl rfl
      · have h := xif_t q h
        refine x_aload_n dX9_isName_26 rfl ?_
        refine x_ldcS (k := 13) rfl rfl rfl dX9_isName_27 ?_
        obtain ⟨z29, y29, h⟩ := xbind h
        refine x_callV (t_hP_X9_isWord_3  z29 y29 (d + 0)) kX9_116 dX9_isName_29 rfl rfl rfl rfl rfl (Nat.le_of_ble_eq_true rfl) (Nat.le_of_ble_eq_true rfl) rfl rfl (Or.inl rfl) ?_
        refine x_if_ne 44 dX9_isName_32 (by decide) (fun q => ?_) (fun q => ?_)
        · have h := xif_f q h
          refine x_iconst (0 : Int32) dX9_isName_44 (by decide) ?_
          cases h
          exact x_zret2 dX9_isName_45 rfl rfl rfl
        · have h := xif_t q h
          refine x_aload_n dX9_isName_35 rfl ?_
          refine x_ldcS (k := 14) rfl rfl rfl dX9_isName_36 ?_
          obtain ⟨z38, y38, h⟩ := xbind h
          refine x_callV (t_hP_X9_isWord_4  z38 y38 (d + 0)) kX9_116 dX9_isName_38 rfl rfl rfl rfl rfl (Nat.le_of_ble_eq_true rfl) (Nat.le_of_ble_eq_true rfl) rfl rfl (Or.inl rfl) ?_
          refine x_if_eq 46 dX9_isName_41 (by decide) (fun q => ?_) (fun q => ?_)
          · have h := xif_t q h
            refine x_aload_n dX9_isName_46 rfl ?_
            refine x_ldcS (k := 15) rfl rfl rfl dX9_isName_47 ?_
            obtain ⟨z49, y49, h⟩ := xbind h
            refine x_callV (t_hP_X9_isWord_5  z49 y49 (d + 0)) kX9_116 dX9_isName_49 rfl rfl rfl rfl rfl (Nat.le_of_ble_eq_true rfl) (Nat.le_of_ble_eq_true rfl) rfl rfl (Or.inl rfl) ?_
            refine x_if_ne 86 dX9_isName_52 (by decide) (fun q => ?_) (fun q => ?_)
            · have h := xif_f q h
              refine x_iconst (0 : Int32) dX9_isName_86 (by decide) ?_
              cases h
              exact x_zret2 dX9_isName_87 rfl rfl rfl
            · have h := xif_t q h
              refine x_aload_n dX9_isName_55 rfl ?_
              refine x_ldcS (k := 16) rfl rfl rfl dX9_isName_56 ?_
              obtain ⟨z58, y58, h⟩ := xbind h
              refine x_callV (t_hP_X9_isWord_6  z58 y58 (d + 0)) kX9_116 dX9_isName_58 rfl rfl rfl rfl rfl (Nat.le_of_ble_eq_true rfl) (Nat.le_of_ble_eq_true rfl) rfl rfl (Or.inl rfl) ?_
              refine x_if_ne 86 dX9_isName_61 (by decide) (fun q => ?_) (fun q => ?_)
              · have h := xif_f q h
                refine x_iconst (0 : Int32) dX9_isName_86 (by decide) ?_
                cases h
                exact x_zret2 dX9_isName_87 rfl rfl rfl
              · have h := xif_t q h
                refine x_aload_n dX9_isName_64 rfl ?_
                refine x_ldcS (k := 17) rfl rfl rfl dX9_isName_65 ?_
                obtain ⟨z67, y67, h⟩ := xbind h
                refine x_callV (t_hP_X9_isWord_7  z67 y67 (d + 0)) kX9_116 dX9_isName_67 rfl rfl rfl rfl rfl (Nat.le_of_ble_eq_true rfl) (Nat.le_of_ble_eq_true rfl) rfl rfl (Or.inl rfl) ?_
                refine x_if_ne 86 dX9_isName_70 (by decide) (fun q => ?_) (fun q => ?_)
                · have h := xif_f q h
                  refine x_iconst (0 : Int32) dX9_isName_86 (by decide) ?_
                  cases h
                  exact x_zret2 dX9_isName_87 rfl rfl rfl
                · have h := xif_t q h
                  refine x_aload_n dX9_isName_73 rfl ?_
                  refine x_ldcS (k := 18) rfl rfl rfl dX9_isName_74 ?_
                  obtain ⟨z76, y76, h⟩ := xbind h
                  refine x_callV (t_hP_X9_isWord_8  z76 y76 (d + 0)) kX9_116 dX9_isName_76 rfl rfl rfl rfl rfl (Nat.le_of_ble_eq_true rfl) (Nat.le_of_ble_eq_true rfl) rfl rfl (Or.inl rfl) ?_
                  refine x_if_ne 86 dX9_isName_79 (by decide) (fun q => ?_) (fun q => ?_)
                  · have h := xif_f q h
                    refine x_iconst (0 : Int32) dX9_isName_86 (by decide) ?_
                    cases h
                    exact x_zret2 dX9_isName_87 rfl rfl rfl
                  · have h := xif_t q h
                    refine x_iconst (1 : Int32) dX9_isName_82 (by decide) ?_
                    refine x_goto 87 dX9_isName_83 (by decide) ?_
                    cases h
                    exact x_zret2 dX9_isName_87 rfl rfl rfl
          · have h := xif_f q h
            refine x_iconst (0 : Int32) dX9_isName_44 (by decide) ?_
            cases h
            exact x_zret2 dX9_isName_45 rfl rfl rfl
noncomputable def L_hP_X8_find_2 (p0 : Int32) (p1 : (Nat → Int64))  (f1 : Int64) (K : Int32 → Option (Int32)) : Nat → Int32 → Option (Int32)
  | 0, _ => none
  | n2 + 1, l3_2 => if p0 ≤ l3_2 then K l3_2 else (xix l3_2 11 (if (lg_cmp (p1 l3_2.toNatClampNeg) f1) = (0 : Int32) then some l3_2 else L_hP_X8_find_2 p0 p1 f1 K n2 (l3_2 + (1 : Int32))))
noncomputable def e_hP_X8_find (p0 : Int32) (p1 : (Nat → Int64)) (x1 : Int64) : Option (Int32) :=
  L_hP_X8_find_2 p0 p1 x1 (fun l3_2 => some (-1 : Int32)) 200000 (0 : Int32)
set_option maxRecDepth 100000 in
set_option maxHeartbeats 4000000 in
theorem lp_hP_X8_find_2 {g0 g1 g2 g3 g4 g5 g6 g7 g8 g9 g10 g11 g12 g13 g14 g15 g16 g17 g18 g19 g20 g21 g22 g23 g24 g25 g26 : Int32} {a0 a1 a2 a3 a4 a5 a6 a7 a8 a9 a10 a11 a12 a13 a14 a15 a16 a17 a18 a19 a20 a21 a22 a23 : (Nat → Int32)} {b0 : (Nat → Int64)} {w0 : Int64} {k0 k1 k2 k3 k4 k5 k6 k7 k8 k9 k10 k11 k12 k13 k14 k15 : xC} {cv : Value} (d n0 : Nat) (f1 : Int64) (res : Int32) (K : Int32 → Option (Int32)) (hK : ∀ (l3_2 : Int32), K l3_2 = some res → xW xks YX8_find (d + 1) 0 0 n0 (xZ 0 0 n0 (some (.int res)) (hP g0 g1 g2 g3 g4 g5 g6 g7 g8 g9 g10 g11 g12 g13 g14 g15 g16 g17 g18 g19 g20 g21 g22 g23 g24 g25 g26 a0 a1 a2 a3 a4 a5 a6 a7 a8 a9 a10 a11 a12 a13 a14 a15 a16 a17 a18 a19 a20 a21 a22 a23 b0 w0 k0 k1 k2 k3 k4 k5 k6 k7 k8 k9 k10 k11 k12 k13 k14 k15 cv (.ref 27))) 0 0 29 [none, none, none, none] [] (hP g0 g1 g2 g3 g4 g5 g6 g7 g8 g9 g10 g11 g12 g13 g14 g15 g16 g17 g18 g19 g20 g21 g22 g23 g24 g25 g26 a0 a1 a2 a3 a4 a5 a6 a7 a8 a9 a10 a11 a12 a13 a14 a15 a16 a17 a18 a19 a20 a21 a22 a23 b0 w0 k0 k1 k2 k3 k4 k5 k6 k7 k8 k9 k10 k11 k12 k13 k14 k15 cv (.ref 27))) : ∀ (n : Nat) (l3_2 : Int32), L_hP_X8_find_2 g26 b0 f1 K n l3_2 = some res → xW xks YX8_find (d + 1) 0 0 n0 (xZ 0 0 n0 (some (.int res)) (hP g0 g1 g2 g3 g4 g5 g6 g7 g8 g9 g10 g11 g12 g13 g14 g15 g16 g17 g18 g19 g20 g21 g22 g23 g24 g25 g26 a0 a1 a2 a3 a4 a5 a6 a7 a8 a9 a10 a11 a12 a13 a14 a15 a16 a17 a18 a19 a20 a21 a22 a23 b0 w0 k0 k1 k2 k3 k4 k5 k6 k7 k8 k9 k10 k11 k12 k13 k14 k15 cv (.ref 27))) 0 0 2 [some (.ref 27), some (.long f1), none, some (.int l3_2)] [] (hP g0 g1 g2 g3 g4 g5 g6 g7 g8 g9 g10 g11 g12 g13 g14 g15 g16 g17 g18 g19 g20 g21 g22 g23 g24 g25 g26 a0 a1 a2 a3 a4 a5 a6 a7 a8 a9 a10 a11 a12 a13 a14 a15 a16 a17 a18 a19 a20 a21 a22 a23 b0 w0 k0 k1 k2 k3 k4 k5 k6 k7 k8 k9 k10 k11 k12 k13 k14 k15 cv (.ref 27)) := by
  intro n
  induction n with
  | zero =>
    intro l3_2 h
    cases (show (none : Option (Int32)) = some res from h)
  | succ n2 ih2 =>
    intro l3_2 h
    unfold L_hP_X8_find_2 at h
    refine x_iload_n dX8_find_2 rfl ?_
    refine x_aload_n dX8_find_3 rfl ?_
    refine x_get fX8_58 dX8_find_4 rfl rfl rfl ?_
    refine x_icmp_ge 29 dX8_find_7 (by decide) (fun q => ?_) (fun q => ?_)
    · have h := xif_t q h
      refine x_weak (pl2 := [none, none, none, none]) trivial ?_
      exact hK l3_2 h
    · have h := xif_f q h
      refine x_aload_n dX8_find_10 rfl ?_
      refine x_get fX8_48 dX8_find_11 rfl rfl rfl ?_
      refine x_iload_n dX8_find_14 rfl ?_
      obtain ⟨q15, h⟩ := xix_of h
      refine x_lald dX8_find_15 rfl q15 ?_
      refine x_lload_n dX8_find_16 rfl ?_
      refine x_lcmp dX8_find_17 ?_
      refine x_if_ne 23 dX8_find_18 (by decide) (fun q => ?_) (fun q => ?_)
      · have h := xif_f q h
        refine x_iincK (1 : Int32) (pl' := [some (.ref 27), some (.long f1), none, some (.int (l3_2 + (1 : Int32)))]) dX8_find_23 rfl (by decide) (by decide) rfl ?_
        refine x_goto 2 dX8_find_26 (by decide) ?_
        refine x_weak (pl2 := [some (.ref 27), some (.long f1), none, some (.int (l3_2 + (1 : Int32)))]) ⟨rfl, rfl, rfl, trivial⟩ ?_
        exact ih2 (l3_2 + (1 : Int32)) h
      · have h := xif_t q h
        refine x_iload_n dX8_find_21 rfl ?_
        cases h
        exact x_iret2 dX8_find_22 rfl rfl
set_option maxRecDepth 100000 in
set_option maxHeartbeats 4000000 in
theorem t_hP_X8_find {g0 g1 g2 g3 g4 g5 g6 g7 g8 g9 g10 g11 g12 g13 g14 g15 g16 g17 g18 g19 g20 g21 g22 g23 g24 g25 g26 : Int32} {a0 a1 a2 a3 a4 a5 a6 a7 a8 a9 a10 a11 a12 a13 a14 a15 a16 a17 a18 a19 a20 a21 a22 a23 : (Nat → Int32)} {b0 : (Nat → Int64)} {w0 : Int64} {k0 k1 k2 k3 k4 k5 k6 k7 k8 k9 k10 k11 k12 k13 k14 k15 : xC} {cv : Value} (x1 : Int64) (res : Int32) (h : e_hP_X8_find g26 b0 x1 = some res) (d : Nat) : xMet xks YX8_find (d + 1) 0 0 [.ref 27, .long x1] (hP g0 g1 g2 g3 g4 g5 g6 g7 g8 g9 g10 g11 g12 g13 g14 g15 g16 g17 g18 g19 g20 g21 g22 g23 g24 g25 g26 a0 a1 a2 a3 a4 a5 a6 a7 a8 a9 a10 a11 a12 a13 a14 a15 a16 a17 a18 a19 a20 a21 a22 a23 b0 w0 k0 k1 k2 k3 k4 k5 k6 k7 k8 k9 k10 k11 k12 k13 k14 k15 cv (.ref 27)) (some (.int res)) (hP g0 g1 g2 g3 g4 g5 g6 g7 g8 g9 g10 g11 g12 g13 g14 g15 g16 g17 g18 g19 g20 g21 g22 g23 g24 g25 g26 a0 a1 a2 a3 a4 a5 a6 a7 a8 a9 a10 a11 a12 a13 a14 a15 a16 a17 a18 a19 a20 a21 a22 a23 b0 w0 k0 k1 k2 k3 k4 k5 k6 k7 k8 k9 k10 k11 k12 k13 k14 k15 cv (.ref 27)) := by
  unfold e_hP_X8_find at h
  refine xMet_of (pl := [some (.ref 27), some (.long x1), none, none]) (by decide) (Nat.le_of_ble_eq_true rfl) rfl (Nat.le_of_ble_eq_true rfl) ?_
  refine x_iconst (0 : Int32) dX8_find_0 (by decide) ?_
  refine x_istore_n (pl' := [some (.ref 27), some (.long x1), none, some (.int (0 : Int32))]) dX8_find_1 (by decide) rfl ?_
  refine x_weak (pl2 := [some (.ref 27), some (.long x1), none, some (.int (0 : Int32))]) ⟨rfl, rfl, rfl, trivial⟩ ?_
  refine lp_hP_X8_find_2 d _ x1 res _ (fun l3_2 h => ?_) 200000 (0 : Int32) h
  refine x_iconst (-1 : Int32) dX8_find_29 (by decide) ?_
  cases h
  exact x_iret2 dX8_find_30 rfl rfl
noncomputable def J_hP_X9_knownOne_42 (p0 : Int32) (p1 : Int64) (p2 : Int32) (p3 : (Nat → Int64)) (p4 : Int32) (p5 : Int32) (p6 : Int32) (p7 : (Nat → Int32)) (p8 : (Nat → Int32)) (f2 : Int32) : Option (Int32 × Int32 × Int32 × Int32) :=
  ((e_hP_X9_flaw p0 p4 p5 p6 (2 : Int32)).bind fun z44 => if z44.2.2 = (5 : Int32) then some ((0 : Int32), z44.1, z44.2.1, z44.2.2) else (xix f2 11 (some ((p7 f2.toNatClampNeg), z44.1, z44.2.1, z44.2.2))))
noncomputable def J_hP_X9_knownOne_12 (p0 : Int32) (p1 : Int64) (p2 : Int32) (p3 : (Nat → Int64)) (p4 : Int32) (p5 : Int32) (p6 : Int32) (p7 : (Nat → Int32)) (p8 : (Nat → Int32)) (f1 : Int32) : Option (Int32 × Int32 × Int32 × Int32) :=
  ((e_hP_X8_find p2 p3 p1).bind fun z20 => if z20 = (-1 : Int32) then J_hP_X9_knownOne_42 p0 p1 p2 p3 p4 p5 p6 p7 p8 z20 else (xix z20 11 (if (p8 z20.toNatClampNeg) = f1 then if p0 = (5 : Int32) then some ((0 : Int32), p4, p6, p0) else (xix z20 11 (some ((p7 z20.toNatClampNeg), p4, p6, p0))) else J_hP_X9_knownOne_42 p0 p1 p2 p3 p4 p5 p6 p7 p8 z20)))
noncomputable def e_hP_X9_knownOne (p0 : Int32) (p1 : Int64) (p2 : Int32) (p3 : (Nat → Int64)) (p4 : Int32) (p5 : Int32) (p6 : Int32) (p7 : (Nat → Int32)) (p8 : (Nat → Int32)) (x1 : Int32) : Option (Int32 × Int32 × Int32 × Int32) :=
  ((e_hP_X9_isName p0 p1).bind fun z1 => if z1 = (0 : Int32) then ((e_hP_X9_flaw p0 p4 p5 p6 (1 : Int32)).bind fun z9 => J_hP_X9_knownOne_12 z9.2.2 p1 p2 p3 z9.1 p5 z9.2.1 p7 p8 x1) else J_hP_X9_knownOne_12 p0 p1 p2 p3 p4 p5 p6 p7 p8 x1)
set_option maxRecDepth 100000 in
set_option maxHeartbeats 4000000 in
theorem jn_hP_X9_knownOne_42 {g0 g1 g2 g3 g4 g5 g6 g7 g8 g9 g10 g11 g12 g13 g14 g15 g16 g17 g18 g19 g20 g21 g22 g23 g24 g25 g26 : Int32} {a0 a1 a2 a3 a4 a5 a6 a7 a8 a9 a10 a11 a12 a13 a14 a15 a16 a17 a18 a19 a20 a21 a22 a23 : (Nat → Int32)} {b0 : (Nat → Int64)} {w0 : Int64} {k0 k1 k2 k3 k4 k5 k6 k7 k8 k9 k10 k11 k12 k13 k14 k15 : xC} {cv : Value} (d n0 : Nat) (f2 : Int32) (res : Int32 × Int32 × Int32 × Int32) (h : J_hP_X9_knownOne_42 g6 w0 g26 b0 g9 g7 g10 a23 a22 f2 = some res) : xW xks YX9_knownOne (d + 8) 0 0 n0 (xZ 0 0 n0 (some (.int res.1)) (hP g0 g1 g2 g3 g4 g5 res.2.2.2 g7 g8 res.2.1 res.2.2.1 g11 g12 g13 g14 g15 g16 g17 g18 g19 g20 g21 g22 g23 g24 g25 g26 a0 a1 a2 a3 a4 a5 a6 a7 a8 a9 a10 a11 a12 a13 a14 a15 a16 a17 a18 a19 a20 a21 a22 a23 b0 w0 k0 k1 k2 k3 k4 k5 k6 k7 k8 k9 k10 k11 k12 k13 k14 k15 cv (.ref 27))) 0 0 42 [some (.ref 0), none, some (.int f2)] [] (hP g0 g1 g2 g3 g4 g5 g6 g7 g8 g9 g10 g11 g12 g13 g14 g15 g16 g17 g18 g19 g20 g21 g22 g23 g24 g25 g26 a0 a1 a2 a3 a4 a5 a6 a7 a8 a9 a10 a11 a12 a13 a14 a15 a16 a17 a18 a19 a20 a21 a22 a23 b0 w0 k0 k1 k2 k3 k4 k5 k6 k7 k8 k9 k10 k11 k12 k13 k14 k15 cv (.ref 27)) := by
  unfold J_hP_X9_knownOne_42 at h
  refine x_aload_n dX9_knownOne_42 rfl ?_
  refine x_iconst (2 : Int32) dX9_knownOne_43 (by decide) ?_
  obtain ⟨z44, y44, h⟩ := xbind h
  refine x_callV (t_hP_X9_flaw (2 : Int32) z44 y44 (d + 6)) kX9_120 dX9_knownOne_44 rfl rfl rfl rfl rfl (Nat.le_of_ble_eq_true rfl) (Nat.le_of_ble_eq_true rfl) rfl rfl (Or.inl rfl) ?_
  refine x_aload_n dX9_knownOne_47 rfl ?_
  refine x_get fX9_77 dX9_knownOne_48 rfl rfl rfl ?_
  refine x_iconst (5 : Int32) dX9_knownOne_51 (by decide) ?_
  refine x_icmp_ne 59 dX9_knownOne_52 (by decide) (fun q => ?_) (fun q => ?_)
  · have h := xif_f q h
    refine x_aload_n dX9_knownOne_59 rfl ?_
    refine x_get fX9_152 dX9_knownOne_60 rfl rfl rfl ?_
    refine x_get fX9_179 dX9_knownOne_63 rfl rfl rfl ?_
    refine x_iload_n dX9_knownOne_66 rfl ?_
    obtain ⟨q67, h⟩ := xix_of h
    refine x_iald dX9_knownOne_67 rfl q67 ?_
    cases h
    exact x_iret2 dX9_knownOne_68 rfl rfl
  · have h := xif_t q h
    refine x_iconst (0 : Int32) dX9_knownOne_55 (by decide) ?_
    refine x_goto 68 dX9_knownOne_56 (by decide) ?_
    cases h
    exact x_iret2 dX9_knownOne_68 rfl rfl
set_option maxRecDepth 100000 in
set_option maxHeartbeats 4000000 in
theorem jn_hP_X9_knownOne_12 {g0 g1 g2 g3 g4 g5 g6 g7 g8 g9 g10 g11 g12 g13 g14 g15 g16 g17 g18 g19 g20 g21 g22 g23 g24 g25 g26 : Int32} {a0 a1 a2 a3 a4 a5 a6 a7 a8 a9 a10 a11 a12 a13 a14 a15 a16 a17 a18 a19 a20 a21 a22 a23 : (Nat → Int32)} {b0 : (Nat → Int64)} {w0 : Int64} {k0 k1 k2 k3 k4 k5 k6 k7 k8 k9 k10 k11 k12 k13 k14 k15 : xC} {cv : Value} (d n0 : Nat) (f1 : Int32) (res : Int32 × Int32 × Int32 × Int32) (h : J_hP_X9_knownOne_12 g6 w0 g26 b0 g9 g7 g10 a23 a22 f1 = some res) : xW xks YX9_knownOne (d + 8) 0 0 n0 (xZ 0 0 n0 (some (.int res.1)) (hP g0 g1 g2 g3 g4 g5 res.2.2.2 g7 g8 res.2.1 res.2.2.1 g11 g12 g13 g14 g15 g16 g17 g18 g19 g20 g21 g22 g23 g24 g25 g26 a0 a1 a2 a3 a4 a5 a6 a7 a8 a9 a10 a11 a12 a13 a14 a15 a16 a17 a18 a19 a20 a21 a22 a23 b0 w0 k0 k1 k2 k3 k4 k5 k6 k7 k8 k9 k10 k11 k12 k13 k14 k15 cv (.ref 27))) 0 0 12 [some (.ref 0), some (.int f1), none] [] (hP g0 g1 g2 g3 g4 g5 g6 g7 g8 g9 g10 g11 g12 g13 g14 g15 g16 g17 g18 g19 g20 g21 g22 g23 g24 g25 g26 a0 a1 a2 a3 a4 a5 a6 a7 a8 a9 a10 a11 a12 a13 a14 a15 a16 a17 a18 a19 a20 a21 a22 a23 b0 w0 k0 k1 k2 k3 k4 k5 k6 k7 k8 k9 k10 k11 k12 k13 k14 k15 cv (.ref 27)) := by
  unfold J_hP_X9_knownOne_12 at h
  refine x_aload_n dX9_knownOne_12 rfl ?_
  refine x_get fX9_152 dX9_knownOne_13 rfl rfl rfl ?_
  refine x_aload_n dX9_knownOne_16 rfl ?_
  refine x_get fX9_93 dX9_knownOne_17 rfl rfl rfl ?_
  obtain ⟨z20, y20, h⟩ := xbind h
  refine x_callV (t_hP_X8_find w0 z20 y20 (d + 6)) kX9_165 dX9_knownOne_20 rfl rfl rfl rfl rfl (Nat.le_of_ble_eq_true rfl) (Nat.le_of_ble_eq_true rfl) rfl rfl (Or.inl rfl) ?_
  refine x_istore_n (pl' := [some (.ref 0), some (.int f1), some (.int z20)]) dX9_knownOne_23 (by decide) rfl ?_
  refine x_iload_n dX9_knownOne_24 rfl ?_
  refine x_iconst (-1 : Int32) dX9_knownOne_25 (by decide) ?_
  refine x_icmp_eq 42 dX9_knownOne_26 (by decide) (fun q => ?_) (fun q => ?_)
  · have h := xif_t q h
    refine x_weak (pl2 := [some (.ref 0), none, some (.int z20)]) ⟨rfl, rfl, trivial⟩ ?_
    exact jn_hP_X9_knownOne_42 d _ z20 res h
  · have h := xif_f q h
    refine x_aload_n dX9_knownOne_29 rfl ?_
    refine x_get fX9_152 dX9_knownOne_30 rfl rfl rfl ?_
    refine x_get fX9_176 dX9_knownOne_33 rfl rfl rfl ?_
    refine x_iload_n dX9_knownOne_36 rfl ?_
    obtain ⟨q37, h⟩ := xix_of h
    refine x_iald dX9_knownOne_37 rfl q37 ?_
    refine x_iload_n dX9_knownOne_38 rfl ?_
    refine x_icmp_eq 47 dX9_knownOne_39 (by decide) (fun q => ?_) (fun q => ?_)
    · have h := xif_t q h
      refine x_aload_n dX9_knownOne_47 rfl ?_
      refine x_get fX9_77 dX9_knownOne_48 rfl rfl rfl ?_
      refine x_iconst (5 : Int32) dX9_knownOne_51 (by decide) ?_
      refine x_icmp_ne 59 dX9_knownOne_52 (by decide) (fun q => ?_) (fun q => ?_)
      · have h := xif_f q h
        refine x_aload_n dX9_knownOne_59 rfl ?_
        refine x_get fX9_152 dX9_knownOne_60 rfl rfl rfl ?_
        refine x_get fX9_179 dX9_knownOne_63 rfl rfl rfl ?_
        refine x_iload_n dX9_knownOne_66 rfl ?_
        obtain ⟨q67, h⟩ := xix_of h
        refine x_iald dX9_knownOne_67 rfl q67 ?_
        cases h
        exact x_iret2 dX9_knownOne_68 rfl rfl
      · have h := xif_t q h
        refine x_iconst (0 : Int32) dX9_knownOne_55 (by decide) ?_
        refine x_goto 68 dX9_knownOne_56 (by decide) ?_
        cases h
        exact x_iret2 dX9_knownOne_68 rfl rfl
    · have h := xif_f q h
      refine x_weak (pl2 := [some (.ref 0), none, some (.int z20)]) ⟨rfl, rfl, trivial⟩ ?_
      exact jn_hP_X9_knownOne_42 d _ z20 res h
set_option maxRecDepth 100000 in
set_option maxHeartbeats 4000000 in
theorem t_hP_X9_knownOne {g0 g1 g2 g3 g4 g5 g6 g7 g8 g9 g10 g11 g12 g13 g14 g15 g16 g17 g18 g19 g20 g21 g22 g23 g24 g25 g26 : Int32} {a0 a1 a2 a3 a4 a5 a6 a7 a8 a9 a10 a11 a12 a13 a14 a15 a16 a17 a18 a19 a20 a21 a22 a23 : (Nat → Int32)} {b0 : (Nat → Int64)} {w0 : Int64} {k0 k1 k2 k3 k4 k5 k6 k7 k8 k9 k10 k11 k12 k13 k14 k15 : xC} {cv : Value} (x1 : Int32) (res : Int32 × Int32 × Int32 × Int32) (h : e_hP_X9_knownOne g6 w0 g26 b0 g9 g7 g10 a23 a22 x1 = some res) (d : Nat) : xMet xks YX9_knownOne (d + 8) 0 0 [.ref 0, .int x1] (hP g0 g1 g2 g3 g4 g5 g6 g7 g8 g9 g10 g11 g12 g13 g14 g15 g16 g17 g18 g19 g20 g21 g22 g23 g24 g25 g26 a0 a1 a2 a3 a4 a5 a6 a7 a8 a9 a10 a11 a12 a13 a14 a15 a16 a17 a18 a19 a20 a21 a22 a23 b0 w0 k0 k1 k2 k3 k4 k5 k6 k7 k8 k9 k10 k11 k12 k13 k14 k15 cv (.ref 27)) (some (.int res.1)) (hP g0 g1 g2 g3 g4 g5 res.2.2.2 g7 g8 res.2.1 res.2.2.1 g11 g12 g13 g14 g15 g16 g17 g18 g19 g20 g21 g22 g23 g24 g25 g26 a0 a1 a2 a3 a4 a5 a6 a7 a8 a9 a10 a11 a12 a13 a14 a15 a16 a17 a18 a19 a20 a21 a22 a23 b0 w0 k0 k1 k2 k3 k4 k5 k6 k7 k8 k9 k10 k11 k12 k13 k14 k15 cv (.ref 27)) := by
  unfold e_hP_X9_knownOne at h
  refine xMet_of (pl := [some (.ref 0), some (.int x1), none]) (by decide) (Nat.le_of_ble_eq_true rfl) rfl (Nat.le_of_ble_eq_true rfl) ?_
  refine x_aload_n dX9_knownOne_0 rfl ?_
  obtain ⟨z1, y1, h⟩ := xbind h
  refine x_callV (t_hP_X9_isName  z1 y1 (d + 0)) kX9_161 dX9_knownOne_1 rfl rfl rfl rfl rfl (Nat.le_of_ble_eq_true rfl) (Nat.le_of_ble_eq_true rfl) rfl rfl (Or.inl rfl) ?_
  refine x_if_ne 12 dX9_knownOne_4 (by decide) (fun q => ?_) (fun q => ?_)
  · have h := xif_f q h
    refine x_weak (pl2 := [some (.ref 0), some (.int x1), none]) ⟨rfl, rfl, trivial⟩ ?_
    exact jn_hP_X9_knownOne_12 d _ x1 res h
  · have h := xif_t q h
    refine x_aload_n dX9_knownOne_7 rfl ?_
    refine x_iconst (1 : Int32) dX9_knownOne_8 (by decide) ?_
    obtain ⟨z9, y9, h⟩ := xbind h
    refine x_callV (t_hP_X9_flaw (1 : Int32) z9 y9 (d + 6)) kX9_120 dX9_knownOne_9 rfl rfl rfl rfl rfl (Nat.le_of_ble_eq_true rfl) (Nat.le_of_ble_eq_true rfl) rfl rfl (Or.inl rfl) ?_
    refine x_weak (pl2 := [some (.ref 0), some (.int x1), none]) ⟨rfl, rfl, trivial⟩ ?_
    exact jn_hP_X9_knownOne_12 d _ x1 res h
noncomputable def e_hP_X9_readKnown (p0 : Int32) (p1 : Int64) (p2 : Int32) (p3 : (Nat → Int64)) (p4 : Int32) (p5 : Int32) (p6 : Int32) (p7 : (Nat → Int32)) (p8 : (Nat → Int32)) (p9 : Int32) (p10 : Int32) (p11 : (Nat → Int32)) (p12 : Int32) (x1 : Int32) : Option (Int32 × Int32 × Int32 × Int32 × Int32 × Int32 × Int32 × Int64) :=
  ((e_hP_X9_knownOne p0 p1 p2 p3 p4 p5 p6 p7 p8 x1).bind fun z2 => (e_hP_X9_goesOn z2.2.2.2 p9 p10 p11 p5 p12 p1).bind fun z7 => some (z2.1, z2.2.1, z2.2.2.1, z7.2.1, z7.1, z7.2.2.1, z7.2.2.2.1, z7.2.2.2.2))
set_option maxRecDepth 100000 in
set_option maxHeartbeats 4000000 in
theorem t_hP_X9_readKnown {g0 g1 g2 g3 g4 g5 g6 g7 g8 g9 g10 g11 g12 g13 g14 g15 g16 g17 g18 g19 g20 g21 g22 g23 g24 g25 g26 : Int32} {a0 a1 a2 a3 a4 a5 a6 a7 a8 a9 a10 a11 a12 a13 a14 a15 a16 a17 a18 a19 a20 a21 a22 a23 : (Nat → Int32)} {b0 : (Nat → Int64)} {w0 : Int64} {k0 k1 k2 k3 k4 k5 k6 k7 k8 k9 k10 k11 k12 k13 k14 k15 : xC} {cv : Value} (x1 : Int32) (res : Int32 × Int32 × Int32 × Int32 × Int32 × Int32 × Int32 × Int64) (h : e_hP_X9_readKnown g6 w0 g26 b0 g9 g7 g10 a23 a22 g5 g4 a0 g8 x1 = some res) (d : Nat) : xMet xks YX9_readKnown (d + 9) 0 0 [.ref 0, .int x1] (hP g0 g1 g2 g3 g4 g5 g6 g7 g8 g9 g10 g11 g12 g13 g14 g15 g16 g17 g18 g19 g20 g21 g22 g23 g24 g25 g26 a0 a1 a2 a3 a4 a5 a6 a7 a8 a9 a10 a11 a12 a13 a14 a15 a16 a17 a18 a19 a20 a21 a22 a23 b0 w0 k0 k1 k2 k3 k4 k5 k6 k7 k8 k9 k10 k11 k12 k13 k14 k15 cv (.ref 27)) (some (.int res.1)) (hP g0 g1 g2 g3 g4 res.2.2.2.2.2.1 res.2.2.2.1 res.2.2.2.2.1 res.2.2.2.2.2.2.1 res.2.1 res.2.2.1 g11 g12 g13 g14 g15 g16 g17 g18 g19 g20 g21 g22 g23 g24 g25 g26 a0 a1 a2 a3 a4 a5 a6 a7 a8 a9 a10 a11 a12 a13 a14 a15 a16 a17 a18 a19 a20 a21 a22 a23 b0 res.2.2.2.2.2.2.2 k0 k1 k2 k3 k4 k5 k6 k7 k8 k9 k10 k11 k12 k13 k14 k15 cv (.ref 27)) := by
  unfold e_hP_X9_readKnown at h
  refine xMet_of (pl := [some (.ref 0), some (.int x1), none]) (by decide) (Nat.le_of_ble_eq_true rfl) rfl (Nat.le_of_ble_eq_true rfl) ?_
  refine x_aload_n dX9_readKnown_0 rfl ?_
  refine x_iload_n dX9_readKnown_1 rfl ?_
  obtain ⟨z2, y2, h⟩ := xbind h
  refine x_callV (t_hP_X9_knownOne x1 z2 y2 (d + 0)) kX9_182 dX9_readKnown_2 rfl rfl rfl rfl rfl (Nat.le_of_ble_eq_true rfl) (Nat.le_of_ble_eq_true rfl) rfl rfl (Or.inl rfl) ?_
  refine x_istore_n (pl' := [some (.ref 0), some (.int x1), some (.int z2.1)]) dX9_readKnown_5 (by decide) rfl ?_
  refine x_aload_n dX9_readKnown_6 rfl ?_
  obtain ⟨z7, y7, h⟩ := xbind h
  refine x_callV (t_hP_X9_goesOn  z7 y7 (d + 6)) kX9_113 dX9_readKnown_7 rfl rfl rfl rfl rfl (Nat.le_of_ble_eq_true rfl) (Nat.le_of_ble_eq_true rfl) rfl rfl (Or.inl rfl) ?_
  refine x_iload_n dX9_readKnown_10 rfl ?_
  cases h
  exact x_iret2 dX9_readKnown_11 rfl rfl
set_option maxRecDepth 100000 in
set_option maxHeartbeats 4000000 in
theorem lp_hP_X9_packed_9_4 {g0 g1 g2 g3 g4 g5 g6 g7 g8 g9 g10 g11 g12 g13 g14 g15 g16 g17 g18 g19 g20 g21 g22 g23 g24 g25 g26 : Int32} {a0 a1 a2 a3 a4 a5 a6 a7 a8 a9 a10 a11 a12 a13 a14 a15 a16 a17 a18 a19 a20 a21 a22 a23 : (Nat → Int32)} {b0 : (Nat → Int64)} {w0 : Int64} {k0 k1 k2 k3 k4 k5 k6 k7 k8 k9 k10 k11 k12 k13 k14 k15 : xC} {cv : Value} (d n0 : Nat)  (res : Int64) (K : Int64 → Int32 → Option (Int64)) (hK : ∀ (l1_4 : Int64) (l3_4 : Int32), K l1_4 l3_4 = some res → xW xks YX9_packed (d + 5) 0 0 n0 (xZ 0 0 n0 (some (.long res)) (hP g0 g1 g2 g3 g4 g5 g6 g7 g8 g9 g10 g11 g12 g13 g14 g15 g16 g17 g18 g19 g20 g21 g22 g23 g24 g25 g26 a0 a1 a2 a3 a4 a5 a6 a7 a8 a9 a10 a11 a12 a13 a14 a15 a16 a17 a18 a19 a20 a21 a22 a23 b0 w0 k0 k1 k2 k3 k4 k5 k6 k7 k8 k9 k10 k11 k12 k13 k14 k15 cv (.ref 27))) 0 0 36 [none, some (.long l1_4), none, none] [] (hP g0 g1 g2 g3 g4 g5 g6 g7 g8 g9 g10 g11 g12 g13 g14 g15 g16 g17 g18 g19 g20 g21 g22 g23 g24 g25 g26 a0 a1 a2 a3 a4 a5 a6 a7 a8 a9 a10 a11 a12 a13 a14 a15 a16 a17 a18 a19 a20 a21 a22 a23 b0 w0 k0 k1 k2 k3 k4 k5 k6 k7 k8 k9 k10 k11 k12 k13 k14 k15 cv (.ref 27))) : ∀ (n : Nat) (l1_4 : Int64) (l3_4 : Int32), L_hP_X9_packed_4 (xsy 32)  K n l1_4 l3_4 = some res → xW xks YX9_packed (d + 5) 0 0 n0 (xZ 0 0 n0 (some (.long res)) (hP g0 g1 g2 g3 g4 g5 g6 g7 g8 g9 g10 g11 g12 g13 g14 g15 g16 g17 g18 g19 g20 g21 g22 g23 g24 g25 g26 a0 a1 a2 a3 a4 a5 a6 a7 a8 a9 a10 a11 a12 a13 a14 a15 a16 a17 a18 a19 a20 a21 a22 a23 b0 w0 k0 k1 k2 k3 k4 k5 k6 k7 k8 k9 k10 k11 k12 k13 k14 k15 cv (.ref 27))) 0 0 4 [some (.ref 1032), some (.long l1_4), none, some (.int l3_4)] [] (hP g0 g1 g2 g3 g4 g5 g6 g7 g8 g9 g10 g11 g12 g13 g14 g15 g16 g17 g18 g19 g20 g21 g22 g23 g24 g25 g26 a0 a1 a2 a3 a4 a5 a6 a7 a8 a9 a10 a11 a12 a13 a14 a15 a16 a17 a18 a19 a20 a21 a22 a23 b0 w0 k0 k1 k2 k3 k4 k5 k6 k7 k8 k9 k10 k11 k12 k13 k14 k15 cv (.ref 27)) := by
  intro n
  induction n with
  | zero =>
    intro l1_4 l3_4 h
    cases (show (none : Option (Int64)) = some res from h)
  | succ n4 ih4 =>
    intro l1_4 l3_4 h
    unfold L_hP_X9_packed_4 at h
    refine x_iload_n dX9_packed_4 rfl ?_
    refine x_aload_n dX9_packed_5 rfl ?_
    refine x_slen (k := 32) (s := xsy 32) rfl rfl (Nat.le_of_ble_eq_true rfl) kX9_65 dX9_packed_6 (Nat.le_of_ble_eq_true rfl) ?_
    refine x_icmp_ge 36 dX9_packed_9 (by decide) (fun q => ?_) (fun q => ?_)
    · have h := xif_t q h
      refine x_weak (pl2 := [none, some (.long l1_4), none, none]) ⟨rfl, trivial⟩ ?_
      exact hK l1_4 l3_4 h
    · have h := xif_f q h
      refine x_ldc2 iX9_71 dX9_packed_12 ?_
      refine x_lload_n dX9_packed_15 rfl ?_
      refine x_lmul dX9_packed_16 ?_
      refine x_aload_n dX9_packed_17 rfl ?_
      refine x_iload_n dX9_packed_18 rfl ?_
      obtain ⟨q19, h⟩ := xix_of h
      refine x_schar (k := 32) (s := xsy 32) rfl rfl q19 (Nat.le_of_ble_eq_true rfl) kX9_73 dX9_packed_19 (Nat.le_of_ble_eq_true rfl) ?_
      refine x_bipush (97 : Int32) dX9_packed_22 (by decide) ?_
      refine x_isub dX9_packed_24 ?_
      refine x_iconst (1 : Int32) dX9_packed_25 (by decide) ?_
      refine x_iadd dX9_packed_26 ?_
      refine x_i2l dX9_packed_27 ?_
      refine x_ladd dX9_packed_28 ?_
      refine x_lstore_n (pl' := [some (.ref 1032), some (.long (((32 : Int64) * l1_4) + (((xch (xsy 32) l3_4) - (97 : Int32)) + (1 : Int32)).toInt64)), none, some (.int l3_4)]) dX9_packed_29 (by decide) rfl ?_
      refine x_iincK (1 : Int32) (pl' := [some (.ref 1032), some (.long (((32 : Int64) * l1_4) + (((xch (xsy 32) l3_4) - (97 : Int32)) + (1 : Int32)).toInt64)), none, some (.int (l3_4 + (1 : Int32)))]) dX9_packed_30 rfl (by decide) (by decide) rfl ?_
      refine x_goto 4 dX9_packed_33 (by decide) ?_
      refine x_weak (pl2 := [some (.ref 1032), some (.long (((32 : Int64) * l1_4) + (((xch (xsy 32) l3_4) - (97 : Int32)) + (1 : Int32)).toInt64)), none, some (.int (l3_4 + (1 : Int32)))]) ⟨rfl, rfl, rfl, trivial⟩ ?_
      exact ih4 (((32 : Int64) * l1_4) + (((xch (xsy 32) l3_4) - (97 : Int32)) + (1 : Int32)).toInt64) (l3_4 + (1 : Int32)) h
set_option maxRecDepth 100000 in
set_option maxHeartbeats 4000000 in
theorem t_hP_X9_packed_9 {g0 g1 g2 g3 g4 g5 g6 g7 g8 g9 g10 g11 g12 g13 g14 g15 g16 g17 g18 g19 g20 g21 g22 g23 g24 g25 g26 : Int32} {a0 a1 a2 a3 a4 a5 a6 a7 a8 a9 a10 a11 a12 a13 a14 a15 a16 a17 a18 a19 a20 a21 a22 a23 : (Nat → Int32)} {b0 : (Nat → Int64)} {w0 : Int64} {k0 k1 k2 k3 k4 k5 k6 k7 k8 k9 k10 k11 k12 k13 k14 k15 : xC} {cv : Value}  (res : Int64) (h : e_hP_X9_packed (xsy 32)  = some res) (d : Nat) : xMet xks YX9_packed (d + 5) 0 0 [.ref 1032] (hP g0 g1 g2 g3 g4 g5 g6 g7 g8 g9 g10 g11 g12 g13 g14 g15 g16 g17 g18 g19 g20 g21 g22 g23 g24 g25 g26 a0 a1 a2 a3 a4 a5 a6 a7 a8 a9 a10 a11 a12 a13 a14 a15 a16 a17 a18 a19 a20 a21 a22 a23 b0 w0 k0 k1 k2 k3 k4 k5 k6 k7 k8 k9 k10 k11 k12 k13 k14 k15 cv (.ref 27)) (some (.long res)) (hP g0 g1 g2 g3 g4 g5 g6 g7 g8 g9 g10 g11 g12 g13 g14 g15 g16 g17 g18 g19 g20 g21 g22 g23 g24 g25 g26 a0 a1 a2 a3 a4 a5 a6 a7 a8 a9 a10 a11 a12 a13 a14 a15 a16 a17 a18 a19 a20 a21 a22 a23 b0 w0 k0 k1 k2 k3 k4 k5 k6 k7 k8 k9 k10 k11 k12 k13 k14 k15 cv (.ref 27)) := by
  unfold e_hP_X9_packed at h
  refine xMet_of (pl := [some (.ref 1032), none, none, none]) (by decide) (Nat.le_of_ble_eq_true rfl) rfl (Nat.le_of_ble_eq_true rfl) ?_
  refine x_lconst (0 : Int64) dX9_packed_0 (by decide) ?_
  refine x_lstore_n (pl' := [some (.ref 1032), some (.long (0 : Int64)), none, none]) dX9_packed_1 (by decide) rfl ?_
  refine x_iconst (0 : Int32) dX9_packed_2 (by decide) ?_
  refine x_istore_n (pl' := [some (.ref 1032), some (.long (0 : Int64)), none, some (.int (0 : Int32))]) dX9_packed_3 (by decide) rfl ?_
  refine x_weak (pl2 := [some (.ref 1032), some (.long (0 : Int64)), none, some (.int (0 : Int32))]) ⟨rfl, rfl, rfl, trivial⟩ ?_
  refine lp_hP_X9_packed_9_4 d _  res _ (fun l1_4 l3_4 h => ?_) 200000 (0 : Int64) (0 : Int32) h
  refine x_lload_n dX9_packed_36 rfl ?_
  cases h
  exact x_lret2 dX9_packed_37 rfl rfl
set_option maxRecDepth 100000 in
set_option maxHeartbeats 4000000 in
theorem t_hP_X9_isWord_9 {g0 g1 g2 g3 g4 g5 g6 g7 g8 g9 g10 g11 g12 g13 g14 g15 g16 g17 g18 g19 g20 g21 g22 g23 g24 g25 g26 : Int32} {a0 a1 a2 a3 a4 a5 a6 a7 a8 a9 a10 a11 a12 a13 a14 a15 a16 a17 a18 a19 a20 a21 a22 a23 : (Nat → Int32)} {b0 : (Nat → Int64)} {w0 : Int64} {k0 k1 k2 k3 k4 k5 k6 k7 k8 k9 k10 k11 k12 k13 k14 k15 : xC} {cv : Value}  (res : Int32) (h : e_hP_X9_isWord g6 w0 (xsy 32)  = some res) (d : Nat) : xMet xks YX9_isWord (d + 6) 0 0 [.ref 0, .ref 1032] (hP g0 g1 g2 g3 g4 g5 g6 g7 g8 g9 g10 g11 g12 g13 g14 g15 g16 g17 g18 g19 g20 g21 g22 g23 g24 g25 g26 a0 a1 a2 a3 a4 a5 a6 a7 a8 a9 a10 a11 a12 a13 a14 a15 a16 a17 a18 a19 a20 a21 a22 a23 b0 w0 k0 k1 k2 k3 k4 k5 k6 k7 k8 k9 k10 k11 k12 k13 k14 k15 cv (.ref 27)) (some (.int res)) (hP g0 g1 g2 g3 g4 g5 g6 g7 g8 g9 g10 g11 g12 g13 g14 g15 g16 g17 g18 g19 g20 g21 g22 g23 g24 g25 g26 a0 a1 a2 a3 a4 a5 a6 a7 a8 a9 a10 a11 a12 a13 a14 a15 a16 a17 a18 a19 a20 a21 a22 a23 b0 w0 k0 k1 k2 k3 k4 k5 k6 k7 k8 k9 k10 k11 k12 k13 k14 k15 cv (.ref 27)) := by
  unfold e_hP_X9_isWord at h
  refine xMet_of (pl := [some (.ref 0), some (.ref 1032)]) (by decide) (Nat.le_of_ble_eq_true rfl) rfl (Nat.le_of_ble_eq_true rfl) ?_
  refine x_aload_n dX9_isWord_0 rfl ?_
  refine x_get fX9_77 dX9_isWord_1 rfl rfl rfl ?_
  refine x_iconst (2 : Int32) dX9_isWord_4 (by decide) ?_
  refine x_icmp_ne 24 dX9_isWord_5 (by decide) (fun q => ?_) (fun q => ?_)
  · have h := xif_f q h
    refine x_iconst (0 : Int32) dX9_isWord_24 (by decide) ?_
    cases h
    exact x_zret2 dX9_isWord_25 rfl rfl rfl
  · have h := xif_t q h
    refine x_aload_n dX9_isWord_8 rfl ?_
    refine x_get fX9_93 dX9_isWord_9 rfl rfl rfl ?_
    refine x_aload_n dX9_isWord_12 rfl ?_
    obtain ⟨z13, y13, h⟩ := xbind h
    refine x_callS (t_hP_X9_packed_9  z13 y13 (d + 0)) kX9_109 dX9_isWord_13 rfl rfl (Nat.le_of_ble_eq_true rfl) (Nat.le_of_ble_eq_true rfl) rfl rfl (Or.inl rfl) ?_
    refine x_lcmp dX9_isWord_16 ?_
    refine x_if_ne 24 dX9_isWord_17 (by decide) (fun q => ?_) (fun q => ?_)
    · have h := xif_f q h
      refine x_iconst (0 : Int32) dX9_isWord_24 (by decide) ?_
      cases h
      exact x_zret2 dX9_isWord_25 rfl rfl rfl
    · have h := xif_t q h
      refine x_iconst (1 : Int32) dX9_isWord_20 (by decide) ?_
      refine x_goto 25 dX9_isWord_21 (by decide) ?_
      cases h
      exact x_zret2 dX9_isWord_25 rfl rfl rfl
