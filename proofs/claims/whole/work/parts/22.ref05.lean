noncomputable def L_hB_X9_day_39 (p0 : Int32) (p1 : Int32) (p2 : (Nat → Int32)) (p3 : (Nat → Int32)) (p4 : (Nat → Int32)) (p5 : Int32) (p6 : Int32) (p7 : Int32) (p8 : (Nat → Int32)) (p9 : (Nat → Int32)) (p10 : (Nat → Int32)) (p11 : Int32) (p12 : Int32)   (K : Int32 → Int32 → Option (Int32 × Int32 × Int32 × (Nat → Int32) × (Nat → Int32) × (Nat → Int32) × Int32 × Int32)) : Nat → Int32 → Int32 → Option (Int32 × Int32 × Int32 × (Nat → Int32) × (Nat → Int32) × (Nat → Int32) × Int32 × Int32)
  | 0, _, _ => none
  | n39 + 1, l2_39, l3_39 => if p5 ≤ l3_39 then K l2_39 l3_39 else (xix ((5 : Int32) + l3_39) 11 (xix ((5 : Int32) + l3_39) 11 (if (p2 ((5 : Int32) + l3_39).toNatClampNeg) = (p4 ((5 : Int32) + l3_39).toNatClampNeg) then L_hB_X9_day_39 p0 p1 p2 p3 p4 p5 p6 p7 p8 p9 p10 p11 p12  K n39 (l2_39 + (0 : Int32)) (l3_39 + (1 : Int32)) else L_hB_X9_day_39 p0 p1 p2 p3 p4 p5 p6 p7 p8 p9 p10 p11 p12  K n39 (l2_39 + (1 : Int32)) (l3_39 + (1 : Int32)))))
noncomputable def e_hB_X9_day (p0 : Int32) (p1 : Int32) (p2 : (Nat → Int32)) (p3 : (Nat → Int32)) (p4 : (Nat → Int32)) (p5 : Int32) (p6 : Int32) (p7 : Int32) (p8 : (Nat → Int32)) (p9 : (Nat → Int32)) (p10 : (Nat → Int32)) (p11 : Int32) (p12 : Int32) (x1 : Int32) : Option (Int32 × Int32 × Int32 × (Nat → Int32) × (Nat → Int32) × (Nat → Int32) × Int32 × Int32) :=
  ((e_hB_X9_remembers p1 p2 p3).bind fun z19 => (e_hB_X9_tries p2 p4).bind fun z23 => (e_hB_X9_ends_2 p5 p2 p6 p7 p8 p9 p10 x1).bind fun z32 => L_hB_X9_day_39 (0 : Int32) z19.1 z32 z19.2 z23 p5 p6 p7 p8 p9 p10 p11 p12  (fun l2_39 l3_39 => ((e_hB_X9_good p11 p12 l2_39).bind fun z85 => some (z85.1, (0 : Int32), z19.1, z19.2, z23, z32, z85.2.1, z85.2.2))) 200000 (0 : Int32) (0 : Int32))
set_option maxRecDepth 100000 in
set_option maxHeartbeats 4000000 in
theorem lp_hB_X9_day_39 {g0 g1 g2 g3 g4 g5 g6 g7 g8 g9 g10 g11 g12 g13 g14 g15 g16 g17 g18 g19 g20 g21 g22 g23 g24 g25 g26 : Int32} {a0 a1 a2 a3 a4 a5 a6 a7 a8 a9 a10 a11 a12 a13 a14 a15 a16 a17 a18 a19 a20 a21 a22 a23 : (Nat → Int32)} {b0 : (Nat → Int64)} {w0 : Int64} {rv : Value} (d n0 : Nat)  (res : Int32 × Int32 × Int32 × (Nat → Int32) × (Nat → Int32) × (Nat → Int32) × Int32 × Int32) (K : Int32 → Int32 → Option (Int32 × Int32 × Int32 × (Nat → Int32) × (Nat → Int32) × (Nat → Int32) × Int32 × Int32)) (hK : ∀ (l2_39 : Int32) (l3_39 : Int32), K l2_39 l3_39 = some res → xW xks YX9_day (d + 4) 0 0 n0 (xZ 0 0 n0 (some (.int res.1)) (hB res.2.1 res.2.2.2.2.2.2.1 res.2.2.2.2.2.2.2 g3 g4 g5 g6 g7 g8 g9 g10 res.2.2.1 g12 g13 g14 g15 g16 g17 g18 g19 g20 g21 g22 g23 g24 g25 g26 a0 res.2.2.2.2.2.1 res.2.2.2.2.1 res.2.2.2.1 a4 a5 a6 a7 a8 a9 a10 a11 a12 a13 a14 a15 a16 a17 a18 a19 a20 a21 a22 a23 b0 w0 (.ref 11) rv)) 0 0 83 [some (.ref 0), none, some (.int l2_39), none] [] (hB g0 g1 g2 g3 g4 g5 g6 g7 g8 g9 g10 g11 g12 g13 g14 g15 g16 g17 g18 g19 g20 g21 g22 g23 g24 g25 g26 a0 a1 a2 a3 a4 a5 a6 a7 a8 a9 a10 a11 a12 a13 a14 a15 a16 a17 a18 a19 a20 a21 a22 a23 b0 w0 (.ref 11) rv)) : ∀ (n : Nat) (l2_39 : Int32) (l3_39 : Int32), L_hB_X9_day_39 g0 g11 a1 a3 a2 g23 g19 g22 a10 a12 a11 g1 g2  K n l2_39 l3_39 = some res → xW xks YX9_day (d + 4) 0 0 n0 (xZ 0 0 n0 (some (.int res.1)) (hB res.2.1 res.2.2.2.2.2.2.1 res.2.2.2.2.2.2.2 g3 g4 g5 g6 g7 g8 g9 g10 res.2.2.1 g12 g13 g14 g15 g16 g17 g18 g19 g20 g21 g22 g23 g24 g25 g26 a0 res.2.2.2.2.2.1 res.2.2.2.2.1 res.2.2.2.1 a4 a5 a6 a7 a8 a9 a10 a11 a12 a13 a14 a15 a16 a17 a18 a19 a20 a21 a22 a23 b0 w0 (.ref 11) rv)) 0 0 39 [some (.ref 0), none, some (.int l2_39), some (.int l3_39)] [] (hB g0 g1 g2 g3 g4 g5 g6 g7 g8 g9 g10 g11 g12 g13 g14 g15 g16 g17 g18 g19 g20 g21 g22 g23 g24 g25 g26 a0 a1 a2 a3 a4 a5 a6 a7 a8 a9 a10 a11 a12 a13 a14 a15 a16 a17 a18 a19 a20 a21 a22 a23 b0 w0 (.ref 11) rv) := by
  intro n
  induction n with
  | zero =>
    intro l2_39 l3_39 h
    cases (show (none : Option (Int32 × Int32 × Int32 × (Nat → Int32) × (Nat → Int32) × (Nat → Int32) × Int32 × Int32)) = some res from h)
  | succ n39 ih39 =>
    intro l2_39 l3_39 h
    unfold L_hB_X9_day_39 at h
    refine x_iload_n dX9_day_39 rfl ?_
    refine x_aload_n dX9_day_40 rfl ?_
    refine x_get fX9_316 dX9_day_41 rfl rfl rfl ?_
    refine x_get fX9_194 dX9_day_44 rfl rfl rfl ?_
    refine x_icmp_ge 83 dX9_day_47 (by decide) (fun q => ?_) (fun q => ?_)
    · have h := xif_t q h
      refine x_weak (pl2 := [some (.ref 0), none, some (.int l2_39), none]) ⟨rfl, rfl, trivial⟩ ?_
      exact hK l2_39 l3_39 h
    · have h := xif_f q h
      refine x_iload_n dX9_day_50 rfl ?_
      refine x_aload_n dX9_day_51 rfl ?_
      refine x_get fX9_17 dX9_day_52 rfl rfl rfl ?_
      refine x_iconst (5 : Int32) dX9_day_55 (by decide) ?_
      refine x_iload_n dX9_day_56 rfl ?_
      refine x_iadd dX9_day_57 ?_
      obtain ⟨q58, h⟩ := xix_of h
      refine x_iald dX9_day_58 rfl q58 ?_
      refine x_aload_n dX9_day_59 rfl ?_
      refine x_get fX9_21 dX9_day_60 rfl rfl rfl ?_
      refine x_iconst (5 : Int32) dX9_day_63 (by decide) ?_
      refine x_iload_n dX9_day_64 rfl ?_
      refine x_iadd dX9_day_65 ?_
      obtain ⟨q66, h⟩ := xix_of h
      refine x_iald dX9_day_66 rfl q66 ?_
      refine x_icmp_ne 74 dX9_day_67 (by decide) (fun q => ?_) (fun q => ?_)
      · have h := xif_f q h
        refine x_iconst (1 : Int32) dX9_day_74 (by decide) ?_
        refine x_iadd dX9_day_75 ?_
        refine x_istore_n (pl' := [some (.ref 0), none, some (.int (l2_39 + (1 : Int32))), some (.int l3_39)]) dX9_day_76 (by decide) rfl ?_
        refine x_iincK (1 : Int32) (pl' := [some (.ref 0), none, some (.int (l2_39 + (1 : Int32))), some (.int (l3_39 + (1 : Int32)))]) dX9_day_77 rfl (by decide) (by decide) rfl ?_
        refine x_goto 39 dX9_day_80 (by decide) ?_
        refine x_weak (pl2 := [some (.ref 0), none, some (.int (l2_39 + (1 : Int32))), some (.int (l3_39 + (1 : Int32)))]) ⟨rfl, rfl, rfl, trivial⟩ ?_
        exact ih39 (l2_39 + (1 : Int32)) (l3_39 + (1 : Int32)) h
      · have h := xif_t q h
        refine x_iconst (0 : Int32) dX9_day_70 (by decide) ?_
        refine x_goto 75 dX9_day_71 (by decide) ?_
        refine x_iadd dX9_day_75 ?_
        refine x_istore_n (pl' := [some (.ref 0), none, some (.int (l2_39 + (0 : Int32))), some (.int l3_39)]) dX9_day_76 (by decide) rfl ?_
        refine x_iincK (1 : Int32) (pl' := [some (.ref 0), none, some (.int (l2_39 + (0 : Int32))), some (.int (l3_39 + (1 : Int32)))]) dX9_day_77 rfl (by decide) (by decide) rfl ?_
        refine x_goto 39 dX9_day_80 (by decide) ?_
        refine x_weak (pl2 := [some (.ref 0), none, some (.int (l2_39 + (0 : Int32))), some (.int (l3_39 + (1 : Int32)))]) ⟨rfl, rfl, rfl, trivial⟩ ?_
        exact ih39 (l2_39 + (0 : Int32)) (l3_39 + (1 : Int32)) h
set_option maxRecDepth 100000 in
set_option maxHeartbeats 4000000 in
theorem t_hB_X9_day {g0 g1 g2 g3 g4 g5 g6 g7 g8 g9 g10 g11 g12 g13 g14 g15 g16 g17 g18 g19 g20 g21 g22 g23 g24 g25 g26 : Int32} {a0 a1 a2 a3 a4 a5 a6 a7 a8 a9 a10 a11 a12 a13 a14 a15 a16 a17 a18 a19 a20 a21 a22 a23 : (Nat → Int32)} {b0 : (Nat → Int64)} {w0 : Int64} {rv : Value} (x1 : Int32) (res : Int32 × Int32 × Int32 × (Nat → Int32) × (Nat → Int32) × (Nat → Int32) × Int32 × Int32) (h : e_hB_X9_day g0 g11 a1 a3 a2 g23 g19 g22 a10 a12 a11 g1 g2 x1 = some res) (d : Nat) : xMet xks YX9_day (d + 4) 0 0 [.ref 0, .int x1] (hB g0 g1 g2 g3 g4 g5 g6 g7 g8 g9 g10 g11 g12 g13 g14 g15 g16 g17 g18 g19 g20 g21 g22 g23 g24 g25 g26 a0 a1 a2 a3 a4 a5 a6 a7 a8 a9 a10 a11 a12 a13 a14 a15 a16 a17 a18 a19 a20 a21 a22 a23 b0 w0 (.ref 11) rv) (some (.int res.1)) (hB res.2.1 res.2.2.2.2.2.2.1 res.2.2.2.2.2.2.2 g3 g4 g5 g6 g7 g8 g9 g10 res.2.2.1 g12 g13 g14 g15 g16 g17 g18 g19 g20 g21 g22 g23 g24 g25 g26 a0 res.2.2.2.2.2.1 res.2.2.2.2.1 res.2.2.2.1 a4 a5 a6 a7 a8 a9 a10 a11 a12 a13 a14 a15 a16 a17 a18 a19 a20 a21 a22 a23 b0 w0 (.ref 11) rv) := by
  unfold e_hB_X9_day at h
  refine xMet_of (pl := [some (.ref 0), some (.int x1), none, none]) (by decide) (Nat.le_of_ble_eq_true rfl) rfl (Nat.le_of_ble_eq_true rfl) ?_
  refine x_aload_n dX9_day_0 rfl ?_
  refine x_iconst (0 : Int32) dX9_day_1 (by decide) ?_
  refine x_put (h2 := (hB (0 : Int32) g1 g2 g3 g4 g5 g6 g7 g8 g9 g10 g11 g12 g13 g14 g15 g16 g17 g18 g19 g20 g21 g22 g23 g24 g25 g26 a0 a1 a2 a3 a4 a5 a6 a7 a8 a9 a10 a11 a12 a13 a14 a15 a16 a17 a18 a19 a20 a21 a22 a23 b0 w0 (.ref 11) rv)) fX9_45 dX9_day_2 rfl rfl (Nat.le_of_ble_eq_true rfl : 0 + 1 ≤ _) (fun α => ⟨rfl, rfl⟩) rfl ?_
  refine x_aload_n dX9_day_5 rfl ?_
  refine x_get fX9_316 dX9_day_6 rfl rfl rfl ?_
  refine x_ifnonnull 18 dX9_day_9 (by decide) ?_
  refine x_aload_n dX9_day_18 rfl ?_
  obtain ⟨z19, y19, h⟩ := xbind h
  refine x_callV (t_hB_X9_remembers  z19 y19 (d + 2)) kX9_491 dX9_day_19 rfl rfl rfl rfl rfl (Nat.le_of_ble_eq_true rfl) (Nat.le_of_ble_eq_true rfl) rfl rfl (Or.inl rfl) ?_
  refine x_aload_n dX9_day_22 rfl ?_
  obtain ⟨z23, y23, h⟩ := xbind h
  refine x_callV (t_hB_X9_tries  z23 y23 (d + 2)) kX9_393 dX9_day_23 rfl rfl rfl rfl rfl (Nat.le_of_ble_eq_true rfl) (Nat.le_of_ble_eq_true rfl) rfl rfl (Or.inl rfl) ?_
  refine x_aload_n dX9_day_26 rfl ?_
  refine x_aload_n dX9_day_27 rfl ?_
  refine x_get fX9_17 dX9_day_28 rfl rfl rfl ?_
  refine x_iload_n dX9_day_31 rfl ?_
  obtain ⟨z32, y32, h⟩ := xbind h
  refine x_callV (t_hB_X9_ends_2 x1 z32 y32 (d + 0)) kX9_352 dX9_day_32 rfl rfl rfl rfl rfl (Nat.le_of_ble_eq_true rfl) (Nat.le_of_ble_eq_true rfl) rfl rfl (Or.inl rfl) ?_
  refine x_iconst (0 : Int32) dX9_day_35 (by decide) ?_
  refine x_istore_n (pl' := [some (.ref 0), some (.int x1), some (.int (0 : Int32)), none]) dX9_day_36 (by decide) rfl ?_
  refine x_iconst (0 : Int32) dX9_day_37 (by decide) ?_
  refine x_istore_n (pl' := [some (.ref 0), some (.int x1), some (.int (0 : Int32)), some (.int (0 : Int32))]) dX9_day_38 (by decide) rfl ?_
  refine x_weak (pl2 := [some (.ref 0), none, some (.int (0 : Int32)), some (.int (0 : Int32))]) ⟨rfl, rfl, rfl, trivial⟩ ?_
  refine lp_hB_X9_day_39 d _  res _ (fun l2_39 l3_39 h => ?_) 200000 (0 : Int32) (0 : Int32) h
  refine x_aload_n dX9_day_83 rfl ?_
  refine x_iload_n dX9_day_84 rfl ?_
  obtain ⟨z85, y85, h⟩ := xbind h
  refine x_callV (t_hB_X9_good l2_39 z85 y85 (d + 2)) kX9_55 dX9_day_85 rfl rfl rfl rfl rfl (Nat.le_of_ble_eq_true rfl) (Nat.le_of_ble_eq_true rfl) rfl rfl (Or.inl rfl) ?_
  cases h
  exact x_iret2 dX9_day_88 rfl rfl
noncomputable def L_hB_X9_undo_38 (p0 : Int32) (p1 : Int32) (p2 : Int32) (p3 : Int32) (p4 : (Nat → Int32))   (K : Int32 → (Nat → Int32) → Option (Int32 × Int32 × Int32 × Int32 × Int32 × (Nat → Int32))) : Nat → Int32 → (Nat → Int32) → Option (Int32 × Int32 × Int32 × Int32 × Int32 × (Nat → Int32))
  | 0, _, _ => none
  | n38 + 1, l1_38, ma1_38 => if (11 : Int32) ≤ l1_38 then K l1_38 ma1_38 else (xix (((11 : Int32) * p1) + l1_38) 176 (xix l1_38 11 (L_hB_X9_undo_38 p0 p1 p2 p3 p4  K n38 (l1_38 + (1 : Int32)) (upd ma1_38 l1_38.toNatClampNeg (p4 (((11 : Int32) * p1) + l1_38).toNatClampNeg)))))
noncomputable def e_hB_X9_undo (p0 : Int32) (p1 : Int32) (p2 : Int32) (p3 : Int32) (p4 : (Nat → Int32)) (p5 : (Nat → Int32))  : Option (Int32 × Int32 × Int32 × Int32 × Int32 × (Nat → Int32)) :=
  if p1 = (0 : Int32) then ((e_hB_X9_denied p2 p3 (6 : Int32)).bind fun z22 => xbo z22.1 (some (z22.1, (0 : Int32), p1, z22.2.1, z22.2.2, p5))) else L_hB_X9_undo_38 (0 : Int32) (p1 - (1 : Int32)) p2 p3 p4  (fun l1_38 ma1_38 => ((e_hB_X9_granted p2 p3).bind fun z71 => xbo z71.1 (some (z71.1, (0 : Int32), (p1 - (1 : Int32)), z71.2.1, z71.2.2, ma1_38)))) 200000 (0 : Int32) p5
set_option maxRecDepth 100000 in
set_option maxHeartbeats 4000000 in
theorem lp_hB_X9_undo_38 {g0 g1 g2 g3 g4 g5 g6 g7 g8 g9 g10 g11 g12 g13 g14 g15 g16 g17 g18 g19 g20 g21 g22 g23 g24 g25 g26 : Int32} {a0 a2 a3 a4 a5 a6 a7 a8 a9 a10 a11 a12 a13 a14 a15 a16 a17 a18 a19 a20 a21 a22 a23 : (Nat → Int32)} {b0 : (Nat → Int64)} {w0 : Int64} {rv : Value} (d n0 : Nat)  (res : Int32 × Int32 × Int32 × Int32 × Int32 × (Nat → Int32)) (K : Int32 → (Nat → Int32) → Option (Int32 × Int32 × Int32 × Int32 × Int32 × (Nat → Int32))) (hK : ∀ (l1_38 : Int32) (ma1_38 : (Nat → Int32)), K l1_38 ma1_38 = some res → xW xks YX9_undo (d + 3) 0 0 n0 (xZ 0 0 n0 (some (.int res.1)) (hB res.2.1 res.2.2.2.1 res.2.2.2.2.1 g3 g4 g5 g6 g7 g8 g9 g10 res.2.2.1 g12 g13 g14 g15 g16 g17 g18 g19 g20 g21 g22 g23 g24 g25 g26 a0 res.2.2.2.2.2 a2 a3 a4 a5 a6 a7 a8 a9 a10 a11 a12 a13 a14 a15 a16 a17 a18 a19 a20 a21 a22 a23 b0 w0 (.ref 11) rv)) 0 0 70 [some (.ref 0), none] [] (hB g0 g1 g2 g3 g4 g5 g6 g7 g8 g9 g10 g11 g12 g13 g14 g15 g16 g17 g18 g19 g20 g21 g22 g23 g24 g25 g26 a0 ma1_38 a2 a3 a4 a5 a6 a7 a8 a9 a10 a11 a12 a13 a14 a15 a16 a17 a18 a19 a20 a21 a22 a23 b0 w0 (.ref 11) rv)) : ∀ (n : Nat) (l1_38 : Int32) (ma1_38 : (Nat → Int32)), L_hB_X9_undo_38 g0 g11 g1 g2 a3  K n l1_38 ma1_38 = some res → xW xks YX9_undo (d + 3) 0 0 n0 (xZ 0 0 n0 (some (.int res.1)) (hB res.2.1 res.2.2.2.1 res.2.2.2.2.1 g3 g4 g5 g6 g7 g8 g9 g10 res.2.2.1 g12 g13 g14 g15 g16 g17 g18 g19 g20 g21 g22 g23 g24 g25 g26 a0 res.2.2.2.2.2 a2 a3 a4 a5 a6 a7 a8 a9 a10 a11 a12 a13 a14 a15 a16 a17 a18 a19 a20 a21 a22 a23 b0 w0 (.ref 11) rv)) 0 0 38 [some (.ref 0), some (.int l1_38)] [] (hB g0 g1 g2 g3 g4 g5 g6 g7 g8 g9 g10 g11 g12 g13 g14 g15 g16 g17 g18 g19 g20 g21 g22 g23 g24 g25 g26 a0 ma1_38 a2 a3 a4 a5 a6 a7 a8 a9 a10 a11 a12 a13 a14 a15 a16 a17 a18 a19 a20 a21 a22 a23 b0 w0 (.ref 11) rv) := by
  intro n
  induction n with
  | zero =>
    intro l1_38 ma1_38 h
    cases (show (none : Option (Int32 × Int32 × Int32 × Int32 × Int32 × (Nat → Int32))) = some res from h)
  | succ n38 ih38 =>
    intro l1_38 ma1_38 h
    unfold L_hB_X9_undo_38 at h
    refine x_iload_n dX9_undo_38 rfl ?_
    refine x_bipush (11 : Int32) dX9_undo_39 (by decide) ?_
    refine x_icmp_ge 70 dX9_undo_41 (by decide) (fun q => ?_) (fun q => ?_)
    · have h := xif_t q h
      refine x_weak (pl2 := [some (.ref 0), none]) ⟨rfl, trivial⟩ ?_
      exact hK l1_38 ma1_38 h
    · have h := xif_f q h
      refine x_aload_n dX9_undo_44 rfl ?_
      refine x_get fX9_17 dX9_undo_45 rfl rfl rfl ?_
      refine x_iload_n dX9_undo_48 rfl ?_
      refine x_aload_n dX9_undo_49 rfl ?_
      refine x_get fX9_24 dX9_undo_50 rfl rfl rfl ?_
      refine x_bipush (11 : Int32) dX9_undo_53 (by decide) ?_
      refine x_aload_n dX9_undo_55 rfl ?_
      refine x_get fX9_322 dX9_undo_56 rfl rfl rfl ?_
      refine x_imul dX9_undo_59 ?_
      refine x_iload_n dX9_undo_60 rfl ?_
      refine x_iadd dX9_undo_61 ?_
      obtain ⟨q62, h⟩ := xix_of h
      refine x_iald dX9_undo_62 rfl q62 ?_
      obtain ⟨q63, h⟩ := xix_of h
      refine x_iast (h2 := (hB g0 g1 g2 g3 g4 g5 g6 g7 g8 g9 g10 g11 g12 g13 g14 g15 g16 g17 g18 g19 g20 g21 g22 g23 g24 g25 g26 a0 (upd ma1_38 l1_38.toNatClampNeg (a3 (((11 : Int32) * g11) + l1_38).toNatClampNeg)) a2 a3 a4 a5 a6 a7 a8 a9 a10 a11 a12 a13 a14 a15 a16 a17 a18 a19 a20 a21 a22 a23 b0 w0 (.ref 11) rv)) dX9_undo_63 rfl q63 rfl ?_
      refine x_iincK (1 : Int32) (pl' := [some (.ref 0), some (.int (l1_38 + (1 : Int32)))]) dX9_undo_64 rfl (by decide) (by decide) rfl ?_
      refine x_goto 38 dX9_undo_67 (by decide) ?_
      refine x_weak (pl2 := [some (.ref 0), some (.int (l1_38 + (1 : Int32)))]) ⟨rfl, rfl, trivial⟩ ?_
      exact ih38 (l1_38 + (1 : Int32)) (upd ma1_38 l1_38.toNatClampNeg (a3 (((11 : Int32) * g11) + l1_38).toNatClampNeg)) h
set_option maxRecDepth 100000 in
set_option maxHeartbeats 4000000 in
theorem t_hB_X9_undo {g0 g1 g2 g3 g4 g5 g6 g7 g8 g9 g10 g11 g12 g13 g14 g15 g16 g17 g18 g19 g20 g21 g22 g23 g24 g25 g26 : Int32} {a0 a1 a2 a3 a4 a5 a6 a7 a8 a9 a10 a11 a12 a13 a14 a15 a16 a17 a18 a19 a20 a21 a22 a23 : (Nat → Int32)} {b0 : (Nat → Int64)} {w0 : Int64} {rv : Value}  (res : Int32 × Int32 × Int32 × Int32 × Int32 × (Nat → Int32)) (h : e_hB_X9_undo g0 g11 g1 g2 a3 a1  = some res) (d : Nat) : xMet xks YX9_undo (d + 3) 0 0 [.ref 0] (hB g0 g1 g2 g3 g4 g5 g6 g7 g8 g9 g10 g11 g12 g13 g14 g15 g16 g17 g18 g19 g20 g21 g22 g23 g24 g25 g26 a0 a1 a2 a3 a4 a5 a6 a7 a8 a9 a10 a11 a12 a13 a14 a15 a16 a17 a18 a19 a20 a21 a22 a23 b0 w0 (.ref 11) rv) (some (.int res.1)) (hB res.2.1 res.2.2.2.1 res.2.2.2.2.1 g3 g4 g5 g6 g7 g8 g9 g10 res.2.2.1 g12 g13 g14 g15 g16 g17 g18 g19 g20 g21 g22 g23 g24 g25 g26 a0 res.2.2.2.2.2 a2 a3 a4 a5 a6 a7 a8 a9 a10 a11 a12 a13 a14 a15 a16 a17 a18 a19 a20 a21 a22 a23 b0 w0 (.ref 11) rv) := by
  unfold e_hB_X9_undo at h
  refine xMet_of (pl := [some (.ref 0), none]) (by decide) (Nat.le_of_ble_eq_true rfl) rfl (Nat.le_of_ble_eq_true rfl) ?_
  refine x_aload_n dX9_undo_0 rfl ?_
  refine x_iconst (0 : Int32) dX9_undo_1 (by decide) ?_
  refine x_put (h2 := (hB (0 : Int32) g1 g2 g3 g4 g5 g6 g7 g8 g9 g10 g11 g12 g13 g14 g15 g16 g17 g18 g19 g20 g21 g22 g23 g24 g25 g26 a0 a1 a2 a3 a4 a5 a6 a7 a8 a9 a10 a11 a12 a13 a14 a15 a16 a17 a18 a19 a20 a21 a22 a23 b0 w0 (.ref 11) rv)) fX9_45 dX9_undo_2 rfl rfl (Nat.le_of_ble_eq_true rfl : 0 + 1 ≤ _) (fun α => ⟨rfl, rfl⟩) rfl ?_
  refine x_aload_n dX9_undo_5 rfl ?_
  refine x_get fX9_316 dX9_undo_6 rfl rfl rfl ?_
  refine x_ifnull dX9_undo_9 ?_
  refine x_aload_n dX9_undo_12 rfl ?_
  refine x_get fX9_322 dX9_undo_13 rfl rfl rfl ?_
  refine x_if_ne 26 dX9_undo_16 (by decide) (fun q => ?_) (fun q => ?_)
  · have h := xif_f q h
    refine x_aload_n dX9_undo_26 rfl ?_
    refine x_dup dX9_undo_27 rfl ?_
    refine x_get fX9_322 dX9_undo_28 rfl rfl rfl ?_
    refine x_iconst (1 : Int32) dX9_undo_31 (by decide) ?_
    refine x_isub dX9_undo_32 ?_
    refine x_put (h2 := (hB (0 : Int32) g1 g2 g3 g4 g5 g6 g7 g8 g9 g10 (g11 - (1 : Int32)) g12 g13 g14 g15 g16 g17 g18 g19 g20 g21 g22 g23 g24 g25 g26 a0 a1 a2 a3 a4 a5 a6 a7 a8 a9 a10 a11 a12 a13 a14 a15 a16 a17 a18 a19 a20 a21 a22 a23 b0 w0 (.ref 11) rv)) fX9_322 dX9_undo_33 rfl rfl (Nat.le_of_ble_eq_true rfl : 19 + 1 ≤ _) (fun α => ⟨rfl, rfl⟩) rfl ?_
    refine x_iconst (0 : Int32) dX9_undo_36 (by decide) ?_
    refine x_istore_n (pl' := [some (.ref 0), some (.int (0 : Int32))]) dX9_undo_37 (by decide) rfl ?_
    refine x_weak (pl2 := [some (.ref 0), some (.int (0 : Int32))]) ⟨rfl, rfl, trivial⟩ ?_
    refine lp_hB_X9_undo_38 d _  res _ (fun l1_38 ma1_38 h => ?_) 200000 (0 : Int32) a1 h
    refine x_aload_n dX9_undo_70 rfl ?_
    obtain ⟨z71, y71, h⟩ := xbind h
    refine x_callV (t_hB_X9_granted  z71 y71 (d + 0)) kX9_494 dX9_undo_71 rfl rfl rfl rfl rfl (Nat.le_of_ble_eq_true rfl) (Nat.le_of_ble_eq_true rfl) rfl rfl (Or.inl rfl) ?_
    obtain ⟨-, q74, h⟩ := xbo_of h
    cases h
    exact x_zret2 dX9_undo_74 rfl q74 rfl
  · have h := xif_t q h
    refine x_aload_n dX9_undo_19 rfl ?_
    refine x_bipush (6 : Int32) dX9_undo_20 (by decide) ?_
    obtain ⟨z22, y22, h⟩ := xbind h
    refine x_callV (t_hB_X9_denied (6 : Int32) z22 y22 (d + 0)) kX9_488 dX9_undo_22 rfl rfl rfl rfl rfl (Nat.le_of_ble_eq_true rfl) (Nat.le_of_ble_eq_true rfl) rfl rfl (Or.inl rfl) ?_
    obtain ⟨-, q25, h⟩ := xbo_of h
    cases h
    exact x_zret2 dX9_undo_25 rfl q25 rfl
noncomputable def L_hB_X9_mark_34 (p0 : Int32) (p1 : Int32) (p2 : Int32) (p3 : Int32) (p4 : (Nat → Int32))   (K : Int32 → (Nat → Int32) → Option (Int32 × Int32 × Int32 × Int32 × Int32 × (Nat → Int32))) : Nat → Int32 → (Nat → Int32) → Option (Int32 × Int32 × Int32 × Int32 × Int32 × (Nat → Int32))
  | 0, _, _ => none
  | n34 + 1, l1_34, ma4_34 => if (11 : Int32) ≤ l1_34 then K l1_34 ma4_34 else (xix l1_34 11 (xix (((11 : Int32) * p1) + l1_34) 33 (L_hB_X9_mark_34 p0 p1 p2 p3 p4  K n34 (l1_34 + (1 : Int32)) (upd ma4_34 (((11 : Int32) * p1) + l1_34).toNatClampNeg (p4 l1_34.toNatClampNeg)))))
noncomputable def e_hB_X9_mark (p0 : Int32) (p1 : Int32) (p2 : Int32) (p3 : Int32) (p4 : (Nat → Int32)) (p5 : (Nat → Int32))  : Option (Int32 × Int32 × Int32 × Int32 × Int32 × (Nat → Int32)) :=
  if p1 = (3 : Int32) then ((e_hB_X9_refused p2 p3 (3 : Int32)).bind fun z28 => some (z28.1, (0 : Int32), p1, z28.2.1, z28.2.2, p5)) else L_hB_X9_mark_34 (0 : Int32) p1 p2 p3 p4  (fun l1_34 ma4_34 => ((e_hB_X9_good p2 p3 ((p1 + (1 : Int32)) - (1 : Int32))).bind fun z83 => some (z83.1, (0 : Int32), (p1 + (1 : Int32)), z83.2.1, z83.2.2, ma4_34))) 200000 (0 : Int32) p5
set_option maxRecDepth 100000 in
set_option maxHeartbeats 4000000 in
theorem lp_hB_X9_mark_34 {g0 g1 g2 g3 g4 g5 g6 g7 g8 g9 g10 g11 g12 g13 g14 g15 g16 g17 g18 g19 g20 g21 g22 g23 g24 g25 g26 : Int32} {a0 a1 a2 a3 a5 a6 a7 a8 a9 a10 a11 a12 a13 a14 a15 a16 a17 a18 a19 a20 a21 a22 a23 : (Nat → Int32)} {b0 : (Nat → Int64)} {w0 : Int64} {rv : Value} (d n0 : Nat)  (res : Int32 × Int32 × Int32 × Int32 × Int32 × (Nat → Int32)) (K : Int32 → (Nat → Int32) → Option (Int32 × Int32 × Int32 × Int32 × Int32 × (Nat → Int32))) (hK : ∀ (l1_34 : Int32) (ma4_34 : (Nat → Int32)), K l1_34 ma4_34 = some res → xW xks YX9_mark (d + 2) 0 0 n0 (xZ 0 0 n0 (some (.int res.1)) (hB res.2.1 res.2.2.2.1 res.2.2.2.2.1 g3 g4 g5 g6 g7 g8 g9 g10 g11 res.2.2.1 g13 g14 g15 g16 g17 g18 g19 g20 g21 g22 g23 g24 g25 g26 a0 a1 a2 a3 res.2.2.2.2.2 a5 a6 a7 a8 a9 a10 a11 a12 a13 a14 a15 a16 a17 a18 a19 a20 a21 a22 a23 b0 w0 (.ref 11) rv)) 0 0 66 [some (.ref 0), none] [] (hB g0 g1 g2 g3 g4 g5 g6 g7 g8 g9 g10 g11 g12 g13 g14 g15 g16 g17 g18 g19 g20 g21 g22 g23 g24 g25 g26 a0 a1 a2 a3 ma4_34 a5 a6 a7 a8 a9 a10 a11 a12 a13 a14 a15 a16 a17 a18 a19 a20 a21 a22 a23 b0 w0 (.ref 11) rv)) : ∀ (n : Nat) (l1_34 : Int32) (ma4_34 : (Nat → Int32)), L_hB_X9_mark_34 g0 g12 g1 g2 a1  K n l1_34 ma4_34 = some res → xW xks YX9_mark (d + 2) 0 0 n0 (xZ 0 0 n0 (some (.int res.1)) (hB res.2.1 res.2.2.2.1 res.2.2.2.2.1 g3 g4 g5 g6 g7 g8 g9 g10 g11 res.2.2.1 g13 g14 g15 g16 g17 g18 g19 g20 g21 g22 g23 g24 g25 g26 a0 a1 a2 a3 res.2.2.2.2.2 a5 a6 a7 a8 a9 a10 a11 a12 a13 a14 a15 a16 a17 a18 a19 a20 a21 a22 a23 b0 w0 (.ref 11) rv)) 0 0 34 [some (.ref 0), some (.int l1_34)] [] (hB g0 g1 g2 g3 g4 g5 g6 g7 g8 g9 g10 g11 g12 g13 g14 g15 g16 g17 g18 g19 g20 g21 g22 g23 g24 g25 g26 a0 a1 a2 a3 ma4_34 a5 a6 a7 a8 a9 a10 a11 a12 a13 a14 a15 a16 a17 a18 a19 a20 a21 a22 a23 b0 w0 (.ref 11) rv) := by
  intro n
  induction n with
  | zero =>
    intro l1_34 ma4_34 h
    cases (show (none : Option (Int32 × Int32 × Int32 × Int32 × Int32 × (Nat → Int32))) = some res from h)
  | succ n34 ih34 =>
    intro l1_34 ma4_34 h
    unfold L_hB_X9_mark_34 at h
    refine x_iload_n dX9_mark_34 rfl ?_
    refine x_bipush (11 : Int32) dX9_mark_35 (by decide) ?_
    refine x_icmp_ge 66 dX9_mark_37 (by decide) (fun q => ?_) (fun q => ?_)
    · have h := xif_t q h
      refine x_weak (pl2 := [some (.ref 0), none]) ⟨rfl, trivial⟩ ?_
      exact hK l1_34 ma4_34 h
    · have h := xif_f q h
      refine x_aload_n dX9_mark_40 rfl ?_
      refine x_get fX9_27 dX9_mark_41 rfl rfl rfl ?_
      refine x_bipush (11 : Int32) dX9_mark_44 (by decide) ?_
      refine x_aload_n dX9_mark_46 rfl ?_
      refine x_get fX9_325 dX9_mark_47 rfl rfl rfl ?_
      refine x_imul dX9_mark_50 ?_
      refine x_iload_n dX9_mark_51 rfl ?_
      refine x_iadd dX9_mark_52 ?_
      refine x_aload_n dX9_mark_53 rfl ?_
      refine x_get fX9_17 dX9_mark_54 rfl rfl rfl ?_
      refine x_iload_n dX9_mark_57 rfl ?_
      obtain ⟨q58, h⟩ := xix_of h
      refine x_iald dX9_mark_58 rfl q58 ?_
      obtain ⟨q59, h⟩ := xix_of h
      refine x_iast (h2 := (hB g0 g1 g2 g3 g4 g5 g6 g7 g8 g9 g10 g11 g12 g13 g14 g15 g16 g17 g18 g19 g20 g21 g22 g23 g24 g25 g26 a0 a1 a2 a3 (upd ma4_34 (((11 : Int32) * g12) + l1_34).toNatClampNeg (a1 l1_34.toNatClampNeg)) a5 a6 a7 a8 a9 a10 a11 a12 a13 a14 a15 a16 a17 a18 a19 a20 a21 a22 a23 b0 w0 (.ref 11) rv)) dX9_mark_59 rfl q59 rfl ?_
      refine x_iincK (1 : Int32) (pl' := [some (.ref 0), some (.int (l1_34 + (1 : Int32)))]) dX9_mark_60 rfl (by decide) (by decide) rfl ?_
      refine x_goto 34 dX9_mark_63 (by decide) ?_
      refine x_weak (pl2 := [some (.ref 0), some (.int (l1_34 + (1 : Int32)))]) ⟨rfl, rfl, trivial⟩ ?_
      exact ih34 (l1_34 + (1 : Int32)) (upd ma4_34 (((11 : Int32) * g12) + l1_34).toNatClampNeg (a1 l1_34.toNatClampNeg)) h
set_option maxRecDepth 100000 in
set_option maxHeartbeats 4000000 in
theorem t_hB_X9_mark {g0 g1 g2 g3 g4 g5 g6 g7 g8 g9 g10 g11 g12 g13 g14 g15 g16 g17 g18 g19 g20 g21 g22 g23 g24 g25 g26 : Int32} {a0 a1 a2 a3 a4 a5 a6 a7 a8 a9 a10 a11 a12 a13 a14 a15 a16 a17 a18 a19 a20 a21 a22 a23 : (Nat → Int32)} {b0 : (Nat → Int64)} {w0 : Int64} {rv : Value}  (res : Int32 × Int32 × Int32 × Int32 × Int32 × (Nat → Int32)) (h : e_hB_X9_mark g0 g12 g1 g2 a1 a4  = some res) (d : Nat) : xMet xks YX9_mark (d + 2) 0 0 [.ref 0] (hB g0 g1 g2 g3 g4 g5 g6 g7 g8 g9 g10 g11 g12 g13 g14 g15 g16 g17 g18 g19 g20 g21 g22 g23 g24 g25 g26 a0 a1 a2 a3 a4 a5 a6 a7 a8 a9 a10 a11 a12 a13 a14 a15 a16 a17 a18 a19 a20 a21 a22 a23 b0 w0 (.ref 11) rv) (some (.int res.1)) (hB res.2.1 res.2.2.2.1 res.2.2.2.2.1 g3 g4 g5 g6 g7 g8 g9 g10 g11 res.2.2.1 g13 g14 g15 g16 g17 g18 g19 g20 g21 g22 g23 g24 g25 g26 a0 a1 a2 a3 res.2.2.2.2.2 a5 a6 a7 a8 a9 a10 a11 a12 a13 a14 a15 a16 a17 a18 a19 a20 a21 a22 a23 b0 w0 (.ref 11) rv) := by
  unfold e_hB_X9_mark at h
  refine xMet_of (pl := [some (.ref 0), none]) (by decide) (Nat.le_of_ble_eq_true rfl) rfl (Nat.le_of_ble_eq_true rfl) ?_
  refine x_aload_n dX9_mark_0 rfl ?_
  refine x_iconst (0 : Int32) dX9_mark_1 (by decide) ?_
  refine x_put (h2 := (hB (0 : Int32) g1 g2 g3 g4 g5 g6 g7 g8 g9 g10 g11 g12 g13 g14 g15 g16 g17 g18 g19 g20 g21 g22 g23 g24 g25 g26 a0 a1 a2 a3 a4 a5 a6 a7 a8 a9 a10 a11 a12 a13 a14 a15 a16 a17 a18 a19 a20 a21 a22 a23 b0 w0 (.ref 11) rv)) fX9_45 dX9_mark_2 rfl rfl (Nat.le_of_ble_eq_true rfl : 0 + 1 ≤ _) (fun α => ⟨rfl, rfl⟩) rfl ?_
  refine x_aload_n dX9_mark_5 rfl ?_
  refine x_get fX9_316 dX9_mark_6 rfl rfl rfl ?_
  refine x_ifnonnull 18 dX9_mark_9 (by decide) ?_
  refine x_aload_n dX9_mark_18 rfl ?_
  refine x_get fX9_325 dX9_mark_19 rfl rfl rfl ?_
  refine x_iconst (3 : Int32) dX9_mark_22 (by decide) ?_
  refine x_icmp_ne 32 dX9_mark_23 (by decide) (fun q => ?_) (fun q => ?_)
  · have h := xif_f q h
    refine x_iconst (0 : Int32) dX9_mark_32 (by decide) ?_
    refine x_istore_n (pl' := [some (.ref 0), some (.int (0 : Int32))]) dX9_mark_33 (by decide) rfl ?_
    refine x_weak (pl2 := [some (.ref 0), some (.int (0 : Int32))]) ⟨rfl, rfl, trivial⟩ ?_
    refine lp_hB_X9_mark_34 d _  res _ (fun l1_34 ma4_34 h => ?_) 200000 (0 : Int32) a4 h
    refine x_aload_n dX9_mark_66 rfl ?_
    refine x_dup dX9_mark_67 rfl ?_
    refine x_get fX9_325 dX9_mark_68 rfl rfl rfl ?_
    refine x_iconst (1 : Int32) dX9_mark_71 (by decide) ?_
    refine x_iadd dX9_mark_72 ?_
    refine x_put (h2 := (hB (0 : Int32) g1 g2 g3 g4 g5 g6 g7 g8 g9 g10 g11 (g12 + (1 : Int32)) g13 g14 g15 g16 g17 g18 g19 g20 g21 g22 g23 g24 g25 g26 a0 a1 a2 a3 ma4_34 a5 a6 a7 a8 a9 a10 a11 a12 a13 a14 a15 a16 a17 a18 a19 a20 a21 a22 a23 b0 w0 (.ref 11) rv)) fX9_325 dX9_mark_73 rfl rfl (Nat.le_of_ble_eq_true rfl : 20 + 1 ≤ _) (fun α => ⟨rfl, rfl⟩) rfl ?_
    refine x_aload_n dX9_mark_76 rfl ?_
    refine x_aload_n dX9_mark_77 rfl ?_
    refine x_get fX9_325 dX9_mark_78 rfl rfl rfl ?_
    refine x_iconst (1 : Int32) dX9_mark_81 (by decide) ?_
    refine x_isub dX9_mark_82 ?_
    obtain ⟨z83, y83, h⟩ := xbind h
    refine x_callV (t_hB_X9_good ((g12 + (1 : Int32)) - (1 : Int32)) z83 y83 (d + 0)) kX9_55 dX9_mark_83 rfl rfl rfl rfl rfl (Nat.le_of_ble_eq_true rfl) (Nat.le_of_ble_eq_true rfl) rfl rfl (Or.inl rfl) ?_
    cases h
    exact x_iret2 dX9_mark_86 rfl rfl
  · have h := xif_t q h
    refine x_aload_n dX9_mark_26 rfl ?_
    refine x_iconst (3 : Int32) dX9_mark_27 (by decide) ?_
    obtain ⟨z28, y28, h⟩ := xbind h
    refine x_callV (t_hB_X9_refused (3 : Int32) z28 y28 (d + 0)) kX9_51 dX9_mark_28 rfl rfl rfl rfl rfl (Nat.le_of_ble_eq_true rfl) (Nat.le_of_ble_eq_true rfl) rfl rfl (Or.inl rfl) ?_
    cases h
    exact x_iret2 dX9_mark_31 rfl rfl
noncomputable def L_hB_X9_back_32 (p0 : Int32) (p1 : Int32) (p2 : Int32) (p3 : Int32) (p4 : Int32) (p5 : (Nat → Int32))  (f1 : Int32) (K : Int32 → (Nat → Int32) → Option (Int32 × Int32 × Int32 × Int32 × Int32 × (Nat → Int32))) : Nat → Int32 → (Nat → Int32) → Option (Int32 × Int32 × Int32 × Int32 × Int32 × (Nat → Int32))
  | 0, _, _ => none
  | n32 + 1, l2_32, ma1_32 => if (11 : Int32) ≤ l2_32 then K l2_32 ma1_32 else (xix (((11 : Int32) * f1) + l2_32) 33 (xix l2_32 11 (L_hB_X9_back_32 p0 p1 p2 p3 p4 p5 f1 K n32 (l2_32 + (1 : Int32)) (upd ma1_32 l2_32.toNatClampNeg (p5 (((11 : Int32) * f1) + l2_32).toNatClampNeg)))))
noncomputable def e_hB_X9_back (p0 : Int32) (p1 : Int32) (p2 : Int32) (p3 : Int32) (p4 : Int32) (p5 : (Nat → Int32)) (p6 : (Nat → Int32)) (x1 : Int32) : Option (Int32 × Int32 × Int32 × Int32 × Int32 × (Nat → Int32)) :=
  if x1 < (0 : Int32) then ((e_hB_X9_denied p1 p2 (1 : Int32)).bind fun z26 => xbo z26.1 (some (z26.1, (0 : Int32), z26.2.1, z26.2.2, p4, p6))) else if x1 < p3 then L_hB_X9_back_32 (0 : Int32) p1 p2 p3 p4 p5 x1 (fun l2_32 ma1_32 => ((e_hB_X9_granted p1 p2).bind fun z67 => xbo z67.1 (some (z67.1, (0 : Int32), z67.2.1, z67.2.2, (0 : Int32), ma1_32)))) 200000 (0 : Int32) p6 else ((e_hB_X9_denied p1 p2 (1 : Int32)).bind fun z26 => xbo z26.1 (some (z26.1, (0 : Int32), z26.2.1, z26.2.2, p4, p6)))
set_option maxRecDepth 100000 in
set_option maxHeartbeats 4000000 in
theorem lp_hB_X9_back_32 {g0 g1 g2 g3 g4 g5 g6 g7 g8 g9 g10 g11 g12 g13 g14 g15 g16 g17 g18 g19 g20 g21 g22 g23 g24 g25 g26 : Int32} {a0 a2 a3 a4 a5 a6 a7 a8 a9 a10 a11 a12 a13 a14 a15 a16 a17 a18 a19 a20 a21 a22 a23 : (Nat → Int32)} {b0 : (Nat → Int64)} {w0 : Int64} {rv : Value} (d n0 : Nat) (f1 : Int32) (res : Int32 × Int32 × Int32 × Int32 × Int32 × (Nat → Int32)) (K : Int32 → (Nat → Int32) → Option (Int32 × Int32 × Int32 × Int32 × Int32 × (Nat → Int32))) (hK : ∀ (l2_32 : Int32) (ma1_32 : (Nat → Int32)), K l2_32 ma1_32 = some res → xW xks YX9_back (d + 3) 0 0 n0 (xZ 0 0 n0 (some (.int res.1)) (hB res.2.1 res.2.2.1 res.2.2.2.1 g3 g4 g5 g6 g7 g8 g9 g10 res.2.2.2.2.1 g12 g13 g14 g15 g16 g17 g18 g19 g20 g21 g22 g23 g24 g25 g26 a0 res.2.2.2.2.2 a2 a3 a4 a5 a6 a7 a8 a9 a10 a11 a12 a13 a14 a15 a16 a17 a18 a19 a20 a21 a22 a23 b0 w0 (.ref 11) rv)) 0 0 61 [some (.ref 0), none, none] [] (hB g0 g1 g2 g3 g4 g5 g6 g7 g8 g9 g10 g11 g12 g13 g14 g15 g16 g17 g18 g19 g20 g21 g22 g23 g24 g25 g26 a0 ma1_32 a2 a3 a4 a5 a6 a7 a8 a9 a10 a11 a12 a13 a14 a15 a16 a17 a18 a19 a20 a21 a22 a23 b0 w0 (.ref 11) rv)) : ∀ (n : Nat) (l2_32 : Int32) (ma1_32 : (Nat → Int32)), L_hB_X9_back_32 g0 g1 g2 g12 g11 a4 f1 K n l2_32 ma1_32 = some res → xW xks YX9_back (d + 3) 0 0 n0 (xZ 0 0 n0 (some (.int res.1)) (hB res.2.1 res.2.2.1 res.2.2.2.1 g3 g4 g5 g6 g7 g8 g9 g10 res.2.2.2.2.1 g12 g13 g14 g15 g16 g17 g18 g19 g20 g21 g22 g23 g24 g25 g26 a0 res.2.2.2.2.2 a2 a3 a4 a5 a6 a7 a8 a9 a10 a11 a12 a13 a14 a15 a16 a17 a18 a19 a20 a21 a22 a23 b0 w0 (.ref 11) rv)) 0 0 32 [some (.ref 0), some (.int f1), some (.int l2_32)] [] (hB g0 g1 g2 g3 g4 g5 g6 g7 g8 g9 g10 g11 g12 g13 g14 g15 g16 g17 g18 g19 g20 g21 g22 g23 g24 g25 g26 a0 ma1_32 a2 a3 a4 a5 a6 a7 a8 a9 a10 a11 a12 a13 a14 a15 a16 a17 a18 a19 a20 a21 a22 a23 b0 w0 (.ref 11) rv) := by
  intro n
  induction n with
  | zero =>
    intro l2_32 ma1_32 h
    cases (show (none : Option (Int32 × Int32 × Int32 × Int32 × Int32 × (Nat → Int32))) = some res from h)
  | succ n32 ih32 =>
    intro l2_32 ma1_32 h
    unfold L_hB_X9_back_32 at h
    refine x_iload_n dX9_back_32 rfl ?_
    refine x_bipush (11 : Int32) dX9_back_33 (by decide) ?_
    refine x_icmp_ge 61 dX9_back_35 (by decide) (fun q => ?_) (fun q => ?_)
    · have h := xif_t q h
      refine x_weak (pl2 := [some (.ref 0), none, none]) ⟨rfl, trivial⟩ ?_
      exact hK l2_32 ma1_32 h
    · have h := xif_f q h
      refine x_aload_n dX9_back_38 rfl ?_
      refine x_get fX9_17 dX9_back_39 rfl rfl rfl ?_
      refine x_iload_n dX9_back_42 rfl ?_
      refine x_aload_n dX9_back_43 rfl ?_
      refine x_get fX9_27 dX9_back_44 rfl rfl rfl ?_
      refine x_bipush (11 : Int32) dX9_back_47 (by decide) ?_
      refine x_iload_n dX9_back_49 rfl ?_
      refine x_imul dX9_back_50 ?_
      refine x_iload_n dX9_back_51 rfl ?_
      refine x_iadd dX9_back_52 ?_
      obtain ⟨q53, h⟩ := xix_of h
      refine x_iald dX9_back_53 rfl q53 ?_
      obtain ⟨q54, h⟩ := xix_of h
      refine x_iast (h2 := (hB g0 g1 g2 g3 g4 g5 g6 g7 g8 g9 g10 g11 g12 g13 g14 g15 g16 g17 g18 g19 g20 g21 g22 g23 g24 g25 g26 a0 (upd ma1_32 l2_32.toNatClampNeg (a4 (((11 : Int32) * f1) + l2_32).toNatClampNeg)) a2 a3 a4 a5 a6 a7 a8 a9 a10 a11 a12 a13 a14 a15 a16 a17 a18 a19 a20 a21 a22 a23 b0 w0 (.ref 11) rv)) dX9_back_54 rfl q54 rfl ?_
      refine x_iincK (1 : Int32) (pl' := [some (.ref 0), some (.int f1), some (.int (l2_32 + (1 : Int32)))]) dX9_back_55 rfl (by decide) (by decide) rfl ?_
      refine x_goto 32 dX9_back_58 (by decide) ?_
      refine x_weak (pl2 := [some (.ref 0), some (.int f1), some (.int (l2_32 + (1 : Int32)))]) ⟨rfl, rfl, rfl, trivial⟩ ?_
      exact ih32 (l2_32 + (1 : Int32)) (upd ma1_32 l2_32.toNatClampNeg (a4 (((11 : Int32) * f1) + l2_32).toNatClampNeg)) h
set_option maxRecDepth 100000 in
set_option maxHeartbeats 4000000 in
theorem t_hB_X9_back {g0 g1 g2 g3 g4 g5 g6 g7 g8 g9 g10 g11 g12 g13 g14 g15 g16 g17 g18 g19 g20 g21 g22 g23 g24 g25 g26 : Int32} {a0 a1 a2 a3 a4 a5 a6 a7 a8 a9 a10 a11 a12 a13 a14 a15 a16 a17 a18 a19 a20 a21 a22 a23 : (Nat → Int32)} {b0 : (Nat → Int64)} {w0 : Int64} {rv : Value} (x1 : Int32) (res : Int32 × Int32 × Int32 × Int32 × Int32 × (Nat → Int32)) (h : e_hB_X9_back g0 g1 g2 g12 g11 a4 a1 x1 = some res) (d : Nat) : xMet xks YX9_back (d + 3) 0 0 [.ref 0, .int x1] (hB g0 g1 g2 g3 g4 g5 g6 g7 g8 g9 g10 g11 g12 g13 g14 g15 g16 g17 g18 g19 g20 g21 g22 g23 g24 g25 g26 a0 a1 a2 a3 a4 a5 a6 a7 a8 a9 a10 a11 a12 a13 a14 a15 a16 a17 a18 a19 a20 a21 a22 a23 b0 w0 (.ref 11) rv) (some (.int res.1)) (hB res.2.1 res.2.2.1 res.2.2.2.1 g3 g4 g5 g6 g7 g8 g9 g10 res.2.2.2.2.1 g12 g13 g14 g15 g16 g17 g18 g19 g20 g21 g22 g23 g24 g25 g26 a0 res.2.2.2.2.2 a2 a3 a4 a5 a6 a7 a8 a9 a10 a11 a12 a13 a14 a15 a16 a17 a18 a19 a20 a21 a22 a23 b0 w0 (.ref 11) rv) := by
  unfold e_hB_X9_back at h
  refine xMet_of (pl := [some (.ref 0), some (.int x1), none]) (by decide) (Nat.le_of_ble_eq_true rfl) rfl (Nat.le_of_ble_eq_true rfl) ?_
  refine x_aload_n dX9_back_0 rfl ?_
  refine x_iconst (0 : Int32) dX9_back_1 (by decide) ?_
  refine x_put (h2 := (hB (0 : Int32) g1 g2 g3 g4 g5 g6 g7 g8 g9 g10 g11 g12 g13 g14 g15 g16 g17 g18 g19 g20 g21 g22 g23 g24 g25 g26 a0 a1 a2 a3 a4 a5 a6 a7 a8 a9 a10 a11 a12 a13 a14 a15 a16 a17 a18 a19 a20 a21 a22 a23 b0 w0 (.ref 11) rv)) fX9_45 dX9_back_2 rfl rfl (Nat.le_of_ble_eq_true rfl : 0 + 1 ≤ _) (fun α => ⟨rfl, rfl⟩) rfl ?_
  refine x_aload_n dX9_back_5 rfl ?_
  refine x_get fX9_316 dX9_back_6 rfl rfl rfl ?_
  refine x_ifnull dX9_back_9 ?_
  refine x_iload_n dX9_back_12 rfl ?_
  refine x_if_lt 24 dX9_back_13 (by decide) (fun q => ?_) (fun q => ?_)
  · have h := xif_t q h
    refine x_aload_n dX9_back_24 rfl ?_
    refine x_iconst (1 : Int32) dX9_back_25 (by decide) ?_
    obtain ⟨z26, y26, h⟩ := xbind h
    refine x_callV (t_hB_X9_denied (1 : Int32) z26 y26 (d + 0)) kX9_488 dX9_back_26 rfl rfl rfl rfl rfl (Nat.le_of_ble_eq_true rfl) (Nat.le_of_ble_eq_true rfl) rfl rfl (Or.inl rfl) ?_
    obtain ⟨-, q29, h⟩ := xbo_of h
    cases h
    exact x_zret2 dX9_back_29 rfl q29 rfl
  · have h := xif_f q h
    refine x_iload_n dX9_back_16 rfl ?_
    refine x_aload_n dX9_back_17 rfl ?_
    refine x_get fX9_325 dX9_back_18 rfl rfl rfl ?_
    refine x_icmp_lt 30 dX9_back_21 (by decide) (fun q => ?_) (fun q => ?_)
    · have h := xif_t q h
      refine x_iconst (0 : Int32) dX9_back_30 (by decide) ?_
      refine x_istore_n (pl' := [some (.ref 0), some (.int x1), some (.int (0 : Int32))]) dX9_back_31 (by decide) rfl ?_
      refine x_weak (pl2 := [some (.ref 0), some (.int x1), some (.int (0 : Int32))]) ⟨rfl, rfl, rfl, trivial⟩ ?_
      refine lp_hB_X9_back_32 d _ x1 res _ (fun l2_32 ma1_32 h => ?_) 200000 (0 : Int32) a1 h
      refine x_aload_n dX9_back_61 rfl ?_
      refine x_iconst (0 : Int32) dX9_back_62 (by decide) ?_
      refine x_put (h2 := (hB (0 : Int32) g1 g2 g3 g4 g5 g6 g7 g8 g9 g10 (0 : Int32) g12 g13 g14 g15 g16 g17 g18 g19 g20 g21 g22 g23 g24 g25 g26 a0 ma1_32 a2 a3 a4 a5 a6 a7 a8 a9 a10 a11 a12 a13 a14 a15 a16 a17 a18 a19 a20 a21 a22 a23 b0 w0 (.ref 11) rv)) fX9_322 dX9_back_63 rfl rfl (Nat.le_of_ble_eq_true rfl : 19 + 1 ≤ _) (fun α => ⟨rfl, rfl⟩) rfl ?_
      refine x_aload_n dX9_back_66 rfl ?_
      obtain ⟨z67, y67, h⟩ := xbind h
      refine x_callV (t_hB_X9_granted  z67 y67 (d + 0)) kX9_494 dX9_back_67 rfl rfl rfl rfl rfl (Nat.le_of_ble_eq_true rfl) (Nat.le_of_ble_eq_true rfl) rfl rfl (Or.inl rfl) ?_
      obtain ⟨-, q70, h⟩ := xbo_of h
      cases h
      exact x_zret2 dX9_back_70 rfl q70 rfl
    · have h := xif_f q h
      refine x_aload_n dX9_back_24 rfl ?_
      refine x_iconst (1 : Int32) dX9_back_25 (by decide) ?_
      obtain ⟨z26, y26, h⟩ := xbind h
      refine x_callV (t_hB_X9_denied (1 : Int32) z26 y26 (d + 0)) kX9_488 dX9_back_26 rfl rfl rfl rfl rfl (Nat.le_of_ble_eq_true rfl) (Nat.le_of_ble_eq_true rfl) rfl rfl (Or.inl rfl) ?_
      obtain ⟨-, q29, h⟩ := xbo_of h
      cases h
      exact x_zret2 dX9_back_29 rfl q29 rfl
noncomputable def e_hB_X9_size (p0 : Int32) (p1 : Int32) (p2 : Int32) (p3 : Int32) (p4 : Int32) (p5 : Int32) (p6 : Int32) (p7 : Int32) (p8 : Int32) (p9 : (Nat → Int32)) (p10 : Int32) (p11 : Int32) (x1 : Int32) : Option (Int32 × Int32) :=
  if x1 = (10 : Int32) then some (p11, (0 : Int32)) else ((e_hB_X9_in x1 (0 : Int32) (9 : Int32)).bind fun z20 => if z20 = (0 : Int32) then some ((-1 : Int32), (0 : Int32)) else if x1.toInt < 0 ∨ 8 < x1.toInt then some (p1, (0 : Int32)) else if x1 = (0 : Int32) then some (p2, (0 : Int32)) else if x1 = (1 : Int32) then some (p3, (0 : Int32)) else if x1 = (2 : Int32) then some (p4, (0 : Int32)) else if x1 = (3 : Int32) then some (p5, (0 : Int32)) else if x1 = (4 : Int32) then some (p6, (0 : Int32)) else if x1 = (5 : Int32) then some (p7, (0 : Int32)) else if x1 = (6 : Int32) then some (p8, (0 : Int32)) else if x1 = (7 : Int32) then some ((p9 (10 : Int32).toNatClampNeg), (0 : Int32)) else if x1 = (8 : Int32) then some (p10, (0 : Int32)) else none)
set_option maxRecDepth 100000 in
set_option maxHeartbeats 4000000 in
theorem t_hB_X9_size {g0 g1 g2 g3 g4 g5 g6 g7 g8 g9 g10 g11 g12 g13 g14 g15 g16 g17 g18 g19 g20 g21 g22 g23 g24 g25 g26 : Int32} {a0 a1 a2 a3 a4 a5 a6 a7 a8 a9 a10 a11 a12 a13 a14 a15 a16 a17 a18 a19 a20 a21 a22 a23 : (Nat → Int32)} {b0 : (Nat → Int64)} {w0 : Int64} {rv : Value} (x1 : Int32) (res : Int32 × Int32) (h : e_hB_X9_size g0 g12 g19 g20 g21 g22 g23 g24 g25 a1 g11 g3 x1 = some res) (d : Nat) : xMet xks YX9_size (d + 2) 0 0 [.ref 0, .int x1] (hB g0 g1 g2 g3 g4 g5 g6 g7 g8 g9 g10 g11 g12 g13 g14 g15 g16 g17 g18 g19 g20 g21 g22 g23 g24 g25 g26 a0 a1 a2 a3 a4 a5 a6 a7 a8 a9 a10 a11 a12 a13 a14 a15 a16 a17 a18 a19 a20 a21 a22 a23 b0 w0 (.ref 11) rv) (some (.int res.1)) (hB res.2 g1 g2 g3 g4 g5 g6 g7 g8 g9 g10 g11 g12 g13 g14 g15 g16 g17 g18 g19 g20 g21 g22 g23 g24 g25 g26 a0 a1 a2 a3 a4 a5 a6 a7 a8 a9 a10 a11 a12 a13 a14 a15 a16 a17 a18 a19 a20 a21 a22 a23 b0 w0 (.ref 11) rv) := by
  unfold e_hB_X9_size at h
  refine xMet_of (pl := [some (.ref 0), some (.int x1)]) (by decide) (Nat.le_of_ble_eq_true rfl) rfl (Nat.le_of_ble_eq_true rfl) ?_
  refine x_aload_n dX9_size_0 rfl ?_
  refine x_iconst (0 : Int32) dX9_size_1 (by decide) ?_
  refine x_put (h2 := (hB (0 : Int32) g1 g2 g3 g4 g5 g6 g7 g8 g9 g10 g11 g12 g13 g14 g15 g16 g17 g18 g19 g20 g21 g22 g23 g24 g25 g26 a0 a1 a2 a3 a4 a5 a6 a7 a8 a9 a10 a11 a12 a13 a14 a15 a16 a17 a18 a19 a20 a21 a22 a23 b0 w0 (.ref 11) rv)) fX9_45 dX9_size_2 rfl rfl (Nat.le_of_ble_eq_true rfl : 0 + 1 ≤ _) (fun α => ⟨rfl, rfl⟩) rfl ?_
  refine x_iload_n dX9_size_5 rfl ?_
  refine x_bipush (10 : Int32) dX9_size_6 (by decide) ?_
  refine x_icmp_ne 16 dX9_size_8 (by decide) (fun q => ?_) (fun q => ?_)
  · have h := xif_f q h
    refine x_iload_n dX9_size_16 rfl ?_
    refine x_iconst (0 : Int32) dX9_size_17 (by decide) ?_
    refine x_bipush (9 : Int32) dX9_size_18 (by decide) ?_
    obtain ⟨z20, y20, h⟩ := xbind h
    refine x_callS (t_hB_X9_in x1 (0 : Int32) (9 : Int32) z20 y20 (d + 0)) kX9_124 dX9_size_20 rfl rfl (Nat.le_of_ble_eq_true rfl) (Nat.le_of_ble_eq_true rfl) rfl rfl (Or.inl rfl) ?_
    refine x_if_ne 28 dX9_size_23 (by decide) (fun q => ?_) (fun q => ?_)
    · have h := xif_f q h
      refine x_aload_n dX9_size_28 rfl ?_
      refine x_get fX9_316 dX9_size_29 rfl rfl rfl ?_
      refine x_ifnonnull 37 dX9_size_32 (by decide) ?_
      refine x_iload_n dX9_size_37 rfl ?_
      by_cases q : x1.toInt < 0 ∨ 8 < x1.toInt
      · have h := xif_t q h
        refine x_tableOut 157 dX9_size_38 q (by decide) ?_
        refine x_aload_n dX9_size_157 rfl ?_
        refine x_get fX9_325 dX9_size_158 rfl rfl rfl ?_
        cases h
        exact x_iret2 dX9_size_161 rfl rfl
      · have h := xif_f q h
        by_cases q : x1 = (0 : Int32)
        · have h := xif_t q h
          refine x_tableK 88 q dX9_size_38 (by decide) (by decide) rfl (by decide) ?_
          refine x_aload_n dX9_size_88 rfl ?_
          refine x_get fX9_316 dX9_size_89 rfl rfl rfl ?_
          refine x_get fX9_156 dX9_size_92 rfl rfl rfl ?_
          cases h
          exact x_iret2 dX9_size_95 rfl rfl
        · have h := xif_f q h
          by_cases q : x1 = (1 : Int32)
          · have h := xif_t q h
            refine x_tableK 96 q dX9_size_38 (by decide) (by decide) rfl (by decide) ?_
            refine x_aload_n dX9_size_96 rfl ?_
            refine x_get fX9_316 dX9_size_97 rfl rfl rfl ?_
            refine x_get fX9_230 dX9_size_100 rfl rfl rfl ?_
            cases h
            exact x_iret2 dX9_size_103 rfl rfl
          · have h := xif_f q h
            by_cases q : x1 = (2 : Int32)
            · have h := xif_t q h
              refine x_tableK 104 q dX9_size_38 (by decide) (by decide) rfl (by decide) ?_
              refine x_aload_n dX9_size_104 rfl ?_
              refine x_get fX9_316 dX9_size_105 rfl rfl rfl ?_
              refine x_get fX9_232 dX9_size_108 rfl rfl rfl ?_
              cases h
              exact x_iret2 dX9_size_111 rfl rfl
            · have h := xif_f q h
              by_cases q : x1 = (3 : Int32)
              · have h := xif_t q h
                refine x_tableK 112 q dX9_size_38 (by decide) (by decide) rfl (by decide) ?_
                refine x_aload_n dX9_size_112 rfl ?_
                refine x_get fX9_316 dX9_size_113 rfl rfl rfl ?_
                refine x_get fX9_191 dX9_size_116 rfl rfl rfl ?_
                cases h
                exact x_iret2 dX9_size_119 rfl rfl
              · have h := xif_f q h
                by_cases q : x1 = (4 : Int32)
                · have h := xif_t q h
                  refine x_tableK 120 q dX9_size_38 (by decide) (by decide) rfl (by decide) ?_
                  refine x_aload_n dX9_size_120 rfl ?_
                  refine x_get fX9_316 dX9_size_121 rfl rfl rfl ?_
                  refine x_get fX9_194 dX9_size_124 rfl rfl rfl ?_
                  cases h
                  exact x_iret2 dX9_size_127 rfl rfl
                · have h := xif_f q h
                  by_cases q : x1 = (5 : Int32)
                  · have h := xif_t q h
                    refine x_tableK 128 q dX9_size_38 (by decide) (by decide) rfl (by decide) ?_
                    refine x_aload_n dX9_size_128 rfl ?_
                    refine x_get fX9_316 dX9_size_129 rfl rfl rfl ?_
                    refine x_get fX9_279 dX9_size_132 rfl rfl rfl ?_
                    cases h
                    exact x_iret2 dX9_size_135 rfl rfl
                  · have h := xif_f q h
                    by_cases q : x1 = (6 : Int32)
                    · have h := xif_t q h
                      refine x_tableK 136 q dX9_size_38 (by decide) (by decide) rfl (by decide) ?_
                      refine x_aload_n dX9_size_136 rfl ?_
                      refine x_get fX9_316 dX9_size_137 rfl rfl rfl ?_
                      refine x_get fX9_298 dX9_size_140 rfl rfl rfl ?_
                      cases h
                      exact x_iret2 dX9_size_143 rfl rfl
                    · have h := xif_f q h
                      by_cases q : x1 = (7 : Int32)
                      · have h := xif_t q h
                        refine x_tableK 144 q dX9_size_38 (by decide) (by decide) rfl (by decide) ?_
                        refine x_aload_n dX9_size_144 rfl ?_
                        refine x_get fX9_17 dX9_size_145 rfl rfl rfl ?_
                        refine x_bipush (10 : Int32) dX9_size_148 (by decide) ?_
                        refine x_iald dX9_size_150 rfl (show vp_in _ _ from (by decide : ¬ ((10 : Int32) < 0 ∨ 11 ≤ (10 : Int32).toNatClampNeg))) ?_
                        cases h
                        exact x_iret2 dX9_size_151 rfl rfl
                      · have h := xif_f q h
                        by_cases q : x1 = (8 : Int32)
                        · have h := xif_t q h
                          refine x_tableK 152 q dX9_size_38 (by decide) (by decide) rfl (by decide) ?_
                          refine x_aload_n dX9_size_152 rfl ?_
                          refine x_get fX9_322 dX9_size_153 rfl rfl rfl ?_
                          cases h
                          exact x_iret2 dX9_size_156 rfl rfl
                        · have h := xif_f q h
                          cases h
    · have h := xif_t q h
      refine x_iconst (-1 : Int32) dX9_size_26 (by decide) ?_
      cases h
      exact x_iret2 dX9_size_27 rfl rfl
  · have h := xif_t q h
    refine x_aload_n dX9_size_11 rfl ?_
    refine x_get fX9_309 dX9_size_12 rfl rfl rfl ?_
    cases h
    exact x_iret2 dX9_size_15 rfl rfl
noncomputable def e_hB_X9_trouble (p0 : Int32) (p1 : Int32)  : Option (Int32 × Int32) :=
  some (p1, (0 : Int32))
set_option maxRecDepth 100000 in
set_option maxHeartbeats 4000000 in
theorem t_hB_X9_trouble {g0 g1 g2 g3 g4 g5 g6 g7 g8 g9 g10 g11 g12 g13 g14 g15 g16 g17 g18 g19 g20 g21 g22 g23 g24 g25 g26 : Int32} {a0 a1 a2 a3 a4 a5 a6 a7 a8 a9 a10 a11 a12 a13 a14 a15 a16 a17 a18 a19 a20 a21 a22 a23 : (Nat → Int32)} {b0 : (Nat → Int64)} {w0 : Int64} {rv : Value}  (res : Int32 × Int32) (h : e_hB_X9_trouble g0 g1  = some res) (d : Nat) : xMet xks YX9_trouble (d + 1) 0 0 [.ref 0] (hB g0 g1 g2 g3 g4 g5 g6 g7 g8 g9 g10 g11 g12 g13 g14 g15 g16 g17 g18 g19 g20 g21 g22 g23 g24 g25 g26 a0 a1 a2 a3 a4 a5 a6 a7 a8 a9 a10 a11 a12 a13 a14 a15 a16 a17 a18 a19 a20 a21 a22 a23 b0 w0 (.ref 11) rv) (some (.int res.1)) (hB res.2 g1 g2 g3 g4 g5 g6 g7 g8 g9 g10 g11 g12 g13 g14 g15 g16 g17 g18 g19 g20 g21 g22 g23 g24 g25 g26 a0 a1 a2 a3 a4 a5 a6 a7 a8 a9 a10 a11 a12 a13 a14 a15 a16 a17 a18 a19 a20 a21 a22 a23 b0 w0 (.ref 11) rv) := by
  unfold e_hB_X9_trouble at h
  refine xMet_of (pl := [some (.ref 0)]) (by decide) (Nat.le_of_ble_eq_true rfl) rfl (Nat.le_of_ble_eq_true rfl) ?_
  refine x_aload_n dX9_trouble_0 rfl ?_
  refine x_iconst (0 : Int32) dX9_trouble_1 (by decide) ?_
  refine x_put (h2 := (hB (0 : Int32) g1 g2 g3 g4 g5 g6 g7 g8 g9 g10 g11 g12 g13 g14 g15 g16 g17 g18 g19 g20 g21 g22 g23 g24 g25 g26 a0 a1 a2 a3 a4 a5 a6 a7 a8 a9 a10 a11 a12 a13 a14 a15 a16 a17 a18 a19 a20 a21 a22 a23 b0 w0 (.ref 11) rv)) fX9_45 dX9_trouble_2 rfl rfl (Nat.le_of_ble_eq_true rfl : 0 + 1 ≤ _) (fun α => ⟨rfl, rfl⟩) rfl ?_
  refine x_aload_n dX9_trouble_5 rfl ?_
  refine x_get fX9_48 dX9_trouble_6 rfl rfl rfl ?_
  cases h
  exact x_iret2 dX9_trouble_9 rfl rfl
noncomputable def e_hB_X9_thrown (p0 : Int32)  : Option (Int32) :=
  some p0
set_option maxRecDepth 100000 in
set_option maxHeartbeats 4000000 in
theorem t_hB_X9_thrown {g0 g1 g2 g3 g4 g5 g6 g7 g8 g9 g10 g11 g12 g13 g14 g15 g16 g17 g18 g19 g20 g21 g22 g23 g24 g25 g26 : Int32} {a0 a1 a2 a3 a4 a5 a6 a7 a8 a9 a10 a11 a12 a13 a14 a15 a16 a17 a18 a19 a20 a21 a22 a23 : (Nat → Int32)} {b0 : (Nat → Int64)} {w0 : Int64} {rv : Value}  (res : Int32) (h : e_hB_X9_thrown g0  = some res) (d : Nat) : xMet xks YX9_thrown (d + 1) 0 0 [.ref 0] (hB g0 g1 g2 g3 g4 g5 g6 g7 g8 g9 g10 g11 g12 g13 g14 g15 g16 g17 g18 g19 g20 g21 g22 g23 g24 g25 g26 a0 a1 a2 a3 a4 a5 a6 a7 a8 a9 a10 a11 a12 a13 a14 a15 a16 a17 a18 a19 a20 a21 a22 a23 b0 w0 (.ref 11) rv) (some (.int res)) (hB g0 g1 g2 g3 g4 g5 g6 g7 g8 g9 g10 g11 g12 g13 g14 g15 g16 g17 g18 g19 g20 g21 g22 g23 g24 g25 g26 a0 a1 a2 a3 a4 a5 a6 a7 a8 a9 a10 a11 a12 a13 a14 a15 a16 a17 a18 a19 a20 a21 a22 a23 b0 w0 (.ref 11) rv) := by
  unfold e_hB_X9_thrown at h
  refine xMet_of (pl := [some (.ref 0)]) (by decide) (Nat.le_of_ble_eq_true rfl) rfl (Nat.le_of_ble_eq_true rfl) ?_
  refine x_aload_n dX9_thrown_0 rfl ?_
  refine x_get fX9_45 dX9_thrown_1 rfl rfl rfl ?_
  cases h
  exact x_iret2 dX9_thrown_4 rfl rfl
noncomputable def L_hB_X9_led_9 (p0 : Int32) (p1 : Int32) (p2 : (Nat → Int32))  (f1 : Int32) (K : Int32 → Int32 → Option (Int32 × Int32)) : Nat → Int32 → Int32 → Option (Int32 × Int32)
  | 0, _, _ => none
  | n9 + 1, l2_9, l3_9 => if p1 ≤ l3_9 then K l2_9 l3_9 else (xix ((0 : Int32) + l3_9) 11 (if (p2 ((0 : Int32) + l3_9).toNatClampNeg) = (-2 : Int32) then if l2_9 = f1 then some (l3_9, p0) else L_hB_X9_led_9 p0 p1 p2 f1 K n9 (l2_9 + (1 : Int32)) (l3_9 + (1 : Int32)) else L_hB_X9_led_9 p0 p1 p2 f1 K n9 l2_9 (l3_9 + (1 : Int32))))
noncomputable def e_hB_X9_led (p0 : Int32) (p1 : Int32) (p2 : (Nat → Int32)) (x1 : Int32) : Option (Int32 × Int32) :=
  L_hB_X9_led_9 (0 : Int32) p1 p2 x1 (fun l2_9 l3_9 => some ((0 : Int32), (1 : Int32))) 200000 (0 : Int32) (0 : Int32)
set_option maxRecDepth 100000 in
set_option maxHeartbeats 4000000 in
theorem lp_hB_X9_led_9 {g0 g1 g2 g3 g4 g5 g6 g7 g8 g9 g10 g11 g12 g13 g14 g15 g16 g17 g18 g19 g20 g21 g22 g23 g24 g25 g26 : Int32} {a0 a1 a2 a3 a4 a5 a6 a7 a8 a9 a10 a11 a12 a13 a14 a15 a16 a17 a18 a19 a20 a21 a22 a23 : (Nat → Int32)} {b0 : (Nat → Int64)} {w0 : Int64} {rv : Value} (d n0 : Nat) (f1 : Int32) (res : Int32 × Int32) (K : Int32 → Int32 → Option (Int32 × Int32)) (hK : ∀ (l2_9 : Int32) (l3_9 : Int32), K l2_9 l3_9 = some res → xW xks YX9_led (d + 1) 0 0 n0 (xZ 0 0 n0 (some (.int res.1)) (hB res.2 g1 g2 g3 g4 g5 g6 g7 g8 g9 g10 g11 g12 g13 g14 g15 g16 g17 g18 g19 g20 g21 g22 g23 g24 g25 g26 a0 a1 a2 a3 a4 a5 a6 a7 a8 a9 a10 a11 a12 a13 a14 a15 a16 a17 a18 a19 a20 a21 a22 a23 b0 w0 (.ref 11) rv)) 0 0 59 [some (.ref 0), none, none, none] [] (hB g0 g1 g2 g3 g4 g5 g6 g7 g8 g9 g10 g11 g12 g13 g14 g15 g16 g17 g18 g19 g20 g21 g22 g23 g24 g25 g26 a0 a1 a2 a3 a4 a5 a6 a7 a8 a9 a10 a11 a12 a13 a14 a15 a16 a17 a18 a19 a20 a21 a22 a23 b0 w0 (.ref 11) rv)) : ∀ (n : Nat) (l2_9 : Int32) (l3_9 : Int32), L_hB_X9_led_9 g0 g23 a1 f1 K n l2_9 l3_9 = some res → xW xks YX9_led (d + 1) 0 0 n0 (xZ 0 0 n0 (some (.int res.1)) (hB res.2 g1 g2 g3 g4 g5 g6 g7 g8 g9 g10 g11 g12 g13 g14 g15 g16 g17 g18 g19 g20 g21 g22 g23 g24 g25 g26 a0 a1 a2 a3 a4 a5 a6 a7 a8 a9 a10 a11 a12 a13 a14 a15 a16 a17 a18 a19 a20 a21 a22 a23 b0 w0 (.ref 11) rv)) 0 0 9 [some (.ref 0), some (.int f1), some (.int l2_9), some (.int l3_9)] [] (hB g0 g1 g2 g3 g4 g5 g6 g7 g8 g9 g10 g11 g12 g13 g14 g15 g16 g17 g18 g19 g20 g21 g22 g23 g24 g25 g26 a0 a1 a2 a3 a4 a5 a6 a7 a8 a9 a10 a11 a12 a13 a14 a15 a16 a17 a18 a19 a20 a21 a22 a23 b0 w0 (.ref 11) rv) := by
  intro n
  induction n with
  | zero =>
    intro l2_9 l3_9 h
    cases (show (none : Option (Int32 × Int32)) = some res from h)
  | succ n9 ih9 =>
    intro l2_9 l3_9 h
    unfold L_hB_X9_led_9 at h
    refine x_aload_n dX9_led_9 rfl ?_
    refine x_get fX9_316 dX9_led_10 rfl rfl rfl ?_
    refine x_ifnull dX9_led_13 ?_
    refine x_iload_n dX9_led_16 rfl ?_
    refine x_aload_n dX9_led_17 rfl ?_
    refine x_get fX9_316 dX9_led_18 rfl rfl rfl ?_
    refine x_get fX9_194 dX9_led_21 rfl rfl rfl ?_
    refine x_icmp_ge 59 dX9_led_24 (by decide) (fun q => ?_) (fun q => ?_)
    · have h := xif_t q h
      refine x_weak (pl2 := [some (.ref 0), none, none, none]) ⟨rfl, trivial⟩ ?_
      exact hK l2_9 l3_9 h
    · have h := xif_f q h
      refine x_aload_n dX9_led_27 rfl ?_
      refine x_get fX9_17 dX9_led_28 rfl rfl rfl ?_
      refine x_iconst (0 : Int32) dX9_led_31 (by decide) ?_
      refine x_iload_n dX9_led_32 rfl ?_
      refine x_iadd dX9_led_33 ?_
      obtain ⟨q34, h⟩ := xix_of h
      refine x_iald dX9_led_34 rfl q34 ?_
      refine x_bipush (-2 : Int32) dX9_led_35 (by decide) ?_
      refine x_icmp_eq 43 dX9_led_37 (by decide) (fun q => ?_) (fun q => ?_)
      · have h := xif_t q h
        refine x_iload_n dX9_led_43 rfl ?_
        refine x_iload_n dX9_led_44 rfl ?_
        refine x_icmp_ne 50 dX9_led_45 (by decide) (fun q => ?_) (fun q => ?_)
        · have h := xif_f q h
          refine x_iincK (1 : Int32) (pl' := [some (.ref 0), some (.int f1), some (.int (l2_9 + (1 : Int32))), some (.int l3_9)]) dX9_led_50 rfl (by decide) (by decide) rfl ?_
          refine x_iincK (1 : Int32) (pl' := [some (.ref 0), some (.int f1), some (.int (l2_9 + (1 : Int32))), some (.int (l3_9 + (1 : Int32)))]) dX9_led_53 rfl (by decide) (by decide) rfl ?_
          refine x_goto 9 dX9_led_56 (by decide) ?_
          refine x_weak (pl2 := [some (.ref 0), some (.int f1), some (.int (l2_9 + (1 : Int32))), some (.int (l3_9 + (1 : Int32)))]) ⟨rfl, rfl, rfl, rfl, trivial⟩ ?_
          exact ih9 (l2_9 + (1 : Int32)) (l3_9 + (1 : Int32)) h
        · have h := xif_t q h
          refine x_iload_n dX9_led_48 rfl ?_
          cases h
          exact x_iret2 dX9_led_49 rfl rfl
      · have h := xif_f q h
        refine x_goto 53 dX9_led_40 (by decide) ?_
        refine x_iincK (1 : Int32) (pl' := [some (.ref 0), some (.int f1), some (.int l2_9), some (.int (l3_9 + (1 : Int32)))]) dX9_led_53 rfl (by decide) (by decide) rfl ?_
        refine x_goto 9 dX9_led_56 (by decide) ?_
        refine x_weak (pl2 := [some (.ref 0), some (.int f1), some (.int l2_9), some (.int (l3_9 + (1 : Int32)))]) ⟨rfl, rfl, rfl, rfl, trivial⟩ ?_
        exact ih9 l2_9 (l3_9 + (1 : Int32)) h
set_option maxRecDepth 100000 in
set_option maxHeartbeats 4000000 in
theorem t_hB_X9_led {g0 g1 g2 g3 g4 g5 g6 g7 g8 g9 g10 g11 g12 g13 g14 g15 g16 g17 g18 g19 g20 g21 g22 g23 g24 g25 g26 : Int32} {a0 a1 a2 a3 a4 a5 a6 a7 a8 a9 a10 a11 a12 a13 a14 a15 a16 a17 a18 a19 a20 a21 a22 a23 : (Nat → Int32)} {b0 : (Nat → Int64)} {w0 : Int64} {rv : Value} (x1 : Int32) (res : Int32 × Int32) (h : e_hB_X9_led g0 g23 a1 x1 = some res) (d : Nat) : xMet xks YX9_led (d + 1) 0 0 [.ref 0, .int x1] (hB g0 g1 g2 g3 g4 g5 g6 g7 g8 g9 g10 g11 g12 g13 g14 g15 g16 g17 g18 g19 g20 g21 g22 g23 g24 g25 g26 a0 a1 a2 a3 a4 a5 a6 a7 a8 a9 a10 a11 a12 a13 a14 a15 a16 a17 a18 a19 a20 a21 a22 a23 b0 w0 (.ref 11) rv) (some (.int res.1)) (hB res.2 g1 g2 g3 g4 g5 g6 g7 g8 g9 g10 g11 g12 g13 g14 g15 g16 g17 g18 g19 g20 g21 g22 g23 g24 g25 g26 a0 a1 a2 a3 a4 a5 a6 a7 a8 a9 a10 a11 a12 a13 a14 a15 a16 a17 a18 a19 a20 a21 a22 a23 b0 w0 (.ref 11) rv) := by
  unfold e_hB_X9_led at h
  refine xMet_of (pl := [some (.ref 0), some (.int x1), none, none]) (by decide) (Nat.le_of_ble_eq_true rfl) rfl (Nat.le_of_ble_eq_true rfl) ?_
  refine x_aload_n dX9_led_0 rfl ?_
  refine x_iconst (0 : Int32) dX9_led_1 (by decide) ?_
  refine x_put (h2 := (hB (0 : Int32) g1 g2 g3 g4 g5 g6 g7 g8 g9 g10 g11 g12 g13 g14 g15 g16 g17 g18 g19 g20 g21 g22 g23 g24 g25 g26 a0 a1 a2 a3 a4 a5 a6 a7 a8 a9 a10 a11 a12 a13 a14 a15 a16 a17 a18 a19 a20 a21 a22 a23 b0 w0 (.ref 11) rv)) fX9_45 dX9_led_2 rfl rfl (Nat.le_of_ble_eq_true rfl : 0 + 1 ≤ _) (fun α => ⟨rfl, rfl⟩) rfl ?_
  refine x_iconst (0 : Int32) dX9_led_5 (by decide) ?_
  refine x_istore_n (pl' := [some (.ref 0), some (.int x1), some (.int (0 : Int32)), none]) dX9_led_6 (by decide) rfl ?_
  refine x_iconst (0 : Int32) dX9_led_7 (by decide) ?_
  refine x_istore_n (pl' := [some (.ref 0), some (.int x1), some (.int (0 : Int32)), some (.int (0 : Int32))]) dX9_led_8 (by decide) rfl ?_
  refine x_weak (pl2 := [some (.ref 0), some (.int x1), some (.int (0 : Int32)), some (.int (0 : Int32))]) ⟨rfl, rfl, rfl, rfl, trivial⟩ ?_
  refine lp_hB_X9_led_9 d _ x1 res _ (fun l2_9 l3_9 h => ?_) 200000 (0 : Int32) (0 : Int32) h
  refine x_aload_n dX9_led_59 rfl ?_
  refine x_iconst (1 : Int32) dX9_led_60 (by decide) ?_
  refine x_put (h2 := (hB (1 : Int32) g1 g2 g3 g4 g5 g6 g7 g8 g9 g10 g11 g12 g13 g14 g15 g16 g17 g18 g19 g20 g21 g22 g23 g24 g25 g26 a0 a1 a2 a3 a4 a5 a6 a7 a8 a9 a10 a11 a12 a13 a14 a15 a16 a17 a18 a19 a20 a21 a22 a23 b0 w0 (.ref 11) rv)) fX9_45 dX9_led_61 rfl rfl (Nat.le_of_ble_eq_true rfl : 0 + 1 ≤ _) (fun α => ⟨rfl, rfl⟩) rfl ?_
  refine x_iconst (0 : Int32) dX9_led_64 (by decide) ?_
  cases h
  exact x_iret2 dX9_led_65 rfl rfl
