noncomputable def L_hB_X9_mosts_4 (p0 : Int32) (p1 : (Nat → Int32)) (p3 : Int32) (p4 : Int32) (p5 : (Nat → Int32)) (p6 : (Nat → Int32)) (p7 : (Nat → Int32))  (f1 : Int32) (K : Int32 → Int32 → (Nat → Int32) → Int32 → Option (Int32 × (Nat → Int32) × Int32)) : Nat → Int32 → Int32 → (Nat → Int32) → Int32 → Option (Int32 × (Nat → Int32) × Int32)
  | 0, _, _, _, _ => none
  | n4 + 1, l2_4, l3_4, ma2_4, mg17_4 => if p0 ≤ l3_4 then K l2_4 l3_4 ma2_4 mg17_4 else ((e_hB_X9_tries p1 ma2_4).bind fun z16 => xix ((0 : Int32) + l3_4) 11 ((e_hB_X9_ends p0 (upd z16 ((0 : Int32) + l3_4).toNatClampNeg f1) p3 p4 p5 p6 p7 (1 : Int32)).bind fun z34 => if l2_4 = (-1 : Int32) then ((e_hB_X9_landsIn p0 z34 p6 f1).bind fun z70 => L_hB_X9_mosts_4 p0 p1 p3 p4 p5 p6 p7 f1 K n4 l3_4 (l3_4 + (1 : Int32)) z34 z70) else ((e_hB_X9_landsIn p0 z34 p6 f1).bind fun z48 => if mg17_4 < z48 then ((e_hB_X9_landsIn p0 z34 p6 f1).bind fun z70 => L_hB_X9_mosts_4 p0 p1 p3 p4 p5 p6 p7 f1 K n4 l3_4 (l3_4 + (1 : Int32)) z34 z70) else L_hB_X9_mosts_4 p0 p1 p3 p4 p5 p6 p7 f1 K n4 l2_4 (l3_4 + (1 : Int32)) z34 mg17_4)))
noncomputable def e_hB_X9_mosts (p0 : Int32) (p1 : (Nat → Int32)) (p2 : (Nat → Int32)) (p3 : Int32) (p4 : Int32) (p5 : (Nat → Int32)) (p6 : (Nat → Int32)) (p7 : (Nat → Int32)) (p8 : Int32) (x1 : Int32) : Option (Int32 × (Nat → Int32) × Int32) :=
  L_hB_X9_mosts_4 p0 p1 p3 p4 p5 p6 p7 x1 (fun l2_4 l3_4 ma2_4 mg17_4 => some (l2_4, ma2_4, mg17_4)) 200000 (-1 : Int32) (0 : Int32) p2 p8
set_option maxRecDepth 100000 in
set_option maxHeartbeats 4000000 in
theorem lp_hB_X9_mosts_4 {g0 g1 g2 g3 g4 g5 g6 g7 g8 g9 g10 g11 g12 g13 g14 g15 g16 g18 g19 g20 g21 g22 g23 g24 g25 g26 : Int32} {a0 a1 a3 a4 a5 a6 a7 a8 a9 a10 a11 a12 a13 a14 a15 a16 a17 a18 a19 a20 a21 a22 a23 : (Nat → Int32)} {b0 : (Nat → Int64)} {w0 : Int64} {rv : Value} (d n0 : Nat) (f1 : Int32) (res : Int32 × (Nat → Int32) × Int32) (K : Int32 → Int32 → (Nat → Int32) → Int32 → Option (Int32 × (Nat → Int32) × Int32)) (hK : ∀ (l2_4 : Int32) (l3_4 : Int32) (ma2_4 : (Nat → Int32)) (mg17_4 : Int32), K l2_4 l3_4 ma2_4 mg17_4 = some res → xW xks YX9_mosts (d + 4) 0 0 n0 (xZ 0 0 n0 (some (.int res.1)) (hB g0 g1 g2 g3 g4 g5 g6 g7 g8 g9 g10 g11 g12 g13 g14 g15 g16 res.2.2 g18 g19 g20 g21 g22 g23 g24 g25 g26 a0 a1 res.2.1 a3 a4 a5 a6 a7 a8 a9 a10 a11 a12 a13 a14 a15 a16 a17 a18 a19 a20 a21 a22 a23 b0 w0 (.ref 11) rv)) 0 0 82 [none, none, some (.int l2_4), none] [] (hB g0 g1 g2 g3 g4 g5 g6 g7 g8 g9 g10 g11 g12 g13 g14 g15 g16 mg17_4 g18 g19 g20 g21 g22 g23 g24 g25 g26 a0 a1 ma2_4 a3 a4 a5 a6 a7 a8 a9 a10 a11 a12 a13 a14 a15 a16 a17 a18 a19 a20 a21 a22 a23 b0 w0 (.ref 11) rv)) : ∀ (n : Nat) (l2_4 : Int32) (l3_4 : Int32) (ma2_4 : (Nat → Int32)) (mg17_4 : Int32), L_hB_X9_mosts_4 g23 a1 g19 g22 a10 a12 a11 f1 K n l2_4 l3_4 ma2_4 mg17_4 = some res → xW xks YX9_mosts (d + 4) 0 0 n0 (xZ 0 0 n0 (some (.int res.1)) (hB g0 g1 g2 g3 g4 g5 g6 g7 g8 g9 g10 g11 g12 g13 g14 g15 g16 res.2.2 g18 g19 g20 g21 g22 g23 g24 g25 g26 a0 a1 res.2.1 a3 a4 a5 a6 a7 a8 a9 a10 a11 a12 a13 a14 a15 a16 a17 a18 a19 a20 a21 a22 a23 b0 w0 (.ref 11) rv)) 0 0 4 [some (.ref 0), some (.int f1), some (.int l2_4), some (.int l3_4)] [] (hB g0 g1 g2 g3 g4 g5 g6 g7 g8 g9 g10 g11 g12 g13 g14 g15 g16 mg17_4 g18 g19 g20 g21 g22 g23 g24 g25 g26 a0 a1 ma2_4 a3 a4 a5 a6 a7 a8 a9 a10 a11 a12 a13 a14 a15 a16 a17 a18 a19 a20 a21 a22 a23 b0 w0 (.ref 11) rv) := by
  intro n
  induction n with
  | zero =>
    intro l2_4 l3_4 ma2_4 mg17_4 h
    cases (show (none : Option (Int32 × (Nat → Int32) × Int32)) = some res from h)
  | succ n4 ih4 =>
    intro l2_4 l3_4 ma2_4 mg17_4 h
    unfold L_hB_X9_mosts_4 at h
    refine x_iload_n dX9_mosts_4 rfl ?_
    refine x_aload_n dX9_mosts_5 rfl ?_
    refine x_get fX9_316 dX9_mosts_6 rfl rfl rfl ?_
    refine x_get fX9_194 dX9_mosts_9 rfl rfl rfl ?_
    refine x_icmp_ge 82 dX9_mosts_12 (by decide) (fun q => ?_) (fun q => ?_)
    · have h := xif_t q h
      refine x_weak (pl2 := [none, none, some (.int l2_4), none]) ⟨rfl, trivial⟩ ?_
      exact hK l2_4 l3_4 ma2_4 mg17_4 h
    · have h := xif_f q h
      refine x_aload_n dX9_mosts_15 rfl ?_
      obtain ⟨z16, y16, h⟩ := xbind h
      refine x_callV (t_hB_X9_tries  z16 y16 (d + 2)) kX9_393 dX9_mosts_16 rfl rfl rfl rfl rfl (Nat.le_of_ble_eq_true rfl) (Nat.le_of_ble_eq_true rfl) rfl rfl (Or.inl rfl) ?_
      refine x_aload_n dX9_mosts_19 rfl ?_
      refine x_get fX9_21 dX9_mosts_20 rfl rfl rfl ?_
      refine x_iconst (0 : Int32) dX9_mosts_23 (by decide) ?_
      refine x_iload_n dX9_mosts_24 rfl ?_
      refine x_iadd dX9_mosts_25 ?_
      refine x_iload_n dX9_mosts_26 rfl ?_
      obtain ⟨q27, h⟩ := xix_of h
      refine x_iast (h2 := (hB g0 g1 g2 g3 g4 g5 g6 g7 g8 g9 g10 g11 g12 g13 g14 g15 g16 mg17_4 g18 g19 g20 g21 g22 g23 g24 g25 g26 a0 a1 (upd z16 ((0 : Int32) + l3_4).toNatClampNeg f1) a3 a4 a5 a6 a7 a8 a9 a10 a11 a12 a13 a14 a15 a16 a17 a18 a19 a20 a21 a22 a23 b0 w0 (.ref 11) rv)) dX9_mosts_27 rfl q27 rfl ?_
      refine x_aload_n dX9_mosts_28 rfl ?_
      refine x_aload_n dX9_mosts_29 rfl ?_
      refine x_get fX9_21 dX9_mosts_30 rfl rfl rfl ?_
      refine x_iconst (1 : Int32) dX9_mosts_33 (by decide) ?_
      obtain ⟨z34, y34, h⟩ := xbind h
      refine x_callV (t_hB_X9_ends (1 : Int32) z34 y34 (d + 0)) kX9_352 dX9_mosts_34 rfl rfl rfl rfl rfl (Nat.le_of_ble_eq_true rfl) (Nat.le_of_ble_eq_true rfl) rfl rfl (Or.inl rfl) ?_
      refine x_iload_n dX9_mosts_37 rfl ?_
      refine x_iconst (-1 : Int32) dX9_mosts_38 (by decide) ?_
      refine x_icmp_eq 61 dX9_mosts_39 (by decide) (fun q => ?_) (fun q => ?_)
      · have h := xif_t q h
        refine x_iload_n dX9_mosts_61 rfl ?_
        refine x_istore_n (pl' := [some (.ref 0), some (.int f1), some (.int l3_4), some (.int l3_4)]) dX9_mosts_62 (by decide) rfl ?_
        refine x_aload_n dX9_mosts_63 rfl ?_
        refine x_aload_n dX9_mosts_64 rfl ?_
        refine x_aload_n dX9_mosts_65 rfl ?_
        refine x_get fX9_21 dX9_mosts_66 rfl rfl rfl ?_
        refine x_iload_n dX9_mosts_69 rfl ?_
        obtain ⟨z70, y70, h⟩ := xbind h
        refine x_callV (t_hB_X9_landsIn_2 f1 z70 y70 (d + 2)) kX9_365 dX9_mosts_70 rfl rfl rfl rfl rfl (Nat.le_of_ble_eq_true rfl) (Nat.le_of_ble_eq_true rfl) rfl rfl (Or.inl rfl) ?_
        refine x_put (h2 := (hB g0 g1 g2 g3 g4 g5 g6 g7 g8 g9 g10 g11 g12 g13 g14 g15 g16 z70 g18 g19 g20 g21 g22 g23 g24 g25 g26 a0 a1 z34 a3 a4 a5 a6 a7 a8 a9 a10 a11 a12 a13 a14 a15 a16 a17 a18 a19 a20 a21 a22 a23 b0 w0 (.ref 11) rv)) fX9_465 dX9_mosts_73 rfl rfl (Nat.le_of_ble_eq_true rfl : 30 + 1 ≤ _) (fun α => ⟨rfl, rfl⟩) rfl ?_
        refine x_iincK (1 : Int32) (pl' := [some (.ref 0), some (.int f1), some (.int l3_4), some (.int (l3_4 + (1 : Int32)))]) dX9_mosts_76 rfl (by decide) (by decide) rfl ?_
        refine x_goto 4 dX9_mosts_79 (by decide) ?_
        refine x_weak (pl2 := [some (.ref 0), some (.int f1), some (.int l3_4), some (.int (l3_4 + (1 : Int32)))]) ⟨rfl, rfl, rfl, rfl, trivial⟩ ?_
        exact ih4 l3_4 (l3_4 + (1 : Int32)) z34 z70 h
      · have h := xif_f q h
        refine x_aload_n dX9_mosts_42 rfl ?_
        refine x_aload_n dX9_mosts_43 rfl ?_
        refine x_get fX9_21 dX9_mosts_44 rfl rfl rfl ?_
        refine x_iload_n dX9_mosts_47 rfl ?_
        obtain ⟨z48, y48, h⟩ := xbind h
        refine x_callV (t_hB_X9_landsIn_2 f1 z48 y48 (d + 2)) kX9_365 dX9_mosts_48 rfl rfl rfl rfl rfl (Nat.le_of_ble_eq_true rfl) (Nat.le_of_ble_eq_true rfl) rfl rfl (Or.inl rfl) ?_
        refine x_aload_n dX9_mosts_51 rfl ?_
        refine x_get fX9_465 dX9_mosts_52 rfl rfl rfl ?_
        refine x_icmp_gt 61 dX9_mosts_55 (by decide) (fun q => ?_) (fun q => ?_)
        · have h := xif_t q h
          refine x_iload_n dX9_mosts_61 rfl ?_
          refine x_istore_n (pl' := [some (.ref 0), some (.int f1), some (.int l3_4), some (.int l3_4)]) dX9_mosts_62 (by decide) rfl ?_
          refine x_aload_n dX9_mosts_63 rfl ?_
          refine x_aload_n dX9_mosts_64 rfl ?_
          refine x_aload_n dX9_mosts_65 rfl ?_
          refine x_get fX9_21 dX9_mosts_66 rfl rfl rfl ?_
          refine x_iload_n dX9_mosts_69 rfl ?_
          obtain ⟨z70, y70, h⟩ := xbind h
          refine x_callV (t_hB_X9_landsIn_2 f1 z70 y70 (d + 2)) kX9_365 dX9_mosts_70 rfl rfl rfl rfl rfl (Nat.le_of_ble_eq_true rfl) (Nat.le_of_ble_eq_true rfl) rfl rfl (Or.inl rfl) ?_
          refine x_put (h2 := (hB g0 g1 g2 g3 g4 g5 g6 g7 g8 g9 g10 g11 g12 g13 g14 g15 g16 z70 g18 g19 g20 g21 g22 g23 g24 g25 g26 a0 a1 z34 a3 a4 a5 a6 a7 a8 a9 a10 a11 a12 a13 a14 a15 a16 a17 a18 a19 a20 a21 a22 a23 b0 w0 (.ref 11) rv)) fX9_465 dX9_mosts_73 rfl rfl (Nat.le_of_ble_eq_true rfl : 30 + 1 ≤ _) (fun α => ⟨rfl, rfl⟩) rfl ?_
          refine x_iincK (1 : Int32) (pl' := [some (.ref 0), some (.int f1), some (.int l3_4), some (.int (l3_4 + (1 : Int32)))]) dX9_mosts_76 rfl (by decide) (by decide) rfl ?_
          refine x_goto 4 dX9_mosts_79 (by decide) ?_
          refine x_weak (pl2 := [some (.ref 0), some (.int f1), some (.int l3_4), some (.int (l3_4 + (1 : Int32)))]) ⟨rfl, rfl, rfl, rfl, trivial⟩ ?_
          exact ih4 l3_4 (l3_4 + (1 : Int32)) z34 z70 h
        · have h := xif_f q h
          refine x_goto 76 dX9_mosts_58 (by decide) ?_
          refine x_iincK (1 : Int32) (pl' := [some (.ref 0), some (.int f1), some (.int l2_4), some (.int (l3_4 + (1 : Int32)))]) dX9_mosts_76 rfl (by decide) (by decide) rfl ?_
          refine x_goto 4 dX9_mosts_79 (by decide) ?_
          refine x_weak (pl2 := [some (.ref 0), some (.int f1), some (.int l2_4), some (.int (l3_4 + (1 : Int32)))]) ⟨rfl, rfl, rfl, rfl, trivial⟩ ?_
          exact ih4 l2_4 (l3_4 + (1 : Int32)) z34 mg17_4 h
set_option maxRecDepth 100000 in
set_option maxHeartbeats 4000000 in
theorem t_hB_X9_mosts {g0 g1 g2 g3 g4 g5 g6 g7 g8 g9 g10 g11 g12 g13 g14 g15 g16 g17 g18 g19 g20 g21 g22 g23 g24 g25 g26 : Int32} {a0 a1 a2 a3 a4 a5 a6 a7 a8 a9 a10 a11 a12 a13 a14 a15 a16 a17 a18 a19 a20 a21 a22 a23 : (Nat → Int32)} {b0 : (Nat → Int64)} {w0 : Int64} {rv : Value} (x1 : Int32) (res : Int32 × (Nat → Int32) × Int32) (h : e_hB_X9_mosts g23 a1 a2 g19 g22 a10 a12 a11 g17 x1 = some res) (d : Nat) : xMet xks YX9_mosts (d + 4) 0 0 [.ref 0, .int x1] (hB g0 g1 g2 g3 g4 g5 g6 g7 g8 g9 g10 g11 g12 g13 g14 g15 g16 g17 g18 g19 g20 g21 g22 g23 g24 g25 g26 a0 a1 a2 a3 a4 a5 a6 a7 a8 a9 a10 a11 a12 a13 a14 a15 a16 a17 a18 a19 a20 a21 a22 a23 b0 w0 (.ref 11) rv) (some (.int res.1)) (hB g0 g1 g2 g3 g4 g5 g6 g7 g8 g9 g10 g11 g12 g13 g14 g15 g16 res.2.2 g18 g19 g20 g21 g22 g23 g24 g25 g26 a0 a1 res.2.1 a3 a4 a5 a6 a7 a8 a9 a10 a11 a12 a13 a14 a15 a16 a17 a18 a19 a20 a21 a22 a23 b0 w0 (.ref 11) rv) := by
  unfold e_hB_X9_mosts at h
  refine xMet_of (pl := [some (.ref 0), some (.int x1), none, none]) (by decide) (Nat.le_of_ble_eq_true rfl) rfl (Nat.le_of_ble_eq_true rfl) ?_
  refine x_iconst (-1 : Int32) dX9_mosts_0 (by decide) ?_
  refine x_istore_n (pl' := [some (.ref 0), some (.int x1), some (.int (-1 : Int32)), none]) dX9_mosts_1 (by decide) rfl ?_
  refine x_iconst (0 : Int32) dX9_mosts_2 (by decide) ?_
  refine x_istore_n (pl' := [some (.ref 0), some (.int x1), some (.int (-1 : Int32)), some (.int (0 : Int32))]) dX9_mosts_3 (by decide) rfl ?_
  refine x_weak (pl2 := [some (.ref 0), some (.int x1), some (.int (-1 : Int32)), some (.int (0 : Int32))]) ⟨rfl, rfl, rfl, rfl, trivial⟩ ?_
  refine lp_hB_X9_mosts_4 d _ x1 res _ (fun l2_4 l3_4 ma2_4 mg17_4 h => ?_) 200000 (-1 : Int32) (0 : Int32) a2 g17 h
  refine x_iload_n dX9_mosts_82 rfl ?_
  cases h
  exact x_iret2 dX9_mosts_83 rfl rfl
noncomputable def e_hB_X9_most (p0 : Int32) (p1 : Int32) (p2 : Int32) (p3 : Int32) (p4 : Int32) (p5 : (Nat → Int32)) (p6 : (Nat → Int32)) (p7 : Int32) (p8 : (Nat → Int32)) (p9 : (Nat → Int32)) (p10 : (Nat → Int32)) (p11 : Int32) (x1 : Int32) : Option (Int32 × Int32 × Int32 × Int32 × (Nat → Int32) × Int32) :=
  ((e_hB_X9_isPerson p1 x1).bind fun z7 => if z7 = (0 : Int32) then ((e_hB_X9_refused p2 p3 (1 : Int32)).bind fun z27 => some (z27.1, (0 : Int32), z27.2.1, z27.2.2, p6, p11)) else ((e_hB_X9_mosts p4 p5 p6 p7 p1 p8 p9 p10 p11 x1).bind fun z16 => (e_hB_X9_good p2 p3 z16.1).bind fun z19 => some (z19.1, (0 : Int32), z19.2.1, z19.2.2, z16.2.1, z16.2.2)))
set_option maxRecDepth 100000 in
set_option maxHeartbeats 4000000 in
theorem t_hB_X9_most {g0 g1 g2 g3 g4 g5 g6 g7 g8 g9 g10 g11 g12 g13 g14 g15 g16 g17 g18 g19 g20 g21 g22 g23 g24 g25 g26 : Int32} {a0 a1 a2 a3 a4 a5 a6 a7 a8 a9 a10 a11 a12 a13 a14 a15 a16 a17 a18 a19 a20 a21 a22 a23 : (Nat → Int32)} {b0 : (Nat → Int64)} {w0 : Int64} {rv : Value} (x1 : Int32) (res : Int32 × Int32 × Int32 × Int32 × (Nat → Int32) × Int32) (h : e_hB_X9_most g0 g22 g1 g2 g23 a1 a2 g19 a10 a12 a11 g17 x1 = some res) (d : Nat) : xMet xks YX9_most (d + 5) 0 0 [.ref 0, .int x1] (hB g0 g1 g2 g3 g4 g5 g6 g7 g8 g9 g10 g11 g12 g13 g14 g15 g16 g17 g18 g19 g20 g21 g22 g23 g24 g25 g26 a0 a1 a2 a3 a4 a5 a6 a7 a8 a9 a10 a11 a12 a13 a14 a15 a16 a17 a18 a19 a20 a21 a22 a23 b0 w0 (.ref 11) rv) (some (.int res.1)) (hB res.2.1 res.2.2.1 res.2.2.2.1 g3 g4 g5 g6 g7 g8 g9 g10 g11 g12 g13 g14 g15 g16 res.2.2.2.2.2 g18 g19 g20 g21 g22 g23 g24 g25 g26 a0 a1 res.2.2.2.2.1 a3 a4 a5 a6 a7 a8 a9 a10 a11 a12 a13 a14 a15 a16 a17 a18 a19 a20 a21 a22 a23 b0 w0 (.ref 11) rv) := by
  unfold e_hB_X9_most at h
  refine xMet_of (pl := [some (.ref 0), some (.int x1)]) (by decide) (Nat.le_of_ble_eq_true rfl) rfl (Nat.le_of_ble_eq_true rfl) ?_
  refine x_aload_n dX9_most_0 rfl ?_
  refine x_iconst (0 : Int32) dX9_most_1 (by decide) ?_
  refine x_put (h2 := (hB (0 : Int32) g1 g2 g3 g4 g5 g6 g7 g8 g9 g10 g11 g12 g13 g14 g15 g16 g17 g18 g19 g20 g21 g22 g23 g24 g25 g26 a0 a1 a2 a3 a4 a5 a6 a7 a8 a9 a10 a11 a12 a13 a14 a15 a16 a17 a18 a19 a20 a21 a22 a23 b0 w0 (.ref 11) rv)) fX9_45 dX9_most_2 rfl rfl (Nat.le_of_ble_eq_true rfl : 0 + 1 ≤ _) (fun α => ⟨rfl, rfl⟩) rfl ?_
  refine x_aload_n dX9_most_5 rfl ?_
  refine x_iload_n dX9_most_6 rfl ?_
  obtain ⟨z7, y7, h⟩ := xbind h
  refine x_callV (t_hB_X9_isPerson x1 z7 y7 (d + 3)) kX9_362 dX9_most_7 rfl rfl rfl rfl rfl (Nat.le_of_ble_eq_true rfl) (Nat.le_of_ble_eq_true rfl) rfl rfl (Or.inl rfl) ?_
  refine x_if_eq 25 dX9_most_10 (by decide) (fun q => ?_) (fun q => ?_)
  · have h := xif_t q h
    refine x_aload_n dX9_most_25 rfl ?_
    refine x_iconst (1 : Int32) dX9_most_26 (by decide) ?_
    obtain ⟨z27, y27, h⟩ := xbind h
    refine x_callV (t_hB_X9_refused (1 : Int32) z27 y27 (d + 3)) kX9_51 dX9_most_27 rfl rfl rfl rfl rfl (Nat.le_of_ble_eq_true rfl) (Nat.le_of_ble_eq_true rfl) rfl rfl (Or.inl rfl) ?_
    cases h
    exact x_iret2 dX9_most_30 rfl rfl
  · have h := xif_f q h
    refine x_aload_n dX9_most_13 rfl ?_
    refine x_aload_n dX9_most_14 rfl ?_
    refine x_iload_n dX9_most_15 rfl ?_
    obtain ⟨z16, y16, h⟩ := xbind h
    refine x_callV (t_hB_X9_mosts x1 z16 y16 (d + 0)) kX9_468 dX9_most_16 rfl rfl rfl rfl rfl (Nat.le_of_ble_eq_true rfl) (Nat.le_of_ble_eq_true rfl) rfl rfl (Or.inl rfl) ?_
    obtain ⟨z19, y19, h⟩ := xbind h
    refine x_callV (t_hB_X9_good z16.1 z19 y19 (d + 3)) kX9_55 dX9_most_19 rfl rfl rfl rfl rfl (Nat.le_of_ble_eq_true rfl) (Nat.le_of_ble_eq_true rfl) rfl rfl (Or.inl rfl) ?_
    refine x_goto 30 dX9_most_22 (by decide) ?_
    cases h
    exact x_iret2 dX9_most_30 rfl rfl
noncomputable def e_hB_X9_mostLands (p0 : Int32) (p1 : Int32) (p2 : Int32) (p3 : (Nat → Int32)) (p4 : (Nat → Int32)) (p5 : Int32) (p6 : (Nat → Int32)) (p7 : (Nat → Int32)) (p8 : (Nat → Int32)) (p9 : Int32) (p10 : Int32) (p11 : Int32) (x1 : Int32) : Option (Int32 × Int32 × (Nat → Int32) × Int32 × Int32 × Int32) :=
  ((e_hB_X9_isPerson p1 x1).bind fun z7 => if z7 = (0 : Int32) then ((e_hB_X9_refused p10 p11 (1 : Int32)).bind fun z15 => some (z15.1, (0 : Int32), p4, p9, z15.2.1, z15.2.2)) else ((e_hB_X9_mosts p2 p3 p4 p5 p1 p6 p7 p8 p9 x1).bind fun z21 => (e_hB_X9_good p10 p11 z21.2.2).bind fun z30 => some (z30.1, (0 : Int32), z21.2.1, z21.2.2, z30.2.1, z30.2.2)))
set_option maxRecDepth 100000 in
set_option maxHeartbeats 4000000 in
theorem t_hB_X9_mostLands {g0 g1 g2 g3 g4 g5 g6 g7 g8 g9 g10 g11 g12 g13 g14 g15 g16 g17 g18 g19 g20 g21 g22 g23 g24 g25 g26 : Int32} {a0 a1 a2 a3 a4 a5 a6 a7 a8 a9 a10 a11 a12 a13 a14 a15 a16 a17 a18 a19 a20 a21 a22 a23 : (Nat → Int32)} {b0 : (Nat → Int64)} {w0 : Int64} {rv : Value} (x1 : Int32) (res : Int32 × Int32 × (Nat → Int32) × Int32 × Int32 × Int32) (h : e_hB_X9_mostLands g0 g22 g23 a1 a2 g19 a10 a12 a11 g17 g1 g2 x1 = some res) (d : Nat) : xMet xks YX9_mostLands (d + 5) 0 0 [.ref 0, .int x1] (hB g0 g1 g2 g3 g4 g5 g6 g7 g8 g9 g10 g11 g12 g13 g14 g15 g16 g17 g18 g19 g20 g21 g22 g23 g24 g25 g26 a0 a1 a2 a3 a4 a5 a6 a7 a8 a9 a10 a11 a12 a13 a14 a15 a16 a17 a18 a19 a20 a21 a22 a23 b0 w0 (.ref 11) rv) (some (.int res.1)) (hB res.2.1 res.2.2.2.2.1 res.2.2.2.2.2 g3 g4 g5 g6 g7 g8 g9 g10 g11 g12 g13 g14 g15 g16 res.2.2.2.1 g18 g19 g20 g21 g22 g23 g24 g25 g26 a0 a1 res.2.2.1 a3 a4 a5 a6 a7 a8 a9 a10 a11 a12 a13 a14 a15 a16 a17 a18 a19 a20 a21 a22 a23 b0 w0 (.ref 11) rv) := by
  unfold e_hB_X9_mostLands at h
  refine xMet_of (pl := [some (.ref 0), some (.int x1)]) (by decide) (Nat.le_of_ble_eq_true rfl) rfl (Nat.le_of_ble_eq_true rfl) ?_
  refine x_aload_n dX9_mostLands_0 rfl ?_
  refine x_iconst (0 : Int32) dX9_mostLands_1 (by decide) ?_
  refine x_put (h2 := (hB (0 : Int32) g1 g2 g3 g4 g5 g6 g7 g8 g9 g10 g11 g12 g13 g14 g15 g16 g17 g18 g19 g20 g21 g22 g23 g24 g25 g26 a0 a1 a2 a3 a4 a5 a6 a7 a8 a9 a10 a11 a12 a13 a14 a15 a16 a17 a18 a19 a20 a21 a22 a23 b0 w0 (.ref 11) rv)) fX9_45 dX9_mostLands_2 rfl rfl (Nat.le_of_ble_eq_true rfl : 0 + 1 ≤ _) (fun α => ⟨rfl, rfl⟩) rfl ?_
  refine x_aload_n dX9_mostLands_5 rfl ?_
  refine x_iload_n dX9_mostLands_6 rfl ?_
  obtain ⟨z7, y7, h⟩ := xbind h
  refine x_callV (t_hB_X9_isPerson x1 z7 y7 (d + 3)) kX9_362 dX9_mostLands_7 rfl rfl rfl rfl rfl (Nat.le_of_ble_eq_true rfl) (Nat.le_of_ble_eq_true rfl) rfl rfl (Or.inl rfl) ?_
  refine x_if_ne 19 dX9_mostLands_10 (by decide) (fun q => ?_) (fun q => ?_)
  · have h := xif_f q h
    refine x_aload_n dX9_mostLands_19 rfl ?_
    refine x_iload_n dX9_mostLands_20 rfl ?_
    obtain ⟨z21, y21, h⟩ := xbind h
    refine x_callV (t_hB_X9_mosts x1 z21 y21 (d + 0)) kX9_468 dX9_mostLands_21 rfl rfl rfl rfl rfl (Nat.le_of_ble_eq_true rfl) (Nat.le_of_ble_eq_true rfl) rfl rfl (Or.inl rfl) ?_
    refine x_pop dX9_mostLands_24 rfl ?_
    refine x_aload_n dX9_mostLands_25 rfl ?_
    refine x_aload_n dX9_mostLands_26 rfl ?_
    refine x_get fX9_465 dX9_mostLands_27 rfl rfl rfl ?_
    obtain ⟨z30, y30, h⟩ := xbind h
    refine x_callV (t_hB_X9_good z21.2.2 z30 y30 (d + 3)) kX9_55 dX9_mostLands_30 rfl rfl rfl rfl rfl (Nat.le_of_ble_eq_true rfl) (Nat.le_of_ble_eq_true rfl) rfl rfl (Or.inl rfl) ?_
    cases h
    exact x_iret2 dX9_mostLands_33 rfl rfl
  · have h := xif_t q h
    refine x_aload_n dX9_mostLands_13 rfl ?_
    refine x_iconst (1 : Int32) dX9_mostLands_14 (by decide) ?_
    obtain ⟨z15, y15, h⟩ := xbind h
    refine x_callV (t_hB_X9_refused (1 : Int32) z15 y15 (d + 3)) kX9_51 dX9_mostLands_15 rfl rfl rfl rfl rfl (Nat.le_of_ble_eq_true rfl) (Nat.le_of_ble_eq_true rfl) rfl rfl (Or.inl rfl) ?_
    cases h
    exact x_iret2 dX9_mostLands_18 rfl rfl
noncomputable def e_hB_X9_draw (p0 : Int32) (x1 : Int32) : Option (Int32 × Int32) :=
  (xnz x1 (some ((((((75 : Int64) * p0.toInt64) + (74 : Int64)) - (((75 : Int64) * p0.toInt64) + (74 : Int64)) / (65537 : Int64) * (65537 : Int64)).toInt32 - ((((75 : Int64) * p0.toInt64) + (74 : Int64)) - (((75 : Int64) * p0.toInt64) + (74 : Int64)) / (65537 : Int64) * (65537 : Int64)).toInt32 / x1 * x1), ((((75 : Int64) * p0.toInt64) + (74 : Int64)) - (((75 : Int64) * p0.toInt64) + (74 : Int64)) / (65537 : Int64) * (65537 : Int64)).toInt32)))
set_option maxRecDepth 100000 in
set_option maxHeartbeats 4000000 in
theorem t_hB_X9_draw {g0 g1 g2 g3 g4 g5 g6 g7 g8 g9 g10 g11 g12 g13 g14 g15 g16 g17 g18 g19 g20 g21 g22 g23 g24 g25 g26 : Int32} {a0 a1 a2 a3 a4 a5 a6 a7 a8 a9 a10 a11 a12 a13 a14 a15 a16 a17 a18 a19 a20 a21 a22 a23 : (Nat → Int32)} {b0 : (Nat → Int64)} {w0 : Int64} {rv : Value} (x1 : Int32) (res : Int32 × Int32) (h : e_hB_X9_draw g18 x1 = some res) (d : Nat) : xMet xks YX9_draw (d + 1) 0 0 [.ref 0, .int x1] (hB g0 g1 g2 g3 g4 g5 g6 g7 g8 g9 g10 g11 g12 g13 g14 g15 g16 g17 g18 g19 g20 g21 g22 g23 g24 g25 g26 a0 a1 a2 a3 a4 a5 a6 a7 a8 a9 a10 a11 a12 a13 a14 a15 a16 a17 a18 a19 a20 a21 a22 a23 b0 w0 (.ref 11) rv) (some (.int res.1)) (hB g0 g1 g2 g3 g4 g5 g6 g7 g8 g9 g10 g11 g12 g13 g14 g15 g16 g17 res.2 g19 g20 g21 g22 g23 g24 g25 g26 a0 a1 a2 a3 a4 a5 a6 a7 a8 a9 a10 a11 a12 a13 a14 a15 a16 a17 a18 a19 a20 a21 a22 a23 b0 w0 (.ref 11) rv) := by
  unfold e_hB_X9_draw at h
  refine xMet_of (pl := [some (.ref 0), some (.int x1)]) (by decide) (Nat.le_of_ble_eq_true rfl) rfl (Nat.le_of_ble_eq_true rfl) ?_
  refine x_aload_n dX9_draw_0 rfl ?_
  refine x_ldc2 iX9_471 dX9_draw_1 ?_
  refine x_aload_n dX9_draw_4 rfl ?_
  refine x_get fX9_473 dX9_draw_5 rfl rfl rfl ?_
  refine x_i2l dX9_draw_8 ?_
  refine x_lmul dX9_draw_9 ?_
  refine x_ldc2 iX9_476 dX9_draw_10 ?_
  refine x_ladd dX9_draw_13 ?_
  refine x_ldc2 iX9_478 dX9_draw_14 ?_
  refine x_lrem dX9_draw_17 (by decide) ?_
  refine x_l2i dX9_draw_18 ?_
  refine x_put (h2 := (hB g0 g1 g2 g3 g4 g5 g6 g7 g8 g9 g10 g11 g12 g13 g14 g15 g16 g17 ((((75 : Int64) * g18.toInt64) + (74 : Int64)) - (((75 : Int64) * g18.toInt64) + (74 : Int64)) / (65537 : Int64) * (65537 : Int64)).toInt32 g19 g20 g21 g22 g23 g24 g25 g26 a0 a1 a2 a3 a4 a5 a6 a7 a8 a9 a10 a11 a12 a13 a14 a15 a16 a17 a18 a19 a20 a21 a22 a23 b0 w0 (.ref 11) rv)) fX9_473 dX9_draw_19 rfl rfl (Nat.le_of_ble_eq_true rfl : 31 + 1 ≤ _) (fun α => ⟨rfl, rfl⟩) rfl ?_
  refine x_aload_n dX9_draw_22 rfl ?_
  refine x_get fX9_473 dX9_draw_23 rfl rfl rfl ?_
  refine x_iload_n dX9_draw_26 rfl ?_
  obtain ⟨q27, h⟩ := xnz_of h
  refine x_irem dX9_draw_27 q27 ?_
  cases h
  exact x_iret2 dX9_draw_28 rfl rfl
noncomputable def L_hB_X9_centuries_41 (p1 : (Nat → Int32)) (p3 : Int32) (p4 : Int32) (p5 : Int32) (p6 : Int32) (p7 : (Nat → Int32)) (p8 : (Nat → Int32)) (p9 : (Nat → Int32))  (f3 : Int32) (K : Int32 → Int32 → (Nat → Int32) → Option (Int32 × Int32 × (Nat → Int32))) : Nat → Int32 → Int32 → (Nat → Int32) → Option (Int32 × Int32 × (Nat → Int32))
  | 0, _, _, _ => none
  | n41 + 1, l4_41, mg18_41, ma2_41 => if f3 ≤ l4_41 then K l4_41 mg18_41 ma2_41 else ((e_hB_X9_draw mg18_41 p3).bind fun z55 => (e_hB_X9_draw z55.2 p4).bind fun z76 => xix ((0 : Int32) + z55.1) 11 ((e_hB_X9_draw z76.2 (100 : Int32)).bind fun z88 => if p5 ≤ z88.1 then ((e_hB_X9_ends p3 (upd ma2_41 ((0 : Int32) + z55.1).toNatClampNeg z76.1) p6 p4 p7 p8 p9 (0 : Int32)).bind fun z106 => L_hB_X9_centuries_41 p1 p3 p4 p5 p6 p7 p8 p9 f3 K n41 (l4_41 + (1 : Int32)) z88.2 z106) else ((e_hB_X9_ends p3 (upd ma2_41 ((0 : Int32) + z55.1).toNatClampNeg z76.1) p6 p4 p7 p8 p9 (1 : Int32)).bind fun z106 => L_hB_X9_centuries_41 p1 p3 p4 p5 p6 p7 p8 p9 f3 K n41 (l4_41 + (1 : Int32)) z88.2 z106)))
noncomputable def e_hB_X9_centuries (p0 : Int32) (p1 : (Nat → Int32)) (p2 : (Nat → Int32)) (p3 : Int32) (p4 : Int32) (p5 : Int32) (p6 : Int32) (p7 : (Nat → Int32)) (p8 : (Nat → Int32)) (p9 : (Nat → Int32)) (x1 : Int32) (x2 : Int32) (x3 : Int32) : Option (Int32 × Int32 × (Nat → Int32)) :=
  if x1 = (0 : Int32) then some ((1 : Int32), p0, p2) else ((e_hB_X9_in x2 (0 : Int32) (65536 : Int32)).bind fun z11 => if z11 = (0 : Int32) then some ((2 : Int32), p0, p2) else ((e_hB_X9_in x3 (0 : Int32) (60 : Int32)).bind fun z21 => if z21 = (0 : Int32) then some ((2 : Int32), p0, p2) else ((e_hB_X9_tries p1 p2).bind fun z35 => L_hB_X9_centuries_41 p1 p3 p4 p5 p6 p7 p8 p9 x3 (fun l4_41 mg18_41 ma2_41 => some ((0 : Int32), mg18_41, ma2_41)) 200000 (0 : Int32) x2 z35)))
set_option maxRecDepth 100000 in
set_option maxHeartbeats 4000000 in
theorem lp_hB_X9_centuries_41 {g0 g1 g2 g3 g4 g5 g6 g7 g8 g9 g10 g11 g12 g13 g14 g15 g16 g17 g19 g20 g21 g22 g23 g24 g25 g26 : Int32} {a0 a1 a3 a4 a5 a6 a7 a8 a9 a10 a11 a12 a13 a14 a15 a16 a17 a18 a19 a20 a21 a22 a23 : (Nat → Int32)} {b0 : (Nat → Int64)} {w0 : Int64} {rv : Value} (d n0 : Nat) (f3 : Int32) (res : Int32 × Int32 × (Nat → Int32)) (K : Int32 → Int32 → (Nat → Int32) → Option (Int32 × Int32 × (Nat → Int32))) (hK : ∀ (l4_41 : Int32) (mg18_41 : Int32) (ma2_41 : (Nat → Int32)), K l4_41 mg18_41 ma2_41 = some res → xW xks YX9_centuries (d + 4) 0 0 n0 (xZ 0 0 n0 (some (.int res.1)) (hB g0 g1 g2 g3 g4 g5 g6 g7 g8 g9 g10 g11 g12 g13 g14 g15 g16 g17 res.2.1 g19 g20 g21 g22 g23 g24 g25 g26 a0 a1 res.2.2 a3 a4 a5 a6 a7 a8 a9 a10 a11 a12 a13 a14 a15 a16 a17 a18 a19 a20 a21 a22 a23 b0 w0 (.ref 11) rv)) 0 0 115 [none, none, none, none, none, none] [] (hB g0 g1 g2 g3 g4 g5 g6 g7 g8 g9 g10 g11 g12 g13 g14 g15 g16 g17 mg18_41 g19 g20 g21 g22 g23 g24 g25 g26 a0 a1 ma2_41 a3 a4 a5 a6 a7 a8 a9 a10 a11 a12 a13 a14 a15 a16 a17 a18 a19 a20 a21 a22 a23 b0 w0 (.ref 11) rv)) : ∀ (n : Nat) (l4_41 : Int32) (mg18_41 : Int32) (ma2_41 : (Nat → Int32)), L_hB_X9_centuries_41 a1 g23 g22 g21 g19 a10 a12 a11 f3 K n l4_41 mg18_41 ma2_41 = some res → xW xks YX9_centuries (d + 4) 0 0 n0 (xZ 0 0 n0 (some (.int res.1)) (hB g0 g1 g2 g3 g4 g5 g6 g7 g8 g9 g10 g11 g12 g13 g14 g15 g16 g17 res.2.1 g19 g20 g21 g22 g23 g24 g25 g26 a0 a1 res.2.2 a3 a4 a5 a6 a7 a8 a9 a10 a11 a12 a13 a14 a15 a16 a17 a18 a19 a20 a21 a22 a23 b0 w0 (.ref 11) rv)) 0 0 41 [some (.ref 0), none, none, some (.int f3), some (.int l4_41), none] [] (hB g0 g1 g2 g3 g4 g5 g6 g7 g8 g9 g10 g11 g12 g13 g14 g15 g16 g17 mg18_41 g19 g20 g21 g22 g23 g24 g25 g26 a0 a1 ma2_41 a3 a4 a5 a6 a7 a8 a9 a10 a11 a12 a13 a14 a15 a16 a17 a18 a19 a20 a21 a22 a23 b0 w0 (.ref 11) rv) := by
  intro n
  induction n with
  | zero =>
    intro l4_41 mg18_41 ma2_41 h
    cases (show (none : Option (Int32 × Int32 × (Nat → Int32))) = some res from h)
  | succ n41 ih41 =>
    intro l4_41 mg18_41 ma2_41 h
    unfold L_hB_X9_centuries_41 at h
    refine x_iload dX9_centuries_41 rfl ?_
    refine x_iload_n dX9_centuries_43 rfl ?_
    refine x_icmp_ge 115 dX9_centuries_44 (by decide) (fun q => ?_) (fun q => ?_)
    · have h := xif_t q h
      refine x_weak (pl2 := [none, none, none, none, none, none]) trivial ?_
      exact hK l4_41 mg18_41 ma2_41 h
    · have h := xif_f q h
      refine x_aload_n dX9_centuries_47 rfl ?_
      refine x_aload_n dX9_centuries_48 rfl ?_
      refine x_get fX9_316 dX9_centuries_49 rfl rfl rfl ?_
      refine x_get fX9_194 dX9_centuries_52 rfl rfl rfl ?_
      obtain ⟨z55, y55, h⟩ := xbind h
      refine x_callV (t_hB_X9_draw g23 z55 y55 (d + 2)) kX9_481 dX9_centuries_55 rfl rfl rfl rfl rfl (Nat.le_of_ble_eq_true rfl) (Nat.le_of_ble_eq_true rfl) rfl rfl (Or.inl rfl) ?_
      refine x_istore (pl' := [some (.ref 0), none, none, some (.int f3), some (.int l4_41), some (.int z55.1)]) dX9_centuries_58 (by decide) rfl ?_
      refine x_aload_n dX9_centuries_60 rfl ?_
      refine x_get fX9_21 dX9_centuries_61 rfl rfl rfl ?_
      refine x_iconst (0 : Int32) dX9_centuries_64 (by decide) ?_
      refine x_iload dX9_centuries_65 rfl ?_
      refine x_iadd dX9_centuries_67 ?_
      refine x_aload_n dX9_centuries_68 rfl ?_
      refine x_aload_n dX9_centuries_69 rfl ?_
      refine x_get fX9_316 dX9_centuries_70 rfl rfl rfl ?_
      refine x_get fX9_191 dX9_centuries_73 rfl rfl rfl ?_
      obtain ⟨z76, y76, h⟩ := xbind h
      refine x_callV (t_hB_X9_draw g22 z76 y76 (d + 2)) kX9_481 dX9_centuries_76 rfl rfl rfl rfl rfl (Nat.le_of_ble_eq_true rfl) (Nat.le_of_ble_eq_true rfl) rfl rfl (Or.inl rfl) ?_
      obtain ⟨q79, h⟩ := xix_of h
      refine x_iast (h2 := (hB g0 g1 g2 g3 g4 g5 g6 g7 g8 g9 g10 g11 g12 g13 g14 g15 g16 g17 z76.2 g19 g20 g21 g22 g23 g24 g25 g26 a0 a1 (upd ma2_41 ((0 : Int32) + z55.1).toNatClampNeg z76.1) a3 a4 a5 a6 a7 a8 a9 a10 a11 a12 a13 a14 a15 a16 a17 a18 a19 a20 a21 a22 a23 b0 w0 (.ref 11) rv)) dX9_centuries_79 rfl q79 rfl ?_
      refine x_aload_n dX9_centuries_80 rfl ?_
      refine x_aload_n dX9_centuries_81 rfl ?_
      refine x_get fX9_21 dX9_centuries_82 rfl rfl rfl ?_
      refine x_aload_n dX9_centuries_85 rfl ?_
      refine x_bipush (100 : Int32) dX9_centuries_86 (by decide) ?_
      obtain ⟨z88, y88, h⟩ := xbind h
      refine x_callV (t_hB_X9_draw (100 : Int32) z88 y88 (d + 2)) kX9_481 dX9_centuries_88 rfl rfl rfl rfl rfl (Nat.le_of_ble_eq_true rfl) (Nat.le_of_ble_eq_true rfl) rfl rfl (Or.inl rfl) ?_
      refine x_aload_n dX9_centuries_91 rfl ?_
      refine x_get fX9_316 dX9_centuries_92 rfl rfl rfl ?_
      refine x_get fX9_232 dX9_centuries_95 rfl rfl rfl ?_
      refine x_icmp_ge 105 dX9_centuries_98 (by decide) (fun q => ?_) (fun q => ?_)
      · have h := xif_t q h
        refine x_iconst (0 : Int32) dX9_centuries_105 (by decide) ?_
        obtain ⟨z106, y106, h⟩ := xbind h
        refine x_callV (t_hB_X9_ends (0 : Int32) z106 y106 (d + 0)) kX9_352 dX9_centuries_106 rfl rfl rfl rfl rfl (Nat.le_of_ble_eq_true rfl) (Nat.le_of_ble_eq_true rfl) rfl rfl (Or.inl rfl) ?_
        refine x_iincK (1 : Int32) (pl' := [some (.ref 0), none, none, some (.int f3), some (.int (l4_41 + (1 : Int32))), some (.int z55.1)]) dX9_centuries_109 rfl (by decide) (by decide) rfl ?_
        refine x_goto 41 dX9_centuries_112 (by decide) ?_
        refine x_weak (pl2 := [some (.ref 0), none, none, some (.int f3), some (.int (l4_41 + (1 : Int32))), none]) ⟨rfl, rfl, rfl, trivial⟩ ?_
        exact ih41 (l4_41 + (1 : Int32)) z88.2 z106 h
      · have h := xif_f q h
        refine x_iconst (1 : Int32) dX9_centuries_101 (by decide) ?_
        refine x_goto 106 dX9_centuries_102 (by decide) ?_
        obtain ⟨z106, y106, h⟩ := xbind h
        refine x_callV (t_hB_X9_ends (1 : Int32) z106 y106 (d + 0)) kX9_352 dX9_centuries_106 rfl rfl rfl rfl rfl (Nat.le_of_ble_eq_true rfl) (Nat.le_of_ble_eq_true rfl) rfl rfl (Or.inl rfl) ?_
        refine x_iincK (1 : Int32) (pl' := [some (.ref 0), none, none, some (.int f3), some (.int (l4_41 + (1 : Int32))), some (.int z55.1)]) dX9_centuries_109 rfl (by decide) (by decide) rfl ?_
        refine x_goto 41 dX9_centuries_112 (by decide) ?_
        refine x_weak (pl2 := [some (.ref 0), none, none, some (.int f3), some (.int (l4_41 + (1 : Int32))), none]) ⟨rfl, rfl, rfl, trivial⟩ ?_
        exact ih41 (l4_41 + (1 : Int32)) z88.2 z106 h
set_option maxRecDepth 100000 in
set_option maxHeartbeats 4000000 in
theorem t_hB_X9_centuries {g0 g1 g2 g3 g4 g5 g6 g7 g8 g9 g10 g11 g12 g13 g14 g15 g16 g17 g18 g19 g20 g21 g22 g23 g24 g25 g26 : Int32} {a0 a1 a2 a3 a4 a5 a6 a7 a8 a9 a10 a11 a12 a13 a14 a15 a16 a17 a18 a19 a20 a21 a22 a23 : (Nat → Int32)} {b0 : (Nat → Int64)} {w0 : Int64} {rv : Value} (x1 : Int32) (x2 : Int32) (x3 : Int32) (res : Int32 × Int32 × (Nat → Int32)) (h : e_hB_X9_centuries g18 a1 a2 g23 g22 g21 g19 a10 a12 a11 x1 x2 x3 = some res) (d : Nat) : xMet xks YX9_centuries (d + 4) 0 0 [.ref 0, .int x1, .int x2, .int x3] (hB g0 g1 g2 g3 g4 g5 g6 g7 g8 g9 g10 g11 g12 g13 g14 g15 g16 g17 g18 g19 g20 g21 g22 g23 g24 g25 g26 a0 a1 a2 a3 a4 a5 a6 a7 a8 a9 a10 a11 a12 a13 a14 a15 a16 a17 a18 a19 a20 a21 a22 a23 b0 w0 (.ref 11) rv) (some (.int res.1)) (hB g0 g1 g2 g3 g4 g5 g6 g7 g8 g9 g10 g11 g12 g13 g14 g15 g16 g17 res.2.1 g19 g20 g21 g22 g23 g24 g25 g26 a0 a1 res.2.2 a3 a4 a5 a6 a7 a8 a9 a10 a11 a12 a13 a14 a15 a16 a17 a18 a19 a20 a21 a22 a23 b0 w0 (.ref 11) rv) := by
  unfold e_hB_X9_centuries at h
  refine xMet_of (pl := [some (.ref 0), some (.int x1), some (.int x2), some (.int x3), none, none]) (by decide) (Nat.le_of_ble_eq_true rfl) rfl (Nat.le_of_ble_eq_true rfl) ?_
  refine x_iload_n dX9_centuries_0 rfl ?_
  refine x_if_ne 6 dX9_centuries_1 (by decide) (fun q => ?_) (fun q => ?_)
  · have h := xif_f q h
    refine x_iload_n dX9_centuries_6 rfl ?_
    refine x_iconst (0 : Int32) dX9_centuries_7 (by decide) ?_
    refine x_ldcw iX9_480 dX9_centuries_8 ?_
    obtain ⟨z11, y11, h⟩ := xbind h
    refine x_callS (t_hB_X9_in x2 (0 : Int32) (65536 : Int32) z11 y11 (d + 2)) kX9_124 dX9_centuries_11 rfl rfl (Nat.le_of_ble_eq_true rfl) (Nat.le_of_ble_eq_true rfl) rfl rfl (Or.inl rfl) ?_
    refine x_if_eq 27 dX9_centuries_14 (by decide) (fun q => ?_) (fun q => ?_)
    · have h := xif_t q h
      refine x_iconst (2 : Int32) dX9_centuries_27 (by decide) ?_
      cases h
      exact x_iret2 dX9_centuries_28 rfl rfl
    · have h := xif_f q h
      refine x_iload_n dX9_centuries_17 rfl ?_
      refine x_iconst (0 : Int32) dX9_centuries_18 (by decide) ?_
      refine x_bipush (60 : Int32) dX9_centuries_19 (by decide) ?_
      obtain ⟨z21, y21, h⟩ := xbind h
      refine x_callS (t_hB_X9_in x3 (0 : Int32) (60 : Int32) z21 y21 (d + 2)) kX9_124 dX9_centuries_21 rfl rfl (Nat.le_of_ble_eq_true rfl) (Nat.le_of_ble_eq_true rfl) rfl rfl (Or.inl rfl) ?_
      refine x_if_ne 29 dX9_centuries_24 (by decide) (fun q => ?_) (fun q => ?_)
      · have h := xif_f q h
        refine x_aload_n dX9_centuries_29 rfl ?_
        refine x_iload_n dX9_centuries_30 rfl ?_
        refine x_put (h2 := (hB g0 g1 g2 g3 g4 g5 g6 g7 g8 g9 g10 g11 g12 g13 g14 g15 g16 g17 x2 g19 g20 g21 g22 g23 g24 g25 g26 a0 a1 a2 a3 a4 a5 a6 a7 a8 a9 a10 a11 a12 a13 a14 a15 a16 a17 a18 a19 a20 a21 a22 a23 b0 w0 (.ref 11) rv)) fX9_473 dX9_centuries_31 rfl rfl (Nat.le_of_ble_eq_true rfl : 31 + 1 ≤ _) (fun α => ⟨rfl, rfl⟩) rfl ?_
        refine x_aload_n dX9_centuries_34 rfl ?_
        obtain ⟨z35, y35, h⟩ := xbind h
        refine x_callV (t_hB_X9_tries  z35 y35 (d + 2)) kX9_393 dX9_centuries_35 rfl rfl rfl rfl rfl (Nat.le_of_ble_eq_true rfl) (Nat.le_of_ble_eq_true rfl) rfl rfl (Or.inl rfl) ?_
        refine x_iconst (0 : Int32) dX9_centuries_38 (by decide) ?_
        refine x_istore (pl' := [some (.ref 0), some (.int x1), some (.int x2), some (.int x3), some (.int (0 : Int32)), none]) dX9_centuries_39 (by decide) rfl ?_
        refine x_weak (pl2 := [some (.ref 0), none, none, some (.int x3), some (.int (0 : Int32)), none]) ⟨rfl, rfl, rfl, trivial⟩ ?_
        refine lp_hB_X9_centuries_41 d _ x3 res _ (fun l4_41 mg18_41 ma2_41 h => ?_) 200000 (0 : Int32) x2 z35 h
        refine x_iconst (0 : Int32) dX9_centuries_115 (by decide) ?_
        cases h
        exact x_iret2 dX9_centuries_116 rfl rfl
      · have h := xif_t q h
        refine x_iconst (2 : Int32) dX9_centuries_27 (by decide) ?_
        cases h
        exact x_iret2 dX9_centuries_28 rfl rfl
  · have h := xif_t q h
    refine x_iconst (1 : Int32) dX9_centuries_4 (by decide) ?_
    cases h
    exact x_iret2 dX9_centuries_5 rfl rfl
noncomputable def e_hB_X9_century (p0 : Int32) (p1 : Int32) (p2 : Int32) (p3 : (Nat → Int32)) (p4 : (Nat → Int32)) (p5 : Int32) (p6 : Int32) (p7 : Int32) (p8 : (Nat → Int32)) (p9 : (Nat → Int32)) (p10 : (Nat → Int32)) (p11 : Int32) (p12 : Int32) (x1 : Int32) (x2 : Int32) (x3 : Int32) : Option (Int32 × Int32 × Int32 × (Nat → Int32) × Int32 × Int32) :=
  ((e_hB_X9_isPerson p1 x1).bind fun z8 => (e_hB_X9_centuries p2 p3 p4 p5 p1 p6 p7 p8 p9 p10 z8 x2 x3).bind fun z13 => if z13.1 ≤ (0 : Int32) then ((e_hB_X9_landsIn p5 z13.2.2 p9 x1).bind fun z39 => (e_hB_X9_good p11 p12 z39).bind fun z42 => some (z42.1, (0 : Int32), z13.2.1, z13.2.2, z42.2.1, z42.2.2)) else ((e_hB_X9_refused p11 p12 z13.1).bind fun z26 => some (z26.1, (0 : Int32), z13.2.1, z13.2.2, z26.2.1, z26.2.2)))
set_option maxRecDepth 100000 in
set_option maxHeartbeats 4000000 in
theorem t_hB_X9_century {g0 g1 g2 g3 g4 g5 g6 g7 g8 g9 g10 g11 g12 g13 g14 g15 g16 g17 g18 g19 g20 g21 g22 g23 g24 g25 g26 : Int32} {a0 a1 a2 a3 a4 a5 a6 a7 a8 a9 a10 a11 a12 a13 a14 a15 a16 a17 a18 a19 a20 a21 a22 a23 : (Nat → Int32)} {b0 : (Nat → Int64)} {w0 : Int64} {rv : Value} (x1 : Int32) (x2 : Int32) (x3 : Int32) (res : Int32 × Int32 × Int32 × (Nat → Int32) × Int32 × Int32) (h : e_hB_X9_century g0 g22 g18 a1 a2 g23 g21 g19 a10 a12 a11 g1 g2 x1 x2 x3 = some res) (d : Nat) : xMet xks YX9_century (d + 5) 0 0 [.ref 0, .int x1, .int x2, .int x3] (hB g0 g1 g2 g3 g4 g5 g6 g7 g8 g9 g10 g11 g12 g13 g14 g15 g16 g17 g18 g19 g20 g21 g22 g23 g24 g25 g26 a0 a1 a2 a3 a4 a5 a6 a7 a8 a9 a10 a11 a12 a13 a14 a15 a16 a17 a18 a19 a20 a21 a22 a23 b0 w0 (.ref 11) rv) (some (.int res.1)) (hB res.2.1 res.2.2.2.2.1 res.2.2.2.2.2 g3 g4 g5 g6 g7 g8 g9 g10 g11 g12 g13 g14 g15 g16 g17 res.2.2.1 g19 g20 g21 g22 g23 g24 g25 g26 a0 a1 res.2.2.2.1 a3 a4 a5 a6 a7 a8 a9 a10 a11 a12 a13 a14 a15 a16 a17 a18 a19 a20 a21 a22 a23 b0 w0 (.ref 11) rv) := by
  unfold e_hB_X9_century at h
  refine xMet_of (pl := [some (.ref 0), some (.int x1), some (.int x2), some (.int x3), none]) (by decide) (Nat.le_of_ble_eq_true rfl) rfl (Nat.le_of_ble_eq_true rfl) ?_
  refine x_aload_n dX9_century_0 rfl ?_
  refine x_iconst (0 : Int32) dX9_century_1 (by decide) ?_
  refine x_put (h2 := (hB (0 : Int32) g1 g2 g3 g4 g5 g6 g7 g8 g9 g10 g11 g12 g13 g14 g15 g16 g17 g18 g19 g20 g21 g22 g23 g24 g25 g26 a0 a1 a2 a3 a4 a5 a6 a7 a8 a9 a10 a11 a12 a13 a14 a15 a16 a17 a18 a19 a20 a21 a22 a23 b0 w0 (.ref 11) rv)) fX9_45 dX9_century_2 rfl rfl (Nat.le_of_ble_eq_true rfl : 0 + 1 ≤ _) (fun α => ⟨rfl, rfl⟩) rfl ?_
  refine x_aload_n dX9_century_5 rfl ?_
  refine x_aload_n dX9_century_6 rfl ?_
  refine x_iload_n dX9_century_7 rfl ?_
  obtain ⟨z8, y8, h⟩ := xbind h
  refine x_callV (t_hB_X9_isPerson x1 z8 y8 (d + 3)) kX9_362 dX9_century_8 rfl rfl rfl rfl rfl (Nat.le_of_ble_eq_true rfl) (Nat.le_of_ble_eq_true rfl) rfl rfl (Or.inl rfl) ?_
  refine x_iload_n dX9_century_11 rfl ?_
  refine x_iload_n dX9_century_12 rfl ?_
  obtain ⟨z13, y13, h⟩ := xbind h
  refine x_callV (t_hB_X9_centuries z8 x2 x3 z13 y13 (d + 0)) kX9_484 dX9_century_13 rfl rfl rfl rfl rfl (Nat.le_of_ble_eq_true rfl) (Nat.le_of_ble_eq_true rfl) rfl rfl (Or.inl rfl) ?_
  refine x_istore (pl' := [some (.ref 0), some (.int x1), some (.int x2), some (.int x3), some (.int z13.1)]) dX9_century_16 (by decide) rfl ?_
  refine x_iload dX9_century_18 rfl ?_
  refine x_if_le 32 dX9_century_20 (by decide) (fun q => ?_) (fun q => ?_)
  · have h := xif_t q h
    refine x_aload_n dX9_century_32 rfl ?_
    refine x_aload_n dX9_century_33 rfl ?_
    refine x_aload_n dX9_century_34 rfl ?_
    refine x_get fX9_21 dX9_century_35 rfl rfl rfl ?_
    refine x_iload_n dX9_century_38 rfl ?_
    obtain ⟨z39, y39, h⟩ := xbind h
    refine x_callV (t_hB_X9_landsIn_2 x1 z39 y39 (d + 3)) kX9_365 dX9_century_39 rfl rfl rfl rfl rfl (Nat.le_of_ble_eq_true rfl) (Nat.le_of_ble_eq_true rfl) rfl rfl (Or.inl rfl) ?_
    obtain ⟨z42, y42, h⟩ := xbind h
    refine x_callV (t_hB_X9_good z39 z42 y42 (d + 3)) kX9_55 dX9_century_42 rfl rfl rfl rfl rfl (Nat.le_of_ble_eq_true rfl) (Nat.le_of_ble_eq_true rfl) rfl rfl (Or.inl rfl) ?_
    cases h
    exact x_iret2 dX9_century_45 rfl rfl
  · have h := xif_f q h
    refine x_aload_n dX9_century_23 rfl ?_
    refine x_iload dX9_century_24 rfl ?_
    obtain ⟨z26, y26, h⟩ := xbind h
    refine x_callV (t_hB_X9_refused z13.1 z26 y26 (d + 3)) kX9_51 dX9_century_26 rfl rfl rfl rfl rfl (Nat.le_of_ble_eq_true rfl) (Nat.le_of_ble_eq_true rfl) rfl rfl (Or.inl rfl) ?_
    refine x_goto 45 dX9_century_29 (by decide) ?_
    cases h
    exact x_iret2 dX9_century_45 rfl rfl
noncomputable def L_hB_X9_untitled_40 (p0 : Int32) (p1 : Int32) (p2 : (Nat → Int32)) (p3 : (Nat → Int32)) (p4 : Int32) (p5 : Int32) (p6 : Int32) (p7 : Int32) (p8 : (Nat → Int32)) (p9 : (Nat → Int32)) (p10 : (Nat → Int32)) (p11 : Int32) (p12 : Int32)   (K : Int32 → Int32 → Option (Int32 × Int32 × Int32 × (Nat → Int32) × Int32 × Int32)) : Nat → Int32 → Int32 → Option (Int32 × Int32 × Int32 × (Nat → Int32) × Int32 × Int32)
  | 0, _, _ => none
  | n40 + 1, l4_40, l5_40 => if p4 ≤ l5_40 then K l4_40 l5_40 else (xix ((5 : Int32) + l5_40) 11 (if (p3 ((5 : Int32) + l5_40).toNatClampNeg) = (-2 : Int32) then L_hB_X9_untitled_40 p0 p1 p2 p3 p4 p5 p6 p7 p8 p9 p10 p11 p12  K n40 (l4_40 + (1 : Int32)) (l5_40 + (1 : Int32)) else L_hB_X9_untitled_40 p0 p1 p2 p3 p4 p5 p6 p7 p8 p9 p10 p11 p12  K n40 (l4_40 + (0 : Int32)) (l5_40 + (1 : Int32))))
noncomputable def e_hB_X9_untitled (p0 : Int32) (p1 : Int32) (p2 : (Nat → Int32)) (p3 : (Nat → Int32)) (p4 : Int32) (p5 : Int32) (p6 : Int32) (p7 : Int32) (p8 : (Nat → Int32)) (p9 : (Nat → Int32)) (p10 : (Nat → Int32)) (p11 : Int32) (p12 : Int32) (x1 : Int32) (x2 : Int32) : Option (Int32 × Int32 × Int32 × (Nat → Int32) × Int32 × Int32) :=
  ((e_hB_X9_centuries p1 p2 p3 p4 p5 p6 p7 p8 p9 p10 (1 : Int32) x1 x2).bind fun z20 => if z20.1 ≤ (0 : Int32) then L_hB_X9_untitled_40 (0 : Int32) z20.2.1 p2 z20.2.2 p4 p5 p6 p7 p8 p9 p10 p11 p12  (fun l4_40 l5_40 => ((e_hB_X9_good p11 p12 l4_40).bind fun z85 => some (z85.1, (0 : Int32), z20.2.1, z20.2.2, z85.2.1, z85.2.2))) 200000 (0 : Int32) (0 : Int32) else ((e_hB_X9_refused p11 p12 z20.1).bind fun z30 => some (z30.1, (0 : Int32), z20.2.1, z20.2.2, z30.2.1, z30.2.2)))
set_option maxRecDepth 100000 in
set_option maxHeartbeats 4000000 in
theorem lp_hB_X9_untitled_40 {g0 g1 g2 g3 g4 g5 g6 g7 g8 g9 g10 g11 g12 g13 g14 g15 g16 g17 g18 g19 g20 g21 g22 g23 g24 g25 g26 : Int32} {a0 a1 a2 a3 a4 a5 a6 a7 a8 a9 a10 a11 a12 a13 a14 a15 a16 a17 a18 a19 a20 a21 a22 a23 : (Nat → Int32)} {b0 : (Nat → Int64)} {w0 : Int64} {rv : Value} (d n0 : Nat)  (res : Int32 × Int32 × Int32 × (Nat → Int32) × Int32 × Int32) (K : Int32 → Int32 → Option (Int32 × Int32 × Int32 × (Nat → Int32) × Int32 × Int32)) (hK : ∀ (l4_40 : Int32) (l5_40 : Int32), K l4_40 l5_40 = some res → xW xks YX9_untitled (d + 5) 0 0 n0 (xZ 0 0 n0 (some (.int res.1)) (hB res.2.1 res.2.2.2.2.1 res.2.2.2.2.2 g3 g4 g5 g6 g7 g8 g9 g10 g11 g12 g13 g14 g15 g16 g17 res.2.2.1 g19 g20 g21 g22 g23 g24 g25 g26 a0 a1 res.2.2.2.1 a3 a4 a5 a6 a7 a8 a9 a10 a11 a12 a13 a14 a15 a16 a17 a18 a19 a20 a21 a22 a23 b0 w0 (.ref 11) rv)) 0 0 82 [some (.ref 0), none, none, none, some (.int l4_40), none] [] (hB g0 g1 g2 g3 g4 g5 g6 g7 g8 g9 g10 g11 g12 g13 g14 g15 g16 g17 g18 g19 g20 g21 g22 g23 g24 g25 g26 a0 a1 a2 a3 a4 a5 a6 a7 a8 a9 a10 a11 a12 a13 a14 a15 a16 a17 a18 a19 a20 a21 a22 a23 b0 w0 (.ref 11) rv)) : ∀ (n : Nat) (l4_40 : Int32) (l5_40 : Int32), L_hB_X9_untitled_40 g0 g18 a1 a2 g23 g22 g21 g19 a10 a12 a11 g1 g2  K n l4_40 l5_40 = some res → xW xks YX9_untitled (d + 5) 0 0 n0 (xZ 0 0 n0 (some (.int res.1)) (hB res.2.1 res.2.2.2.2.1 res.2.2.2.2.2 g3 g4 g5 g6 g7 g8 g9 g10 g11 g12 g13 g14 g15 g16 g17 res.2.2.1 g19 g20 g21 g22 g23 g24 g25 g26 a0 a1 res.2.2.2.1 a3 a4 a5 a6 a7 a8 a9 a10 a11 a12 a13 a14 a15 a16 a17 a18 a19 a20 a21 a22 a23 b0 w0 (.ref 11) rv)) 0 0 40 [some (.ref 0), none, none, none, some (.int l4_40), some (.int l5_40)] [] (hB g0 g1 g2 g3 g4 g5 g6 g7 g8 g9 g10 g11 g12 g13 g14 g15 g16 g17 g18 g19 g20 g21 g22 g23 g24 g25 g26 a0 a1 a2 a3 a4 a5 a6 a7 a8 a9 a10 a11 a12 a13 a14 a15 a16 a17 a18 a19 a20 a21 a22 a23 b0 w0 (.ref 11) rv) := by
  intro n
  induction n with
  | zero =>
    intro l4_40 l5_40 h
    cases (show (none : Option (Int32 × Int32 × Int32 × (Nat → Int32) × Int32 × Int32)) = some res from h)
  | succ n40 ih40 =>
    intro l4_40 l5_40 h
    unfold L_hB_X9_untitled_40 at h
    refine x_iload dX9_untitled_40 rfl ?_
    refine x_aload_n dX9_untitled_42 rfl ?_
    refine x_get fX9_316 dX9_untitled_43 rfl rfl rfl ?_
    refine x_get fX9_194 dX9_untitled_46 rfl rfl rfl ?_
    refine x_icmp_ge 82 dX9_untitled_49 (by decide) (fun q => ?_) (fun q => ?_)
    · have h := xif_t q h
      refine x_weak (pl2 := [some (.ref 0), none, none, none, some (.int l4_40), none]) ⟨rfl, rfl, trivial⟩ ?_
      exact hK l4_40 l5_40 h
    · have h := xif_f q h
      refine x_iload dX9_untitled_52 rfl ?_
      refine x_aload_n dX9_untitled_54 rfl ?_
      refine x_get fX9_21 dX9_untitled_55 rfl rfl rfl ?_
      refine x_iconst (5 : Int32) dX9_untitled_58 (by decide) ?_
      refine x_iload dX9_untitled_59 rfl ?_
      refine x_iadd dX9_untitled_61 ?_
      obtain ⟨q62, h⟩ := xix_of h
      refine x_iald dX9_untitled_62 rfl q62 ?_
      refine x_bipush (-2 : Int32) dX9_untitled_63 (by decide) ?_
      refine x_icmp_ne 72 dX9_untitled_65 (by decide) (fun q => ?_) (fun q => ?_)
      · have h := xif_f q h
        refine x_iconst (0 : Int32) dX9_untitled_72 (by decide) ?_
        refine x_iadd dX9_untitled_73 ?_
        refine x_istore (pl' := [some (.ref 0), none, none, none, some (.int (l4_40 + (0 : Int32))), some (.int l5_40)]) dX9_untitled_74 (by decide) rfl ?_
        refine x_iincK (1 : Int32) (pl' := [some (.ref 0), none, none, none, some (.int (l4_40 + (0 : Int32))), some (.int (l5_40 + (1 : Int32)))]) dX9_untitled_76 rfl (by decide) (by decide) rfl ?_
        refine x_goto 40 dX9_untitled_79 (by decide) ?_
        refine x_weak (pl2 := [some (.ref 0), none, none, none, some (.int (l4_40 + (0 : Int32))), some (.int (l5_40 + (1 : Int32)))]) ⟨rfl, rfl, rfl, trivial⟩ ?_
        exact ih40 (l4_40 + (0 : Int32)) (l5_40 + (1 : Int32)) h
      · have h := xif_t q h
        refine x_iconst (1 : Int32) dX9_untitled_68 (by decide) ?_
        refine x_goto 73 dX9_untitled_69 (by decide) ?_
        refine x_iadd dX9_untitled_73 ?_
        refine x_istore (pl' := [some (.ref 0), none, none, none, some (.int (l4_40 + (1 : Int32))), some (.int l5_40)]) dX9_untitled_74 (by decide) rfl ?_
        refine x_iincK (1 : Int32) (pl' := [some (.ref 0), none, none, none, some (.int (l4_40 + (1 : Int32))), some (.int (l5_40 + (1 : Int32)))]) dX9_untitled_76 rfl (by decide) (by decide) rfl ?_
        refine x_goto 40 dX9_untitled_79 (by decide) ?_
        refine x_weak (pl2 := [some (.ref 0), none, none, none, some (.int (l4_40 + (1 : Int32))), some (.int (l5_40 + (1 : Int32)))]) ⟨rfl, rfl, rfl, trivial⟩ ?_
        exact ih40 (l4_40 + (1 : Int32)) (l5_40 + (1 : Int32)) h
set_option maxRecDepth 100000 in
set_option maxHeartbeats 4000000 in
theorem t_hB_X9_untitled {g0 g1 g2 g3 g4 g5 g6 g7 g8 g9 g10 g11 g12 g13 g14 g15 g16 g17 g18 g19 g20 g21 g22 g23 g24 g25 g26 : Int32} {a0 a1 a2 a3 a4 a5 a6 a7 a8 a9 a10 a11 a12 a13 a14 a15 a16 a17 a18 a19 a20 a21 a22 a23 : (Nat → Int32)} {b0 : (Nat → Int64)} {w0 : Int64} {rv : Value} (x1 : Int32) (x2 : Int32) (res : Int32 × Int32 × Int32 × (Nat → Int32) × Int32 × Int32) (h : e_hB_X9_untitled g0 g18 a1 a2 g23 g22 g21 g19 a10 a12 a11 g1 g2 x1 x2 = some res) (d : Nat) : xMet xks YX9_untitled (d + 5) 0 0 [.ref 0, .int x1, .int x2] (hB g0 g1 g2 g3 g4 g5 g6 g7 g8 g9 g10 g11 g12 g13 g14 g15 g16 g17 g18 g19 g20 g21 g22 g23 g24 g25 g26 a0 a1 a2 a3 a4 a5 a6 a7 a8 a9 a10 a11 a12 a13 a14 a15 a16 a17 a18 a19 a20 a21 a22 a23 b0 w0 (.ref 11) rv) (some (.int res.1)) (hB res.2.1 res.2.2.2.2.1 res.2.2.2.2.2 g3 g4 g5 g6 g7 g8 g9 g10 g11 g12 g13 g14 g15 g16 g17 res.2.2.1 g19 g20 g21 g22 g23 g24 g25 g26 a0 a1 res.2.2.2.1 a3 a4 a5 a6 a7 a8 a9 a10 a11 a12 a13 a14 a15 a16 a17 a18 a19 a20 a21 a22 a23 b0 w0 (.ref 11) rv) := by
  unfold e_hB_X9_untitled at h
  refine xMet_of (pl := [some (.ref 0), some (.int x1), some (.int x2), none, none, none]) (by decide) (Nat.le_of_ble_eq_true rfl) rfl (Nat.le_of_ble_eq_true rfl) ?_
  refine x_aload_n dX9_untitled_0 rfl ?_
  refine x_iconst (0 : Int32) dX9_untitled_1 (by decide) ?_
  refine x_put (h2 := (hB (0 : Int32) g1 g2 g3 g4 g5 g6 g7 g8 g9 g10 g11 g12 g13 g14 g15 g16 g17 g18 g19 g20 g21 g22 g23 g24 g25 g26 a0 a1 a2 a3 a4 a5 a6 a7 a8 a9 a10 a11 a12 a13 a14 a15 a16 a17 a18 a19 a20 a21 a22 a23 b0 w0 (.ref 11) rv)) fX9_45 dX9_untitled_2 rfl rfl (Nat.le_of_ble_eq_true rfl : 0 + 1 ≤ _) (fun α => ⟨rfl, rfl⟩) rfl ?_
  refine x_aload_n dX9_untitled_5 rfl ?_
  refine x_aload_n dX9_untitled_6 rfl ?_
  refine x_get fX9_316 dX9_untitled_7 rfl rfl rfl ?_
  refine x_ifnull dX9_untitled_10 ?_
  refine x_iconst (1 : Int32) dX9_untitled_13 (by decide) ?_
  refine x_goto 18 dX9_untitled_14 (by decide) ?_
  refine x_iload_n dX9_untitled_18 rfl ?_
  refine x_iload_n dX9_untitled_19 rfl ?_
  obtain ⟨z20, y20, h⟩ := xbind h
  refine x_callV (t_hB_X9_centuries (1 : Int32) x1 x2 z20 y20 (d + 0)) kX9_484 dX9_untitled_20 rfl rfl rfl rfl rfl (Nat.le_of_ble_eq_true rfl) (Nat.le_of_ble_eq_true rfl) rfl rfl (Or.inl rfl) ?_
  refine x_istore_n (pl' := [some (.ref 0), some (.int x1), some (.int x2), some (.int z20.1), none, none]) dX9_untitled_23 (by decide) rfl ?_
  refine x_iload_n dX9_untitled_24 rfl ?_
  refine x_if_le 34 dX9_untitled_25 (by decide) (fun q => ?_) (fun q => ?_)
  · have h := xif_t q h
    refine x_iconst (0 : Int32) dX9_untitled_34 (by decide) ?_
    refine x_istore (pl' := [some (.ref 0), some (.int x1), some (.int x2), some (.int z20.1), some (.int (0 : Int32)), none]) dX9_untitled_35 (by decide) rfl ?_
    refine x_iconst (0 : Int32) dX9_untitled_37 (by decide) ?_
    refine x_istore (pl' := [some (.ref 0), some (.int x1), some (.int x2), some (.int z20.1), some (.int (0 : Int32)), some (.int (0 : Int32))]) dX9_untitled_38 (by decide) rfl ?_
    refine x_weak (pl2 := [some (.ref 0), none, none, none, some (.int (0 : Int32)), some (.int (0 : Int32))]) ⟨rfl, rfl, rfl, trivial⟩ ?_
    refine lp_hB_X9_untitled_40 d _  res _ (fun l4_40 l5_40 h => ?_) 200000 (0 : Int32) (0 : Int32) h
    refine x_aload_n dX9_untitled_82 rfl ?_
    refine x_iload dX9_untitled_83 rfl ?_
    obtain ⟨z85, y85, h⟩ := xbind h
    refine x_callV (t_hB_X9_good l4_40 z85 y85 (d + 3)) kX9_55 dX9_untitled_85 rfl rfl rfl rfl rfl (Nat.le_of_ble_eq_true rfl) (Nat.le_of_ble_eq_true rfl) rfl rfl (Or.inl rfl) ?_
    cases h
    exact x_iret2 dX9_untitled_88 rfl rfl
  · have h := xif_f q h
    refine x_aload_n dX9_untitled_28 rfl ?_
    refine x_iload_n dX9_untitled_29 rfl ?_
    obtain ⟨z30, y30, h⟩ := xbind h
    refine x_callV (t_hB_X9_refused z20.1 z30 y30 (d + 3)) kX9_51 dX9_untitled_30 rfl rfl rfl rfl rfl (Nat.le_of_ble_eq_true rfl) (Nat.le_of_ble_eq_true rfl) rfl rfl (Or.inl rfl) ?_
    cases h
    exact x_iret2 dX9_untitled_33 rfl rfl
noncomputable def e_hB_X9_denied (p0 : Int32) (p1 : Int32) (x1 : Int32) : Option (Int32 × Int32 × Int32) :=
  ((e_hB_X9_refused p0 p1 x1).bind fun z2 => some ((0 : Int32), z2.2.1, z2.2.2))
set_option maxRecDepth 100000 in
set_option maxHeartbeats 4000000 in
theorem t_hB_X9_denied {g0 g1 g2 g3 g4 g5 g6 g7 g8 g9 g10 g11 g12 g13 g14 g15 g16 g17 g18 g19 g20 g21 g22 g23 g24 g25 g26 : Int32} {a0 a1 a2 a3 a4 a5 a6 a7 a8 a9 a10 a11 a12 a13 a14 a15 a16 a17 a18 a19 a20 a21 a22 a23 : (Nat → Int32)} {b0 : (Nat → Int64)} {w0 : Int64} {rv : Value} (x1 : Int32) (res : Int32 × Int32 × Int32) (h : e_hB_X9_denied g1 g2 x1 = some res) (d : Nat) : xMet xks YX9_denied (d + 2) 0 0 [.ref 0, .int x1] (hB g0 g1 g2 g3 g4 g5 g6 g7 g8 g9 g10 g11 g12 g13 g14 g15 g16 g17 g18 g19 g20 g21 g22 g23 g24 g25 g26 a0 a1 a2 a3 a4 a5 a6 a7 a8 a9 a10 a11 a12 a13 a14 a15 a16 a17 a18 a19 a20 a21 a22 a23 b0 w0 (.ref 11) rv) (some (.int res.1)) (hB g0 res.2.1 res.2.2 g3 g4 g5 g6 g7 g8 g9 g10 g11 g12 g13 g14 g15 g16 g17 g18 g19 g20 g21 g22 g23 g24 g25 g26 a0 a1 a2 a3 a4 a5 a6 a7 a8 a9 a10 a11 a12 a13 a14 a15 a16 a17 a18 a19 a20 a21 a22 a23 b0 w0 (.ref 11) rv) := by
  unfold e_hB_X9_denied at h
  refine xMet_of (pl := [some (.ref 0), some (.int x1)]) (by decide) (Nat.le_of_ble_eq_true rfl) rfl (Nat.le_of_ble_eq_true rfl) ?_
  refine x_aload_n dX9_denied_0 rfl ?_
  refine x_iload_n dX9_denied_1 rfl ?_
  obtain ⟨z2, y2, h⟩ := xbind h
  refine x_callV (t_hB_X9_refused x1 z2 y2 (d + 0)) kX9_51 dX9_denied_2 rfl rfl rfl rfl rfl (Nat.le_of_ble_eq_true rfl) (Nat.le_of_ble_eq_true rfl) rfl rfl (Or.inl rfl) ?_
  refine x_pop dX9_denied_5 rfl ?_
  refine x_iconst (0 : Int32) dX9_denied_6 (by decide) ?_
  cases h
  exact x_zret2 dX9_denied_7 rfl rfl rfl
noncomputable def L_hB_X9_remembers_51 (p0 : Int32) (p1 : (Nat → Int32))   (K : Int32 → (Nat → Int32) → Option (Int32 × (Nat → Int32))) : Nat → Int32 → (Nat → Int32) → Option (Int32 × (Nat → Int32))
  | 0, _, _ => none
  | n51 + 1, l1_51, ma3_51 => if (11 : Int32) ≤ l1_51 then K l1_51 ma3_51 else (xix l1_51 11 (xix (((11 : Int32) * p0) + l1_51) 176 (L_hB_X9_remembers_51 p0 p1  K n51 (l1_51 + (1 : Int32)) (upd ma3_51 (((11 : Int32) * p0) + l1_51).toNatClampNeg (p1 l1_51.toNatClampNeg)))))
noncomputable def L_hB_X9_remembers_11 (p0 : Int32) (p1 : (Nat → Int32))   (K : Int32 → (Nat → Int32) → Option (Int32 × (Nat → Int32))) : Nat → Int32 → (Nat → Int32) → Option (Int32 × (Nat → Int32))
  | 0, _, _ => none
  | n11 + 1, l1_11, ma3_11 => if (165 : Int32) ≤ l1_11 then K l1_11 ma3_11 else (xix (l1_11 + (11 : Int32)) 176 (xix l1_11 176 (L_hB_X9_remembers_11 p0 p1  K n11 (l1_11 + (1 : Int32)) (upd ma3_11 l1_11.toNatClampNeg (ma3_11 (l1_11 + (11 : Int32)).toNatClampNeg)))))
noncomputable def e_hB_X9_remembers (p0 : Int32) (p1 : (Nat → Int32)) (p2 : (Nat → Int32))  : Option (Int32 × (Nat → Int32)) :=
  if p0 = (16 : Int32) then L_hB_X9_remembers_11 p0 p1  (fun l1_11 ma3_11 => L_hB_X9_remembers_51 (p0 - (1 : Int32)) p1  (fun l1_51 ma3_51 => some (((p0 - (1 : Int32)) + (1 : Int32)), ma3_51)) 200000 (0 : Int32) ma3_11) 200000 (0 : Int32) p2 else L_hB_X9_remembers_51 p0 p1  (fun l1_51 ma3_51 => some ((p0 + (1 : Int32)), ma3_51)) 200000 (0 : Int32) p2
set_option maxRecDepth 100000 in
set_option maxHeartbeats 4000000 in
theorem lp_hB_X9_remembers_51 {g0 g1 g2 g3 g4 g5 g6 g7 g8 g9 g10 g11 g12 g13 g14 g15 g16 g17 g18 g19 g20 g21 g22 g23 g24 g25 g26 : Int32} {a0 a1 a2 a4 a5 a6 a7 a8 a9 a10 a11 a12 a13 a14 a15 a16 a17 a18 a19 a20 a21 a22 a23 : (Nat → Int32)} {b0 : (Nat → Int64)} {w0 : Int64} {rv : Value} (d n0 : Nat)  (res : Int32 × (Nat → Int32)) (K : Int32 → (Nat → Int32) → Option (Int32 × (Nat → Int32))) (hK : ∀ (l1_51 : Int32) (ma3_51 : (Nat → Int32)), K l1_51 ma3_51 = some res → xW xks YX9_remembers (d + 1) 0 0 n0 (xZ 0 0 n0 none (hB g0 g1 g2 g3 g4 g5 g6 g7 g8 g9 g10 res.1 g12 g13 g14 g15 g16 g17 g18 g19 g20 g21 g22 g23 g24 g25 g26 a0 a1 a2 res.2 a4 a5 a6 a7 a8 a9 a10 a11 a12 a13 a14 a15 a16 a17 a18 a19 a20 a21 a22 a23 b0 w0 (.ref 11) rv)) 0 0 83 [some (.ref 0), none] [] (hB g0 g1 g2 g3 g4 g5 g6 g7 g8 g9 g10 g11 g12 g13 g14 g15 g16 g17 g18 g19 g20 g21 g22 g23 g24 g25 g26 a0 a1 a2 ma3_51 a4 a5 a6 a7 a8 a9 a10 a11 a12 a13 a14 a15 a16 a17 a18 a19 a20 a21 a22 a23 b0 w0 (.ref 11) rv)) : ∀ (n : Nat) (l1_51 : Int32) (ma3_51 : (Nat → Int32)), L_hB_X9_remembers_51 g11 a1  K n l1_51 ma3_51 = some res → xW xks YX9_remembers (d + 1) 0 0 n0 (xZ 0 0 n0 none (hB g0 g1 g2 g3 g4 g5 g6 g7 g8 g9 g10 res.1 g12 g13 g14 g15 g16 g17 g18 g19 g20 g21 g22 g23 g24 g25 g26 a0 a1 a2 res.2 a4 a5 a6 a7 a8 a9 a10 a11 a12 a13 a14 a15 a16 a17 a18 a19 a20 a21 a22 a23 b0 w0 (.ref 11) rv)) 0 0 51 [some (.ref 0), some (.int l1_51)] [] (hB g0 g1 g2 g3 g4 g5 g6 g7 g8 g9 g10 g11 g12 g13 g14 g15 g16 g17 g18 g19 g20 g21 g22 g23 g24 g25 g26 a0 a1 a2 ma3_51 a4 a5 a6 a7 a8 a9 a10 a11 a12 a13 a14 a15 a16 a17 a18 a19 a20 a21 a22 a23 b0 w0 (.ref 11) rv) := by
  intro n
  induction n with
  | zero =>
    intro l1_51 ma3_51 h
    cases (show (none : Option (Int32 × (Nat → Int32))) = some res from h)
  | succ n51 ih51 =>
    intro l1_51 ma3_51 h
    unfold L_hB_X9_remembers_51 at h
    refine x_iload_n dX9_remembers_51 rfl ?_
    refine x_bipush (11 : Int32) dX9_remembers_52 (by decide) ?_
    refine x_icmp_ge 83 dX9_remembers_54 (by decide) (fun q => ?_) (fun q => ?_)
    · have h := xif_t q h
      refine x_weak (pl2 := [some (.ref 0), none]) ⟨rfl, trivial⟩ ?_
      exact hK l1_51 ma3_51 h
    · have h := xif_f q h
      refine x_aload_n dX9_remembers_57 rfl ?_
      refine x_get fX9_24 dX9_remembers_58 rfl rfl rfl ?_
      refine x_bipush (11 : Int32) dX9_remembers_61 (by decide) ?_
      refine x_aload_n dX9_remembers_63 rfl ?_
      refine x_get fX9_322 dX9_remembers_64 rfl rfl rfl ?_
      refine x_imul dX9_remembers_67 ?_
      refine x_iload_n dX9_remembers_68 rfl ?_
      refine x_iadd dX9_remembers_69 ?_
      refine x_aload_n dX9_remembers_70 rfl ?_
      refine x_get fX9_17 dX9_remembers_71 rfl rfl rfl ?_
      refine x_iload_n dX9_remembers_74 rfl ?_
      obtain ⟨q75, h⟩ := xix_of h
      refine x_iald dX9_remembers_75 rfl q75 ?_
      obtain ⟨q76, h⟩ := xix_of h
      refine x_iast (h2 := (hB g0 g1 g2 g3 g4 g5 g6 g7 g8 g9 g10 g11 g12 g13 g14 g15 g16 g17 g18 g19 g20 g21 g22 g23 g24 g25 g26 a0 a1 a2 (upd ma3_51 (((11 : Int32) * g11) + l1_51).toNatClampNeg (a1 l1_51.toNatClampNeg)) a4 a5 a6 a7 a8 a9 a10 a11 a12 a13 a14 a15 a16 a17 a18 a19 a20 a21 a22 a23 b0 w0 (.ref 11) rv)) dX9_remembers_76 rfl q76 rfl ?_
      refine x_iincK (1 : Int32) (pl' := [some (.ref 0), some (.int (l1_51 + (1 : Int32)))]) dX9_remembers_77 rfl (by decide) (by decide) rfl ?_
      refine x_goto 51 dX9_remembers_80 (by decide) ?_
      refine x_weak (pl2 := [some (.ref 0), some (.int (l1_51 + (1 : Int32)))]) ⟨rfl, rfl, trivial⟩ ?_
      exact ih51 (l1_51 + (1 : Int32)) (upd ma3_51 (((11 : Int32) * g11) + l1_51).toNatClampNeg (a1 l1_51.toNatClampNeg)) h
set_option maxRecDepth 100000 in
set_option maxHeartbeats 4000000 in
theorem lp_hB_X9_remembers_11 {g0 g1 g2 g3 g4 g5 g6 g7 g8 g9 g10 g11 g12 g13 g14 g15 g16 g17 g18 g19 g20 g21 g22 g23 g24 g25 g26 : Int32} {a0 a1 a2 a4 a5 a6 a7 a8 a9 a10 a11 a12 a13 a14 a15 a16 a17 a18 a19 a20 a21 a22 a23 : (Nat → Int32)} {b0 : (Nat → Int64)} {w0 : Int64} {rv : Value} (d n0 : Nat)  (res : Int32 × (Nat → Int32)) (K : Int32 → (Nat → Int32) → Option (Int32 × (Nat → Int32))) (hK : ∀ (l1_11 : Int32) (ma3_11 : (Nat → Int32)), K l1_11 ma3_11 = some res → xW xks YX9_remembers (d + 1) 0 0 n0 (xZ 0 0 n0 none (hB g0 g1 g2 g3 g4 g5 g6 g7 g8 g9 g10 res.1 g12 g13 g14 g15 g16 g17 g18 g19 g20 g21 g22 g23 g24 g25 g26 a0 a1 a2 res.2 a4 a5 a6 a7 a8 a9 a10 a11 a12 a13 a14 a15 a16 a17 a18 a19 a20 a21 a22 a23 b0 w0 (.ref 11) rv)) 0 0 39 [some (.ref 0), none] [] (hB g0 g1 g2 g3 g4 g5 g6 g7 g8 g9 g10 g11 g12 g13 g14 g15 g16 g17 g18 g19 g20 g21 g22 g23 g24 g25 g26 a0 a1 a2 ma3_11 a4 a5 a6 a7 a8 a9 a10 a11 a12 a13 a14 a15 a16 a17 a18 a19 a20 a21 a22 a23 b0 w0 (.ref 11) rv)) : ∀ (n : Nat) (l1_11 : Int32) (ma3_11 : (Nat → Int32)), L_hB_X9_remembers_11 g11 a1  K n l1_11 ma3_11 = some res → xW xks YX9_remembers (d + 1) 0 0 n0 (xZ 0 0 n0 none (hB g0 g1 g2 g3 g4 g5 g6 g7 g8 g9 g10 res.1 g12 g13 g14 g15 g16 g17 g18 g19 g20 g21 g22 g23 g24 g25 g26 a0 a1 a2 res.2 a4 a5 a6 a7 a8 a9 a10 a11 a12 a13 a14 a15 a16 a17 a18 a19 a20 a21 a22 a23 b0 w0 (.ref 11) rv)) 0 0 11 [some (.ref 0), some (.int l1_11)] [] (hB g0 g1 g2 g3 g4 g5 g6 g7 g8 g9 g10 g11 g12 g13 g14 g15 g16 g17 g18 g19 g20 g21 g22 g23 g24 g25 g26 a0 a1 a2 ma3_11 a4 a5 a6 a7 a8 a9 a10 a11 a12 a13 a14 a15 a16 a17 a18 a19 a20 a21 a22 a23 b0 w0 (.ref 11) rv) := by
  intro n
  induction n with
  | zero =>
    intro l1_11 ma3_11 h
    cases (show (none : Option (Int32 × (Nat → Int32))) = some res from h)
  | succ n11 ih11 =>
    intro l1_11 ma3_11 h
    unfold L_hB_X9_remembers_11 at h
    refine x_iload_n dX9_remembers_11 rfl ?_
    refine x_sipush (165 : Int32) dX9_remembers_12 (by decide) ?_
    refine x_icmp_ge 39 dX9_remembers_15 (by decide) (fun q => ?_) (fun q => ?_)
    · have h := xif_t q h
      refine x_weak (pl2 := [some (.ref 0), none]) ⟨rfl, trivial⟩ ?_
      exact hK l1_11 ma3_11 h
    · have h := xif_f q h
      refine x_aload_n dX9_remembers_18 rfl ?_
      refine x_get fX9_24 dX9_remembers_19 rfl rfl rfl ?_
      refine x_iload_n dX9_remembers_22 rfl ?_
      refine x_aload_n dX9_remembers_23 rfl ?_
      refine x_get fX9_24 dX9_remembers_24 rfl rfl rfl ?_
      refine x_iload_n dX9_remembers_27 rfl ?_
      refine x_bipush (11 : Int32) dX9_remembers_28 (by decide) ?_
      refine x_iadd dX9_remembers_30 ?_
      obtain ⟨q31, h⟩ := xix_of h
      refine x_iald dX9_remembers_31 rfl q31 ?_
      obtain ⟨q32, h⟩ := xix_of h
      refine x_iast (h2 := (hB g0 g1 g2 g3 g4 g5 g6 g7 g8 g9 g10 g11 g12 g13 g14 g15 g16 g17 g18 g19 g20 g21 g22 g23 g24 g25 g26 a0 a1 a2 (upd ma3_11 l1_11.toNatClampNeg (ma3_11 (l1_11 + (11 : Int32)).toNatClampNeg)) a4 a5 a6 a7 a8 a9 a10 a11 a12 a13 a14 a15 a16 a17 a18 a19 a20 a21 a22 a23 b0 w0 (.ref 11) rv)) dX9_remembers_32 rfl q32 rfl ?_
      refine x_iincK (1 : Int32) (pl' := [some (.ref 0), some (.int (l1_11 + (1 : Int32)))]) dX9_remembers_33 rfl (by decide) (by decide) rfl ?_
      refine x_goto 11 dX9_remembers_36 (by decide) ?_
      refine x_weak (pl2 := [some (.ref 0), some (.int (l1_11 + (1 : Int32)))]) ⟨rfl, rfl, trivial⟩ ?_
      exact ih11 (l1_11 + (1 : Int32)) (upd ma3_11 l1_11.toNatClampNeg (ma3_11 (l1_11 + (11 : Int32)).toNatClampNeg)) h
set_option maxRecDepth 100000 in
set_option maxHeartbeats 4000000 in
theorem t_hB_X9_remembers {g0 g1 g2 g3 g4 g5 g6 g7 g8 g9 g10 g11 g12 g13 g14 g15 g16 g17 g18 g19 g20 g21 g22 g23 g24 g25 g26 : Int32} {a0 a1 a2 a3 a4 a5 a6 a7 a8 a9 a10 a11 a12 a13 a14 a15 a16 a17 a18 a19 a20 a21 a22 a23 : (Nat → Int32)} {b0 : (Nat → Int64)} {w0 : Int64} {rv : Value}  (res : Int32 × (Nat → Int32)) (h : e_hB_X9_remembers g11 a1 a3  = some res) (d : Nat) : xMet xks YX9_remembers (d + 1) 0 0 [.ref 0] (hB g0 g1 g2 g3 g4 g5 g6 g7 g8 g9 g10 g11 g12 g13 g14 g15 g16 g17 g18 g19 g20 g21 g22 g23 g24 g25 g26 a0 a1 a2 a3 a4 a5 a6 a7 a8 a9 a10 a11 a12 a13 a14 a15 a16 a17 a18 a19 a20 a21 a22 a23 b0 w0 (.ref 11) rv) none (hB g0 g1 g2 g3 g4 g5 g6 g7 g8 g9 g10 res.1 g12 g13 g14 g15 g16 g17 g18 g19 g20 g21 g22 g23 g24 g25 g26 a0 a1 a2 res.2 a4 a5 a6 a7 a8 a9 a10 a11 a12 a13 a14 a15 a16 a17 a18 a19 a20 a21 a22 a23 b0 w0 (.ref 11) rv) := by
  unfold e_hB_X9_remembers at h
  refine xMet_of (pl := [some (.ref 0), none]) (by decide) (Nat.le_of_ble_eq_true rfl) rfl (Nat.le_of_ble_eq_true rfl) ?_
  refine x_aload_n dX9_remembers_0 rfl ?_
  refine x_get fX9_322 dX9_remembers_1 rfl rfl rfl ?_
  refine x_bipush (16 : Int32) dX9_remembers_4 (by decide) ?_
  refine x_icmp_ne 49 dX9_remembers_6 (by decide) (fun q => ?_) (fun q => ?_)
  · have h := xif_f q h
    refine x_iconst (0 : Int32) dX9_remembers_49 (by decide) ?_
    refine x_istore_n (pl' := [some (.ref 0), some (.int (0 : Int32))]) dX9_remembers_50 (by decide) rfl ?_
    refine x_weak (pl2 := [some (.ref 0), some (.int (0 : Int32))]) ⟨rfl, rfl, trivial⟩ ?_
    refine lp_hB_X9_remembers_51 d _  res _ (fun l1_51 ma3_51 h => ?_) 200000 (0 : Int32) a3 h
    refine x_aload_n dX9_remembers_83 rfl ?_
    refine x_dup dX9_remembers_84 rfl ?_
    refine x_get fX9_322 dX9_remembers_85 rfl rfl rfl ?_
    refine x_iconst (1 : Int32) dX9_remembers_88 (by decide) ?_
    refine x_iadd dX9_remembers_89 ?_
    refine x_put (h2 := (hB g0 g1 g2 g3 g4 g5 g6 g7 g8 g9 g10 (g11 + (1 : Int32)) g12 g13 g14 g15 g16 g17 g18 g19 g20 g21 g22 g23 g24 g25 g26 a0 a1 a2 ma3_51 a4 a5 a6 a7 a8 a9 a10 a11 a12 a13 a14 a15 a16 a17 a18 a19 a20 a21 a22 a23 b0 w0 (.ref 11) rv)) fX9_322 dX9_remembers_90 rfl rfl (Nat.le_of_ble_eq_true rfl : 19 + 1 ≤ _) (fun α => ⟨rfl, rfl⟩) rfl ?_
    cases h
    exact x_vret2 dX9_remembers_93 rfl rfl
  · have h := xif_t q h
    refine x_iconst (0 : Int32) dX9_remembers_9 (by decide) ?_
    refine x_istore_n (pl' := [some (.ref 0), some (.int (0 : Int32))]) dX9_remembers_10 (by decide) rfl ?_
    refine x_weak (pl2 := [some (.ref 0), some (.int (0 : Int32))]) ⟨rfl, rfl, trivial⟩ ?_
    refine lp_hB_X9_remembers_11 d _  res _ (fun l1_11 ma3_11 h => ?_) 200000 (0 : Int32) a3 h
    refine x_aload_n dX9_remembers_39 rfl ?_
    refine x_dup dX9_remembers_40 rfl ?_
    refine x_get fX9_322 dX9_remembers_41 rfl rfl rfl ?_
    refine x_iconst (1 : Int32) dX9_remembers_44 (by decide) ?_
    refine x_isub dX9_remembers_45 ?_
    refine x_put (h2 := (hB g0 g1 g2 g3 g4 g5 g6 g7 g8 g9 g10 (g11 - (1 : Int32)) g12 g13 g14 g15 g16 g17 g18 g19 g20 g21 g22 g23 g24 g25 g26 a0 a1 a2 ma3_11 a4 a5 a6 a7 a8 a9 a10 a11 a12 a13 a14 a15 a16 a17 a18 a19 a20 a21 a22 a23 b0 w0 (.ref 11) rv)) fX9_322 dX9_remembers_46 rfl rfl (Nat.le_of_ble_eq_true rfl : 19 + 1 ≤ _) (fun α => ⟨rfl, rfl⟩) rfl ?_
    refine x_iconst (0 : Int32) dX9_remembers_49 (by decide) ?_
    refine x_istore_n (pl' := [some (.ref 0), some (.int (0 : Int32))]) dX9_remembers_50 (by decide) rfl ?_
    refine x_weak (pl2 := [some (.ref 0), some (.int (0 : Int32))]) ⟨rfl, rfl, trivial⟩ ?_
    refine lp_hB_X9_remembers_51 d _  res _ (fun l1_51 ma3_51 h => ?_) 200000 (0 : Int32) ma3_11 h
    refine x_aload_n dX9_remembers_83 rfl ?_
    refine x_dup dX9_remembers_84 rfl ?_
    refine x_get fX9_322 dX9_remembers_85 rfl rfl rfl ?_
    refine x_iconst (1 : Int32) dX9_remembers_88 (by decide) ?_
    refine x_iadd dX9_remembers_89 ?_
    refine x_put (h2 := (hB g0 g1 g2 g3 g4 g5 g6 g7 g8 g9 g10 ((g11 - (1 : Int32)) + (1 : Int32)) g12 g13 g14 g15 g16 g17 g18 g19 g20 g21 g22 g23 g24 g25 g26 a0 a1 a2 ma3_51 a4 a5 a6 a7 a8 a9 a10 a11 a12 a13 a14 a15 a16 a17 a18 a19 a20 a21 a22 a23 b0 w0 (.ref 11) rv)) fX9_322 dX9_remembers_90 rfl rfl (Nat.le_of_ble_eq_true rfl : 19 + 1 ≤ _) (fun α => ⟨rfl, rfl⟩) rfl ?_
    cases h
    exact x_vret2 dX9_remembers_93 rfl rfl
noncomputable def e_hB_X9_granted (p0 : Int32) (p1 : Int32)  : Option (Int32 × Int32 × Int32) :=
  ((e_hB_X9_good p0 p1 (0 : Int32)).bind fun z2 => some ((1 : Int32), z2.2.1, z2.2.2))
set_option maxRecDepth 100000 in
set_option maxHeartbeats 4000000 in
theorem t_hB_X9_granted {g0 g1 g2 g3 g4 g5 g6 g7 g8 g9 g10 g11 g12 g13 g14 g15 g16 g17 g18 g19 g20 g21 g22 g23 g24 g25 g26 : Int32} {a0 a1 a2 a3 a4 a5 a6 a7 a8 a9 a10 a11 a12 a13 a14 a15 a16 a17 a18 a19 a20 a21 a22 a23 : (Nat → Int32)} {b0 : (Nat → Int64)} {w0 : Int64} {rv : Value}  (res : Int32 × Int32 × Int32) (h : e_hB_X9_granted g1 g2  = some res) (d : Nat) : xMet xks YX9_granted (d + 2) 0 0 [.ref 0] (hB g0 g1 g2 g3 g4 g5 g6 g7 g8 g9 g10 g11 g12 g13 g14 g15 g16 g17 g18 g19 g20 g21 g22 g23 g24 g25 g26 a0 a1 a2 a3 a4 a5 a6 a7 a8 a9 a10 a11 a12 a13 a14 a15 a16 a17 a18 a19 a20 a21 a22 a23 b0 w0 (.ref 11) rv) (some (.int res.1)) (hB g0 res.2.1 res.2.2 g3 g4 g5 g6 g7 g8 g9 g10 g11 g12 g13 g14 g15 g16 g17 g18 g19 g20 g21 g22 g23 g24 g25 g26 a0 a1 a2 a3 a4 a5 a6 a7 a8 a9 a10 a11 a12 a13 a14 a15 a16 a17 a18 a19 a20 a21 a22 a23 b0 w0 (.ref 11) rv) := by
  unfold e_hB_X9_granted at h
  refine xMet_of (pl := [some (.ref 0)]) (by decide) (Nat.le_of_ble_eq_true rfl) rfl (Nat.le_of_ble_eq_true rfl) ?_
  refine x_aload_n dX9_granted_0 rfl ?_
  refine x_iconst (0 : Int32) dX9_granted_1 (by decide) ?_
  obtain ⟨z2, y2, h⟩ := xbind h
  refine x_callV (t_hB_X9_good (0 : Int32) z2 y2 (d + 0)) kX9_55 dX9_granted_2 rfl rfl rfl rfl rfl (Nat.le_of_ble_eq_true rfl) (Nat.le_of_ble_eq_true rfl) rfl rfl (Or.inl rfl) ?_
  refine x_pop dX9_granted_5 rfl ?_
  refine x_iconst (1 : Int32) dX9_granted_6 (by decide) ?_
  cases h
  exact x_zret2 dX9_granted_7 rfl rfl rfl
noncomputable def e_hB_X9_lend (p0 : Int32) (p1 : Int32) (p2 : Int32) (p3 : Int32) (p4 : Int32) (p5 : (Nat → Int32)) (p6 : Int32) (p7 : (Nat → Int32)) (x1 : Int32) (x2 : Int32) : Option (Int32 × Int32 × Int32 × Int32 × Int32 × (Nat → Int32) × (Nat → Int32)) :=
  ((e_hB_X9_isUmbrella p1 x1).bind fun z7 => if z7 = (0 : Int32) then ((e_hB_X9_denied p2 p3 (1 : Int32)).bind fun z23 => xbo z23.1 (some (z23.1, (0 : Int32), z23.2.1, z23.2.2, p6, p7, p5))) else ((e_hB_X9_isPerson p4 x2).bind fun z15 => if z15 = (0 : Int32) then ((e_hB_X9_denied p2 p3 (1 : Int32)).bind fun z23 => xbo z23.1 (some (z23.1, (0 : Int32), z23.2.1, z23.2.2, p6, p7, p5))) else (xix ((0 : Int32) + x1) 11 (if (p5 ((0 : Int32) + x1).toNatClampNeg) = x2 then ((e_hB_X9_denied p2 p3 (5 : Int32)).bind fun z41 => xbo z41.1 (some (z41.1, (0 : Int32), z41.2.1, z41.2.2, p6, p7, p5))) else ((e_hB_X9_remembers p6 p5 p7).bind fun z46 => xix ((0 : Int32) + x1) 11 ((e_hB_X9_granted p2 p3).bind fun z59 => xbo z59.1 (some (z59.1, (0 : Int32), z59.2.1, z59.2.2, z46.1, z46.2, (upd p5 ((0 : Int32) + x1).toNatClampNeg x2)))))))))
set_option maxRecDepth 100000 in
set_option maxHeartbeats 4000000 in
theorem t_hB_X9_lend {g0 g1 g2 g3 g4 g5 g6 g7 g8 g9 g10 g11 g12 g13 g14 g15 g16 g17 g18 g19 g20 g21 g22 g23 g24 g25 g26 : Int32} {a0 a1 a2 a3 a4 a5 a6 a7 a8 a9 a10 a11 a12 a13 a14 a15 a16 a17 a18 a19 a20 a21 a22 a23 : (Nat → Int32)} {b0 : (Nat → Int64)} {w0 : Int64} {rv : Value} (x1 : Int32) (x2 : Int32) (res : Int32 × Int32 × Int32 × Int32 × Int32 × (Nat → Int32) × (Nat → Int32)) (h : e_hB_X9_lend g0 g23 g1 g2 g22 a1 g11 a3 x1 x2 = some res) (d : Nat) : xMet xks YX9_lend (d + 3) 0 0 [.ref 0, .int x1, .int x2] (hB g0 g1 g2 g3 g4 g5 g6 g7 g8 g9 g10 g11 g12 g13 g14 g15 g16 g17 g18 g19 g20 g21 g22 g23 g24 g25 g26 a0 a1 a2 a3 a4 a5 a6 a7 a8 a9 a10 a11 a12 a13 a14 a15 a16 a17 a18 a19 a20 a21 a22 a23 b0 w0 (.ref 11) rv) (some (.int res.1)) (hB res.2.1 res.2.2.1 res.2.2.2.1 g3 g4 g5 g6 g7 g8 g9 g10 res.2.2.2.2.1 g12 g13 g14 g15 g16 g17 g18 g19 g20 g21 g22 g23 g24 g25 g26 a0 res.2.2.2.2.2.2 a2 res.2.2.2.2.2.1 a4 a5 a6 a7 a8 a9 a10 a11 a12 a13 a14 a15 a16 a17 a18 a19 a20 a21 a22 a23 b0 w0 (.ref 11) rv) := by
  unfold e_hB_X9_lend at h
  refine xMet_of (pl := [some (.ref 0), some (.int x1), some (.int x2)]) (by decide) (Nat.le_of_ble_eq_true rfl) rfl (Nat.le_of_ble_eq_true rfl) ?_
  refine x_aload_n dX9_lend_0 rfl ?_
  refine x_iconst (0 : Int32) dX9_lend_1 (by decide) ?_
  refine x_put (h2 := (hB (0 : Int32) g1 g2 g3 g4 g5 g6 g7 g8 g9 g10 g11 g12 g13 g14 g15 g16 g17 g18 g19 g20 g21 g22 g23 g24 g25 g26 a0 a1 a2 a3 a4 a5 a6 a7 a8 a9 a10 a11 a12 a13 a14 a15 a16 a17 a18 a19 a20 a21 a22 a23 b0 w0 (.ref 11) rv)) fX9_45 dX9_lend_2 rfl rfl (Nat.le_of_ble_eq_true rfl : 0 + 1 ≤ _) (fun α => ⟨rfl, rfl⟩) rfl ?_
  refine x_aload_n dX9_lend_5 rfl ?_
  refine x_iload_n dX9_lend_6 rfl ?_
  obtain ⟨z7, y7, h⟩ := xbind h
  refine x_callV (t_hB_X9_isUmbrella x1 z7 y7 (d + 1)) kX9_359 dX9_lend_7 rfl rfl rfl rfl rfl (Nat.le_of_ble_eq_true rfl) (Nat.le_of_ble_eq_true rfl) rfl rfl (Or.inl rfl) ?_
  refine x_if_eq 21 dX9_lend_10 (by decide) (fun q => ?_) (fun q => ?_)
  · have h := xif_t q h
    refine x_aload_n dX9_lend_21 rfl ?_
    refine x_iconst (1 : Int32) dX9_lend_22 (by decide) ?_
    obtain ⟨z23, y23, h⟩ := xbind h
    refine x_callV (t_hB_X9_denied (1 : Int32) z23 y23 (d + 0)) kX9_488 dX9_lend_23 rfl rfl rfl rfl rfl (Nat.le_of_ble_eq_true rfl) (Nat.le_of_ble_eq_true rfl) rfl rfl (Or.inl rfl) ?_
    obtain ⟨-, q26, h⟩ := xbo_of h
    cases h
    exact x_zret2 dX9_lend_26 rfl q26 rfl
  · have h := xif_f q h
    refine x_aload_n dX9_lend_13 rfl ?_
    refine x_iload_n dX9_lend_14 rfl ?_
    obtain ⟨z15, y15, h⟩ := xbind h
    refine x_callV (t_hB_X9_isPerson x2 z15 y15 (d + 1)) kX9_362 dX9_lend_15 rfl rfl rfl rfl rfl (Nat.le_of_ble_eq_true rfl) (Nat.le_of_ble_eq_true rfl) rfl rfl (Or.inl rfl) ?_
    refine x_if_ne 27 dX9_lend_18 (by decide) (fun q => ?_) (fun q => ?_)
    · have h := xif_f q h
      refine x_aload_n dX9_lend_27 rfl ?_
      refine x_get fX9_17 dX9_lend_28 rfl rfl rfl ?_
      refine x_iconst (0 : Int32) dX9_lend_31 (by decide) ?_
      refine x_iload_n dX9_lend_32 rfl ?_
      refine x_iadd dX9_lend_33 ?_
      obtain ⟨q34, h⟩ := xix_of h
      refine x_iald dX9_lend_34 rfl q34 ?_
      refine x_iload_n dX9_lend_35 rfl ?_
      refine x_icmp_ne 45 dX9_lend_36 (by decide) (fun q => ?_) (fun q => ?_)
      · have h := xif_f q h
        refine x_aload_n dX9_lend_45 rfl ?_
        obtain ⟨z46, y46, h⟩ := xbind h
        refine x_callV (t_hB_X9_remembers  z46 y46 (d + 1)) kX9_491 dX9_lend_46 rfl rfl rfl rfl rfl (Nat.le_of_ble_eq_true rfl) (Nat.le_of_ble_eq_true rfl) rfl rfl (Or.inl rfl) ?_
        refine x_aload_n dX9_lend_49 rfl ?_
        refine x_get fX9_17 dX9_lend_50 rfl rfl rfl ?_
        refine x_iconst (0 : Int32) dX9_lend_53 (by decide) ?_
        refine x_iload_n dX9_lend_54 rfl ?_
        refine x_iadd dX9_lend_55 ?_
        refine x_iload_n dX9_lend_56 rfl ?_
        obtain ⟨q57, h⟩ := xix_of h
        refine x_iast (h2 := (hB (0 : Int32) g1 g2 g3 g4 g5 g6 g7 g8 g9 g10 z46.1 g12 g13 g14 g15 g16 g17 g18 g19 g20 g21 g22 g23 g24 g25 g26 a0 (upd a1 ((0 : Int32) + x1).toNatClampNeg x2) a2 z46.2 a4 a5 a6 a7 a8 a9 a10 a11 a12 a13 a14 a15 a16 a17 a18 a19 a20 a21 a22 a23 b0 w0 (.ref 11) rv)) dX9_lend_57 rfl q57 rfl ?_
        refine x_aload_n dX9_lend_58 rfl ?_
        obtain ⟨z59, y59, h⟩ := xbind h
        refine x_callV (t_hB_X9_granted  z59 y59 (d + 0)) kX9_494 dX9_lend_59 rfl rfl rfl rfl rfl (Nat.le_of_ble_eq_true rfl) (Nat.le_of_ble_eq_true rfl) rfl rfl (Or.inl rfl) ?_
        obtain ⟨-, q62, h⟩ := xbo_of h
        cases h
        exact x_zret2 dX9_lend_62 rfl q62 rfl
      · have h := xif_t q h
        refine x_aload_n dX9_lend_39 rfl ?_
        refine x_iconst (5 : Int32) dX9_lend_40 (by decide) ?_
        obtain ⟨z41, y41, h⟩ := xbind h
        refine x_callV (t_hB_X9_denied (5 : Int32) z41 y41 (d + 0)) kX9_488 dX9_lend_41 rfl rfl rfl rfl rfl (Nat.le_of_ble_eq_true rfl) (Nat.le_of_ble_eq_true rfl) rfl rfl (Or.inl rfl) ?_
        obtain ⟨-, q44, h⟩ := xbo_of h
        cases h
        exact x_zret2 dX9_lend_44 rfl q44 rfl
    · have h := xif_t q h
      refine x_aload_n dX9_lend_21 rfl ?_
      refine x_iconst (1 : Int32) dX9_lend_22 (by decide) ?_
      obtain ⟨z23, y23, h⟩ := xbind h
      refine x_callV (t_hB_X9_denied (1 : Int32) z23 y23 (d + 0)) kX9_488 dX9_lend_23 rfl rfl rfl rfl rfl (Nat.le_of_ble_eq_true rfl) (Nat.le_of_ble_eq_true rfl) rfl rfl (Or.inl rfl) ?_
      obtain ⟨-, q26, h⟩ := xbo_of h
      cases h
      exact x_zret2 dX9_lend_26 rfl q26 rfl
noncomputable def e_hB_X9_leave (p0 : Int32) (p1 : Int32) (p2 : (Nat → Int32)) (p3 : Int32) (p4 : (Nat → Int32)) (p5 : Int32) (p6 : Int32) (x1 : Int32) : Option (Int32 × Int32 × Int32 × (Nat → Int32) × (Nat → Int32) × Int32 × Int32) :=
  ((e_hB_X9_isUmbrella p1 x1).bind fun z7 => if z7 = (0 : Int32) then ((e_hB_X9_denied p5 p6 (1 : Int32)).bind fun z15 => xbo z15.1 (some (z15.1, (0 : Int32), p3, p4, p2, z15.2.1, z15.2.2))) else (xix ((0 : Int32) + x1) 11 (if (p2 ((0 : Int32) + x1).toNatClampNeg) = (-2 : Int32) then ((e_hB_X9_denied p5 p6 (5 : Int32)).bind fun z34 => xbo z34.1 (some (z34.1, (0 : Int32), p3, p4, p2, z34.2.1, z34.2.2))) else ((e_hB_X9_remembers p3 p2 p4).bind fun z39 => xix ((0 : Int32) + x1) 11 ((e_hB_X9_granted p5 p6).bind fun z53 => xbo z53.1 (some (z53.1, (0 : Int32), z39.1, z39.2, (upd p2 ((0 : Int32) + x1).toNatClampNeg (-2 : Int32)), z53.2.1, z53.2.2)))))))
set_option maxRecDepth 100000 in
set_option maxHeartbeats 4000000 in
theorem t_hB_X9_leave {g0 g1 g2 g3 g4 g5 g6 g7 g8 g9 g10 g11 g12 g13 g14 g15 g16 g17 g18 g19 g20 g21 g22 g23 g24 g25 g26 : Int32} {a0 a1 a2 a3 a4 a5 a6 a7 a8 a9 a10 a11 a12 a13 a14 a15 a16 a17 a18 a19 a20 a21 a22 a23 : (Nat → Int32)} {b0 : (Nat → Int64)} {w0 : Int64} {rv : Value} (x1 : Int32) (res : Int32 × Int32 × Int32 × (Nat → Int32) × (Nat → Int32) × Int32 × Int32) (h : e_hB_X9_leave g0 g23 a1 g11 a3 g1 g2 x1 = some res) (d : Nat) : xMet xks YX9_leave (d + 3) 0 0 [.ref 0, .int x1] (hB g0 g1 g2 g3 g4 g5 g6 g7 g8 g9 g10 g11 g12 g13 g14 g15 g16 g17 g18 g19 g20 g21 g22 g23 g24 g25 g26 a0 a1 a2 a3 a4 a5 a6 a7 a8 a9 a10 a11 a12 a13 a14 a15 a16 a17 a18 a19 a20 a21 a22 a23 b0 w0 (.ref 11) rv) (some (.int res.1)) (hB res.2.1 res.2.2.2.2.2.1 res.2.2.2.2.2.2 g3 g4 g5 g6 g7 g8 g9 g10 res.2.2.1 g12 g13 g14 g15 g16 g17 g18 g19 g20 g21 g22 g23 g24 g25 g26 a0 res.2.2.2.2.1 a2 res.2.2.2.1 a4 a5 a6 a7 a8 a9 a10 a11 a12 a13 a14 a15 a16 a17 a18 a19 a20 a21 a22 a23 b0 w0 (.ref 11) rv) := by
  unfold e_hB_X9_leave at h
  refine xMet_of (pl := [some (.ref 0), some (.int x1)]) (by decide) (Nat.le_of_ble_eq_true rfl) rfl (Nat.le_of_ble_eq_true rfl) ?_
  refine x_aload_n dX9_leave_0 rfl ?_
  refine x_iconst (0 : Int32) dX9_leave_1 (by decide) ?_
  refine x_put (h2 := (hB (0 : Int32) g1 g2 g3 g4 g5 g6 g7 g8 g9 g10 g11 g12 g13 g14 g15 g16 g17 g18 g19 g20 g21 g22 g23 g24 g25 g26 a0 a1 a2 a3 a4 a5 a6 a7 a8 a9 a10 a11 a12 a13 a14 a15 a16 a17 a18 a19 a20 a21 a22 a23 b0 w0 (.ref 11) rv)) fX9_45 dX9_leave_2 rfl rfl (Nat.le_of_ble_eq_true rfl : 0 + 1 ≤ _) (fun α => ⟨rfl, rfl⟩) rfl ?_
  refine x_aload_n dX9_leave_5 rfl ?_
  refine x_iload_n dX9_leave_6 rfl ?_
  obtain ⟨z7, y7, h⟩ := xbind h
  refine x_callV (t_hB_X9_isUmbrella x1 z7 y7 (d + 1)) kX9_359 dX9_leave_7 rfl rfl rfl rfl rfl (Nat.le_of_ble_eq_true rfl) (Nat.le_of_ble_eq_true rfl) rfl rfl (Or.inl rfl) ?_
  refine x_if_ne 19 dX9_leave_10 (by decide) (fun q => ?_) (fun q => ?_)
  · have h := xif_f q h
    refine x_aload_n dX9_leave_19 rfl ?_
    refine x_get fX9_17 dX9_leave_20 rfl rfl rfl ?_
    refine x_iconst (0 : Int32) dX9_leave_23 (by decide) ?_
    refine x_iload_n dX9_leave_24 rfl ?_
    refine x_iadd dX9_leave_25 ?_
    obtain ⟨q26, h⟩ := xix_of h
    refine x_iald dX9_leave_26 rfl q26 ?_
    refine x_bipush (-2 : Int32) dX9_leave_27 (by decide) ?_
    refine x_icmp_ne 38 dX9_leave_29 (by decide) (fun q => ?_) (fun q => ?_)
    · have h := xif_f q h
      refine x_aload_n dX9_leave_38 rfl ?_
      obtain ⟨z39, y39, h⟩ := xbind h
      refine x_callV (t_hB_X9_remembers  z39 y39 (d + 1)) kX9_491 dX9_leave_39 rfl rfl rfl rfl rfl (Nat.le_of_ble_eq_true rfl) (Nat.le_of_ble_eq_true rfl) rfl rfl (Or.inl rfl) ?_
      refine x_aload_n dX9_leave_42 rfl ?_
      refine x_get fX9_17 dX9_leave_43 rfl rfl rfl ?_
      refine x_iconst (0 : Int32) dX9_leave_46 (by decide) ?_
      refine x_iload_n dX9_leave_47 rfl ?_
      refine x_iadd dX9_leave_48 ?_
      refine x_bipush (-2 : Int32) dX9_leave_49 (by decide) ?_
      obtain ⟨q51, h⟩ := xix_of h
      refine x_iast (h2 := (hB (0 : Int32) g1 g2 g3 g4 g5 g6 g7 g8 g9 g10 z39.1 g12 g13 g14 g15 g16 g17 g18 g19 g20 g21 g22 g23 g24 g25 g26 a0 (upd a1 ((0 : Int32) + x1).toNatClampNeg (-2 : Int32)) a2 z39.2 a4 a5 a6 a7 a8 a9 a10 a11 a12 a13 a14 a15 a16 a17 a18 a19 a20 a21 a22 a23 b0 w0 (.ref 11) rv)) dX9_leave_51 rfl q51 rfl ?_
      refine x_aload_n dX9_leave_52 rfl ?_
      obtain ⟨z53, y53, h⟩ := xbind h
      refine x_callV (t_hB_X9_granted  z53 y53 (d + 0)) kX9_494 dX9_leave_53 rfl rfl rfl rfl rfl (Nat.le_of_ble_eq_true rfl) (Nat.le_of_ble_eq_true rfl) rfl rfl (Or.inl rfl) ?_
      obtain ⟨-, q56, h⟩ := xbo_of h
      cases h
      exact x_zret2 dX9_leave_56 rfl q56 rfl
    · have h := xif_t q h
      refine x_aload_n dX9_leave_32 rfl ?_
      refine x_iconst (5 : Int32) dX9_leave_33 (by decide) ?_
      obtain ⟨z34, y34, h⟩ := xbind h
      refine x_callV (t_hB_X9_denied (5 : Int32) z34 y34 (d + 0)) kX9_488 dX9_leave_34 rfl rfl rfl rfl rfl (Nat.le_of_ble_eq_true rfl) (Nat.le_of_ble_eq_true rfl) rfl rfl (Or.inl rfl) ?_
      obtain ⟨-, q37, h⟩ := xbo_of h
      cases h
      exact x_zret2 dX9_leave_37 rfl q37 rfl
  · have h := xif_t q h
    refine x_aload_n dX9_leave_13 rfl ?_
    refine x_iconst (1 : Int32) dX9_leave_14 (by decide) ?_
    obtain ⟨z15, y15, h⟩ := xbind h
    refine x_callV (t_hB_X9_denied (1 : Int32) z15 y15 (d + 0)) kX9_488 dX9_leave_15 rfl rfl rfl rfl rfl (Nat.le_of_ble_eq_true rfl) (Nat.le_of_ble_eq_true rfl) rfl rfl (Or.inl rfl) ?_
    obtain ⟨-, q18, h⟩ := xbo_of h
    cases h
    exact x_zret2 dX9_leave_18 rfl q18 rfl
set_option maxRecDepth 100000 in
set_option maxHeartbeats 4000000 in
theorem t_hB_X9_canExchange_2 {g0 g1 g2 g3 g4 g5 g6 g7 g8 g9 g10 g11 g12 g13 g14 g15 g16 g17 g18 g19 g20 g21 g22 g23 g24 g25 g26 : Int32} {a0 a1 a2 a3 a4 a5 a6 a7 a8 a9 a10 a11 a12 a13 a14 a15 a16 a17 a18 a19 a20 a21 a22 a23 : (Nat → Int32)} {b0 : (Nat → Int64)} {w0 : Int64} {rv : Value} (x2 : Int32) (x3 : Int32) (res : Int32) (h : e_hB_X9_canExchange a1 x2 x3 = some res) (d : Nat) : xMet xks YX9_canExchange (d + 1) 0 0 [.ref 0, .ref 2, .int x2, .int x3] (hB g0 g1 g2 g3 g4 g5 g6 g7 g8 g9 g10 g11 g12 g13 g14 g15 g16 g17 g18 g19 g20 g21 g22 g23 g24 g25 g26 a0 a1 a2 a3 a4 a5 a6 a7 a8 a9 a10 a11 a12 a13 a14 a15 a16 a17 a18 a19 a20 a21 a22 a23 b0 w0 (.ref 11) rv) (some (.int res)) (hB g0 g1 g2 g3 g4 g5 g6 g7 g8 g9 g10 g11 g12 g13 g14 g15 g16 g17 g18 g19 g20 g21 g22 g23 g24 g25 g26 a0 a1 a2 a3 a4 a5 a6 a7 a8 a9 a10 a11 a12 a13 a14 a15 a16 a17 a18 a19 a20 a21 a22 a23 b0 w0 (.ref 11) rv) := by
  unfold e_hB_X9_canExchange at h
  refine xMet_of (pl := [some (.ref 0), some (.ref 2), some (.int x2), some (.int x3)]) (by decide) (Nat.le_of_ble_eq_true rfl) rfl (Nat.le_of_ble_eq_true rfl) ?_
  refine x_iload_n dX9_canExchange_0 rfl ?_
  refine x_iload_n dX9_canExchange_1 rfl ?_
  refine x_icmp_eq 22 dX9_canExchange_2 (by decide) (fun q => ?_) (fun q => ?_)
  · have h := xif_t q h
    refine x_iconst (0 : Int32) dX9_canExchange_22 (by decide) ?_
    cases h
    exact x_zret2 dX9_canExchange_23 rfl rfl rfl
  · have h := xif_f q h
    refine x_aload_n dX9_canExchange_5 rfl ?_
    refine x_iconst (0 : Int32) dX9_canExchange_6 (by decide) ?_
    refine x_iload_n dX9_canExchange_7 rfl ?_
    refine x_iadd dX9_canExchange_8 ?_
    obtain ⟨q9, h⟩ := xix_of h
    refine x_iald dX9_canExchange_9 rfl q9 ?_
    refine x_aload_n dX9_canExchange_10 rfl ?_
    refine x_iconst (0 : Int32) dX9_canExchange_11 (by decide) ?_
    refine x_iload_n dX9_canExchange_12 rfl ?_
    refine x_iadd dX9_canExchange_13 ?_
    obtain ⟨q14, h⟩ := xix_of h
    refine x_iald dX9_canExchange_14 rfl q14 ?_
    refine x_icmp_eq 22 dX9_canExchange_15 (by decide) (fun q => ?_) (fun q => ?_)
    · have h := xif_t q h
      refine x_iconst (0 : Int32) dX9_canExchange_22 (by decide) ?_
      cases h
      exact x_zret2 dX9_canExchange_23 rfl rfl rfl
    · have h := xif_f q h
      refine x_iconst (1 : Int32) dX9_canExchange_18 (by decide) ?_
      refine x_goto 23 dX9_canExchange_19 (by decide) ?_
      cases h
      exact x_zret2 dX9_canExchange_23 rfl rfl rfl
set_option maxRecDepth 100000 in
set_option maxHeartbeats 4000000 in
theorem t_hB_X9_changes_2 {g0 g1 g2 g3 g4 g5 g6 g7 g8 g9 g10 g11 g12 g13 g14 g15 g16 g17 g18 g19 g20 g21 g22 g23 g24 g25 g26 : Int32} {a0 a1 a2 a3 a4 a5 a6 a7 a8 a9 a10 a11 a12 a13 a14 a15 a16 a17 a18 a19 a20 a21 a22 a23 : (Nat → Int32)} {b0 : (Nat → Int64)} {w0 : Int64} {rv : Value} (x1 : Int32) (x2 : Int32) (res : (Nat → Int32)) (h : e_hB_X9_changes a1 x1 x2 = some res) (d : Nat) : xMet xks YX9_changes (d + 1) 0 0 [.ref 2, .int x1, .int x2] (hB g0 g1 g2 g3 g4 g5 g6 g7 g8 g9 g10 g11 g12 g13 g14 g15 g16 g17 g18 g19 g20 g21 g22 g23 g24 g25 g26 a0 a1 a2 a3 a4 a5 a6 a7 a8 a9 a10 a11 a12 a13 a14 a15 a16 a17 a18 a19 a20 a21 a22 a23 b0 w0 (.ref 11) rv) none (hB g0 g1 g2 g3 g4 g5 g6 g7 g8 g9 g10 g11 g12 g13 g14 g15 g16 g17 g18 g19 g20 g21 g22 g23 g24 g25 g26 a0 res a2 a3 a4 a5 a6 a7 a8 a9 a10 a11 a12 a13 a14 a15 a16 a17 a18 a19 a20 a21 a22 a23 b0 w0 (.ref 11) rv) := by
  unfold e_hB_X9_changes at h
  refine xMet_of (pl := [some (.ref 2), some (.int x1), some (.int x2), none]) (by decide) (Nat.le_of_ble_eq_true rfl) rfl (Nat.le_of_ble_eq_true rfl) ?_
  refine x_aload_n dX9_changes_0 rfl ?_
  refine x_iconst (0 : Int32) dX9_changes_1 (by decide) ?_
  refine x_iload_n dX9_changes_2 rfl ?_
  refine x_iadd dX9_changes_3 ?_
  obtain ⟨q4, h⟩ := xix_of h
  refine x_iald dX9_changes_4 rfl q4 ?_
  refine x_istore_n (pl' := [some (.ref 2), some (.int x1), some (.int x2), some (.int (a1 ((0 : Int32) + x1).toNatClampNeg))]) dX9_changes_5 (by decide) rfl ?_
  refine x_aload_n dX9_changes_6 rfl ?_
  refine x_iconst (0 : Int32) dX9_changes_7 (by decide) ?_
  refine x_iload_n dX9_changes_8 rfl ?_
  refine x_iadd dX9_changes_9 ?_
  refine x_aload_n dX9_changes_10 rfl ?_
  refine x_iconst (0 : Int32) dX9_changes_11 (by decide) ?_
  refine x_iload_n dX9_changes_12 rfl ?_
  refine x_iadd dX9_changes_13 ?_
  obtain ⟨q14, h⟩ := xix_of h
  refine x_iald dX9_changes_14 rfl q14 ?_
  obtain ⟨q15, h⟩ := xix_of h
  refine x_iast (h2 := (hB g0 g1 g2 g3 g4 g5 g6 g7 g8 g9 g10 g11 g12 g13 g14 g15 g16 g17 g18 g19 g20 g21 g22 g23 g24 g25 g26 a0 (upd a1 ((0 : Int32) + x1).toNatClampNeg (a1 ((0 : Int32) + x2).toNatClampNeg)) a2 a3 a4 a5 a6 a7 a8 a9 a10 a11 a12 a13 a14 a15 a16 a17 a18 a19 a20 a21 a22 a23 b0 w0 (.ref 11) rv)) dX9_changes_15 rfl q15 rfl ?_
  refine x_aload_n dX9_changes_16 rfl ?_
  refine x_iconst (0 : Int32) dX9_changes_17 (by decide) ?_
  refine x_iload_n dX9_changes_18 rfl ?_
  refine x_iadd dX9_changes_19 ?_
  refine x_iload_n dX9_changes_20 rfl ?_
  obtain ⟨q21, h⟩ := xix_of h
  refine x_iast (h2 := (hB g0 g1 g2 g3 g4 g5 g6 g7 g8 g9 g10 g11 g12 g13 g14 g15 g16 g17 g18 g19 g20 g21 g22 g23 g24 g25 g26 a0 (upd (upd a1 ((0 : Int32) + x1).toNatClampNeg (a1 ((0 : Int32) + x2).toNatClampNeg)) ((0 : Int32) + x2).toNatClampNeg (a1 ((0 : Int32) + x1).toNatClampNeg)) a2 a3 a4 a5 a6 a7 a8 a9 a10 a11 a12 a13 a14 a15 a16 a17 a18 a19 a20 a21 a22 a23 b0 w0 (.ref 11) rv)) dX9_changes_21 rfl q21 rfl ?_
  cases h
  exact x_vret2 dX9_changes_22 rfl rfl
noncomputable def e_hB_X9_exchange (p0 : Int32) (p1 : Int32) (p2 : Int32) (p3 : Int32) (p4 : (Nat → Int32)) (p5 : Int32) (p6 : (Nat → Int32)) (x1 : Int32) (x2 : Int32) : Option (Int32 × Int32 × Int32 × Int32 × Int32 × (Nat → Int32) × (Nat → Int32)) :=
  ((e_hB_X9_isUmbrella p1 x1).bind fun z7 => if z7 = (0 : Int32) then ((e_hB_X9_denied p2 p3 (1 : Int32)).bind fun z28 => xbo z28.1 (some (z28.1, (0 : Int32), z28.2.1, z28.2.2, p5, p6, p4))) else ((e_hB_X9_isUmbrella p1 x2).bind fun z15 => if z15 = (0 : Int32) then ((e_hB_X9_denied p2 p3 (1 : Int32)).bind fun z28 => xbo z28.1 (some (z28.1, (0 : Int32), z28.2.1, z28.2.2, p5, p6, p4))) else if x1 = x2 then ((e_hB_X9_denied p2 p3 (1 : Int32)).bind fun z28 => xbo z28.1 (some (z28.1, (0 : Int32), z28.2.1, z28.2.2, p5, p6, p4))) else ((e_hB_X9_canExchange p4 x1 x2).bind fun z39 => if z39 = (0 : Int32) then ((e_hB_X9_denied p2 p3 (5 : Int32)).bind fun z47 => xbo z47.1 (some (z47.1, (0 : Int32), z47.2.1, z47.2.2, p5, p6, p4))) else ((e_hB_X9_remembers p5 p4 p6).bind fun z52 => (e_hB_X9_changes p4 x1 x2).bind fun z61 => (e_hB_X9_granted p2 p3).bind fun z65 => xbo z65.1 (some (z65.1, (0 : Int32), z65.2.1, z65.2.2, z52.1, z52.2, z61))))))
set_option maxRecDepth 100000 in
set_option maxHeartbeats 4000000 in
theorem t_hB_X9_exchange {g0 g1 g2 g3 g4 g5 g6 g7 g8 g9 g10 g11 g12 g13 g14 g15 g16 g17 g18 g19 g20 g21 g22 g23 g24 g25 g26 : Int32} {a0 a1 a2 a3 a4 a5 a6 a7 a8 a9 a10 a11 a12 a13 a14 a15 a16 a17 a18 a19 a20 a21 a22 a23 : (Nat → Int32)} {b0 : (Nat → Int64)} {w0 : Int64} {rv : Value} (x1 : Int32) (x2 : Int32) (res : Int32 × Int32 × Int32 × Int32 × Int32 × (Nat → Int32) × (Nat → Int32)) (h : e_hB_X9_exchange g0 g23 g1 g2 a1 g11 a3 x1 x2 = some res) (d : Nat) : xMet xks YX9_exchange (d + 3) 0 0 [.ref 0, .int x1, .int x2] (hB g0 g1 g2 g3 g4 g5 g6 g7 g8 g9 g10 g11 g12 g13 g14 g15 g16 g17 g18 g19 g20 g21 g22 g23 g24 g25 g26 a0 a1 a2 a3 a4 a5 a6 a7 a8 a9 a10 a11 a12 a13 a14 a15 a16 a17 a18 a19 a20 a21 a22 a23 b0 w0 (.ref 11) rv) (some (.int res.1)) (hB res.2.1 res.2.2.1 res.2.2.2.1 g3 g4 g5 g6 g7 g8 g9 g10 res.2.2.2.2.1 g12 g13 g14 g15 g16 g17 g18 g19 g20 g21 g22 g23 g24 g25 g26 a0 res.2.2.2.2.2.2 a2 res.2.2.2.2.2.1 a4 a5 a6 a7 a8 a9 a10 a11 a12 a13 a14 a15 a16 a17 a18 a19 a20 a21 a22 a23 b0 w0 (.ref 11) rv) := by
  unfold e_hB_X9_exchange at h
  refine xMet_of (pl := [some (.ref 0), some (.int x1), some (.int x2)]) (by decide) (Nat.le_of_ble_eq_true rfl) rfl (Nat.le_of_ble_eq_true rfl) ?_
  refine x_aload_n dX9_exchange_0 rfl ?_
  refine x_iconst (0 : Int32) dX9_exchange_1 (by decide) ?_
  refine x_put (h2 := (hB (0 : Int32) g1 g2 g3 g4 g5 g6 g7 g8 g9 g10 g11 g12 g13 g14 g15 g16 g17 g18 g19 g20 g21 g22 g23 g24 g25 g26 a0 a1 a2 a3 a4 a5 a6 a7 a8 a9 a10 a11 a12 a13 a14 a15 a16 a17 a18 a19 a20 a21 a22 a23 b0 w0 (.ref 11) rv)) fX9_45 dX9_exchange_2 rfl rfl (Nat.le_of_ble_eq_true rfl : 0 + 1 ≤ _) (fun α => ⟨rfl, rfl⟩) rfl ?_
  refine x_aload_n dX9_exchange_5 rfl ?_
  refine x_iload_n dX9_exchange_6 rfl ?_
  obtain ⟨z7, y7, h⟩ := xbind h
  refine x_callV (t_hB_X9_isUmbrella x1 z7 y7 (d + 1)) kX9_359 dX9_exchange_7 rfl rfl rfl rfl rfl (Nat.le_of_ble_eq_true rfl) (Nat.le_of_ble_eq_true rfl) rfl rfl (Or.inl rfl) ?_
  refine x_if_eq 26 dX9_exchange_10 (by decide) (fun q => ?_) (fun q => ?_)
  · have h := xif_t q h
    refine x_aload_n dX9_exchange_26 rfl ?_
    refine x_iconst (1 : Int32) dX9_exchange_27 (by decide) ?_
    obtain ⟨z28, y28, h⟩ := xbind h
    refine x_callV (t_hB_X9_denied (1 : Int32) z28 y28 (d + 0)) kX9_488 dX9_exchange_28 rfl rfl rfl rfl rfl (Nat.le_of_ble_eq_true rfl) (Nat.le_of_ble_eq_true rfl) rfl rfl (Or.inl rfl) ?_
    obtain ⟨-, q31, h⟩ := xbo_of h
    cases h
    exact x_zret2 dX9_exchange_31 rfl q31 rfl
  · have h := xif_f q h
    refine x_aload_n dX9_exchange_13 rfl ?_
    refine x_iload_n dX9_exchange_14 rfl ?_
    obtain ⟨z15, y15, h⟩ := xbind h
    refine x_callV (t_hB_X9_isUmbrella x2 z15 y15 (d + 1)) kX9_359 dX9_exchange_15 rfl rfl rfl rfl rfl (Nat.le_of_ble_eq_true rfl) (Nat.le_of_ble_eq_true rfl) rfl rfl (Or.inl rfl) ?_
    refine x_if_eq 26 dX9_exchange_18 (by decide) (fun q => ?_) (fun q => ?_)
    · have h := xif_t q h
      refine x_aload_n dX9_exchange_26 rfl ?_
      refine x_iconst (1 : Int32) dX9_exchange_27 (by decide) ?_
      obtain ⟨z28, y28, h⟩ := xbind h
      refine x_callV (t_hB_X9_denied (1 : Int32) z28 y28 (d + 0)) kX9_488 dX9_exchange_28 rfl rfl rfl rfl rfl (Nat.le_of_ble_eq_true rfl) (Nat.le_of_ble_eq_true rfl) rfl rfl (Or.inl rfl) ?_
      obtain ⟨-, q31, h⟩ := xbo_of h
      cases h
      exact x_zret2 dX9_exchange_31 rfl q31 rfl
    · have h := xif_f q h
      refine x_iload_n dX9_exchange_21 rfl ?_
      refine x_iload_n dX9_exchange_22 rfl ?_
      refine x_icmp_ne 32 dX9_exchange_23 (by decide) (fun q => ?_) (fun q => ?_)
      · have h := xif_f q h
        refine x_aload_n dX9_exchange_32 rfl ?_
        refine x_aload_n dX9_exchange_33 rfl ?_
        refine x_get fX9_17 dX9_exchange_34 rfl rfl rfl ?_
        refine x_iload_n dX9_exchange_37 rfl ?_
        refine x_iload_n dX9_exchange_38 rfl ?_
        obtain ⟨z39, y39, h⟩ := xbind h
        refine x_callV (t_hB_X9_canExchange_2 x1 x2 z39 y39 (d + 1)) kX9_411 dX9_exchange_39 rfl rfl rfl rfl rfl (Nat.le_of_ble_eq_true rfl) (Nat.le_of_ble_eq_true rfl) rfl rfl (Or.inl rfl) ?_
        refine x_if_ne 51 dX9_exchange_42 (by decide) (fun q => ?_) (fun q => ?_)
        · have h := xif_f q h
          refine x_aload_n dX9_exchange_51 rfl ?_
          obtain ⟨z52, y52, h⟩ := xbind h
          refine x_callV (t_hB_X9_remembers  z52 y52 (d + 1)) kX9_491 dX9_exchange_52 rfl rfl rfl rfl rfl (Nat.le_of_ble_eq_true rfl) (Nat.le_of_ble_eq_true rfl) rfl rfl (Or.inl rfl) ?_
          refine x_aload_n dX9_exchange_55 rfl ?_
          refine x_get fX9_17 dX9_exchange_56 rfl rfl rfl ?_
          refine x_iload_n dX9_exchange_59 rfl ?_
          refine x_iload_n dX9_exchange_60 rfl ?_
          obtain ⟨z61, y61, h⟩ := xbind h
          refine x_callS (t_hB_X9_changes_2 x1 x2 z61 y61 (d + 1)) kX9_345 dX9_exchange_61 rfl rfl (Nat.le_of_ble_eq_true rfl) (Nat.le_of_ble_eq_true rfl) rfl rfl (Or.inl rfl) ?_
          refine x_aload_n dX9_exchange_64 rfl ?_
          obtain ⟨z65, y65, h⟩ := xbind h
          refine x_callV (t_hB_X9_granted  z65 y65 (d + 0)) kX9_494 dX9_exchange_65 rfl rfl rfl rfl rfl (Nat.le_of_ble_eq_true rfl) (Nat.le_of_ble_eq_true rfl) rfl rfl (Or.inl rfl) ?_
          obtain ⟨-, q68, h⟩ := xbo_of h
          cases h
          exact x_zret2 dX9_exchange_68 rfl q68 rfl
        · have h := xif_t q h
          refine x_aload_n dX9_exchange_45 rfl ?_
          refine x_iconst (5 : Int32) dX9_exchange_46 (by decide) ?_
          obtain ⟨z47, y47, h⟩ := xbind h
          refine x_callV (t_hB_X9_denied (5 : Int32) z47 y47 (d + 0)) kX9_488 dX9_exchange_47 rfl rfl rfl rfl rfl (Nat.le_of_ble_eq_true rfl) (Nat.le_of_ble_eq_true rfl) rfl rfl (Or.inl rfl) ?_
          obtain ⟨-, q50, h⟩ := xbo_of h
          cases h
          exact x_zret2 dX9_exchange_50 rfl q50 rfl
      · have h := xif_t q h
        refine x_aload_n dX9_exchange_26 rfl ?_
        refine x_iconst (1 : Int32) dX9_exchange_27 (by decide) ?_
        obtain ⟨z28, y28, h⟩ := xbind h
        refine x_callV (t_hB_X9_denied (1 : Int32) z28 y28 (d + 0)) kX9_488 dX9_exchange_28 rfl rfl rfl rfl rfl (Nat.le_of_ble_eq_true rfl) (Nat.le_of_ble_eq_true rfl) rfl rfl (Or.inl rfl) ?_
        obtain ⟨-, q31, h⟩ := xbo_of h
        cases h
        exact x_zret2 dX9_exchange_31 rfl q31 rfl
set_option maxRecDepth 100000 in
set_option maxHeartbeats 4000000 in
theorem lp_hB_X9_forgets_2_19 {g0 g1 g2 g3 g4 g5 g6 g7 g8 g9 g10 g11 g12 g13 g14 g15 g16 g17 g18 g19 g20 g21 g22 g23 g24 g25 g26 : Int32} {a0 a1 a2 a3 a4 a5 a6 a7 a8 a9 a10 a11 a12 a13 a14 a15 a16 a17 a18 a19 a20 a21 a22 a23 : (Nat → Int32)} {b0 : (Nat → Int64)} {w0 : Int64} {rv : Value} (d n0 : Nat) (f2 : Int32) (res : (Nat → Int32)) (K : Int32 → Int32 → Option ((Nat → Int32))) (hK : ∀ (l3_19 : Int32) (l4_19 : Int32), K l3_19 l4_19 = some res → xW xks YX9_forgets (d + 2) 0 0 n0 (xZ 0 0 n0 none (hB g0 g1 g2 g3 g4 g5 g6 g7 g8 g9 g10 g11 g12 g13 g14 g15 g16 g17 g18 g19 g20 g21 g22 g23 g24 g25 g26 a0 res a2 a3 a4 a5 a6 a7 a8 a9 a10 a11 a12 a13 a14 a15 a16 a17 a18 a19 a20 a21 a22 a23 b0 w0 (.ref 11) rv)) 0 0 80 [none, some (.ref 2), none, some (.int l3_19), none] [] (hB g0 g1 g2 g3 g4 g5 g6 g7 g8 g9 g10 g11 g12 g13 g14 g15 g16 g17 g18 g19 g20 g21 g22 g23 g24 g25 g26 a0 a1 a2 a3 a4 a5 a6 a7 a8 a9 a10 a11 a12 a13 a14 a15 a16 a17 a18 a19 a20 a21 a22 a23 b0 w0 (.ref 11) rv)) : ∀ (n : Nat) (l3_19 : Int32) (l4_19 : Int32), L_hB_X9_forgets_19 g23 a1 a12 f2 K n l3_19 l4_19 = some res → xW xks YX9_forgets (d + 2) 0 0 n0 (xZ 0 0 n0 none (hB g0 g1 g2 g3 g4 g5 g6 g7 g8 g9 g10 g11 g12 g13 g14 g15 g16 g17 g18 g19 g20 g21 g22 g23 g24 g25 g26 a0 res a2 a3 a4 a5 a6 a7 a8 a9 a10 a11 a12 a13 a14 a15 a16 a17 a18 a19 a20 a21 a22 a23 b0 w0 (.ref 11) rv)) 0 0 19 [some (.ref 0), some (.ref 2), some (.int f2), some (.int l3_19), some (.int l4_19)] [] (hB g0 g1 g2 g3 g4 g5 g6 g7 g8 g9 g10 g11 g12 g13 g14 g15 g16 g17 g18 g19 g20 g21 g22 g23 g24 g25 g26 a0 a1 a2 a3 a4 a5 a6 a7 a8 a9 a10 a11 a12 a13 a14 a15 a16 a17 a18 a19 a20 a21 a22 a23 b0 w0 (.ref 11) rv) := by
  intro n
  induction n with
  | zero =>
    intro l3_19 l4_19 h
    cases (show (none : Option ((Nat → Int32))) = some res from h)
  | succ n19 ih19 =>
    intro l3_19 l4_19 h
    unfold L_hB_X9_forgets_19 at h
    refine x_iload dX9_forgets_19 rfl ?_
    refine x_aload_n dX9_forgets_21 rfl ?_
    refine x_get fX9_316 dX9_forgets_22 rfl rfl rfl ?_
    refine x_get fX9_194 dX9_forgets_25 rfl rfl rfl ?_
    refine x_icmp_ge 80 dX9_forgets_28 (by decide) (fun q => ?_) (fun q => ?_)
    · have h := xif_t q h
      refine x_weak (pl2 := [none, some (.ref 2), none, some (.int l3_19), none]) ⟨rfl, rfl, trivial⟩ ?_
      exact hK l3_19 l4_19 h
    · have h := xif_f q h
      refine x_aload_n dX9_forgets_31 rfl ?_
      refine x_iconst (0 : Int32) dX9_forgets_32 (by decide) ?_
      refine x_iload dX9_forgets_33 rfl ?_
      refine x_iadd dX9_forgets_35 ?_
      obtain ⟨q36, h⟩ := xix_of h
      refine x_iald dX9_forgets_36 rfl q36 ?_
      refine x_iload_n dX9_forgets_37 rfl ?_
      refine x_icmp_eq 44 dX9_forgets_38 (by decide) (fun q => ?_) (fun q => ?_)
      · have h := xif_t q h
        refine x_iload_n dX9_forgets_44 rfl ?_
        refine x_iconst (-1 : Int32) dX9_forgets_45 (by decide) ?_
        refine x_icmp_eq 71 dX9_forgets_46 (by decide) (fun q => ?_) (fun q => ?_)
        · have h := xif_t q h
          refine x_iload dX9_forgets_71 rfl ?_
          refine x_istore_n (pl' := [some (.ref 0), some (.ref 2), some (.int f2), some (.int l4_19), some (.int l4_19)]) dX9_forgets_73 (by decide) rfl ?_
          refine x_iincK (1 : Int32) (pl' := [some (.ref 0), some (.ref 2), some (.int f2), some (.int l4_19), some (.int (l4_19 + (1 : Int32)))]) dX9_forgets_74 rfl (by decide) (by decide) rfl ?_
          refine x_goto 19 dX9_forgets_77 (by decide) ?_
          refine x_weak (pl2 := [some (.ref 0), some (.ref 2), some (.int f2), some (.int l4_19), some (.int (l4_19 + (1 : Int32)))]) ⟨rfl, rfl, rfl, rfl, rfl, trivial⟩ ?_
          exact ih19 l4_19 (l4_19 + (1 : Int32)) h
        · have h := xif_f q h
          refine x_aload_n dX9_forgets_49 rfl ?_
          refine x_get fX9_316 dX9_forgets_50 rfl rfl rfl ?_
          refine x_get fX9_273 dX9_forgets_53 rfl rfl rfl ?_
          refine x_iload dX9_forgets_56 rfl ?_
          obtain ⟨q58, h⟩ := xix_of h
          refine x_iald dX9_forgets_58 rfl q58 ?_
          refine x_aload_n dX9_forgets_59 rfl ?_
          refine x_get fX9_316 dX9_forgets_60 rfl rfl rfl ?_
          refine x_get fX9_273 dX9_forgets_63 rfl rfl rfl ?_
          refine x_iload_n dX9_forgets_66 rfl ?_
          obtain ⟨q67, h⟩ := xix_of h
          refine x_iald dX9_forgets_67 rfl q67 ?_
          refine x_icmp_ge 74 dX9_forgets_68 (by decide) (fun q => ?_) (fun q => ?_)
          · have h := xif_t q h
            refine x_iincK (1 : Int32) (pl' := [some (.ref 0), some (.ref 2), some (.int f2), some (.int l3_19), some (.int (l4_19 + (1 : Int32)))]) dX9_forgets_74 rfl (by decide) (by decide) rfl ?_
            refine x_goto 19 dX9_forgets_77 (by decide) ?_
            refine x_weak (pl2 := [some (.ref 0), some (.ref 2), some (.int f2), some (.int l3_19), some (.int (l4_19 + (1 : Int32)))]) ⟨rfl, rfl, rfl, rfl, rfl, trivial⟩ ?_
            exact ih19 l3_19 (l4_19 + (1 : Int32)) h
          · have h := xif_f q h
            refine x_iload dX9_forgets_71 rfl ?_
            refine x_istore_n (pl' := [some (.ref 0), some (.ref 2), some (.int f2), some (.int l4_19), some (.int l4_19)]) dX9_forgets_73 (by decide) rfl ?_
            refine x_iincK (1 : Int32) (pl' := [some (.ref 0), some (.ref 2), some (.int f2), some (.int l4_19), some (.int (l4_19 + (1 : Int32)))]) dX9_forgets_74 rfl (by decide) (by decide) rfl ?_
            refine x_goto 19 dX9_forgets_77 (by decide) ?_
            refine x_weak (pl2 := [some (.ref 0), some (.ref 2), some (.int f2), some (.int l4_19), some (.int (l4_19 + (1 : Int32)))]) ⟨rfl, rfl, rfl, rfl, rfl, trivial⟩ ?_
            exact ih19 l4_19 (l4_19 + (1 : Int32)) h
      · have h := xif_f q h
        refine x_goto 74 dX9_forgets_41 (by decide) ?_
        refine x_iincK (1 : Int32) (pl' := [some (.ref 0), some (.ref 2), some (.int f2), some (.int l3_19), some (.int (l4_19 + (1 : Int32)))]) dX9_forgets_74 rfl (by decide) (by decide) rfl ?_
        refine x_goto 19 dX9_forgets_77 (by decide) ?_
        refine x_weak (pl2 := [some (.ref 0), some (.ref 2), some (.int f2), some (.int l3_19), some (.int (l4_19 + (1 : Int32)))]) ⟨rfl, rfl, rfl, rfl, rfl, trivial⟩ ?_
        exact ih19 l3_19 (l4_19 + (1 : Int32)) h
set_option maxRecDepth 100000 in
set_option maxHeartbeats 4000000 in
theorem t_hB_X9_forgets_2 {g0 g1 g2 g3 g4 g5 g6 g7 g8 g9 g10 g11 g12 g13 g14 g15 g16 g17 g18 g19 g20 g21 g22 g23 g24 g25 g26 : Int32} {a0 a1 a2 a3 a4 a5 a6 a7 a8 a9 a10 a11 a12 a13 a14 a15 a16 a17 a18 a19 a20 a21 a22 a23 : (Nat → Int32)} {b0 : (Nat → Int64)} {w0 : Int64} {rv : Value} (x2 : Int32) (res : (Nat → Int32)) (h : e_hB_X9_forgets g23 a1 a12 x2 = some res) (d : Nat) : xMet xks YX9_forgets (d + 2) 0 0 [.ref 0, .ref 2, .int x2] (hB g0 g1 g2 g3 g4 g5 g6 g7 g8 g9 g10 g11 g12 g13 g14 g15 g16 g17 g18 g19 g20 g21 g22 g23 g24 g25 g26 a0 a1 a2 a3 a4 a5 a6 a7 a8 a9 a10 a11 a12 a13 a14 a15 a16 a17 a18 a19 a20 a21 a22 a23 b0 w0 (.ref 11) rv) none (hB g0 g1 g2 g3 g4 g5 g6 g7 g8 g9 g10 g11 g12 g13 g14 g15 g16 g17 g18 g19 g20 g21 g22 g23 g24 g25 g26 a0 res a2 a3 a4 a5 a6 a7 a8 a9 a10 a11 a12 a13 a14 a15 a16 a17 a18 a19 a20 a21 a22 a23 b0 w0 (.ref 11) rv) := by
  unfold e_hB_X9_forgets at h
  refine xMet_of (pl := [some (.ref 0), some (.ref 2), some (.int x2), none, none]) (by decide) (Nat.le_of_ble_eq_true rfl) rfl (Nat.le_of_ble_eq_true rfl) ?_
  refine x_aload_n dX9_forgets_0 rfl ?_
  refine x_aload_n dX9_forgets_1 rfl ?_
  refine x_iload_n dX9_forgets_2 rfl ?_
  obtain ⟨z3, y3, h⟩ := xbind h
  refine x_callV (t_hB_X9_hadBy x2 z3 y3 (d + 0)) kX9_338 dX9_forgets_3 rfl rfl rfl rfl rfl (Nat.le_of_ble_eq_true rfl) (Nat.le_of_ble_eq_true rfl) rfl rfl (Or.inl rfl) ?_
  obtain ⟨z6, y6, h⟩ := xbind h
  refine x_callS (t_hB_X9_bits z3 z6 y6 (d + 0)) kX9_342 dX9_forgets_6 rfl rfl (Nat.le_of_ble_eq_true rfl) (Nat.le_of_ble_eq_true rfl) rfl rfl (Or.inl rfl) ?_
  refine x_iconst (2 : Int32) dX9_forgets_9 (by decide) ?_
  refine x_icmp_ge 14 dX9_forgets_10 (by decide) (fun q => ?_) (fun q => ?_)
  · have h := xif_t q h
    refine x_iconst (-1 : Int32) dX9_forgets_14 (by decide) ?_
    refine x_istore_n (pl' := [some (.ref 0), some (.ref 2), some (.int x2), some (.int (-1 : Int32)), none]) dX9_forgets_15 (by decide) rfl ?_
    refine x_iconst (0 : Int32) dX9_forgets_16 (by decide) ?_
    refine x_istore (pl' := [some (.ref 0), some (.ref 2), some (.int x2), some (.int (-1 : Int32)), some (.int (0 : Int32))]) dX9_forgets_17 (by decide) rfl ?_
    refine x_weak (pl2 := [some (.ref 0), some (.ref 2), some (.int x2), some (.int (-1 : Int32)), some (.int (0 : Int32))]) ⟨rfl, rfl, rfl, rfl, rfl, trivial⟩ ?_
    refine lp_hB_X9_forgets_2_19 d _ x2 res _ (fun l3_19 l4_19 h => ?_) 200000 (-1 : Int32) (0 : Int32) h
    refine x_aload_n dX9_forgets_80 rfl ?_
    refine x_iconst (0 : Int32) dX9_forgets_81 (by decide) ?_
    refine x_iload_n dX9_forgets_82 rfl ?_
    refine x_iadd dX9_forgets_83 ?_
    refine x_bipush (-2 : Int32) dX9_forgets_84 (by decide) ?_
    obtain ⟨q86, h⟩ := xix_of h
    refine x_iast (h2 := (hB g0 g1 g2 g3 g4 g5 g6 g7 g8 g9 g10 g11 g12 g13 g14 g15 g16 g17 g18 g19 g20 g21 g22 g23 g24 g25 g26 a0 (upd a1 ((0 : Int32) + l3_19).toNatClampNeg (-2 : Int32)) a2 a3 a4 a5 a6 a7 a8 a9 a10 a11 a12 a13 a14 a15 a16 a17 a18 a19 a20 a21 a22 a23 b0 w0 (.ref 11) rv)) dX9_forgets_86 rfl q86 rfl ?_
    cases h
    exact x_vret2 dX9_forgets_87 rfl rfl
  · have h := xif_f q h
    cases h
    exact x_vret2 dX9_forgets_13 rfl rfl
noncomputable def L_hB_X9_lapses_2_2 (p0 : Int32) (p1 : (Nat → Int32))   (K : Int32 → (Nat → Int32) → Option ((Nat → Int32))) : Nat → Int32 → (Nat → Int32) → Option ((Nat → Int32))
  | 0, _, _ => none
  | n2 + 1, l2_2, ma1_2 => if p0 ≤ l2_2 then K l2_2 ma1_2 else (xix l2_2 5 (if (p1 l2_2.toNatClampNeg) = (0 : Int32) then L_hB_X9_lapses_2_2 p0 p1  K n2 (l2_2 + (1 : Int32)) ma1_2 else (xix ((5 : Int32) + l2_2) 11 (L_hB_X9_lapses_2_2 p0 p1  K n2 (l2_2 + (1 : Int32)) (upd ma1_2 ((5 : Int32) + l2_2).toNatClampNeg (-2 : Int32))))))
noncomputable def e_hB_X9_lapses_2 (p0 : Int32) (p1 : (Nat → Int32)) (p2 : (Nat → Int32))  : Option ((Nat → Int32)) :=
  L_hB_X9_lapses_2_2 p0 p1  (fun l2_2 ma1_2 => some ma1_2) 200000 (0 : Int32) p2
set_option maxRecDepth 100000 in
set_option maxHeartbeats 4000000 in
theorem lp_hB_X9_lapses_2_2 {g0 g1 g2 g3 g4 g5 g6 g7 g8 g9 g10 g11 g12 g13 g14 g15 g16 g17 g18 g19 g20 g21 g22 g23 g24 g25 g26 : Int32} {a0 a2 a3 a4 a5 a6 a7 a8 a9 a10 a11 a12 a13 a14 a15 a16 a17 a18 a19 a20 a21 a22 a23 : (Nat → Int32)} {b0 : (Nat → Int64)} {w0 : Int64} {rv : Value} (d n0 : Nat)  (res : (Nat → Int32)) (K : Int32 → (Nat → Int32) → Option ((Nat → Int32))) (hK : ∀ (l2_2 : Int32) (ma1_2 : (Nat → Int32)), K l2_2 ma1_2 = some res → xW xks YX9_lapses (d + 1) 0 0 n0 (xZ 0 0 n0 none (hB g0 g1 g2 g3 g4 g5 g6 g7 g8 g9 g10 g11 g12 g13 g14 g15 g16 g17 g18 g19 g20 g21 g22 g23 g24 g25 g26 a0 res a2 a3 a4 a5 a6 a7 a8 a9 a10 a11 a12 a13 a14 a15 a16 a17 a18 a19 a20 a21 a22 a23 b0 w0 (.ref 11) rv)) 0 0 38 [none, none, none] [] (hB g0 g1 g2 g3 g4 g5 g6 g7 g8 g9 g10 g11 g12 g13 g14 g15 g16 g17 g18 g19 g20 g21 g22 g23 g24 g25 g26 a0 ma1_2 a2 a3 a4 a5 a6 a7 a8 a9 a10 a11 a12 a13 a14 a15 a16 a17 a18 a19 a20 a21 a22 a23 b0 w0 (.ref 11) rv)) : ∀ (n : Nat) (l2_2 : Int32) (ma1_2 : (Nat → Int32)), L_hB_X9_lapses_2_2 g23 a11  K n l2_2 ma1_2 = some res → xW xks YX9_lapses (d + 1) 0 0 n0 (xZ 0 0 n0 none (hB g0 g1 g2 g3 g4 g5 g6 g7 g8 g9 g10 g11 g12 g13 g14 g15 g16 g17 g18 g19 g20 g21 g22 g23 g24 g25 g26 a0 res a2 a3 a4 a5 a6 a7 a8 a9 a10 a11 a12 a13 a14 a15 a16 a17 a18 a19 a20 a21 a22 a23 b0 w0 (.ref 11) rv)) 0 0 2 [some (.ref 0), some (.ref 2), some (.int l2_2)] [] (hB g0 g1 g2 g3 g4 g5 g6 g7 g8 g9 g10 g11 g12 g13 g14 g15 g16 g17 g18 g19 g20 g21 g22 g23 g24 g25 g26 a0 ma1_2 a2 a3 a4 a5 a6 a7 a8 a9 a10 a11 a12 a13 a14 a15 a16 a17 a18 a19 a20 a21 a22 a23 b0 w0 (.ref 11) rv) := by
  intro n
  induction n with
  | zero =>
    intro l2_2 ma1_2 h
    cases (show (none : Option ((Nat → Int32))) = some res from h)
  | succ n2 ih2 =>
    intro l2_2 ma1_2 h
    unfold L_hB_X9_lapses_2_2 at h
    refine x_iload_n dX9_lapses_2 rfl ?_
    refine x_aload_n dX9_lapses_3 rfl ?_
    refine x_get fX9_316 dX9_lapses_4 rfl rfl rfl ?_
    refine x_get fX9_194 dX9_lapses_7 rfl rfl rfl ?_
    refine x_icmp_ge 38 dX9_lapses_10 (by decide) (fun q => ?_) (fun q => ?_)
    · have h := xif_t q h
      refine x_weak (pl2 := [none, none, none]) trivial ?_
      exact hK l2_2 ma1_2 h
    · have h := xif_f q h
      refine x_aload_n dX9_lapses_13 rfl ?_
      refine x_get fX9_316 dX9_lapses_14 rfl rfl rfl ?_
      refine x_get fX9_270 dX9_lapses_17 rfl rfl rfl ?_
      refine x_iload_n dX9_lapses_20 rfl ?_
      obtain ⟨q21, h⟩ := xix_of h
      refine x_iald dX9_lapses_21 rfl q21 ?_
      refine x_if_eq 32 dX9_lapses_22 (by decide) (fun q => ?_) (fun q => ?_)
      · have h := xif_t q h
        refine x_iincK (1 : Int32) (pl' := [some (.ref 0), some (.ref 2), some (.int (l2_2 + (1 : Int32)))]) dX9_lapses_32 rfl (by decide) (by decide) rfl ?_
        refine x_goto 2 dX9_lapses_35 (by decide) ?_
        refine x_weak (pl2 := [some (.ref 0), some (.ref 2), some (.int (l2_2 + (1 : Int32)))]) ⟨rfl, rfl, rfl, trivial⟩ ?_
        exact ih2 (l2_2 + (1 : Int32)) ma1_2 h
      · have h := xif_f q h
        refine x_aload_n dX9_lapses_25 rfl ?_
        refine x_iconst (5 : Int32) dX9_lapses_26 (by decide) ?_
        refine x_iload_n dX9_lapses_27 rfl ?_
        refine x_iadd dX9_lapses_28 ?_
        refine x_bipush (-2 : Int32) dX9_lapses_29 (by decide) ?_
        obtain ⟨q31, h⟩ := xix_of h
        refine x_iast (h2 := (hB g0 g1 g2 g3 g4 g5 g6 g7 g8 g9 g10 g11 g12 g13 g14 g15 g16 g17 g18 g19 g20 g21 g22 g23 g24 g25 g26 a0 (upd ma1_2 ((5 : Int32) + l2_2).toNatClampNeg (-2 : Int32)) a2 a3 a4 a5 a6 a7 a8 a9 a10 a11 a12 a13 a14 a15 a16 a17 a18 a19 a20 a21 a22 a23 b0 w0 (.ref 11) rv)) dX9_lapses_31 rfl q31 rfl ?_
        refine x_iincK (1 : Int32) (pl' := [some (.ref 0), some (.ref 2), some (.int (l2_2 + (1 : Int32)))]) dX9_lapses_32 rfl (by decide) (by decide) rfl ?_
        refine x_goto 2 dX9_lapses_35 (by decide) ?_
        refine x_weak (pl2 := [some (.ref 0), some (.ref 2), some (.int (l2_2 + (1 : Int32)))]) ⟨rfl, rfl, rfl, trivial⟩ ?_
        exact ih2 (l2_2 + (1 : Int32)) (upd ma1_2 ((5 : Int32) + l2_2).toNatClampNeg (-2 : Int32)) h
set_option maxRecDepth 100000 in
set_option maxHeartbeats 4000000 in
theorem t_hB_X9_lapses_2 {g0 g1 g2 g3 g4 g5 g6 g7 g8 g9 g10 g11 g12 g13 g14 g15 g16 g17 g18 g19 g20 g21 g22 g23 g24 g25 g26 : Int32} {a0 a1 a2 a3 a4 a5 a6 a7 a8 a9 a10 a11 a12 a13 a14 a15 a16 a17 a18 a19 a20 a21 a22 a23 : (Nat → Int32)} {b0 : (Nat → Int64)} {w0 : Int64} {rv : Value}  (res : (Nat → Int32)) (h : e_hB_X9_lapses_2 g23 a11 a1  = some res) (d : Nat) : xMet xks YX9_lapses (d + 1) 0 0 [.ref 0, .ref 2] (hB g0 g1 g2 g3 g4 g5 g6 g7 g8 g9 g10 g11 g12 g13 g14 g15 g16 g17 g18 g19 g20 g21 g22 g23 g24 g25 g26 a0 a1 a2 a3 a4 a5 a6 a7 a8 a9 a10 a11 a12 a13 a14 a15 a16 a17 a18 a19 a20 a21 a22 a23 b0 w0 (.ref 11) rv) none (hB g0 g1 g2 g3 g4 g5 g6 g7 g8 g9 g10 g11 g12 g13 g14 g15 g16 g17 g18 g19 g20 g21 g22 g23 g24 g25 g26 a0 res a2 a3 a4 a5 a6 a7 a8 a9 a10 a11 a12 a13 a14 a15 a16 a17 a18 a19 a20 a21 a22 a23 b0 w0 (.ref 11) rv) := by
  unfold e_hB_X9_lapses_2 at h
  refine xMet_of (pl := [some (.ref 0), some (.ref 2), none]) (by decide) (Nat.le_of_ble_eq_true rfl) rfl (Nat.le_of_ble_eq_true rfl) ?_
  refine x_iconst (0 : Int32) dX9_lapses_0 (by decide) ?_
  refine x_istore_n (pl' := [some (.ref 0), some (.ref 2), some (.int (0 : Int32))]) dX9_lapses_1 (by decide) rfl ?_
  refine x_weak (pl2 := [some (.ref 0), some (.ref 2), some (.int (0 : Int32))]) ⟨rfl, rfl, rfl, trivial⟩ ?_
  refine lp_hB_X9_lapses_2_2 d _  res _ (fun l2_2 ma1_2 h => ?_) 200000 (0 : Int32) a1 h
  cases h
  exact x_vret2 dX9_lapses_38 rfl rfl
noncomputable def L_hB_X9_ends_2_2 (p0 : Int32) (p2 : Int32) (p3 : Int32) (p4 : (Nat → Int32)) (p5 : (Nat → Int32)) (p6 : (Nat → Int32))  (f2 : Int32) (K : Int32 → (Nat → Int32) → Option ((Nat → Int32))) : Nat → Int32 → (Nat → Int32) → Option ((Nat → Int32))
  | 0, _, _ => none
  | n2 + 1, l3_2, ma1_2 => if p0 ≤ l3_2 then K l3_2 ma1_2 else (xix ((0 : Int32) + l3_2) 11 (xix l3_2 5 (if (p6 l3_2.toNatClampNeg) = (3 : Int32) then if f2 = (0 : Int32) then if (1 : Int32) = (0 : Int32) then L_hB_X9_ends_2_2 p0 p2 p3 p4 p5 p6 f2 K n2 (l3_2 + (1 : Int32)) ma1_2 else if (ma1_2 ((0 : Int32) + l3_2).toNatClampNeg) = (-2 : Int32) then L_hB_X9_ends_2_2 p0 p2 p3 p4 p5 p6 f2 K n2 (l3_2 + (1 : Int32)) ma1_2 else ((e_hB_X9_isChild p4 (ma1_2 ((0 : Int32) + l3_2).toNatClampNeg)).bind fun z84 => if z84 = (0 : Int32) then (xix ((5 : Int32) + l3_2) 11 (L_hB_X9_ends_2_2 p0 p2 p3 p4 p5 p6 f2 K n2 (l3_2 + (1 : Int32)) (upd ma1_2 ((5 : Int32) + l3_2).toNatClampNeg (ma1_2 ((0 : Int32) + l3_2).toNatClampNeg)))) else L_hB_X9_ends_2_2 p0 p2 p3 p4 p5 p6 f2 K n2 (l3_2 + (1 : Int32)) ma1_2) else if (0 : Int32) = (0 : Int32) then L_hB_X9_ends_2_2 p0 p2 p3 p4 p5 p6 f2 K n2 (l3_2 + (1 : Int32)) ma1_2 else if (ma1_2 ((0 : Int32) + l3_2).toNatClampNeg) = (-2 : Int32) then L_hB_X9_ends_2_2 p0 p2 p3 p4 p5 p6 f2 K n2 (l3_2 + (1 : Int32)) ma1_2 else ((e_hB_X9_isChild p4 (ma1_2 ((0 : Int32) + l3_2).toNatClampNeg)).bind fun z84 => if z84 = (0 : Int32) then (xix ((5 : Int32) + l3_2) 11 (L_hB_X9_ends_2_2 p0 p2 p3 p4 p5 p6 f2 K n2 (l3_2 + (1 : Int32)) (upd ma1_2 ((5 : Int32) + l3_2).toNatClampNeg (ma1_2 ((0 : Int32) + l3_2).toNatClampNeg)))) else L_hB_X9_ends_2_2 p0 p2 p3 p4 p5 p6 f2 K n2 (l3_2 + (1 : Int32)) ma1_2) else if f2 = (0 : Int32) then if (0 : Int32) = (0 : Int32) then L_hB_X9_ends_2_2 p0 p2 p3 p4 p5 p6 f2 K n2 (l3_2 + (1 : Int32)) ma1_2 else if (ma1_2 ((0 : Int32) + l3_2).toNatClampNeg) = (-2 : Int32) then L_hB_X9_ends_2_2 p0 p2 p3 p4 p5 p6 f2 K n2 (l3_2 + (1 : Int32)) ma1_2 else ((e_hB_X9_isChild p4 (ma1_2 ((0 : Int32) + l3_2).toNatClampNeg)).bind fun z84 => if z84 = (0 : Int32) then (xix ((5 : Int32) + l3_2) 11 (L_hB_X9_ends_2_2 p0 p2 p3 p4 p5 p6 f2 K n2 (l3_2 + (1 : Int32)) (upd ma1_2 ((5 : Int32) + l3_2).toNatClampNeg (ma1_2 ((0 : Int32) + l3_2).toNatClampNeg)))) else L_hB_X9_ends_2_2 p0 p2 p3 p4 p5 p6 f2 K n2 (l3_2 + (1 : Int32)) ma1_2) else (xix l3_2 5 (if (p6 l3_2.toNatClampNeg) = (2 : Int32) then if (0 : Int32) = (0 : Int32) then L_hB_X9_ends_2_2 p0 p2 p3 p4 p5 p6 f2 K n2 (l3_2 + (1 : Int32)) ma1_2 else if (ma1_2 ((0 : Int32) + l3_2).toNatClampNeg) = (-2 : Int32) then L_hB_X9_ends_2_2 p0 p2 p3 p4 p5 p6 f2 K n2 (l3_2 + (1 : Int32)) ma1_2 else ((e_hB_X9_isChild p4 (ma1_2 ((0 : Int32) + l3_2).toNatClampNeg)).bind fun z84 => if z84 = (0 : Int32) then (xix ((5 : Int32) + l3_2) 11 (L_hB_X9_ends_2_2 p0 p2 p3 p4 p5 p6 f2 K n2 (l3_2 + (1 : Int32)) (upd ma1_2 ((5 : Int32) + l3_2).toNatClampNeg (ma1_2 ((0 : Int32) + l3_2).toNatClampNeg)))) else L_hB_X9_ends_2_2 p0 p2 p3 p4 p5 p6 f2 K n2 (l3_2 + (1 : Int32)) ma1_2) else if (1 : Int32) = (0 : Int32) then L_hB_X9_ends_2_2 p0 p2 p3 p4 p5 p6 f2 K n2 (l3_2 + (1 : Int32)) ma1_2 else if (ma1_2 ((0 : Int32) + l3_2).toNatClampNeg) = (-2 : Int32) then L_hB_X9_ends_2_2 p0 p2 p3 p4 p5 p6 f2 K n2 (l3_2 + (1 : Int32)) ma1_2 else ((e_hB_X9_isChild p4 (ma1_2 ((0 : Int32) + l3_2).toNatClampNeg)).bind fun z84 => if z84 = (0 : Int32) then (xix ((5 : Int32) + l3_2) 11 (L_hB_X9_ends_2_2 p0 p2 p3 p4 p5 p6 f2 K n2 (l3_2 + (1 : Int32)) (upd ma1_2 ((5 : Int32) + l3_2).toNatClampNeg (ma1_2 ((0 : Int32) + l3_2).toNatClampNeg)))) else L_hB_X9_ends_2_2 p0 p2 p3 p4 p5 p6 f2 K n2 (l3_2 + (1 : Int32)) ma1_2))))))
noncomputable def L_hB_X9_ends_2_153 (p0 : Int32) (p2 : Int32) (p3 : Int32) (p4 : (Nat → Int32)) (p5 : (Nat → Int32)) (p6 : (Nat → Int32))   (K : Int32 → (Nat → Int32) → Option ((Nat → Int32))) : Nat → Int32 → (Nat → Int32) → Option ((Nat → Int32))
  | 0, _, _ => none
  | n153 + 1, l3_153, ma1_153 => if p3 ≤ l3_153 then K l3_153 ma1_153 else (xix l3_153 6 (if (p4 l3_153.toNatClampNeg) = (2 : Int32) then ((e_hB_X9_forgets p0 ma1_153 p5 l3_153).bind fun z180 => L_hB_X9_ends_2_153 p0 p2 p3 p4 p5 p6  K n153 (l3_153 + (1 : Int32)) z180) else L_hB_X9_ends_2_153 p0 p2 p3 p4 p5 p6  K n153 (l3_153 + (1 : Int32)) ma1_153))
noncomputable def e_hB_X9_ends_2 (p0 : Int32) (p1 : (Nat → Int32)) (p2 : Int32) (p3 : Int32) (p4 : (Nat → Int32)) (p5 : (Nat → Int32)) (p6 : (Nat → Int32)) (x2 : Int32) : Option ((Nat → Int32)) :=
  L_hB_X9_ends_2_2 p0 p2 p3 p4 p5 p6 x2 (fun l3_2 ma1_2 => if x2 = (0 : Int32) then if (30 : Int32) ≤ (ma1_2 (10 : Int32).toNatClampNeg) then if (ma1_2 (10 : Int32).toNatClampNeg) < p2 then L_hB_X9_ends_2_153 p0 p2 p3 p4 p5 p6  (fun l3_153 ma1_153 => some ma1_153) 200000 (0 : Int32) ma1_2 else ((e_hB_X9_lapses_2 p0 p6 ma1_2).bind fun z148 => L_hB_X9_ends_2_153 p0 p2 p3 p4 p5 p6  (fun l3_153 ma1_153 => some ma1_153) 200000 (0 : Int32) z148) else if ((upd ma1_2 (10 : Int32).toNatClampNeg ((ma1_2 (10 : Int32).toNatClampNeg) + (1 : Int32))) (10 : Int32).toNatClampNeg) < p2 then L_hB_X9_ends_2_153 p0 p2 p3 p4 p5 p6  (fun l3_153 ma1_153 => some ma1_153) 200000 (0 : Int32) (upd ma1_2 (10 : Int32).toNatClampNeg ((ma1_2 (10 : Int32).toNatClampNeg) + (1 : Int32))) else ((e_hB_X9_lapses_2 p0 p6 (upd ma1_2 (10 : Int32).toNatClampNeg ((ma1_2 (10 : Int32).toNatClampNeg) + (1 : Int32)))).bind fun z148 => L_hB_X9_ends_2_153 p0 p2 p3 p4 p5 p6  (fun l3_153 ma1_153 => some ma1_153) 200000 (0 : Int32) z148) else if ((upd ma1_2 (10 : Int32).toNatClampNeg (0 : Int32)) (10 : Int32).toNatClampNeg) < p2 then L_hB_X9_ends_2_153 p0 p2 p3 p4 p5 p6  (fun l3_153 ma1_153 => some ma1_153) 200000 (0 : Int32) (upd ma1_2 (10 : Int32).toNatClampNeg (0 : Int32)) else ((e_hB_X9_lapses_2 p0 p6 (upd ma1_2 (10 : Int32).toNatClampNeg (0 : Int32))).bind fun z148 => L_hB_X9_ends_2_153 p0 p2 p3 p4 p5 p6  (fun l3_153 ma1_153 => some ma1_153) 200000 (0 : Int32) z148)) 200000 (0 : Int32) p1
set_option maxRecDepth 100000 in
set_option maxHeartbeats 4000000 in
theorem lp_hB_X9_ends_2_2 {g0 g1 g2 g3 g4 g5 g6 g7 g8 g9 g10 g11 g12 g13 g14 g15 g16 g17 g18 g19 g20 g21 g22 g23 g24 g25 g26 : Int32} {a0 a2 a3 a4 a5 a6 a7 a8 a9 a10 a11 a12 a13 a14 a15 a16 a17 a18 a19 a20 a21 a22 a23 : (Nat → Int32)} {b0 : (Nat → Int64)} {w0 : Int64} {rv : Value} (d n0 : Nat) (f2 : Int32) (res : (Nat → Int32)) (K : Int32 → (Nat → Int32) → Option ((Nat → Int32))) (hK : ∀ (l3_2 : Int32) (ma1_2 : (Nat → Int32)), K l3_2 ma1_2 = some res → xW xks YX9_ends (d + 3) 0 0 n0 (xZ 0 0 n0 none (hB g0 g1 g2 g3 g4 g5 g6 g7 g8 g9 g10 g11 g12 g13 g14 g15 g16 g17 g18 g19 g20 g21 g22 g23 g24 g25 g26 a0 res a2 a3 a4 a5 a6 a7 a8 a9 a10 a11 a12 a13 a14 a15 a16 a17 a18 a19 a20 a21 a22 a23 b0 w0 (.ref 11) rv)) 0 0 103 [some (.ref 0), some (.ref 2), some (.int f2), none, none, none] [] (hB g0 g1 g2 g3 g4 g5 g6 g7 g8 g9 g10 g11 g12 g13 g14 g15 g16 g17 g18 g19 g20 g21 g22 g23 g24 g25 g26 a0 ma1_2 a2 a3 a4 a5 a6 a7 a8 a9 a10 a11 a12 a13 a14 a15 a16 a17 a18 a19 a20 a21 a22 a23 b0 w0 (.ref 11) rv)) : ∀ (n : Nat) (l3_2 : Int32) (ma1_2 : (Nat → Int32)), L_hB_X9_ends_2_2 g23 g19 g22 a10 a12 a11 f2 K n l3_2 ma1_2 = some res → xW xks YX9_ends (d + 3) 0 0 n0 (xZ 0 0 n0 none (hB g0 g1 g2 g3 g4 g5 g6 g7 g8 g9 g10 g11 g12 g13 g14 g15 g16 g17 g18 g19 g20 g21 g22 g23 g24 g25 g26 a0 res a2 a3 a4 a5 a6 a7 a8 a9 a10 a11 a12 a13 a14 a15 a16 a17 a18 a19 a20 a21 a22 a23 b0 w0 (.ref 11) rv)) 0 0 2 [some (.ref 0), some (.ref 2), some (.int f2), some (.int l3_2), none, none] [] (hB g0 g1 g2 g3 g4 g5 g6 g7 g8 g9 g10 g11 g12 g13 g14 g15 g16 g17 g18 g19 g20 g21 g22 g23 g24 g25 g26 a0 ma1_2 a2 a3 a4 a5 a6 a7 a8 a9 a10 a11 a12 a13 a14 a15 a16 a17 a18 a19 a20 a21 a22 a23 b0 w0 (.ref 11) rv) := by
  intro n
  induction n with
  | zero =>
    intro l3_2 ma1_2 h
    cases (show (none : Option ((Nat → Int32))) = some res from h)
  | succ n2 ih2 =>
    intro l3_2 ma1_2 h
    unfold L_hB_X9_ends_2_2 at h
    refine x_iload_n dX9_ends_2 rfl ?_
    refine x_aload_n dX9_ends_3 rfl ?_
    refine x_get fX9_316 dX9_ends_4 rfl rfl rfl ?_
    refine x_get fX9_194 dX9_ends_7 rfl rfl rfl ?_
    refine x_icmp_ge 103 dX9_ends_10 (by decide) (fun q => ?_) (fun q => ?_)
    · have h := xif_t q h
      refine x_weak (pl2 := [some (.ref 0), some (.ref 2), some (.int f2), none, none, none]) ⟨rfl, rfl, rfl, trivial⟩ ?_
      exact hK l3_2 ma1_2 h
    · have h := xif_f q h
      refine x_aload_n dX9_ends_13 rfl ?_
      refine x_iconst (0 : Int32) dX9_ends_14 (by decide) ?_
      refine x_iload_n dX9_ends_15 rfl ?_
      refine x_iadd dX9_ends_16 ?_
      obtain ⟨q17, h⟩ := xix_of h
      refine x_iald dX9_ends_17 rfl q17 ?_
      refine x_istore (pl' := [some (.ref 0), some (.ref 2), some (.int f2), some (.int l3_2), some (.int (ma1_2 ((0 : Int32) + l3_2).toNatClampNeg)), none]) dX9_ends_18 (by decide) rfl ?_
      refine x_aload_n dX9_ends_20 rfl ?_
      refine x_get fX9_316 dX9_ends_21 rfl rfl rfl ?_
      refine x_get fX9_270 dX9_ends_24 rfl rfl rfl ?_
      refine x_iload_n dX9_ends_27 rfl ?_
      obtain ⟨q28, h⟩ := xix_of h
      refine x_iald dX9_ends_28 rfl q28 ?_
      refine x_iconst (3 : Int32) dX9_ends_29 (by decide) ?_
      refine x_icmp_ne 45 dX9_ends_30 (by decide) (fun q => ?_) (fun q => ?_)
      · have h := xif_f q h
        refine x_iload_n dX9_ends_45 rfl ?_
        refine x_if_eq 66 dX9_ends_46 (by decide) (fun q => ?_) (fun q => ?_)
        · have h := xif_t q h
          refine x_iconst (0 : Int32) dX9_ends_66 (by decide) ?_
          refine x_istore (pl' := [some (.ref 0), some (.ref 2), some (.int f2), some (.int l3_2), some (.int (ma1_2 ((0 : Int32) + l3_2).toNatClampNeg)), some (.int (0 : Int32))]) dX9_ends_67 (by decide) rfl ?_
          refine x_iload dX9_ends_69 rfl ?_
          refine x_if_eq 97 dX9_ends_71 (by decide) (fun q => ?_) (fun q => ?_)
          · have h := xif_t q h
            refine x_iincK (1 : Int32) (pl' := [some (.ref 0), some (.ref 2), some (.int f2), some (.int (l3_2 + (1 : Int32))), some (.int (ma1_2 ((0 : Int32) + l3_2).toNatClampNeg)), some (.int (0 : Int32))]) dX9_ends_97 rfl (by decide) (by decide) rfl ?_
            refine x_goto 2 dX9_ends_100 (by decide) ?_
            refine x_weak (pl2 := [some (.ref 0), some (.ref 2), some (.int f2), some (.int (l3_2 + (1 : Int32))), none, none]) ⟨rfl, rfl, rfl, rfl, trivial⟩ ?_
            exact ih2 (l3_2 + (1 : Int32)) ma1_2 h
          · have h := xif_f q h
            refine x_iload dX9_ends_74 rfl ?_
            refine x_bipush (-2 : Int32) dX9_ends_76 (by decide) ?_
            refine x_icmp_eq 97 dX9_ends_78 (by decide) (fun q => ?_) (fun q => ?_)
            · have h := xif_t q h
              refine x_iincK (1 : Int32) (pl' := [some (.ref 0), some (.ref 2), some (.int f2), some (.int (l3_2 + (1 : Int32))), some (.int (ma1_2 ((0 : Int32) + l3_2).toNatClampNeg)), some (.int (0 : Int32))]) dX9_ends_97 rfl (by decide) (by decide) rfl ?_
              refine x_goto 2 dX9_ends_100 (by decide) ?_
              refine x_weak (pl2 := [some (.ref 0), some (.ref 2), some (.int f2), some (.int (l3_2 + (1 : Int32))), none, none]) ⟨rfl, rfl, rfl, rfl, trivial⟩ ?_
              exact ih2 (l3_2 + (1 : Int32)) ma1_2 h
            · have h := xif_f q h
              refine x_aload_n dX9_ends_81 rfl ?_
              refine x_iload dX9_ends_82 rfl ?_
              obtain ⟨z84, y84, h⟩ := xbind h
              refine x_callV (t_hB_X9_isChild (ma1_2 ((0 : Int32) + l3_2).toNatClampNeg) z84 y84 (d + 1)) kX9_328 dX9_ends_84 rfl rfl rfl rfl rfl (Nat.le_of_ble_eq_true rfl) (Nat.le_of_ble_eq_true rfl) rfl rfl (Or.inl rfl) ?_
              refine x_if_ne 97 dX9_ends_87 (by decide) (fun q => ?_) (fun q => ?_)
              · have h := xif_f q h
                refine x_iincK (1 : Int32) (pl' := [some (.ref 0), some (.ref 2), some (.int f2), some (.int (l3_2 + (1 : Int32))), some (.int (ma1_2 ((0 : Int32) + l3_2).toNatClampNeg)), some (.int (0 : Int32))]) dX9_ends_97 rfl (by decide) (by decide) rfl ?_
                refine x_goto 2 dX9_ends_100 (by decide) ?_
                refine x_weak (pl2 := [some (.ref 0), some (.ref 2), some (.int f2), some (.int (l3_2 + (1 : Int32))), none, none]) ⟨rfl, rfl, rfl, rfl, trivial⟩ ?_
                exact ih2 (l3_2 + (1 : Int32)) ma1_2 h
              · have h := xif_t q h
                refine x_aload_n dX9_ends_90 rfl ?_
                refine x_iconst (5 : Int32) dX9_ends_91 (by decide) ?_
                refine x_iload_n dX9_ends_92 rfl ?_
                refine x_iadd dX9_ends_93 ?_
                refine x_iload dX9_ends_94 rfl ?_
                obtain ⟨q96, h⟩ := xix_of h
                refine x_iast (h2 := (hB g0 g1 g2 g3 g4 g5 g6 g7 g8 g9 g10 g11 g12 g13 g14 g15 g16 g17 g18 g19 g20 g21 g22 g23 g24 g25 g26 a0 (upd ma1_2 ((5 : Int32) + l3_2).toNatClampNeg (ma1_2 ((0 : Int32) + l3_2).toNatClampNeg)) a2 a3 a4 a5 a6 a7 a8 a9 a10 a11 a12 a13 a14 a15 a16 a17 a18 a19 a20 a21 a22 a23 b0 w0 (.ref 11) rv)) dX9_ends_96 rfl q96 rfl ?_
                refine x_iincK (1 : Int32) (pl' := [some (.ref 0), some (.ref 2), some (.int f2), some (.int (l3_2 + (1 : Int32))), some (.int (ma1_2 ((0 : Int32) + l3_2).toNatClampNeg)), some (.int (0 : Int32))]) dX9_ends_97 rfl (by decide) (by decide) rfl ?_
                refine x_goto 2 dX9_ends_100 (by decide) ?_
                refine x_weak (pl2 := [some (.ref 0), some (.ref 2), some (.int f2), some (.int (l3_2 + (1 : Int32))), none, none]) ⟨rfl, rfl, rfl, rfl, trivial⟩ ?_
                exact ih2 (l3_2 + (1 : Int32)) (upd ma1_2 ((5 : Int32) + l3_2).toNatClampNeg (ma1_2 ((0 : Int32) + l3_2).toNatClampNeg)) h
        · have h := xif_f q h
          refine x_aload_n dX9_ends_49 rfl ?_
          refine x_get fX9_316 dX9_ends_50 rfl rfl rfl ?_
          refine x_get fX9_270 dX9_ends_53 rfl rfl rfl ?_
          refine x_iload_n dX9_ends_56 rfl ?_
          obtain ⟨q57, h⟩ := xix_of h
          refine x_iald dX9_ends_57 rfl q57 ?_
          refine x_iconst (2 : Int32) dX9_ends_58 (by decide) ?_
          refine x_icmp_eq 66 dX9_ends_59 (by decide) (fun q => ?_) (fun q => ?_)
          · have h := xif_t q h
            refine x_iconst (0 : Int32) dX9_ends_66 (by decide) ?_
            refine x_istore (pl' := [some (.ref 0), some (.ref 2), some (.int f2), some (.int l3_2), some (.int (ma1_2 ((0 : Int32) + l3_2).toNatClampNeg)), some (.int (0 : Int32))]) dX9_ends_67 (by decide) rfl ?_
            refine x_iload dX9_ends_69 rfl ?_
            refine x_if_eq 97 dX9_ends_71 (by decide) (fun q => ?_) (fun q => ?_)
            · have h := xif_t q h
              refine x_iincK (1 : Int32) (pl' := [some (.ref 0), some (.ref 2), some (.int f2), some (.int (l3_2 + (1 : Int32))), some (.int (ma1_2 ((0 : Int32) + l3_2).toNatClampNeg)), some (.int (0 : Int32))]) dX9_ends_97 rfl (by decide) (by decide) rfl ?_
              refine x_goto 2 dX9_ends_100 (by decide) ?_
              refine x_weak (pl2 := [some (.ref 0), some (.ref 2), some (.int f2), some (.int (l3_2 + (1 : Int32))), none, none]) ⟨rfl, rfl, rfl, rfl, trivial⟩ ?_
              exact ih2 (l3_2 + (1 : Int32)) ma1_2 h
            · have h := xif_f q h
              refine x_iload dX9_ends_74 rfl ?_
              refine x_bipush (-2 : Int32) dX9_ends_76 (by decide) ?_
              refine x_icmp_eq 97 dX9_ends_78 (by decide) (fun q => ?_) (fun q => ?_)
              · have h := xif_t q h
                refine x_iincK (1 : Int32) (pl' := [some (.ref 0), some (.ref 2), some (.int f2), some (.int (l3_2 + (1 : Int32))), some (.int (ma1_2 ((0 : Int32) + l3_2).toNatClampNeg)), some (.int (0 : Int32))]) dX9_ends_97 rfl (by decide) (by decide) rfl ?_
                refine x_goto 2 dX9_ends_100 (by decide) ?_
                refine x_weak (pl2 := [some (.ref 0), some (.ref 2), some (.int f2), some (.int (l3_2 + (1 : Int32))), none, none]) ⟨rfl, rfl, rfl, rfl, trivial⟩ ?_
                exact ih2 (l3_2 + (1 : Int32)) ma1_2 h
              · have h := xif_f q h
                refine x_aload_n dX9_ends_81 rfl ?_
                refine x_iload dX9_ends_82 rfl ?_
                obtain ⟨z84, y84, h⟩ := xbind h
                refine x_callV (t_hB_X9_isChild (ma1_2 ((0 : Int32) + l3_2).toNatClampNeg) z84 y84 (d + 1)) kX9_328 dX9_ends_84 rfl rfl rfl rfl rfl (Nat.le_of_ble_eq_true rfl) (Nat.le_of_ble_eq_true rfl) rfl rfl (Or.inl rfl) ?_
                refine x_if_ne 97 dX9_ends_87 (by decide) (fun q => ?_) (fun q => ?_)
                · have h := xif_f q h
                  refine x_iincK (1 : Int32) (pl' := [some (.ref 0), some (.ref 2), some (.int f2), some (.int (l3_2 + (1 : Int32))), some (.int (ma1_2 ((0 : Int32) + l3_2).toNatClampNeg)), some (.int (0 : Int32))]) dX9_ends_97 rfl (by decide) (by decide) rfl ?_
                  refine x_goto 2 dX9_ends_100 (by decide) ?_
                  refine x_weak (pl2 := [some (.ref 0), some (.ref 2), some (.int f2), some (.int (l3_2 + (1 : Int32))), none, none]) ⟨rfl, rfl, rfl, rfl, trivial⟩ ?_
                  exact ih2 (l3_2 + (1 : Int32)) ma1_2 h
                · have h := xif_t q h
                  refine x_aload_n dX9_ends_90 rfl ?_
                  refine x_iconst (5 : Int32) dX9_ends_91 (by decide) ?_
                  refine x_iload_n dX9_ends_92 rfl ?_
                  refine x_iadd dX9_ends_93 ?_
                  refine x_iload dX9_ends_94 rfl ?_
                  obtain ⟨q96, h⟩ := xix_of h
                  refine x_iast (h2 := (hB g0 g1 g2 g3 g4 g5 g6 g7 g8 g9 g10 g11 g12 g13 g14 g15 g16 g17 g18 g19 g20 g21 g22 g23 g24 g25 g26 a0 (upd ma1_2 ((5 : Int32) + l3_2).toNatClampNeg (ma1_2 ((0 : Int32) + l3_2).toNatClampNeg)) a2 a3 a4 a5 a6 a7 a8 a9 a10 a11 a12 a13 a14 a15 a16 a17 a18 a19 a20 a21 a22 a23 b0 w0 (.ref 11) rv)) dX9_ends_96 rfl q96 rfl ?_
                  refine x_iincK (1 : Int32) (pl' := [some (.ref 0), some (.ref 2), some (.int f2), some (.int (l3_2 + (1 : Int32))), some (.int (ma1_2 ((0 : Int32) + l3_2).toNatClampNeg)), some (.int (0 : Int32))]) dX9_ends_97 rfl (by decide) (by decide) rfl ?_
                  refine x_goto 2 dX9_ends_100 (by decide) ?_
                  refine x_weak (pl2 := [some (.ref 0), some (.ref 2), some (.int f2), some (.int (l3_2 + (1 : Int32))), none, none]) ⟨rfl, rfl, rfl, rfl, trivial⟩ ?_
                  exact ih2 (l3_2 + (1 : Int32)) (upd ma1_2 ((5 : Int32) + l3_2).toNatClampNeg (ma1_2 ((0 : Int32) + l3_2).toNatClampNeg)) h
          · have h := xif_f q h
            refine x_iconst (1 : Int32) dX9_ends_62 (by decide) ?_
            refine x_goto 67 dX9_ends_63 (by decide) ?_
            refine x_istore (pl' := [some (.ref 0), some (.ref 2), some (.int f2), some (.int l3_2), some (.int (ma1_2 ((0 : Int32) + l3_2).toNatClampNeg)), some (.int (1 : Int32))]) dX9_ends_67 (by decide) rfl ?_
            refine x_iload dX9_ends_69 rfl ?_
            refine x_if_eq 97 dX9_ends_71 (by decide) (fun q => ?_) (fun q => ?_)
            · have h := xif_t q h
              refine x_iincK (1 : Int32) (pl' := [some (.ref 0), some (.ref 2), some (.int f2), some (.int (l3_2 + (1 : Int32))), some (.int (ma1_2 ((0 : Int32) + l3_2).toNatClampNeg)), some (.int (1 : Int32))]) dX9_ends_97 rfl (by decide) (by decide) rfl ?_
              refine x_goto 2 dX9_ends_100 (by decide) ?_
              refine x_weak (pl2 := [some (.ref 0), some (.ref 2), some (.int f2), some (.int (l3_2 + (1 : Int32))), none, none]) ⟨rfl, rfl, rfl, rfl, trivial⟩ ?_
              exact ih2 (l3_2 + (1 : Int32)) ma1_2 h
            · have h := xif_f q h
              refine x_iload dX9_ends_74 rfl ?_
              refine x_bipush (-2 : Int32) dX9_ends_76 (by decide) ?_
              refine x_icmp_eq 97 dX9_ends_78 (by decide) (fun q => ?_) (fun q => ?_)
              · have h := xif_t q h
                refine x_iincK (1 : Int32) (pl' := [some (.ref 0), some (.ref 2), some (.int f2), some (.int (l3_2 + (1 : Int32))), some (.int (ma1_2 ((0 : Int32) + l3_2).toNatClampNeg)), some (.int (1 : Int32))]) dX9_ends_97 rfl (by decide) (by decide) rfl ?_
                refine x_goto 2 dX9_ends_100 (by decide) ?_
                refine x_weak (pl2 := [some (.ref 0), some (.ref 2), some (.int f2), some (.int (l3_2 + (1 : Int32))), none, none]) ⟨rfl, rfl, rfl, rfl, trivial⟩ ?_
                exact ih2 (l3_2 + (1 : Int32)) ma1_2 h
              · have h := xif_f q h
                refine x_aload_n dX9_ends_81 rfl ?_
                refine x_iload dX9_ends_82 rfl ?_
                obtain ⟨z84, y84, h⟩ := xbind h
                refine x_callV (t_hB_X9_isChild (ma1_2 ((0 : Int32) + l3_2).toNatClampNeg) z84 y84 (d + 1)) kX9_328 dX9_ends_84 rfl rfl rfl rfl rfl (Nat.le_of_ble_eq_true rfl) (Nat.le_of_ble_eq_true rfl) rfl rfl (Or.inl rfl) ?_
                refine x_if_ne 97 dX9_ends_87 (by decide) (fun q => ?_) (fun q => ?_)
                · have h := xif_f q h
                  refine x_iincK (1 : Int32) (pl' := [some (.ref 0), some (.ref 2), some (.int f2), some (.int (l3_2 + (1 : Int32))), some (.int (ma1_2 ((0 : Int32) + l3_2).toNatClampNeg)), some (.int (1 : Int32))]) dX9_ends_97 rfl (by decide) (by decide) rfl ?_
                  refine x_goto 2 dX9_ends_100 (by decide) ?_
                  refine x_weak (pl2 := [some (.ref 0), some (.ref 2), some (.int f2), some (.int (l3_2 + (1 : Int32))), none, none]) ⟨rfl, rfl, rfl, rfl, trivial⟩ ?_
                  exact ih2 (l3_2 + (1 : Int32)) ma1_2 h
                · have h := xif_t q h
                  refine x_aload_n dX9_ends_90 rfl ?_
                  refine x_iconst (5 : Int32) dX9_ends_91 (by decide) ?_
                  refine x_iload_n dX9_ends_92 rfl ?_
                  refine x_iadd dX9_ends_93 ?_
                  refine x_iload dX9_ends_94 rfl ?_
                  obtain ⟨q96, h⟩ := xix_of h
                  refine x_iast (h2 := (hB g0 g1 g2 g3 g4 g5 g6 g7 g8 g9 g10 g11 g12 g13 g14 g15 g16 g17 g18 g19 g20 g21 g22 g23 g24 g25 g26 a0 (upd ma1_2 ((5 : Int32) + l3_2).toNatClampNeg (ma1_2 ((0 : Int32) + l3_2).toNatClampNeg)) a2 a3 a4 a5 a6 a7 a8 a9 a10 a11 a12 a13 a14 a15 a16 a17 a18 a19 a20 a21 a22 a23 b0 w0 (.ref 11) rv)) dX9_ends_96 rfl q96 rfl ?_
                  refine x_iincK (1 : Int32) (pl' := [some (.ref 0), some (.ref 2), some (.int f2), some (.int (l3_2 + (1 : Int32))), some (.int (ma1_2 ((0 : Int32) + l3_2).toNatClampNeg)), some (.int (1 : Int32))]) dX9_ends_97 rfl (by decide) (by decide) rfl ?_
                  refine x_goto 2 dX9_ends_100 (by decide) ?_
                  refine x_weak (pl2 := [some (.ref 0), some (.ref 2), some (.int f2), some (.int (l3_2 + (1 : Int32))), none, none]) ⟨rfl, rfl, rfl, rfl, trivial⟩ ?_
                  exact ih2 (l3_2 + (1 : Int32)) (upd ma1_2 ((5 : Int32) + l3_2).toNatClampNeg (ma1_2 ((0 : Int32) + l3_2).toNatClampNeg)) h
      · have h := xif_t q h
        refine x_iload_n dX9_ends_33 rfl ?_
        refine x_if_ne 41 dX9_ends_34 (by decide) (fun q => ?_) (fun q => ?_)
        · have h := xif_f q h
          refine x_iconst (0 : Int32) dX9_ends_41 (by decide) ?_
          refine x_goto 67 dX9_ends_42 (by decide) ?_
          refine x_istore (pl' := [some (.ref 0), some (.ref 2), some (.int f2), some (.int l3_2), some (.int (ma1_2 ((0 : Int32) + l3_2).toNatClampNeg)), some (.int (0 : Int32))]) dX9_ends_67 (by decide) rfl ?_
          refine x_iload dX9_ends_69 rfl ?_
          refine x_if_eq 97 dX9_ends_71 (by decide) (fun q => ?_) (fun q => ?_)
          · have h := xif_t q h
            refine x_iincK (1 : Int32) (pl' := [some (.ref 0), some (.ref 2), some (.int f2), some (.int (l3_2 + (1 : Int32))), some (.int (ma1_2 ((0 : Int32) + l3_2).toNatClampNeg)), some (.int (0 : Int32))]) dX9_ends_97 rfl (by decide) (by decide) rfl ?_
            refine x_goto 2 dX9_ends_100 (by decide) ?_
            refine x_weak (pl2 := [some (.ref 0), some (.ref 2), some (.int f2), some (.int (l3_2 + (1 : Int32))), none, none]) ⟨rfl, rfl, rfl, rfl, trivial⟩ ?_
            exact ih2 (l3_2 + (1 : Int32)) ma1_2 h
          · have h := xif_f q h
            refine x_iload dX9_ends_74 rfl ?_
            refine x_bipush (-2 : Int32) dX9_ends_76 (by decide) ?_
            refine x_icmp_eq 97 dX9_ends_78 (by decide) (fun q => ?_) (fun q => ?_)
            · have h := xif_t q h
              refine x_iincK (1 : Int32) (pl' := [some (.ref 0), some (.ref 2), some (.int f2), some (.int (l3_2 + (1 : Int32))), some (.int (ma1_2 ((0 : Int32) + l3_2).toNatClampNeg)), some (.int (0 : Int32))]) dX9_ends_97 rfl (by decide) (by decide) rfl ?_
              refine x_goto 2 dX9_ends_100 (by decide) ?_
              refine x_weak (pl2 := [some (.ref 0), some (.ref 2), some (.int f2), some (.int (l3_2 + (1 : Int32))), none, none]) ⟨rfl, rfl, rfl, rfl, trivial⟩ ?_
              exact ih2 (l3_2 + (1 : Int32)) ma1_2 h
            · have h := xif_f q h
              refine x_aload_n dX9_ends_81 rfl ?_
              refine x_iload dX9_ends_82 rfl ?_
              obtain ⟨z84, y84, h⟩ := xbind h
              refine x_callV (t_hB_X9_isChild (ma1_2 ((0 : Int32) + l3_2).toNatClampNeg) z84 y84 (d + 1)) kX9_328 dX9_ends_84 rfl rfl rfl rfl rfl (Nat.le_of_ble_eq_true rfl) (Nat.le_of_ble_eq_true rfl) rfl rfl (Or.inl rfl) ?_
              refine x_if_ne 97 dX9_ends_87 (by decide) (fun q => ?_) (fun q => ?_)
              · have h := xif_f q h
                refine x_iincK (1 : Int32) (pl' := [some (.ref 0), some (.ref 2), some (.int f2), some (.int (l3_2 + (1 : Int32))), some (.int (ma1_2 ((0 : Int32) + l3_2).toNatClampNeg)), some (.int (0 : Int32))]) dX9_ends_97 rfl (by decide) (by decide) rfl ?_
                refine x_goto 2 dX9_ends_100 (by decide) ?_
                refine x_weak (pl2 := [some (.ref 0), some (.ref 2), some (.int f2), some (.int (l3_2 + (1 : Int32))), none, none]) ⟨rfl, rfl, rfl, rfl, trivial⟩ ?_
                exact ih2 (l3_2 + (1 : Int32)) ma1_2 h
              · have h := xif_t q h
                refine x_aload_n dX9_ends_90 rfl ?_
                refine x_iconst (5 : Int32) dX9_ends_91 (by decide) ?_
                refine x_iload_n dX9_ends_92 rfl ?_
                refine x_iadd dX9_ends_93 ?_
                refine x_iload dX9_ends_94 rfl ?_
                obtain ⟨q96, h⟩ := xix_of h
                refine x_iast (h2 := (hB g0 g1 g2 g3 g4 g5 g6 g7 g8 g9 g10 g11 g12 g13 g14 g15 g16 g17 g18 g19 g20 g21 g22 g23 g24 g25 g26 a0 (upd ma1_2 ((5 : Int32) + l3_2).toNatClampNeg (ma1_2 ((0 : Int32) + l3_2).toNatClampNeg)) a2 a3 a4 a5 a6 a7 a8 a9 a10 a11 a12 a13 a14 a15 a16 a17 a18 a19 a20 a21 a22 a23 b0 w0 (.ref 11) rv)) dX9_ends_96 rfl q96 rfl ?_
                refine x_iincK (1 : Int32) (pl' := [some (.ref 0), some (.ref 2), some (.int f2), some (.int (l3_2 + (1 : Int32))), some (.int (ma1_2 ((0 : Int32) + l3_2).toNatClampNeg)), some (.int (0 : Int32))]) dX9_ends_97 rfl (by decide) (by decide) rfl ?_
                refine x_goto 2 dX9_ends_100 (by decide) ?_
                refine x_weak (pl2 := [some (.ref 0), some (.ref 2), some (.int f2), some (.int (l3_2 + (1 : Int32))), none, none]) ⟨rfl, rfl, rfl, rfl, trivial⟩ ?_
                exact ih2 (l3_2 + (1 : Int32)) (upd ma1_2 ((5 : Int32) + l3_2).toNatClampNeg (ma1_2 ((0 : Int32) + l3_2).toNatClampNeg)) h
        · have h := xif_t q h
          refine x_iconst (1 : Int32) dX9_ends_37 (by decide) ?_
          refine x_goto 67 dX9_ends_38 (by decide) ?_
          refine x_istore (pl' := [some (.ref 0), some (.ref 2), some (.int f2), some (.int l3_2), some (.int (ma1_2 ((0 : Int32) + l3_2).toNatClampNeg)), some (.int (1 : Int32))]) dX9_ends_67 (by decide) rfl ?_
          refine x_iload dX9_ends_69 rfl ?_
          refine x_if_eq 97 dX9_ends_71 (by decide) (fun q => ?_) (fun q => ?_)
          · have h := xif_t q h
            refine x_iincK (1 : Int32) (pl' := [some (.ref 0), some (.ref 2), some (.int f2), some (.int (l3_2 + (1 : Int32))), some (.int (ma1_2 ((0 : Int32) + l3_2).toNatClampNeg)), some (.int (1 : Int32))]) dX9_ends_97 rfl (by decide) (by decide) rfl ?_
            refine x_goto 2 dX9_ends_100 (by decide) ?_
            refine x_weak (pl2 := [some (.ref 0), some (.ref 2), some (.int f2), some (.int (l3_2 + (1 : Int32))), none, none]) ⟨rfl, rfl, rfl, rfl, trivial⟩ ?_
            exact ih2 (l3_2 + (1 : Int32)) ma1_2 h
          · have h := xif_f q h
            refine x_iload dX9_ends_74 rfl ?_
            refine x_bipush (-2 : Int32) dX9_ends_76 (by decide) ?_
            refine x_icmp_eq 97 dX9_ends_78 (by decide) (fun q => ?_) (fun q => ?_)
            · have h := xif_t q h
              refine x_iincK (1 : Int32) (pl' := [some (.ref 0), some (.ref 2), some (.int f2), some (.int (l3_2 + (1 : Int32))), some (.int (ma1_2 ((0 : Int32) + l3_2).toNatClampNeg)), some (.int (1 : Int32))]) dX9_ends_97 rfl (by decide) (by decide) rfl ?_
              refine x_goto 2 dX9_ends_100 (by decide) ?_
              refine x_weak (pl2 := [some (.ref 0), some (.ref 2), some (.int f2), some (.int (l3_2 + (1 : Int32))), none, none]) ⟨rfl, rfl, rfl, rfl, trivial⟩ ?_
              exact ih2 (l3_2 + (1 : Int32)) ma1_2 h
            · have h := xif_f q h
              refine x_aload_n dX9_ends_81 rfl ?_
              refine x_iload dX9_ends_82 rfl ?_
              obtain ⟨z84, y84, h⟩ := xbind h
              refine x_callV (t_hB_X9_isChild (ma1_2 ((0 : Int32) + l3_2).toNatClampNeg) z84 y84 (d + 1)) kX9_328 dX9_ends_84 rfl rfl rfl rfl rfl (Nat.le_of_ble_eq_true rfl) (Nat.le_of_ble_eq_true rfl) rfl rfl (Or.inl rfl) ?_
              refine x_if_ne 97 dX9_ends_87 (by decide) (fun q => ?_) (fun q => ?_)
              · have h := xif_f q h
                refine x_iincK (1 : Int32) (pl' := [some (.ref 0), some (.ref 2), some (.int f2), some (.int (l3_2 + (1 : Int32))), some (.int (ma1_2 ((0 : Int32) + l3_2).toNatClampNeg)), some (.int (1 : Int32))]) dX9_ends_97 rfl (by decide) (by decide) rfl ?_
                refine x_goto 2 dX9_ends_100 (by decide) ?_
                refine x_weak (pl2 := [some (.ref 0), some (.ref 2), some (.int f2), some (.int (l3_2 + (1 : Int32))), none, none]) ⟨rfl, rfl, rfl, rfl, trivial⟩ ?_
                exact ih2 (l3_2 + (1 : Int32)) ma1_2 h
              · have h := xif_t q h
                refine x_aload_n dX9_ends_90 rfl ?_
                refine x_iconst (5 : Int32) dX9_ends_91 (by decide) ?_
                refine x_iload_n dX9_ends_92 rfl ?_
                refine x_iadd dX9_ends_93 ?_
                refine x_iload dX9_ends_94 rfl ?_
                obtain ⟨q96, h⟩ := xix_of h
                refine x_iast (h2 := (hB g0 g1 g2 g3 g4 g5 g6 g7 g8 g9 g10 g11 g12 g13 g14 g15 g16 g17 g18 g19 g20 g21 g22 g23 g24 g25 g26 a0 (upd ma1_2 ((5 : Int32) + l3_2).toNatClampNeg (ma1_2 ((0 : Int32) + l3_2).toNatClampNeg)) a2 a3 a4 a5 a6 a7 a8 a9 a10 a11 a12 a13 a14 a15 a16 a17 a18 a19 a20 a21 a22 a23 b0 w0 (.ref 11) rv)) dX9_ends_96 rfl q96 rfl ?_
                refine x_iincK (1 : Int32) (pl' := [some (.ref 0), some (.ref 2), some (.int f2), some (.int (l3_2 + (1 : Int32))), some (.int (ma1_2 ((0 : Int32) + l3_2).toNatClampNeg)), some (.int (1 : Int32))]) dX9_ends_97 rfl (by decide) (by decide) rfl ?_
                refine x_goto 2 dX9_ends_100 (by decide) ?_
                refine x_weak (pl2 := [some (.ref 0), some (.ref 2), some (.int f2), some (.int (l3_2 + (1 : Int32))), none, none]) ⟨rfl, rfl, rfl, rfl, trivial⟩ ?_
                exact ih2 (l3_2 + (1 : Int32)) (upd ma1_2 ((5 : Int32) + l3_2).toNatClampNeg (ma1_2 ((0 : Int32) + l3_2).toNatClampNeg)) h
set_option maxRecDepth 100000 in
set_option maxHeartbeats 4000000 in
theorem lp_hB_X9_ends_2_153 {g0 g1 g2 g3 g4 g5 g6 g7 g8 g9 g10 g11 g12 g13 g14 g15 g16 g17 g18 g19 g20 g21 g22 g23 g24 g25 g26 : Int32} {a0 a2 a3 a4 a5 a6 a7 a8 a9 a10 a11 a12 a13 a14 a15 a16 a17 a18 a19 a20 a21 a22 a23 : (Nat → Int32)} {b0 : (Nat → Int64)} {w0 : Int64} {rv : Value} (d n0 : Nat)  (res : (Nat → Int32)) (K : Int32 → (Nat → Int32) → Option ((Nat → Int32))) (hK : ∀ (l3_153 : Int32) (ma1_153 : (Nat → Int32)), K l3_153 ma1_153 = some res → xW xks YX9_ends (d + 3) 0 0 n0 (xZ 0 0 n0 none (hB g0 g1 g2 g3 g4 g5 g6 g7 g8 g9 g10 g11 g12 g13 g14 g15 g16 g17 g18 g19 g20 g21 g22 g23 g24 g25 g26 a0 res a2 a3 a4 a5 a6 a7 a8 a9 a10 a11 a12 a13 a14 a15 a16 a17 a18 a19 a20 a21 a22 a23 b0 w0 (.ref 11) rv)) 0 0 189 [none, none, none, none, none, none] [] (hB g0 g1 g2 g3 g4 g5 g6 g7 g8 g9 g10 g11 g12 g13 g14 g15 g16 g17 g18 g19 g20 g21 g22 g23 g24 g25 g26 a0 ma1_153 a2 a3 a4 a5 a6 a7 a8 a9 a10 a11 a12 a13 a14 a15 a16 a17 a18 a19 a20 a21 a22 a23 b0 w0 (.ref 11) rv)) : ∀ (n : Nat) (l3_153 : Int32) (ma1_153 : (Nat → Int32)), L_hB_X9_ends_2_153 g23 g19 g22 a10 a12 a11  K n l3_153 ma1_153 = some res → xW xks YX9_ends (d + 3) 0 0 n0 (xZ 0 0 n0 none (hB g0 g1 g2 g3 g4 g5 g6 g7 g8 g9 g10 g11 g12 g13 g14 g15 g16 g17 g18 g19 g20 g21 g22 g23 g24 g25 g26 a0 res a2 a3 a4 a5 a6 a7 a8 a9 a10 a11 a12 a13 a14 a15 a16 a17 a18 a19 a20 a21 a22 a23 b0 w0 (.ref 11) rv)) 0 0 153 [some (.ref 0), some (.ref 2), none, some (.int l3_153), none, none] [] (hB g0 g1 g2 g3 g4 g5 g6 g7 g8 g9 g10 g11 g12 g13 g14 g15 g16 g17 g18 g19 g20 g21 g22 g23 g24 g25 g26 a0 ma1_153 a2 a3 a4 a5 a6 a7 a8 a9 a10 a11 a12 a13 a14 a15 a16 a17 a18 a19 a20 a21 a22 a23 b0 w0 (.ref 11) rv) := by
  intro n
  induction n with
  | zero =>
    intro l3_153 ma1_153 h
    cases (show (none : Option ((Nat → Int32))) = some res from h)
  | succ n153 ih153 =>
    intro l3_153 ma1_153 h
    unfold L_hB_X9_ends_2_153 at h
    refine x_iload_n dX9_ends_153 rfl ?_
    refine x_aload_n dX9_ends_154 rfl ?_
    refine x_get fX9_316 dX9_ends_155 rfl rfl rfl ?_
    refine x_get fX9_191 dX9_ends_158 rfl rfl rfl ?_
    refine x_icmp_ge 189 dX9_ends_161 (by decide) (fun q => ?_) (fun q => ?_)
    · have h := xif_t q h
      refine x_weak (pl2 := [none, none, none, none, none, none]) trivial ?_
      exact hK l3_153 ma1_153 h
    · have h := xif_f q h
      refine x_aload_n dX9_ends_164 rfl ?_
      refine x_get fX9_316 dX9_ends_165 rfl rfl rfl ?_
      refine x_get fX9_251 dX9_ends_168 rfl rfl rfl ?_
      refine x_iload_n dX9_ends_171 rfl ?_
      obtain ⟨q172, h⟩ := xix_of h
      refine x_iald dX9_ends_172 rfl q172 ?_
      refine x_iconst (2 : Int32) dX9_ends_173 (by decide) ?_
      refine x_icmp_ne 183 dX9_ends_174 (by decide) (fun q => ?_) (fun q => ?_)
      · have h := xif_f q h
        refine x_iincK (1 : Int32) (pl' := [some (.ref 0), some (.ref 2), none, some (.int (l3_153 + (1 : Int32))), none, none]) dX9_ends_183 rfl (by decide) (by decide) rfl ?_
        refine x_goto 153 dX9_ends_186 (by decide) ?_
        refine x_weak (pl2 := [some (.ref 0), some (.ref 2), none, some (.int (l3_153 + (1 : Int32))), none, none]) ⟨rfl, rfl, rfl, trivial⟩ ?_
        exact ih153 (l3_153 + (1 : Int32)) ma1_153 h
      · have h := xif_t q h
        refine x_aload_n dX9_ends_177 rfl ?_
        refine x_aload_n dX9_ends_178 rfl ?_
        refine x_iload_n dX9_ends_179 rfl ?_
        obtain ⟨z180, y180, h⟩ := xbind h
        refine x_callV (t_hB_X9_forgets_2 l3_153 z180 y180 (d + 0)) kX9_334 dX9_ends_180 rfl rfl rfl rfl rfl (Nat.le_of_ble_eq_true rfl) (Nat.le_of_ble_eq_true rfl) rfl rfl (Or.inl rfl) ?_
        refine x_iincK (1 : Int32) (pl' := [some (.ref 0), some (.ref 2), none, some (.int (l3_153 + (1 : Int32))), none, none]) dX9_ends_183 rfl (by decide) (by decide) rfl ?_
        refine x_goto 153 dX9_ends_186 (by decide) ?_
        refine x_weak (pl2 := [some (.ref 0), some (.ref 2), none, some (.int (l3_153 + (1 : Int32))), none, none]) ⟨rfl, rfl, rfl, trivial⟩ ?_
        exact ih153 (l3_153 + (1 : Int32)) z180 h
set_option maxRecDepth 100000 in
set_option maxHeartbeats 4000000 in
theorem t_hB_X9_ends_2 {g0 g1 g2 g3 g4 g5 g6 g7 g8 g9 g10 g11 g12 g13 g14 g15 g16 g17 g18 g19 g20 g21 g22 g23 g24 g25 g26 : Int32} {a0 a1 a2 a3 a4 a5 a6 a7 a8 a9 a10 a11 a12 a13 a14 a15 a16 a17 a18 a19 a20 a21 a22 a23 : (Nat → Int32)} {b0 : (Nat → Int64)} {w0 : Int64} {rv : Value} (x2 : Int32) (res : (Nat → Int32)) (h : e_hB_X9_ends_2 g23 a1 g19 g22 a10 a12 a11 x2 = some res) (d : Nat) : xMet xks YX9_ends (d + 3) 0 0 [.ref 0, .ref 2, .int x2] (hB g0 g1 g2 g3 g4 g5 g6 g7 g8 g9 g10 g11 g12 g13 g14 g15 g16 g17 g18 g19 g20 g21 g22 g23 g24 g25 g26 a0 a1 a2 a3 a4 a5 a6 a7 a8 a9 a10 a11 a12 a13 a14 a15 a16 a17 a18 a19 a20 a21 a22 a23 b0 w0 (.ref 11) rv) none (hB g0 g1 g2 g3 g4 g5 g6 g7 g8 g9 g10 g11 g12 g13 g14 g15 g16 g17 g18 g19 g20 g21 g22 g23 g24 g25 g26 a0 res a2 a3 a4 a5 a6 a7 a8 a9 a10 a11 a12 a13 a14 a15 a16 a17 a18 a19 a20 a21 a22 a23 b0 w0 (.ref 11) rv) := by
  unfold e_hB_X9_ends_2 at h
  refine xMet_of (pl := [some (.ref 0), some (.ref 2), some (.int x2), none, none, none]) (by decide) (Nat.le_of_ble_eq_true rfl) rfl (Nat.le_of_ble_eq_true rfl) ?_
  refine x_iconst (0 : Int32) dX9_ends_0 (by decide) ?_
  refine x_istore_n (pl' := [some (.ref 0), some (.ref 2), some (.int x2), some (.int (0 : Int32)), none, none]) dX9_ends_1 (by decide) rfl ?_
  refine x_weak (pl2 := [some (.ref 0), some (.ref 2), some (.int x2), some (.int (0 : Int32)), none, none]) ⟨rfl, rfl, rfl, rfl, trivial⟩ ?_
  refine lp_hB_X9_ends_2_2 d _ x2 res _ (fun l3_2 ma1_2 h => ?_) 200000 (0 : Int32) a1 h
  refine x_iload_n dX9_ends_103 rfl ?_
  refine x_if_eq 115 dX9_ends_104 (by decide) (fun q => ?_) (fun q => ?_)
  · have h := xif_t q h
    refine x_aload_n dX9_ends_115 rfl ?_
    refine x_bipush (10 : Int32) dX9_ends_116 (by decide) ?_
    refine x_iald dX9_ends_118 rfl (show vp_in _ _ from (by decide : ¬ ((10 : Int32) < 0 ∨ 11 ≤ (10 : Int32).toNatClampNeg))) ?_
    refine x_bipush (30 : Int32) dX9_ends_119 (by decide) ?_
    refine x_icmp_ge 132 dX9_ends_121 (by decide) (fun q => ?_) (fun q => ?_)
    · have h := xif_t q h
      refine x_aload_n dX9_ends_132 rfl ?_
      refine x_bipush (10 : Int32) dX9_ends_133 (by decide) ?_
      refine x_iald dX9_ends_135 rfl (show vp_in _ _ from (by decide : ¬ ((10 : Int32) < 0 ∨ 11 ≤ (10 : Int32).toNatClampNeg))) ?_
      refine x_aload_n dX9_ends_136 rfl ?_
      refine x_get fX9_316 dX9_ends_137 rfl rfl rfl ?_
      refine x_get fX9_156 dX9_ends_140 rfl rfl rfl ?_
      refine x_icmp_lt 151 dX9_ends_143 (by decide) (fun q => ?_) (fun q => ?_)
      · have h := xif_t q h
        refine x_iconst (0 : Int32) dX9_ends_151 (by decide) ?_
        refine x_istore_n (pl' := [some (.ref 0), some (.ref 2), some (.int x2), some (.int (0 : Int32)), none, none]) dX9_ends_152 (by decide) rfl ?_
        refine x_weak (pl2 := [some (.ref 0), some (.ref 2), none, some (.int (0 : Int32)), none, none]) ⟨rfl, rfl, rfl, trivial⟩ ?_
        refine lp_hB_X9_ends_2_153 d _  res _ (fun l3_153 ma1_153 h => ?_) 200000 (0 : Int32) ma1_2 h
        cases h
        exact x_vret2 dX9_ends_189 rfl rfl
      · have h := xif_f q h
        refine x_aload_n dX9_ends_146 rfl ?_
        refine x_aload_n dX9_ends_147 rfl ?_
        obtain ⟨z148, y148, h⟩ := xbind h
        refine x_callV (t_hB_X9_lapses_2  z148 y148 (d + 1)) kX9_331 dX9_ends_148 rfl rfl rfl rfl rfl (Nat.le_of_ble_eq_true rfl) (Nat.le_of_ble_eq_true rfl) rfl rfl (Or.inl rfl) ?_
        refine x_iconst (0 : Int32) dX9_ends_151 (by decide) ?_
        refine x_istore_n (pl' := [some (.ref 0), some (.ref 2), some (.int x2), some (.int (0 : Int32)), none, none]) dX9_ends_152 (by decide) rfl ?_
        refine x_weak (pl2 := [some (.ref 0), some (.ref 2), none, some (.int (0 : Int32)), none, none]) ⟨rfl, rfl, rfl, trivial⟩ ?_
        refine lp_hB_X9_ends_2_153 d _  res _ (fun l3_153 ma1_153 h => ?_) 200000 (0 : Int32) z148 h
        cases h
        exact x_vret2 dX9_ends_189 rfl rfl
    · have h := xif_f q h
      refine x_aload_n dX9_ends_124 rfl ?_
      refine x_bipush (10 : Int32) dX9_ends_125 (by decide) ?_
      refine x_dup2 dX9_ends_127 rfl rfl ?_
      refine x_iald dX9_ends_128 rfl (show vp_in _ _ from (by decide : ¬ ((10 : Int32) < 0 ∨ 11 ≤ (10 : Int32).toNatClampNeg))) ?_
      refine x_iconst (1 : Int32) dX9_ends_129 (by decide) ?_
      refine x_iadd dX9_ends_130 ?_
      refine x_iast (h2 := (hB g0 g1 g2 g3 g4 g5 g6 g7 g8 g9 g10 g11 g12 g13 g14 g15 g16 g17 g18 g19 g20 g21 g22 g23 g24 g25 g26 a0 (upd ma1_2 (10 : Int32).toNatClampNeg ((ma1_2 (10 : Int32).toNatClampNeg) + (1 : Int32))) a2 a3 a4 a5 a6 a7 a8 a9 a10 a11 a12 a13 a14 a15 a16 a17 a18 a19 a20 a21 a22 a23 b0 w0 (.ref 11) rv)) dX9_ends_131 rfl (show vp_in _ _ from (by decide : ¬ ((10 : Int32) < 0 ∨ 11 ≤ (10 : Int32).toNatClampNeg))) rfl ?_
      refine x_aload_n dX9_ends_132 rfl ?_
      refine x_bipush (10 : Int32) dX9_ends_133 (by decide) ?_
      refine x_iald dX9_ends_135 rfl (show vp_in _ _ from (by decide : ¬ ((10 : Int32) < 0 ∨ 11 ≤ (10 : Int32).toNatClampNeg))) ?_
      refine x_aload_n dX9_ends_136 rfl ?_
      refine x_get fX9_316 dX9_ends_137 rfl rfl rfl ?_
      refine x_get fX9_156 dX9_ends_140 rfl rfl rfl ?_
      refine x_icmp_lt 151 dX9_ends_143 (by decide) (fun q => ?_) (fun q => ?_)
      · have h := xif_t q h
        refine x_iconst (0 : Int32) dX9_ends_151 (by decide) ?_
        refine x_istore_n (pl' := [some (.ref 0), some (.ref 2), some (.int x2), some (.int (0 : Int32)), none, none]) dX9_ends_152 (by decide) rfl ?_
        refine x_weak (pl2 := [some (.ref 0), some (.ref 2), none, some (.int (0 : Int32)), none, none]) ⟨rfl, rfl, rfl, trivial⟩ ?_
        refine lp_hB_X9_ends_2_153 d _  res _ (fun l3_153 ma1_153 h => ?_) 200000 (0 : Int32) (upd ma1_2 (10 : Int32).toNatClampNeg ((ma1_2 (10 : Int32).toNatClampNeg) + (1 : Int32))) h
        cases h
        exact x_vret2 dX9_ends_189 rfl rfl
      · have h := xif_f q h
        refine x_aload_n dX9_ends_146 rfl ?_
        refine x_aload_n dX9_ends_147 rfl ?_
        obtain ⟨z148, y148, h⟩ := xbind h
        refine x_callV (t_hB_X9_lapses_2  z148 y148 (d + 1)) kX9_331 dX9_ends_148 rfl rfl rfl rfl rfl (Nat.le_of_ble_eq_true rfl) (Nat.le_of_ble_eq_true rfl) rfl rfl (Or.inl rfl) ?_
        refine x_iconst (0 : Int32) dX9_ends_151 (by decide) ?_
        refine x_istore_n (pl' := [some (.ref 0), some (.ref 2), some (.int x2), some (.int (0 : Int32)), none, none]) dX9_ends_152 (by decide) rfl ?_
        refine x_weak (pl2 := [some (.ref 0), some (.ref 2), none, some (.int (0 : Int32)), none, none]) ⟨rfl, rfl, rfl, trivial⟩ ?_
        refine lp_hB_X9_ends_2_153 d _  res _ (fun l3_153 ma1_153 h => ?_) 200000 (0 : Int32) z148 h
        cases h
        exact x_vret2 dX9_ends_189 rfl rfl
  · have h := xif_f q h
    refine x_aload_n dX9_ends_107 rfl ?_
    refine x_bipush (10 : Int32) dX9_ends_108 (by decide) ?_
    refine x_iconst (0 : Int32) dX9_ends_110 (by decide) ?_
    refine x_iast (h2 := (hB g0 g1 g2 g3 g4 g5 g6 g7 g8 g9 g10 g11 g12 g13 g14 g15 g16 g17 g18 g19 g20 g21 g22 g23 g24 g25 g26 a0 (upd ma1_2 (10 : Int32).toNatClampNeg (0 : Int32)) a2 a3 a4 a5 a6 a7 a8 a9 a10 a11 a12 a13 a14 a15 a16 a17 a18 a19 a20 a21 a22 a23 b0 w0 (.ref 11) rv)) dX9_ends_111 rfl (show vp_in _ _ from (by decide : ¬ ((10 : Int32) < 0 ∨ 11 ≤ (10 : Int32).toNatClampNeg))) rfl ?_
    refine x_goto 132 dX9_ends_112 (by decide) ?_
    refine x_aload_n dX9_ends_132 rfl ?_
    refine x_bipush (10 : Int32) dX9_ends_133 (by decide) ?_
    refine x_iald dX9_ends_135 rfl (show vp_in _ _ from (by decide : ¬ ((10 : Int32) < 0 ∨ 11 ≤ (10 : Int32).toNatClampNeg))) ?_
    refine x_aload_n dX9_ends_136 rfl ?_
    refine x_get fX9_316 dX9_ends_137 rfl rfl rfl ?_
    refine x_get fX9_156 dX9_ends_140 rfl rfl rfl ?_
    refine x_icmp_lt 151 dX9_ends_143 (by decide) (fun q => ?_) (fun q => ?_)
    · have h := xif_t q h
      refine x_iconst (0 : Int32) dX9_ends_151 (by decide) ?_
      refine x_istore_n (pl' := [some (.ref 0), some (.ref 2), some (.int x2), some (.int (0 : Int32)), none, none]) dX9_ends_152 (by decide) rfl ?_
      refine x_weak (pl2 := [some (.ref 0), some (.ref 2), none, some (.int (0 : Int32)), none, none]) ⟨rfl, rfl, rfl, trivial⟩ ?_
      refine lp_hB_X9_ends_2_153 d _  res _ (fun l3_153 ma1_153 h => ?_) 200000 (0 : Int32) (upd ma1_2 (10 : Int32).toNatClampNeg (0 : Int32)) h
      cases h
      exact x_vret2 dX9_ends_189 rfl rfl
    · have h := xif_f q h
      refine x_aload_n dX9_ends_146 rfl ?_
      refine x_aload_n dX9_ends_147 rfl ?_
      obtain ⟨z148, y148, h⟩ := xbind h
      refine x_callV (t_hB_X9_lapses_2  z148 y148 (d + 1)) kX9_331 dX9_ends_148 rfl rfl rfl rfl rfl (Nat.le_of_ble_eq_true rfl) (Nat.le_of_ble_eq_true rfl) rfl rfl (Or.inl rfl) ?_
      refine x_iconst (0 : Int32) dX9_ends_151 (by decide) ?_
      refine x_istore_n (pl' := [some (.ref 0), some (.ref 2), some (.int x2), some (.int (0 : Int32)), none, none]) dX9_ends_152 (by decide) rfl ?_
      refine x_weak (pl2 := [some (.ref 0), some (.ref 2), none, some (.int (0 : Int32)), none, none]) ⟨rfl, rfl, rfl, trivial⟩ ?_
      refine lp_hB_X9_ends_2_153 d _  res _ (fun l3_153 ma1_153 h => ?_) 200000 (0 : Int32) z148 h
      cases h
      exact x_vret2 dX9_ends_189 rfl rfl
